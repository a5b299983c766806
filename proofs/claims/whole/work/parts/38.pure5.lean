/-! ===== pure: the whole plan, class and reference ===== -/
theorem pZ_told {o g H L B P R A W : Nat → Int32} {mp : Int32} {k : Nat} {z : ZD} (h : Told H L B P R A W k z) : Told H L B P R A W k (pZ o mp g z) := by
  obtain ⟨ad, ⟨zh, zl, zf, zp, zr, zm, zw, zs⟩, e, T⟩ := z
  show Told H L B P R A W k (if zm = -1 then _ else _)
  split <;> exact h
theorem pZ_zb {o g : Nat → Int32} {mp : Int32} {z : ZD} (h : ZB z) : ZB (pZ o mp g z) := by
  obtain ⟨ad, ⟨zh, zl, zf, zp, zr, zm, zw, zs⟩, e, T⟩ := z
  show ZB (if zm = -1 then _ else _)
  split <;> exact h
theorem pZ_les {o g : Nat → Int32} {mp : Int32} {z : ZD} : (pZ o mp g z).2.2.1 = z.2.2.1 := by
  obtain ⟨ad, ⟨zh, zl, zf, zp, zr, zm, zw, zs⟩, e, T⟩ := z
  show (if zm = -1 then _ else _ : ZD).2.2.1 = e
  split <;> rfl
/-- c zones taken by the reference -/
def Chn (O1 H L B P R A W : Nat → Int32) (nz : Nat) (F0 S0 E0 X0 D0 : Nat → Int32) (c : Nat) (F S E X D : Nat → Int32) : Prop :=
  ∃ (od : Nat → Nat) (Fq Sq Eq Xq Dq : Nat → Nat → Int32), Fq 0 = F0 ∧ Sq 0 = S0 ∧ Eq 0 = E0 ∧ Xq 0 = X0 ∧ Dq 0 = D0 ∧
    (∀ i, i < c → sel R (Dq i) nz = nI (od i) ∧ od i < nz ∧ Dq (i + 1) = upd (Dq i) (od i) 1 ∧ rpS O1 H L B P A W (od i) (Fq i) (Sq i) (Eq i) (Xq i) (Fq (i + 1)) (Sq (i + 1)) (Eq (i + 1)) (Xq (i + 1))) ∧
    Fq c = F ∧ Sq c = S ∧ Eq c = E ∧ Xq c = X ∧ Dq c = D
theorem Chn_0 {O1 H L B P R A W : Nat → Int32} {nz : Nat} {F0 S0 E0 X0 D0 : Nat → Int32} : Chn O1 H L B P R A W nz F0 S0 E0 X0 D0 0 F0 S0 E0 X0 D0 :=
  ⟨fun _ => 0, fun _ => F0, fun _ => S0, fun _ => E0, fun _ => X0, fun _ => D0, rfl, rfl, rfl, rfl, rfl, fun i h => by omega, rfl, rfl, rfl, rfl, rfl⟩
theorem Chn_s {O1 H L B P R A W : Nat → Int32} {nz : Nat} {F0 S0 E0 X0 D0 : Nat → Int32} {c k : Nat} {F S E X D F1 S1 E1 X1 : Nat → Int32} (h : Chn O1 H L B P R A W nz F0 S0 E0 X0 D0 c F S E X D) (hk : k < nz) (hs : sel R D nz = nI k) (hp : rpS O1 H L B P A W k F S E X F1 S1 E1 X1) :
    Chn O1 H L B P R A W nz F0 S0 E0 X0 D0 (c + 1) F1 S1 E1 X1 (upd D k 1) := by
  obtain ⟨od, Fq, Sq, Eq, Xq, Dq, a1, a2, a3, a4, a5, hst, b1, b2, b3, b4, b5⟩ := h
  have e0 : ∀ (Q : Nat → Nat → Int32) (y : Nat → Int32) (i : Nat), i ≤ c → (fun i => if i ≤ c then Q i else y) i = Q i := fun Q y i hi => if_pos hi
  have e1 : ∀ (Q : Nat → Nat → Int32) (y : Nat → Int32), (fun i => if i ≤ c then Q i else y) (c + 1) = y := fun Q y => if_neg (by omega)
  refine ⟨fun i => if i < c then od i else k, fun i => if i ≤ c then Fq i else F1, fun i => if i ≤ c then Sq i else S1, fun i => if i ≤ c then Eq i else E1, fun i => if i ≤ c then Xq i else X1, fun i => if i ≤ c then Dq i else upd D k 1, ?_, ?_, ?_, ?_, ?_, ?_, e1 Fq F1, e1 Sq S1, e1 Eq E1, e1 Xq X1, e1 Dq _⟩
  · rw [e0 Fq F1 0 (by omega)]; exact a1
  · rw [e0 Sq S1 0 (by omega)]; exact a2
  · rw [e0 Eq E1 0 (by omega)]; exact a3
  · rw [e0 Xq X1 0 (by omega)]; exact a4
  · rw [e0 Dq (upd D k 1) 0 (by omega)]; exact a5
  · intro i hi
    rcases Nat.lt_or_ge i c with q | q
    · have := hst i q
      simp only [if_pos q, if_pos (show i ≤ c by omega), if_pos (show i + 1 ≤ c by omega)]
      exact this
    · have ei : i = c := by omega
      subst ei
      simp only [if_neg (show ¬ i < i by omega), if_pos (show i ≤ i by omega), if_neg (show ¬ i + 1 ≤ i by omega), b1, b2, b3, b4, b5]
      exact ⟨hs, hk, trivial, hp⟩
/-- how many are done -/
def cntD (D : Nat → Int32) : Nat → Nat
  | 0 => 0
  | n + 1 => cntD D n + (if D n = 0 then 0 else 1)
theorem cntD_n {D : Nat → Int32} {k : Nat} {x : Int32} : ∀ n, n ≤ k → cntD (upd D k x) n = cntD D n := by
  intro n
  induction n with
  | zero => intro _; rfl
  | succ n ih =>
    intro h
    simp only [cntD]
    rw [ih (by omega), up_n (by omega)]
theorem cntD_s {D : Nat → Int32} {k : Nat} (h : D k = 0) : ∀ n, k < n → cntD (upd D k 1) n = cntD D n + 1 := by
  intro n
  induction n with
  | zero => intro h; omega
  | succ n ih =>
    intro hk
    simp only [cntD]
    by_cases e : n = k
    · subst e
      rw [cntD_n n (Nat.le_refl _), up_s, h, if_neg (by decide), if_pos rfl]
    · rw [ih (by omega), up_n e]
      omega
theorem cntD_all {D : Nat → Int32} : ∀ n, (∀ j, j < n → ¬ D j = 0) → cntD D n = n := by
  intro n
  induction n with
  | zero => intro _; rfl
  | succ n ih =>
    intro h
    simp only [cntD]
    rw [ih (fun j hj => h j (by omega)), if_neg (h n (by omega))]
theorem cntD_none {D : Nat → Int32} : ∀ n, (∀ j, j < n → D j = 0) → cntD D n = 0 := by
  intro n
  induction n with
  | zero => intro _; rfl
  | succ n ih =>
    intro h
    simp only [cntD]
    rw [ih (fun j hj => h j (by omega)), if_pos (h n (by omega))]
theorem nI_nm {b : Nat} (hb : b < 1440) : ¬ nI b = -1 := nb_ne hb
/-- the first least is the one whose turn it is -/
theorem sel_eq {R D : Nat → Int32} {nz i : Nat} {r : Int} (hn : nz ≤ 6) (hi : i < nz) (hr : (R i).toInt = r) (hD : ∀ j, j < nz → (((R j).toInt < r ∨ ((R j).toInt = r ∧ j < i)) ∧ D j = 1) ∨ (¬ ((R j).toInt < r ∨ ((R j).toInt = r ∧ j < i)) ∧ D j = 0)) : sel R D nz = nI i := by
  have key : ∀ n, n ≤ nz → (n ≤ i → sel R D n = -1 ∨ ∃ j, j < n ∧ sel R D n = nI j ∧ r < (R j).toInt) ∧ (i < n → sel R D n = nI i) := by
    intro n
    induction n with
    | zero => intro _; exact ⟨fun _ => Or.inl rfl, fun h => by omega⟩
    | succ n ih =>
      intro hn9
      obtain ⟨i1, i2⟩ := ih (by omega)
      have hDn := hD n (by omega)
      constructor
      · intro hni
        by_cases hc : D n = 0 ∧ (sel R D n = -1 ∨ R n < R (sel R D n).toNatClampNeg)
        · have e : sel R D (n + 1) = nI n := if_pos hc
          refine Or.inr ⟨n, by omega, e, ?_⟩
          rcases hDn with ⟨_, q⟩ | ⟨q, _⟩
          · rw [q] at hc; exact absurd hc.1 (by decide)
          · omega
        · have e : sel R D (n + 1) = sel R D n := if_neg hc
          rw [e]
          rcases i1 (by omega) with q | ⟨j, q1, q2⟩
          · exact Or.inl q
          · exact Or.inr ⟨j, by omega, q2⟩
      · intro hin
        by_cases en : n = i
        · subst en
          have h0 : D n = 0 := by
            rcases hDn with ⟨q, _⟩ | ⟨_, q⟩
            · omega
            · exact q
          refine if_pos ⟨h0, ?_⟩
          rcases i1 (by omega) with q | ⟨j, q1, q2, q3⟩
          · exact Or.inl q
          · refine Or.inr ?_
            rw [q2, nI_clamp (by omega), Int32.lt_iff_toInt_lt]
            omega
        · have e2 := i2 (by omega)
          have hc : ¬ (D n = 0 ∧ (sel R D n = -1 ∨ R n < R (sel R D n).toNatClampNeg)) := by
            rintro ⟨c1, c2⟩
            rw [e2, nI_clamp (by omega), Int32.lt_iff_toInt_lt] at c2
            rcases hDn with ⟨_, q⟩ | ⟨q, _⟩
            · rw [q] at c1; exact absurd c1 (by decide)
            · rcases c2 with c2 | c2
              · exact nb_ne (by omega) c2
              · omega
          have e : sel R D (n + 1) = sel R D n := if_neg hc
          rw [e]; exact e2
  exact (key nz (Nat.le_refl _)).2 hi
/-- both plans, as far as rank r's zone i -/
def PInv (O1 o H L B P R A W : Nat → Int32) (U V : Nat → Int64) (mp : Int32) (nz : Nat) (F0 S0 E0 X0 D0 : Nat → Int32) (r : Int) (i : Nat) (st : List ZD × (Nat → Int32)) : Prop :=
  ∃ (c : Nat) (F S E X D : Nat → Int32), Chn O1 H L B P R A W nz F0 S0 E0 X0 D0 c F S E X D ∧ cntD D nz = c ∧
    (∀ j, j < nz → (((R j).toInt < r ∨ ((R j).toInt = r ∧ j < i)) ∧ D j = 1) ∨ (¬ ((R j).toInt < r ∨ ((R j).toInt = r ∧ j < i)) ∧ D j = 0)) ∧
    (∀ j, j < 1440 → F j = mp - st.2 j) ∧ Gok mp st.2 ∧ st.1.length = nz ∧
    ∀ (j : Nat) (z : ZD), st.1[j]? = some z → ZB z ∧ Told H L B P R A W j z ∧ U j = z.2.2.1.1 ∧ V j = z.2.2.1.2 ∧ (((R j).toInt < r ∨ ((R j).toInt = r ∧ j < i)) → Pln S E X j z)
theorem PInv_s {O1 o H L B P R A W : Nat → Int32} {U V : Nat → Int64} {mp : Int32} {nz : Nat} {F0 S0 E0 X0 D0 : Nat → Int32} {r i : Nat} {st : List ZD × (Nat → Int32)} (ho9 : ∀ t, t < 1440 → O1 t = o t) (ho : Ob o) (hn : nz ≤ 6) (hr9 : r < 10) (hi : i < nz) (h : PInv O1 o H L B P R A W U V mp nz F0 S0 E0 X0 D0 (r : Int) i st) :
    PInv O1 o H L B P R A W U V mp nz F0 S0 E0 X0 D0 (r : Int) (i + 1) (plS o mp r i st) := by
  obtain ⟨c, F, S, E, X, D, hC, hc, hD, hF, hG, hl, hz⟩ := h
  obtain ⟨zi, hzi⟩ : ∃ zi, st.1[i]? = some zi := ⟨_, List.getElem?_eq_getElem (by omega)⟩
  obtain ⟨zb, zt, zu, zv, _⟩ := hz i zi hzi
  have hRi : R i = zi.2.1.2.2.2.2.1 := zt.2.2.2.2.1
  by_cases hc9 : zi.2.1.2.2.2.2.1 = nI r
  · have e : plS o mp r i st = (st.1.set i (pZ o mp st.2 zi), pG o mp st.2 zi) := by
      unfold plS
      rw [hzi]
      exact if_pos hc9
    rw [e]
    have hrI : (R i).toInt = (r : Int) := by rw [hRi, hc9, nI_toInt (by omega)]
    obtain ⟨F1, S1, E1, X1, hp, q1, q2, q3, q4, q5⟩ := zone_step (H := H) (L := L) (B := B) (P := P) (R := R) (A := A) (W := W) (S := S) (E := E) (X := X) (F := F) ho9 ho zb hG zt hF
    have hsel := sel_eq hn hi hrI hD
    have hDi : D i = 0 := by
      rcases hD i hi with ⟨q, _⟩ | ⟨_, q⟩
      · omega
      · exact q
    refine ⟨c + 1, F1, S1, E1, X1, upd D i 1, Chn_s hC hi hsel hp, by rw [cntD_s hDi nz hi, hc], ?_, q1, q2, by simp [hl], ?_⟩
    · intro j hj
      by_cases ej : j = i
      · subst ej
        exact Or.inl ⟨Or.inr ⟨hrI, by omega⟩, up_s⟩
      · rw [up_n ej]
        rcases hD j hj with ⟨a, b⟩ | ⟨a, b⟩
        · exact Or.inl ⟨by omega, b⟩
        · exact Or.inr ⟨by omega, b⟩
    · intro j z hj
      by_cases ej : j = i
      · subst ej
        rw [List.getElem?_set_self (by omega)] at hj
        cases hj
        rw [pZ_les]
        exact ⟨pZ_zb zb, pZ_told zt, zu, zv, fun _ => q3⟩
      · rw [List.getElem?_set_ne (Ne.symm ej)] at hj
        obtain ⟨a1, a2, a3, a4, a5⟩ := hz j z hj
        refine ⟨a1, a2, a3, a4, fun hd => ?_⟩
        obtain ⟨p1, p2, p3, p4⟩ := a5 (by omega)
        have hjl : j < nz := by rw [← hl]; exact (List.getElem?_eq_some_iff.mp hj).1
        refine ⟨by rw [(q4 j ej).1]; exact p1, by rw [(q4 j ej).2]; exact p2, fun t ht => ?_, p4⟩
        rw [q5 _ (by omega)]
        exact p3 t ht
  · have e : plS o mp r i st = st := by
      unfold plS
      rw [hzi]
      exact if_neg hc9
    rw [e]
    have hrI : ¬ (R i).toInt = (r : Int) := by
      intro q
      apply hc9
      rw [← hRi]
      exact Int32.toInt_inj.mp (by rw [q, nI_toInt (by omega)])
    refine ⟨c, F, S, E, X, D, hC, hc, fun j hj => ?_, hF, hG, hl, fun j z hj => ?_⟩
    · by_cases ej : j = i
      · subst ej
        rcases hD j hj with ⟨a, b⟩ | ⟨a, b⟩
        · exact Or.inl ⟨by omega, b⟩
        · exact Or.inr ⟨by omega, b⟩
      · rcases hD j hj with ⟨a, b⟩ | ⟨a, b⟩
        · exact Or.inl ⟨by omega, b⟩
        · exact Or.inr ⟨by omega, b⟩
    · obtain ⟨a1, a2, a3, a4, a5⟩ := hz j z hj
      refine ⟨a1, a2, a3, a4, fun hd => a5 ?_⟩
      by_cases ej : j = i
      · subst ej; omega
      · omega
theorem PInv_r {O1 o H L B P R A W : Nat → Int32} {U V : Nat → Int64} {mp : Int32} {nz : Nat} {F0 S0 E0 X0 D0 : Nat → Int32} {r : Nat} {st : List ZD × (Nat → Int32)} (ho9 : ∀ t, t < 1440 → O1 t = o t) (ho : Ob o) (hn : nz ≤ 6) (hr9 : r < 10) (h : PInv O1 o H L B P R A W U V mp nz F0 S0 E0 X0 D0 (r : Int) 0 st) :
    ∀ i, i ≤ nz → PInv O1 o H L B P R A W U V mp nz F0 S0 E0 X0 D0 (r : Int) i (plR o mp r st i) := by
  intro i
  induction i with
  | zero => intro _; exact h
  | succ i ih => intro hi; exact PInv_s ho9 ho hn hr9 (by omega) (ih (by omega))
theorem PInv_a {O1 o H L B P R A W : Nat → Int32} {U V : Nat → Int64} {mp : Int32} {nz : Nat} {F0 S0 E0 X0 D0 : Nat → Int32} {st : List ZD × (Nat → Int32)} (ho9 : ∀ t, t < 1440 → O1 t = o t) (ho : Ob o) (hn : nz ≤ 6) (h : PInv O1 o H L B P R A W U V mp nz F0 S0 E0 X0 D0 (0 : Int) 0 st) :
    ∀ r : Nat, r ≤ 10 → PInv O1 o H L B P R A W U V mp nz F0 S0 E0 X0 D0 (r : Int) 0 (plA o mp nz st r) := by
  intro r
  induction r with
  | zero => intro _; exact h
  | succ r ih =>
    intro hr
    obtain ⟨c, F, S, E, X, D, hC, hc, hD, hF, hG, hl, hz⟩ := PInv_r ho9 ho hn (by omega) (ih (by omega)) nz (Nat.le_refl _)
    refine ⟨c, F, S, E, X, D, hC, hc, fun j hj => ?_, hF, hG, hl, fun j z hj => ?_⟩
    · rcases hD j hj with ⟨a, b⟩ | ⟨a, b⟩
      · exact Or.inl ⟨by omega, b⟩
      · exact Or.inr ⟨by omega, b⟩
    · obtain ⟨a1, a2, a3, a4, a5⟩ := hz j z hj
      have hjl : j < nz := by rw [← hl]; exact (List.getElem?_eq_some_iff.mp hj).1
      exact ⟨a1, a2, a3, a4, fun hd => a5 (by omega)⟩
theorem fillO_in {f : Nat → Int32} {x : Int32} : ∀ n j, j < n → fillO f 0 x n j = x := by
  intro n
  induction n with
  | zero => intro j h; omega
  | succ n ih =>
    intro j hj
    show upd (fillO f 0 x n) (0 + n) x j = x
    by_cases e : j = 0 + n
    · subst e; exact up_s
    · rw [up_n e]; exact ih j (by omega)
theorem foA_in {O M T : Nat → Int32} {nr : Nat} : ∀ n j, j < n → foA O M T nr n j = fo M T j nr := by
  intro n
  induction n with
  | zero => intro j h; omega
  | succ n ih =>
    intro j hj
    show upd (foA O M T nr n) n (fo M T n nr) j = _
    by_cases e : j = n
    · subst e; exact up_s
    · rw [up_n e]; exact ih j (by omega)
theorem dn0_in {D : Nat → Int32} {nz : Nat} : ∀ n j, j < n → j < nz → dn0 D nz n j = 0 := by
  intro n
  induction n with
  | zero => intro j h; omega
  | succ n ih =>
    intro j hj hz
    show upd (dn0 D nz n) n (if n < nz then 0 else 1) j = 0
    by_cases e : j = n
    · subst e; rw [up_s, if_pos hz]
    · rw [up_n e]; exact ih j (by omega) hz
/-- zone j of both sides behind a plan -/
def PZ (H L B P R A W : Nat → Int32) (U V : Nat → Int64) (S E X : Nat → Int32) (j : Nat) (z : ZD) : Prop := ZB z ∧ Told H L B P R A W j z ∧ U j = z.2.2.1.1 ∧ V j = z.2.2.1.2 ∧ Pln S E X j z
/-- the plan, made on both sides -/
theorem plan_eq {O o H L B P R A W M T F S E X D fG : Nat → Int32} {U V : Nat → Int64} {mp : Int32} {nz nr : Nat} {zs : List ZD} (hn : nz ≤ 6) (hmp : 0 ≤ mp.toInt ∧ mp.toInt ≤ 1000000) (ho : Ob o) (hoM : ∀ t, t < 1440 → fo M T t nr = o t) (hl : zs.length = nz)
    (hz : ∀ (j : Nat) (z : ZD), zs[j]? = some z → ZB z ∧ Told H L B P R A W j z ∧ U j = z.2.2.1.1 ∧ V j = z.2.2.1.2) :
    ∃ (g0 g1 O1 F1 S1 E1 X1 D1 : Nat → Int32) (zs1 : List ZD), plTo o mp nz zs fG g0 0 zs1 g1 ∧ rpTo 0 mp nz nr H L B P R A W M T O F S E X D O1 F1 S1 E1 X1 D1 ∧
      (∀ j, j < 1440 → F1 j = mp - g1 j) ∧ zs1.length = nz ∧ (∀ (j : Nat) (z : ZD), zs1[j]? = some z → PZ H L B P R A W U V S1 E1 X1 j z) := by
  obtain ⟨g0, hg0⟩ : ∃ g0, fillO fG 0 0 1440 = g0 := ⟨_, rfl⟩
  obtain ⟨F0, hF0⟩ : ∃ F0, fillO F 0 mp 1440 = F0 := ⟨_, rfl⟩
  obtain ⟨O1, hO1⟩ : ∃ O1, foA O M T nr 1440 = O1 := ⟨_, rfl⟩
  have g0z : ∀ j, j < 1440 → g0 j = 0 := fun j hj => by rw [← hg0]; exact fillO_in 1440 j hj
  have ho9 : ∀ t, t < 1440 → O1 t = o t := fun t ht => by rw [← hO1, foA_in 1440 t ht]; exact hoM t ht
  have hstart : PInv O1 o H L B P R A W U V mp nz F0 S E X (dn0 D nz 6) (0 : Int) 0 (zs, g0) := by
    have hnone : ∀ j, j < nz → ¬ ((R j).toInt < 0 ∨ ((R j).toInt = 0 ∧ j < 0)) := by
      intro j hj
      obtain ⟨z, hzj⟩ : ∃ z, zs[j]? = some z := ⟨_, List.getElem?_eq_getElem (by omega)⟩
      obtain ⟨a1, a2, _⟩ := hz j z hzj
      have e : R j = z.2.1.2.2.2.2.1 := a2.2.2.2.2.1
      have := a1.2.2.2.2.1.1
      rw [e]
      omega
    refine ⟨0, F0, S, E, X, dn0 D nz 6, Chn_0, cntD_none nz (fun j hj => dn0_in 6 j (by omega) hj), fun j hj => Or.inr ⟨hnone j hj, dn0_in 6 j (by omega) hj⟩, fun j hj => ?_, ⟨hmp.1, hmp.2, fun k hk => ?_⟩, hl, fun j z hj => ?_⟩
    · rw [← hF0, fillO_in 1440 j hj]
      show mp = mp - g0 j
      rw [g0z j hj, Int32.sub_zero]
    · show 0 ≤ (g0 k).toInt ∧ (g0 k).toInt ≤ mp.toInt
      rw [g0z k hk]
      exact ⟨by decide, by simpa using hmp.1⟩
    · obtain ⟨a1, a2, a3, a4⟩ := hz j z hj
      have hjl : j < nz := by rw [← hl]; exact (List.getElem?_eq_some_iff.mp hj).1
      exact ⟨a1, a2, a3, a4, fun hd => absurd hd (hnone j hjl)⟩
  obtain ⟨c, F1, S1, E1, X1, D1, hC, hc, hD, hF, hG, hl1, hz1⟩ := PInv_a ho9 ho hn hstart 10 (Nat.le_refl _)
  have hdone : ∀ j, j < nz → (R j).toInt < ((10 : Nat) : Int) := by
    intro j hj
    obtain ⟨z, hzj⟩ : ∃ z, zs[j]? = some z := ⟨_, List.getElem?_eq_getElem (by omega)⟩
    obtain ⟨a1, a2, _⟩ := hz j z hzj
    have e : R j = z.2.1.2.2.2.2.1 := a2.2.2.2.2.1
    have := a1.2.2.2.2.1.2
    rw [e]
    omega
  have hcn : c = nz := by
    rw [← hc]
    refine cntD_all nz (fun j hj => ?_)
    rcases hD j hj with ⟨_, q⟩ | ⟨q, _⟩
    · rw [q]; decide
    · exact absurd (Or.inl (hdone j hj)) q
  rw [hcn] at hC
  obtain ⟨od, Fq, Sq, Eq, Xq, Dq, a1, a2, a3, a4, a5, hst, b1, b2, b3, b4, b5⟩ := hC
  refine ⟨g0, (plA o mp nz (zs, g0) 10).2, O1, F1, S1, E1, X1, D1, (plA o mp nz (zs, g0) 10).1, Or.inr ⟨rfl, hg0, rfl, rfl⟩, Or.inr ⟨rfl, hO1, od, Fq, Sq, Eq, Xq, Dq, by rw [a1]; exact hF0, a2, a3, a4, a5.symm, hst, b1.symm, b2.symm, b3.symm, b4.symm, b5.symm⟩, hF, hl1, fun j z hj => ?_⟩
  obtain ⟨q1, q2, q3, q4, q5⟩ := hz1 j z hj
  have hjl : j < nz := by rw [← hl1]; exact (List.getElem?_eq_some_iff.mp hj).1
  exact ⟨q1, q2, q3, q4, q5 (Or.inl (hdone j hjl))⟩
