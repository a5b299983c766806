/-! ===== pure: one zone taken, class and reference ===== -/
theorem lu_lo {o T : Nat → Int32} {L hd : Int32} {a : Nat} : ∀ n j, j ≤ a → lu o L hd T a n j = T j := by
  intro n
  induction n with
  | zero => intro j _; rfl
  | succ n ih =>
    intro j hj
    show upd (lu o L hd T a n) (a + n + 1) _ j = T j
    rw [up_n (by omega)]
    exact ih j hj
theorem lu_rec {o T : Nat → Int32} {L hd : Int32} : ∀ n k, k < n → lu o L hd T 0 n (k + 1) = lu o L hd T 0 n k + (o k - lu o L hd T 0 n k) / L + 0 / hd := by
  intro n
  induction n with
  | zero => intro k hk; omega
  | succ n ih =>
    intro k hk
    have e : ∀ j, j ≠ n + 1 → lu o L hd T 0 (n + 1) j = lu o L hd T 0 n j := by
      intro j hj
      show upd (lu o L hd T 0 n) (0 + n + 1) _ j = _
      rw [Nat.zero_add, up_n hj]
    rcases Nat.lt_or_ge k n with q | q
    · rw [e (k + 1) (by omega), e k (by omega)]
      exact ih k q
    · have ek : k = n := by omega
      subst ek
      rw [e k (by omega)]
      show upd (lu o L hd T 0 k) (0 + k + 1) (lu o L hd T 0 k (0 + k) + (o (0 + k) - lu o L hd T 0 k (0 + k)) / L + 0 / hd) (k + 1) = _
      rw [Nat.zero_add, up_s]
theorem hf_ghi {o T g : Nat → Int32} {L hd zp mp : Int32} {a : Nat} : ∀ n k, a + n ≤ k → (hf o L hd zp mp T g a n).2 k = g k := by
  intro n
  induction n with
  | zero => intro k _; rfl
  | succ n ih =>
    intro k hk
    show upd (hf o L hd zp mp T g a n).2 (a + n) _ k = g k
    rw [up_n (by omega)]
    exact ih k (by omega)
theorem hf_wi {o T g : Nat → Int32} {L hd zp mp : Int32} {a : Nat} : ∀ n, (hf o L hd zp mp T g a n).1 (a + n) = wi o g L hd zp mp (T a) a n := by
  intro n
  induction n with
  | zero => rfl
  | succ n ih =>
    show upd (hf o L hd zp mp T g a n).1 (a + n + 1) ((hf o L hd zp mp T g a n).1 (a + n) + (o (a + n) - (hf o L hd zp mp T g a n).1 (a + n)) / L + sh (hf o L hd zp mp T g a n).2 zp mp (a + n) / hd) (a + n + 1) = wi o g L hd zp mp (T a) a n + (o (a + n) - wi o g L hd zp mp (T a) a n) / L + sh g zp mp (a + n) / hd
    have eh : sh (hf o L hd zp mp T g a n).2 zp mp (a + n) = sh g zp mp (a + n) := by
      unfold sh
      rw [hf_ghi n (a + n) (Nat.le_refl _)]
    rw [up_s, ih, eh]
/-- what is given stays within the machine -/
def Gok (mp : Int32) (g : Nat → Int32) : Prop := 0 ≤ mp.toInt ∧ mp.toInt ≤ 1000000 ∧ ∀ k, k < 1440 → 0 ≤ (g k).toInt ∧ (g k).toInt ≤ mp.toInt
theorem sh_bd {mp zp : Int32} {g : Nat → Int32} (hG : Gok mp g) (hz : 0 ≤ zp.toInt ∧ zp.toInt ≤ 100000) {k : Nat} (hk : k < 1440) : 0 ≤ (sh g zp mp k).toInt ∧ (sh g zp mp k).toInt ≤ 100000 ∧ (sh g zp mp k).toInt ≤ mp.toInt - (g k).toInt := by
  obtain ⟨h0, h1, hg⟩ := hG
  have hk9 := hg k hk
  have e : (mp - g k).toInt = mp.toInt - (g k).toInt := by
    rw [Int32.toInt_sub]; exact bm32 (by omega) (by omega)
  unfold sh
  by_cases c : zp < mp - g k
  · rw [if_pos c]
    rw [Int32.lt_iff_toInt_lt, e] at c
    omega
  · rw [if_neg c]
    rw [Int32.lt_iff_toInt_lt, e] at c
    rw [e]
    omega
theorem hf_G {o T g : Nat → Int32} {L hd zp mp : Int32} {a : Nat} (hG : Gok mp g) (hz : 0 ≤ zp.toInt ∧ zp.toInt ≤ 100000) : ∀ n, a + n ≤ 1440 → Gok mp (hf o L hd zp mp T g a n).2 := by
  intro n
  induction n with
  | zero => intro _; exact hG
  | succ n ih =>
    intro hn9
    have i := ih (by omega)
    refine ⟨i.1, i.2.1, fun k hk => ?_⟩
    show 0 ≤ (upd (hf o L hd zp mp T g a n).2 (a + n) ((hf o L hd zp mp T g a n).2 (a + n) + sh (hf o L hd zp mp T g a n).2 zp mp (a + n)) k).toInt ∧ (upd (hf o L hd zp mp T g a n).2 (a + n) ((hf o L hd zp mp T g a n).2 (a + n) + sh (hf o L hd zp mp T g a n).2 zp mp (a + n)) k).toInt ≤ mp.toInt
    by_cases e : k = a + n
    · subst e
      have s1 := sh_bd i hz (k := a + n) hk
      have g1 := i.2.2 (a + n) hk
      have i1 := i.1
      have i2 := i.2.1
      rw [up_s, Int32.toInt_add, bm32 (by omega) (by omega)]
      omega
    · rw [up_n e]
      exact i.2.2 k hk
/-- what is told of a zone lies within its bounds -/
def ZB (z : ZD) : Prop := (1 ≤ z.2.1.1.toInt ∧ z.2.1.1.toInt ≤ 1000) ∧ (1 ≤ z.2.1.2.1.toInt ∧ z.2.1.2.1.toInt ≤ 1000) ∧ (-10000 ≤ z.2.1.2.2.1.toInt ∧ z.2.1.2.2.1.toInt ≤ 10000) ∧ (0 ≤ z.2.1.2.2.2.1.toInt ∧ z.2.1.2.2.2.1.toInt ≤ 100000) ∧ (0 ≤ z.2.1.2.2.2.2.1.toInt ∧ z.2.1.2.2.2.2.1.toInt ≤ 9) ∧ (z.2.1.2.2.2.2.2.1 = -1 ∨ ∃ b, b < 1440 ∧ z.2.1.2.2.2.2.2.1 = nI b)
/-- the outside within its bounds -/
def Ob (o : Nat → Int32) : Prop := ∀ k, k < 1440 → -10000 ≤ (o k).toInt ∧ (o k).toInt ≤ 10000
theorem row_T0 {o g : Nat → Int32} {L hd zf zp mp : Int32} {T : Nat → Int32} (ho : Ob o) (hL : 1 ≤ L.toInt) (hd1 : 1 ≤ hd.toInt) (hf9 : -10000 ≤ zf.toInt ∧ zf.toInt ≤ 10000) (hG : Gok mp g) (hz : 0 ≤ zp.toInt ∧ zp.toInt ≤ 100000) : Row o (sh g zp mp) L hd (pzT0 o L hd zf T) := by
  refine ⟨ho, hL, hd1, fun k hk => ⟨(sh_bd hG hz hk).1, (sh_bd hG hz hk).2.1⟩, ?_, fun k hk => ?_⟩
  · unfold pzT0
    rw [lu_lo 1440 0 (Nat.le_refl _), up_s]
    exact ⟨by unfold wM; omega, by unfold wM; omega⟩
  · unfold pzT0
    exact lu_rec 1440 k hk
/-- zone k of both sides, as told -/
def Told (H L B P R A W : Nat → Int32) (k : Nat) (z : ZD) : Prop := H k = z.2.1.1 ∧ L k = z.2.1.2.1 ∧ B k = z.2.1.2.2.1 ∧ P k = z.2.1.2.2.2.1 ∧ R k = z.2.1.2.2.2.2.1 ∧ A k = z.2.1.2.2.2.2.2.1 ∧ W k = z.2.1.2.2.2.2.2.2.1
/-- a planned start: none where nothing is wanted -/
def SB (z : ZD) : Prop := (z.2.1.2.2.2.2.2.1 = -1 ∧ z.2.1.2.2.2.2.2.2.2 = -1) ∨ ∃ b s, b < 1440 ∧ z.2.1.2.2.2.2.2.1 = nI b ∧ s ≤ b ∧ z.2.1.2.2.2.2.2.2.2 = nI s
/-- zone k's part of the plan, on both sides -/
def Pln (S E X : Nat → Int32) (k : Nat) (z : ZD) : Prop := S k = z.2.1.2.2.2.2.2.2.2 ∧ E k = (if ¬ z.2.1.2.2.2.2.2.1 = -1 ∧ z.2.2.2 z.2.1.2.2.2.2.2.1.toNatClampNeg < z.2.1.2.2.2.2.2.2.1 then 1 else 0) ∧ (∀ t, t ≤ 1440 → X (1441 * k + t) = z.2.2.2 t) ∧ SB z
theorem zone_step {oR o H L B P R A W F S E X g : Nat → Int32} {mp : Int32} {k : Nat} {z : ZD} (ho9 : ∀ t, t < 1440 → oR t = o t) (ho : Ob o) (hz : ZB z) (hG : Gok mp g) (ht : Told H L B P R A W k z) (hF : ∀ j, j < 1440 → F j = mp - g j) :
    ∃ F1 S1 E1 X1 : Nat → Int32, rpS oR H L B P A W k F S E X F1 S1 E1 X1 ∧ (∀ j, j < 1440 → F1 j = mp - pG o mp g z j) ∧ Gok mp (pG o mp g z) ∧ Pln S1 E1 X1 k (pZ o mp g z) ∧ (∀ i, i ≠ k → S1 i = S i ∧ E1 i = E i) ∧ ∀ i, (i < 1441 * k ∨ 1441 * k + 1440 < i) → X1 i = X i := by
  obtain ⟨ad, ⟨zh, zl, zf, zp, zr, zm, zw, zs⟩, e, T⟩ := z
  obtain ⟨h1, h2, h3, h4, h5, h6, h7⟩ := ht
  obtain ⟨b1, b2, b3, b4, b5, b6⟩ := hz
  dsimp only at h1 h2 h3 h4 h5 h6 h7 b1 b2 b3 b4 b5 b6
  obtain ⟨Y, hY⟩ : ∃ Y, luX oR zl zh (upd X (1441 * k) zf) (1441 * k) 1440 = Y := ⟨_, rfl⟩
  have hYT : ∀ t, t ≤ 1440 → Y (1441 * k + t) = pzT0 o zl zh zf T t := by
    intro t ht9
    obtain ⟨T9, eT9⟩ : ∃ T9 : Nat → Int32, T9 = fun t => upd X (1441 * k) zf (1441 * k + t) := ⟨_, rfl⟩
    have a1 := sim_lu (oR := oR) (o := o) (X := upd X (1441 * k) zf) (T := T9) (L := zl) (hd := zh) (p9 := 1441 * k) ho9 (fun t _ => by rw [eT9]) 1440 (Nat.le_refl _) t ht9
    rw [hY] at a1
    rw [a1]
    -- the rows begin with the same warmth; all else is written anew
    have a2 : ∀ n, n ≤ 1440 → ∀ t, t ≤ n → lu o zl zh T9 0 n t = lu o zl zh (upd T 0 zf) 0 n t := by
      intro n
      induction n with
      | zero =>
        intro _ t ht0
        have : t = 0 := by omega
        subst this
        show T9 0 = upd T 0 zf 0
        rw [eT9, up_s]
        exact up_s
      | succ n ih =>
        intro hn9 t ht0
        show upd (lu o zl zh T9 0 n) (0 + n + 1) (lu o zl zh T9 0 n (0 + n) + (o (0 + n) - lu o zl zh T9 0 n (0 + n)) / zl + 0 / zh) t = upd (lu o zl zh (upd T 0 zf) 0 n) (0 + n + 1) (lu o zl zh (upd T 0 zf) 0 n (0 + n) + (o (0 + n) - lu o zl zh (upd T 0 zf) 0 n (0 + n)) / zl + 0 / zh) t
        rw [Nat.zero_add, ih (by omega) n (Nat.le_refl _)]
        by_cases q : t = n + 1
        · subst q; rw [up_s, up_s]
        · rw [up_n q, up_n q]; exact ih (by omega) t (by omega)
    exact a2 1440 (Nat.le_refl _) t ht9
  have hYf : ∀ i, (i < 1441 * k ∨ 1441 * k + 1440 < i) → Y i = X i := by
    intro i hi
    rw [← hY, luX_fr 1440 i (by omega), up_n (by omega)]
  rcases b6 with b6 | ⟨b, hb, b6⟩
  · subst b6
    refine ⟨F, upd S k (-1), upd E k 0, Y, ⟨Y, by rw [h1, h2, h3]; exact hY, Or.inl ⟨h6, rfl, rfl, rfl, rfl⟩⟩, ?_, ?_, ?_, ?_, hYf⟩
    · intro j hj; rw [pG_none]; exact hF j hj
    · rw [pG_none]; exact hG
    · rw [pZ_none]
      refine ⟨up_s, ?_, hYT, Or.inl ⟨rfl, rfl⟩⟩
      rw [up_s, if_neg (fun q => q.1 rfl)]
    · intro i hi; exact ⟨up_n hi, up_n hi⟩
  · subst b6
    have hrow := row_T0 (T := T) ho b2.1 b1.1 b3 hG b4 (o := o) (g := g) (L := zl) (hd := zh) (zf := zf) (zp := zp) (mp := mp)
    obtain ⟨s9, hs9⟩ : ∃ s9, pzS o g zl zh zf zp mp zw T b = s9 := ⟨_, rfl⟩
    have hs9b : s9 ≤ b := by rw [← hs9]; exact lst_le _ _ _ _ _ _ _ _ _ _
    have hsr : srR oR F zl zh zp zw (fun t => Y (1441 * k + t)) b b = s9 := by
      have q : ∀ s, s ≤ b → srR oR F zl zh zp zw (fun t => Y (1441 * k + t)) b s = srR o F zl zh zp zw (fun t => Y (1441 * k + t)) b s := by
        have qw : ∀ x a n, a + n ≤ 1440 → wj oR F zl zh zp x a n = wj o F zl zh zp x a n := by
          intro x a n
          induction n with
          | zero => intro _; rfl
          | succ n ih =>
            intro hn9
            show wj oR F zl zh zp x a n + (oR (a + n) - wj oR F zl zh zp x a n) / zl + hn F zp (a + n) / zh = wj o F zl zh zp x a n + (o (a + n) - wj o F zl zh zp x a n) / zl + hn F zp (a + n) / zh
            rw [ih (by omega), ho9 (a + n) (by omega)]
        intro s
        induction s with
        | zero => intro _; rfl
        | succ s ih =>
          intro hs
          show (if zw ≤ wj oR F zl zh zp (Y (1441 * k + (s + 1))) (s + 1) (b - (s + 1)) then s + 1 else srR oR F zl zh zp zw (fun t => Y (1441 * k + t)) b s) = if zw ≤ wj o F zl zh zp (Y (1441 * k + (s + 1))) (s + 1) (b - (s + 1)) then s + 1 else srR o F zl zh zp zw (fun t => Y (1441 * k + t)) b s
          rw [qw _ _ _ (by omega), ih (by omega)]
      rw [q b (Nat.le_refl _), ← hs9]
      exact (start_eq hrow hb hF (fun t ht9 => hYT t (by omega))).symm
    obtain ⟨Q, hQ⟩ : ∃ Q, hfX oR zl zh zp b (1441 * k) Y F s9 (1440 - s9) = Q := ⟨_, rfl⟩
    have hsim := sim_hl (oR := oR) (o := o) (X := Y) (T := pzT0 o zl zh zf T) (F := F) (g := g) (L := zl) (hd := zh) (zp := zp) (mp := mp) (p9 := 1441 * k) (a := s9) (b := b) ho9 hs9b hb hYT hF (1440 - b) (by omega)
    rw [show b - s9 + (1440 - b) = 1440 - s9 by omega, hQ] at hsim
    have ePH : pzH o g zl zh zf zp mp zw T b = hf o zl zh zp mp (pzT0 o zl zh zf T) g s9 (b - s9) := by simp only [pzH, hs9]
    have ePT : pzT o g zl zh zf zp mp zw T b = lu o zl zh (hf o zl zh zp mp (pzT0 o zl zh zf T) g s9 (b - s9)).1 b (1440 - b) := by simp only [pzT, ePH]
    refine ⟨Q.2, upd (upd S k (-1)) k (nI s9), upd (upd E k 0) k (if zw ≤ wj oR F zl zh zp (Y (1441 * k + s9)) s9 (b - s9) then 0 else 1), Q.1, ⟨Y, by rw [h1, h2, h3]; exact hY, Or.inr ⟨b, s9, hb, h6, by rw [h1, h2, h4, h7]; exact hsr, rfl, by rw [h1, h2, h4, h7], by rw [h1, h2, h4, hQ], by rw [h1, h2, h4, hQ]⟩⟩, ?_, ?_, ?_, ?_, ?_⟩
    · intro j hj
      rw [pG_some _ _ _ _ _ _ _ _ _ _ _ _ _ hb, ePH]
      exact hsim.2 j hj
    · rw [pG_some _ _ _ _ _ _ _ _ _ _ _ _ _ hb, ePH]
      exact hf_G hG b4 (b - s9) (by omega)
    · rw [pZ_some _ _ _ _ _ _ _ _ _ _ _ _ _ hb]
      refine ⟨?_, ?_, ?_, Or.inr ⟨b, s9, hb, rfl, hs9b, by rw [← hs9]⟩⟩
      · show upd (upd S k (-1)) k (nI s9) k = nI (pzS o g zl zh zf zp mp zw T b)
        rw [up_s, hs9]
      · show upd (upd E k 0) k _ k = if ¬ nI b = -1 ∧ pzT o g zl zh zf zp mp zw T b (nI b).toNatClampNeg < zw then 1 else 0
        have ev : pzT o g zl zh zf zp mp zw T b b = wj oR F zl zh zp (Y (1441 * k + s9)) s9 (b - s9) := by
          rw [ePT, lu_lo _ b (Nat.le_refl _)]
          have a1 := hf_wi (o := o) (T := pzT0 o zl zh zf T) (g := g) (L := zl) (hd := zh) (zp := zp) (mp := mp) (a := s9) (b - s9)
          rw [show s9 + (b - s9) = b by omega] at a1
          rw [a1, ← hYT s9 (by omega), ← wj_wi (F := F) (b - s9) (fun k9 _ h9 => hF k9 (by omega))]
          have qw : ∀ n, s9 + n ≤ 1440 → wj o F zl zh zp (Y (1441 * k + s9)) s9 n = wj oR F zl zh zp (Y (1441 * k + s9)) s9 n := by
            intro n
            induction n with
            | zero => intro _; rfl
            | succ n ih =>
              intro hn9
              show wj o F zl zh zp (Y (1441 * k + s9)) s9 n + (o (s9 + n) - wj o F zl zh zp (Y (1441 * k + s9)) s9 n) / zl + hn F zp (s9 + n) / zh = wj oR F zl zh zp (Y (1441 * k + s9)) s9 n + (oR (s9 + n) - wj oR F zl zh zp (Y (1441 * k + s9)) s9 n) / zl + hn F zp (s9 + n) / zh
              rw [ih (by omega), ho9 (s9 + n) (by omega)]
          exact qw (b - s9) (by omega)
        rw [up_s, nI_clamp (by omega), ev]
        by_cases c : zw ≤ wj oR F zl zh zp (Y (1441 * k + s9)) s9 (b - s9)
        · rw [if_pos c, if_neg (fun q => Int32.not_le.mpr q.2 c)]
        · rw [if_neg c, if_pos ⟨nb_ne hb, Int32.not_le.mp c⟩]
      · intro t ht9
        show Q.1 (1441 * k + t) = pzT o g zl zh zf zp mp zw T b t
        rw [ePT]
        exact hsim.1 t ht9
    · intro i hi
      exact ⟨by rw [up_n hi, up_n hi], by rw [up_n hi, up_n hi]⟩
    · intro i hi
      rw [← hQ, hfX_fr (1440 - s9) i (by omega)]
      exact hYf i hi
