/-! ===== pure: the latest start, by halving steps and from above ===== -/
/-- what is given of outside, heat, leads, holds and the row left unheated -/
def Row (o sh9 : Nat → Int32) (L hd : Int32) (T : Nat → Int32) : Prop :=
  (∀ k, k < 1440 → -10000 ≤ (o k).toInt ∧ (o k).toInt ≤ 10000) ∧ 1 ≤ L.toInt ∧ 1 ≤ hd.toInt ∧ (∀ k, k < 1440 → 0 ≤ (sh9 k).toInt ∧ (sh9 k).toInt ≤ 100000) ∧ Wb 0 (T 0) ∧ ∀ k, k < 1440 → T (k + 1) = T k + (o k - T k) / L + 0 / hd
theorem Row.bd {o sh9 : Nat → Int32} {L hd : Int32} {T : Nat → Int32} (h : Row o sh9 L hd T) : ∀ k, k ≤ 1440 → Wb k (T k) := by
  obtain ⟨ho, hL, hd1, hs, h0, hT⟩ := h
  intro k
  induction k with
  | zero => intro _; exact h0
  | succ k ih =>
    intro hk
    rw [hT k (by omega)]
    exact (Wb_step (by omega) hL hd1 (ih (by omega)) (ho k (by omega)) (by decide) (by decide)).1
theorem wi_bd {o g : Nat → Int32} {L hd zp mp x : Int32} {T : Nat → Int32} (h : Row o (sh g zp mp) L hd T) {a : Nat} (hx : Wb a x) : ∀ n, a + n ≤ 1440 → Wb (a + n) (wi o g L hd zp mp x a n) := by
  obtain ⟨ho, hL, hd1, hs, h0, hT⟩ := h
  intro n
  induction n with
  | zero => intro _; exact hx
  | succ n ih =>
    intro hn
    exact (Wb_step (by omega) hL hd1 (ih (by omega)) (ho _ (by omega)) (hs _ (by omega)).1 (hs _ (by omega)).2).1
/-- an earlier start is never less warm -/
theorem wi_up {o g : Nat → Int32} {L hd zp mp : Int32} {T : Nat → Int32} (h : Row o (sh g zp mp) L hd T) {s : Nat} : ∀ n, s + 1 + n ≤ 1440 → wi o g L hd zp mp (T (s + 1)) (s + 1) n ≤ wi o g L hd zp mp (T s) s (n + 1) := by
  have hb := h
  obtain ⟨ho, hL, hd1, hs, h0, hT⟩ := h
  intro n
  induction n with
  | zero =>
    intro hn
    show T (s + 1) ≤ T s + (o (s + 0) - T s) / L + sh g zp mp (s + 0) / hd
    rw [Nat.add_zero, hT s (by omega)]
    exact Wb_mono (n := s) (by omega) hL hd1 (hb.bd s (by omega)) (hb.bd s (by omega)) (ho s (by omega)) (by decide) (by have := (hs s (by omega)).1; simpa using this) (hs s (by omega)).2 (Int32.le_refl _)
  | succ n ih =>
    intro hn
    show wi o g L hd zp mp (T (s + 1)) (s + 1) n + (o (s + 1 + n) - wi o g L hd zp mp (T (s + 1)) (s + 1) n) / L + sh g zp mp (s + 1 + n) / hd ≤ wi o g L hd zp mp (T s) s (n + 1) + (o (s + (n + 1)) - wi o g L hd zp mp (T s) s (n + 1)) / L + sh g zp mp (s + (n + 1)) / hd
    rw [show s + (n + 1) = s + 1 + n by omega]
    have b1 := wi_bd hb (hb.bd (s + 1) (by omega)) n (by omega)
    have b2 := wi_bd hb (hb.bd s (by omega)) (n + 1) (by omega)
    rw [show s + (n + 1) = s + 1 + n by omega] at b2
    exact Wb_mono (n := s + 1 + n) (by omega) hL hd1 b1 b2 (ho _ (by omega)) (hs _ (by omega)).1 (Int.le_refl _) (hs _ (by omega)).2 (ih (by omega))
/-- from s on it is warm in time -/
def Pst (o g : Nat → Int32) (L hd zp mp ww : Int32) (T : Nat → Int32) (b t : Nat) : Prop := ww ≤ wi o g L hd zp mp (T t) t (b - t)
theorem Pst_dn {o g : Nat → Int32} {L hd zp mp ww : Int32} {T : Nat → Int32} (h : Row o (sh g zp mp) L hd T) {b : Nat} (hb : b < 1440) : ∀ d s, s + d ≤ b → Pst o g L hd zp mp ww T b (s + d) → Pst o g L hd zp mp ww T b s := by
  intro d
  induction d with
  | zero => intro s _ hp; exact hp
  | succ d ih =>
    intro s hs hp
    refine ih s (by omega) ?_
    have hu := wi_up h (s := s + d) (b - (s + d + 1)) (by omega)
    rw [show b - (s + d + 1) + 1 = b - (s + d) by omega] at hu
    exact Int32.le_trans hp hu
theorem p2048 (j : Nat) : 2048 / 2 ^ (j + 1) = 1024 / 2 ^ j := by
  rw [Nat.pow_succ, Nat.mul_comm, ← Nat.div_div_eq_div_mul]
theorem p2048b {j : Nat} (hj : j ≤ 10) : 2048 / 2 ^ j = 1024 / 2 ^ j + 1024 / 2 ^ j := by
  rcases (show j = 0 ∨ j = 1 ∨ j = 2 ∨ j = 3 ∨ j = 4 ∨ j = 5 ∨ j = 6 ∨ j = 7 ∨ j = 8 ∨ j = 9 ∨ j = 10 by omega) with rfl | rfl | rfl | rfl | rfl | rfl | rfl | rfl | rfl | rfl | rfl <;> decide
theorem lst_inv {o g : Nat → Int32} {L hd zp mp ww : Int32} {T : Nat → Int32} (h : Row o (sh g zp mp) L hd T) {b : Nat} (hb : b < 1440) : ∀ j, j ≤ 11 →
    (lst o g T L hd zp mp ww b j = 0 ∨ Pst o g L hd zp mp ww T b (lst o g T L hd zp mp ww b j)) ∧ ∀ t, t ≤ b → Pst o g L hd zp mp ww T b t → t < lst o g T L hd zp mp ww b j + 2048 / 2 ^ j := by
  intro j
  induction j with
  | zero => intro _; exact ⟨Or.inl rfl, fun t ht _ => by show t < 0 + 2048 / 2 ^ 0; simp; omega⟩
  | succ j ih =>
    intro hj
    obtain ⟨i1, i2⟩ := ih (by omega)
    rw [p2048]
    by_cases hc : lst o g T L hd zp mp ww b j + 1024 / 2 ^ j ≤ b ∧ ww ≤ wi o g L hd zp mp (T (lst o g T L hd zp mp ww b j + 1024 / 2 ^ j)) (lst o g T L hd zp mp ww b j + 1024 / 2 ^ j) (b - (lst o g T L hd zp mp ww b j + 1024 / 2 ^ j))
    · have e : lst o g T L hd zp mp ww b (j + 1) = lst o g T L hd zp mp ww b j + 1024 / 2 ^ j := if_pos hc
      rw [e]
      refine ⟨Or.inr hc.2, fun t ht hp => ?_⟩
      have := i2 t ht hp
      rw [p2048b (by omega)] at this
      omega
    · have e : lst o g T L hd zp mp ww b (j + 1) = lst o g T L hd zp mp ww b j := if_neg hc
      rw [e]
      refine ⟨i1, fun t ht hp => ?_⟩
      rcases Nat.lt_or_ge t (lst o g T L hd zp mp ww b j + 1024 / 2 ^ j) with q | q
      · exact q
      · exfalso
        refine hc ⟨by omega, ?_⟩
        exact Pst_dn h hb (t - (lst o g T L hd zp mp ww b j + 1024 / 2 ^ j)) _ (by omega) (by rw [show lst o g T L hd zp mp ww b j + 1024 / 2 ^ j + (t - (lst o g T L hd zp mp ww b j + 1024 / 2 ^ j)) = t by omega]; exact hp)
/-- the reference's heat is the class's -/
theorem wj_wi {o g F : Nat → Int32} {L hd zp mp x : Int32} {a : Nat} : ∀ n, (∀ k, a ≤ k → k < a + n → F k = mp - g k) → wj o F L hd zp x a n = wi o g L hd zp mp x a n := by
  intro n
  induction n with
  | zero => intro _; rfl
  | succ n ih =>
    intro hF
    have e := ih (fun k h1 h2 => hF k h1 (by omega))
    show wj o F L hd zp x a n + (o (a + n) - wj o F L hd zp x a n) / L + hn F zp (a + n) / hd = wi o g L hd zp mp x a n + (o (a + n) - wi o g L hd zp mp x a n) / L + sh g zp mp (a + n) / hd
    rw [e]
    unfold hn sh
    rw [hF (a + n) (by omega) (by omega)]
theorem srR_inv {o F : Nat → Int32} {L hd zp ww : Int32} {Y : Nat → Int32} {b : Nat} : ∀ s, (srR o F L hd zp ww Y b s = 0 ∨ ww ≤ wj o F L hd zp (Y (srR o F L hd zp ww Y b s)) (srR o F L hd zp ww Y b s) (b - srR o F L hd zp ww Y b s)) ∧ ∀ t, srR o F L hd zp ww Y b s < t → t ≤ s → ¬ ww ≤ wj o F L hd zp (Y t) t (b - t) := by
  intro s
  induction s with
  | zero => exact ⟨Or.inl rfl, fun t h1 h2 => by have : srR o F L hd zp ww Y b 0 = 0 := rfl; omega⟩
  | succ s ih =>
    by_cases hc : ww ≤ wj o F L hd zp (Y (s + 1)) (s + 1) (b - (s + 1))
    · have e : srR o F L hd zp ww Y b (s + 1) = s + 1 := if_pos hc
      rw [e]
      exact ⟨Or.inr hc, fun t h1 h2 => by omega⟩
    · have e : srR o F L hd zp ww Y b (s + 1) = srR o F L hd zp ww Y b s := if_neg hc
      rw [e]
      refine ⟨ih.1, fun t h1 h2 => ?_⟩
      rcases Nat.lt_or_ge t (s + 1) with q | q
      · exact ih.2 t h1 (by omega)
      · have : t = s + 1 := by omega
        rw [this]; exact hc
/-- halving steps and the search from above find the same start -/
theorem start_eq {o g F : Nat → Int32} {L hd zp mp ww : Int32} {T Y : Nat → Int32} (h : Row o (sh g zp mp) L hd T) {b : Nat} (hb : b < 1440) (hF : ∀ k, k < 1440 → F k = mp - g k) (hY : ∀ t, t ≤ b → Y t = T t) : lst o g T L hd zp mp ww b 11 = srR o F L hd zp ww Y b b := by
  have hw : ∀ t, t ≤ b → (ww ≤ wj o F L hd zp (Y t) t (b - t) ↔ Pst o g L hd zp mp ww T b t) := by
    intro t ht
    rw [hY t ht, wj_wi (b - t) (fun k _ h2 => hF k (by omega))]
    exact Iff.rfl
  obtain ⟨a1, a2⟩ := lst_inv (ww := ww) h hb 11 (Nat.le_refl _)
  obtain ⟨c1, c2⟩ := srR_inv (o := o) (F := F) (L := L) (hd := hd) (zp := zp) (ww := ww) (Y := Y) (b := b) b
  have l1 : lst o g T L hd zp mp ww b 11 ≤ b := lst_le _ _ _ _ _ _ _ _ _ _
  have l2 : srR o F L hd zp ww Y b b ≤ b := srR_le _ _ _ _ _ _ _ _ _
  rw [show 2048 / 2 ^ 11 = 1 from rfl] at a2
  have le1 : srR o F L hd zp ww Y b b ≤ lst o g T L hd zp mp ww b 11 := by
    rcases c1 with c1 | c1
    · omega
    · have := a2 _ l2 ((hw _ l2).mp c1)
      omega
  have le2 : lst o g T L hd zp mp ww b 11 ≤ srR o F L hd zp ww Y b b := by
    rcases a1 with a1 | a1
    · omega
    · rcases Nat.lt_or_ge (srR o F L hd zp ww Y b b) (lst o g T L hd zp mp ww b 11) with q | q
      · exact absurd ((hw _ l1).mpr a1) (c2 _ q l1)
      · exact q
  omega
