/-! ===== pure: a minute's step in whole numbers ===== -/
theorem lip {a k L : Int} (hL : 1 ≤ L) (hk : 0 ≤ k) : (a + k) / L ≤ a / L + k := by
  have h1 : a + k ≤ a + k * L := by
    have h2 : k * 1 ≤ k * L := Int.mul_le_mul_of_nonneg_left hL hk
    omega
  have h3 := Int.ediv_le_ediv (by omega : 0 < L) h1
  rw [Int.add_mul_ediv_right _ _ (by omega)] at h3
  exact h3
theorem tdv_pos {d L : Int} (hL : 1 ≤ L) (hd : 0 ≤ d) : 0 ≤ d.tdiv L ∧ d.tdiv L ≤ d := by
  rw [Int.tdiv_eq_ediv_of_nonneg hd]
  refine ⟨Int.ediv_nonneg hd (by omega), ?_⟩
  have := lip (a := 0) hL hd
  simpa using this
theorem tdv_neg {d L : Int} (hL : 1 ≤ L) (hd : d ≤ 0) : d ≤ d.tdiv L ∧ d.tdiv L ≤ 0 := by
  have h := tdv_pos (d := -d) hL (by omega)
  rw [Int.neg_tdiv] at h
  omega
theorem tdv_lip {d1 d2 L : Int} (hL : 1 ≤ L) (h : d1 ≤ d2) : d2.tdiv L - d1.tdiv L ≤ d2 - d1 := by
  rcases Int.le_total 0 d1 with h1 | h1
  · rw [Int.tdiv_eq_ediv_of_nonneg h1, Int.tdiv_eq_ediv_of_nonneg (by omega)]
    have := lip (a := d1) (k := d2 - d1) hL (by omega)
    rw [show d1 + (d2 - d1) = d2 by omega] at this
    omega
  · rcases Int.le_total 0 d2 with h2 | h2
    · have a1 := tdv_pos hL h2
      have a2 := tdv_neg hL h1
      omega
    · have e1 : d1.tdiv L = -((-d1).tdiv L) := by rw [Int.neg_tdiv]; omega
      have e2 : d2.tdiv L = -((-d2).tdiv L) := by rw [Int.neg_tdiv]; omega
      rw [e1, e2, Int.tdiv_eq_ediv_of_nonneg (by omega), Int.tdiv_eq_ediv_of_nonneg (by omega)]
      have := lip (a := -d2) (k := d2 - d1) hL (by omega)
      rw [show -d2 + (d2 - d1) = -d1 by omega] at this
      omega
/-- a minute in whole numbers -/
def stI (o L T h hd : Int) : Int := T + (o - T).tdiv L + h.tdiv hd
theorem stI_mono {o L T1 T2 h1 h2 hd : Int} (hL : 1 ≤ L) (hd1 : 1 ≤ hd) (hT : T1 ≤ T2) (h0 : 0 ≤ h1) (hh : h1 ≤ h2) : stI o L T1 h1 hd ≤ stI o L T2 h2 hd := by
  unfold stI
  have a1 := tdv_lip (d1 := o - T2) (d2 := o - T1) hL (by omega)
  have a2 : h1.tdiv hd ≤ h2.tdiv hd := by
    rw [Int.tdiv_eq_ediv_of_nonneg h0, Int.tdiv_eq_ediv_of_nonneg (by omega)]
    exact Int.ediv_le_ediv (by omega) hh
  omega
theorem stI_bd {o L T h hd M : Int} (hL : 1 ≤ L) (hd1 : 1 ≤ hd) (hT : -M ≤ T ∧ T ≤ M) (ho : -M ≤ o ∧ o ≤ M) (h0 : 0 ≤ h) : -M ≤ stI o L T h hd ∧ stI o L T h hd ≤ M + h := by
  unfold stI
  have a2 := tdv_pos hd1 h0
  rcases Int.le_total 0 (o - T) with q | q
  · have a1 := tdv_pos hL q
    omega
  · have a1 := tdv_neg hL q
    omega
theorem bm32 {n : Int} (h1 : -2147483648 ≤ n) (h2 : n < 2147483648) : n.bmod (2 ^ 32) = n := by
  rw [Int.bmod_def]
  omega
/-- the same in the machine's numbers -/
theorem st32 {o L T h hd : Int32} {M : Int} (hM : M ≤ 1000000000) (hM0 : 10000 ≤ M) (hL : 1 ≤ L.toInt) (hd1 : 1 ≤ hd.toInt) (hT : -M ≤ T.toInt ∧ T.toInt ≤ M) (ho : -10000 ≤ o.toInt ∧ o.toInt ≤ 10000) (h0 : 0 ≤ h.toInt) (h1 : h.toInt ≤ 1000000) :
    (T + (o - T) / L + h / hd).toInt = stI o.toInt L.toInt T.toInt h.toInt hd.toInt := by
  have e1 : (o - T).toInt = o.toInt - T.toInt := by
    rw [Int32.toInt_sub]; exact bm32 (by omega) (by omega)
  have e2 : ((o - T) / L).toInt = (o.toInt - T.toInt).tdiv L.toInt := by
    rw [Int32.toInt_div_of_ne_right _ _ (fun q => by rw [q] at hL; simp at hL), e1]
  have e3 : (h / hd).toInt = h.toInt.tdiv hd.toInt := by
    rw [Int32.toInt_div_of_ne_right _ _ (fun q => by rw [q] at hd1; simp at hd1)]
  have b := stI_bd (o := o.toInt) (T := T.toInt) (h := h.toInt) hL hd1 hT ⟨by omega, by omega⟩ h0
  have b0 := stI_bd (o := o.toInt) (T := T.toInt) (h := 0) hL hd1 hT ⟨by omega, by omega⟩ (by omega)
  unfold stI at b b0 ⊢
  simp only [Int.zero_tdiv, Int.add_zero] at b0
  rw [Int32.toInt_add, Int32.toInt_add, e2, e3, bm32 (n := T.toInt + _) (by omega) (by omega), bm32 (by omega) (by omega)]
/-! ===== the bounds of a warmth along the minutes ===== -/
/-- so warm at most behind n minutes of a heat of at most 100000 -/
abbrev wM (n : Nat) : Int := 10000 + 100000 * (n : Int)
def Wb (n : Nat) (T : Int32) : Prop := -wM n ≤ T.toInt ∧ T.toInt ≤ wM n
theorem Wb_step {n : Nat} {o L T h hd : Int32} (hn : n ≤ 1440) (hL : 1 ≤ L.toInt) (hd1 : 1 ≤ hd.toInt) (hT : Wb n T) (ho : -10000 ≤ o.toInt ∧ o.toInt ≤ 10000) (h0 : 0 ≤ h.toInt) (h1 : h.toInt ≤ 100000) :
    Wb (n + 1) (T + (o - T) / L + h / hd) ∧ (T + (o - T) / L + h / hd).toInt = stI o.toInt L.toInt T.toInt h.toInt hd.toInt := by
  unfold Wb wM at *
  have e := st32 (M := 10000 + 100000 * (n : Int)) (o := o) (L := L) (T := T) (h := h) (hd := hd) (by omega) (by omega) hL hd1 hT ho h0 (by omega)
  have b := stI_bd (o := o.toInt) (L := L.toInt) (T := T.toInt) (h := h.toInt) (hd := hd.toInt) (M := 10000 + 100000 * (n : Int)) hL hd1 hT ⟨by omega, by omega⟩ h0
  refine ⟨?_, e⟩
  rw [e]
  omega
theorem Wb_mono {n : Nat} {o L T1 T2 h1 h2 hd : Int32} (hn : n ≤ 1440) (hL : 1 ≤ L.toInt) (hd1 : 1 ≤ hd.toInt) (hT1 : Wb n T1) (hT2 : Wb n T2) (ho : -10000 ≤ o.toInt ∧ o.toInt ≤ 10000) (h0 : 0 ≤ h1.toInt) (hh : h1.toInt ≤ h2.toInt) (hm : h2.toInt ≤ 100000) (hT : T1 ≤ T2) :
    T1 + (o - T1) / L + h1 / hd ≤ T2 + (o - T2) / L + h2 / hd := by
  rw [Int32.le_iff_toInt_le] at hT ⊢
  rw [(Wb_step hn hL hd1 hT1 ho h0 (by omega)).2, (Wb_step hn hL hd1 hT2 ho (by omega) hm).2]
  exact stI_mono hL hd1 hT h0 hh
