/-! ===== pure: quarters, class and reference ===== -/
theorem q_idx {b nn k m j : Nat} (hk : k < nn) (h1 : b - (nn - k) * m ≤ j) (h2 : j < b - (nn - k - 1) * m) : b ≤ j + nn * m ∧ (j + nn * m - b) / m = k := by
  obtain ⟨p, hp⟩ : ∃ p, p = (nn - k - 1) * m := ⟨_, rfl⟩
  obtain ⟨u, hu⟩ : ∃ u, u = k * m := ⟨_, rfl⟩
  have e1 : (nn - k) * m = p + m := by
    rw [hp, show nn - k = nn - k - 1 + 1 by omega, Nat.succ_mul, show nn - k - 1 + 1 - 1 = nn - k - 1 by omega]
  have e2 : nn * m = p + m + u := by
    rw [← e1, hu, ← Nat.add_mul, show nn - k + k = nn by omega]
  rw [e1] at h1
  rw [← hp] at h2
  rw [e2]
  refine ⟨by omega, ?_⟩
  apply Nat.div_eq_of_lt_le
  · rw [← hu]; omega
  · rw [Nat.succ_mul, ← hu]; omega
theorem rk_0 {O1 o fQ : Nat → Int32} {L hd zp zf : Int32} {b q m S : Nat} (ho : ∀ t, t < 1440 → O1 t = o t) (hb : b < 1440) : ∀ n, n ≤ b - q → rk O1 fQ L hd zp zf b q m S n = (wt o L hd 0 zf 0 n, 0) := by
  intro n
  induction n with
  | zero => intro _; rfl
  | succ n ih =>
    intro hn
    have h : ¬ htd b q m S n := fun h => by have := h.1; omega
    rw [rk_off h, ih (by omega)]
    show (wt o L hd 0 zf 0 n + (O1 n - wt o L hd 0 zf 0 n) / L + 0 / hd, (0 : Int64) + 0) = (wt o L hd 0 zf 0 n + (o (0 + n) - wt o L hd 0 zf 0 n) / L + 0 / hd, 0)
    rw [ho n (by omega), Nat.zero_add, Int64.add_zero]
theorem rk_cso {O1 o fQ : Nat → Int32} {L hd zp zf : Int32} {b nn m S : Nat} (ho : ∀ t, t < 1440 → O1 t = o t) (hb : b < 1440) : ∀ k, k ≤ nn → rk O1 fQ L hd zp zf b (nn * m) m S (b - (nn - k) * m) = cso o fQ L hd zp zf b nn m S k := by
  intro k
  induction k with
  | zero => intro _; rw [Nat.sub_zero, rk_0 ho hb _ (Nat.le_refl _)]; rfl
  | succ k ih =>
    intro hk
    have i := ih (by omega)
    obtain ⟨a, ha⟩ : ∃ a, a = b - (nn - k) * m := ⟨_, rfl⟩
    obtain ⟨c, hc⟩ : ∃ c, c = b - (nn - k - 1) * m := ⟨_, rfl⟩
    have hac : a ≤ c := by rw [ha, hc]; exact q_mono
    have hcb : c ≤ b := by omega
    obtain ⟨y, hy⟩ : ∃ y, y = cso o fQ L hd zp zf b nn m S k := ⟨_, rfl⟩
    rw [← ha, ← hy] at i
    have step : ∀ n, n ≤ c - a → rk O1 fQ L hd zp zf b (nn * m) m S (a + n) = (wt o L hd (if S / 2 ^ k % 2 = 1 then zp else 0) y.1 a n, y.2 + (if S / 2 ^ k % 2 = 1 then cm fQ zp a n else 0)) := by
      intro n
      induction n with
      | zero =>
        intro _
        rw [Nat.add_zero, i]
        show y = (y.1, y.2 + (if S / 2 ^ k % 2 = 1 then (0 : Int64) else 0))
        split <;> rw [Int64.add_zero]
      | succ n ih2 =>
        intro hn
        have i2 := ih2 (by omega)
        have hq := q_idx (b := b) (nn := nn) (k := k) (m := m) (j := a + n) (by omega) (by omega) (by omega)
        by_cases hbit : S / 2 ^ k % 2 = 1
        · have h : htd b (nn * m) m S (a + n) := ⟨hq.1, by rw [hq.2]; exact hbit⟩
          rw [show a + (n + 1) = a + n + 1 by omega, rk_on h, i2]
          simp only [if_pos hbit]
          show _ = (wt o L hd zp y.1 a n + (o (a + n) - wt o L hd zp y.1 a n) / L + zp / hd, y.2 + (cm fQ zp a n + zp.toInt64 * (fQ ((a + n) / 60)).toInt64))
          rw [ho (a + n) (by omega), Int64.add_assoc]
        · have h : ¬ htd b (nn * m) m S (a + n) := fun h => hbit (by have := h.2; rw [hq.2] at this; exact this)
          rw [show a + (n + 1) = a + n + 1 by omega, rk_off h, i2]
          simp only [if_neg hbit]
          show _ = (wt o L hd 0 y.1 a n + (o (a + n) - wt o L hd 0 y.1 a n) / L + 0 / hd, y.2 + 0)
          rw [ho (a + n) (by omega), Int64.add_zero]
    have s9 := step (c - a) (Nat.le_refl _)
    rw [show a + (c - a) = c by omega] at s9
    have e9 : b - (nn - (k + 1)) * m = c := by rw [hc, Nat.sub_sub]
    rw [e9, s9, ha, hc, hy]
    rfl
/-- a set's warmth and cost, the same on both sides -/
theorem cso_rk {O1 o fQ : Nat → Int32} {L hd zp zf : Int32} {b nn m S : Nat} (ho : ∀ t, t < 1440 → O1 t = o t) (hb : b < 1440) : rk O1 fQ L hd zp zf b (nn * m) m S b = cso o fQ L hd zp zf b nn m S nn := by
  have h := rk_cso (fQ := fQ) (L := L) (hd := hd) (zp := zp) (zf := zf) (S := S) (m := m) (nn := nn) ho hb nn (Nat.le_refl _)
  rw [Nat.sub_self, Nat.zero_mul, Nat.sub_zero] at h
  exact h
theorem i64_add {x y : Int64} {a b : Int} (h1 : 0 ≤ x.toInt ∧ x.toInt ≤ a) (h2 : 0 ≤ y.toInt ∧ y.toInt ≤ b) (h : a + b < 9223372036854775808) : 0 ≤ (x + y).toInt ∧ (x + y).toInt ≤ a + b := by
  rw [Int64.toInt_add, show (x.toInt + y.toInt).bmod (2 ^ 64) = x.toInt + y.toInt from by rw [Int.bmod_def]; omega]
  omega
theorem i64_cost {zp p : Int32} (h1 : 0 ≤ zp.toInt ∧ zp.toInt ≤ 100000) (h2 : 0 ≤ p.toInt ∧ p.toInt ≤ 1000) : 0 ≤ (zp.toInt64 * p.toInt64).toInt ∧ (zp.toInt64 * p.toInt64).toInt ≤ 100000000 := by
  have a1 : 0 ≤ zp.toInt * p.toInt := Int.mul_nonneg h1.1 h2.1
  have a2 : zp.toInt * p.toInt ≤ 100000 * 1000 := Int.mul_le_mul h1.2 h2.2 h2.1 (by omega)
  rw [Int64.toInt_mul, Int32.toInt_toInt64, Int32.toInt_toInt64, show (zp.toInt * p.toInt).bmod (2 ^ 64) = zp.toInt * p.toInt from by rw [Int.bmod_def]; omega]
  omega
theorem rk_nn {O1 fQ : Nat → Int32} {L hd zp zf : Int32} {b q m S : Nat} (h1 : 0 ≤ zp.toInt ∧ zp.toInt ≤ 100000) (h2 : ∀ i, i < 24 → 0 ≤ (fQ i).toInt ∧ (fQ i).toInt ≤ 1000) : ∀ n, n ≤ 1440 → 0 ≤ (rk O1 fQ L hd zp zf b q m S n).2.toInt ∧ (rk O1 fQ L hd zp zf b q m S n).2.toInt ≤ 100000000 * (n : Int) := by
  intro n
  induction n with
  | zero =>
    intro _
    show 0 ≤ (0 : Int64).toInt ∧ (0 : Int64).toInt ≤ 100000000 * ((0 : Nat) : Int)
    decide
  | succ n ih =>
    intro hn
    have i := ih (by omega)
    by_cases h : htd b q m S n
    · rw [rk_on h]
      have := i64_add i (i64_cost h1 (h2 (n / 60) (by omega))) (by omega)
      show 0 ≤ ((rk O1 fQ L hd zp zf b q m S n).2 + zp.toInt64 * (fQ (n / 60)).toInt64).toInt ∧ ((rk O1 fQ L hd zp zf b q m S n).2 + zp.toInt64 * (fQ (n / 60)).toInt64).toInt ≤ _
      omega
    · rw [rk_off h]
      show 0 ≤ ((rk O1 fQ L hd zp zf b q m S n).2 + 0).toInt ∧ ((rk O1 fQ L hd zp zf b q m S n).2 + 0).toInt ≤ _
      rw [Int64.add_zero]
      omega
theorem uL_s {f : Nat → Int64} {k : Nat} {x : Int64} : vp_updL f k x k = x := if_pos rfl
theorem uL_n {f : Nat → Int64} {k j : Nat} {x : Int64} (h : j ≠ k) : vp_updL f k x j = f j := if_neg h
theorem wsI_eq {fp f0 : Int32 → Int32} {co : Int64} {bit : Nat} {W : Nat → Int32} {C : Nat → Int64} : ∀ n, n ≤ bit →
    (∀ j, j < n → (wsI fp f0 co bit W C n).1 j = f0 (W j) ∧ (wsI fp f0 co bit W C n).1 (j + bit) = fp (W j) ∧ (wsI fp f0 co bit W C n).2 (j + bit) = C j + co) ∧
    (∀ j, n ≤ j → j < bit → (wsI fp f0 co bit W C n).1 j = W j) ∧ ∀ j, j < bit → (wsI fp f0 co bit W C n).2 j = C j := by
  intro n
  induction n with
  | zero => intro _; exact ⟨fun j h => by omega, fun _ _ _ => rfl, fun _ _ => rfl⟩
  | succ n ih =>
    intro hn
    obtain ⟨i1, i2, i3⟩ := ih (by omega)
    have e1 : ∀ j, (wsI fp f0 co bit W C (n + 1)).1 j = upd (upd (wsI fp f0 co bit W C n).1 (n + bit) (fp (W n))) n (f0 (W n)) j := by
      intro j
      show upd (upd (wsI fp f0 co bit W C n).1 (n + bit) (fp ((wsI fp f0 co bit W C n).1 n))) n (f0 ((wsI fp f0 co bit W C n).1 n)) j = _
      rw [i2 n (Nat.le_refl _) (by omega)]
    have e2 : ∀ j, (wsI fp f0 co bit W C (n + 1)).2 j = vp_updL (wsI fp f0 co bit W C n).2 (n + bit) (C n + co) j := by
      intro j
      show vp_updL (wsI fp f0 co bit W C n).2 (n + bit) ((wsI fp f0 co bit W C n).2 n + co) j = _
      rw [i3 n (by omega)]
    refine ⟨fun j hj => ?_, fun j h1 h2 => ?_, fun j hj => ?_⟩
    · by_cases ej : j = n
      · subst ej
        rw [e1, e1, e2, up_s, up_n (by omega), up_s, uL_s]
        exact ⟨rfl, rfl, rfl⟩
      · have := i1 j (by omega)
        rw [e1, e1, e2, up_n ej, up_n (by omega), up_n (by omega), up_n (by omega), uL_n (by omega)]
        exact this
    · rw [e1, up_n (by omega), up_n (by omega)]
      exact i2 j (by omega) h2
    · rw [e2, uL_n (by omega)]
      exact i3 j hj
theorem bit_lo {k i j : Nat} (hi : i < k) : (j + 2 ^ k) / 2 ^ i % 2 = j / 2 ^ i % 2 := by
  have e : 2 ^ k = 2 ^ i * (2 * 2 ^ (k - i - 1)) := by
    rw [show 2 * 2 ^ (k - i - 1) = 2 ^ (k - i - 1 + 1) by rw [Nat.pow_succ, Nat.mul_comm], ← Nat.pow_add, show i + (k - i - 1 + 1) = k by omega]
  rw [e, Nat.add_mul_div_left _ _ (Nat.two_pow_pos i)]
  omega
theorem cso_lo {o fQ : Nat → Int32} {L hd zp zf : Int32} {b nn m S K : Nat} : ∀ k, k ≤ K → cso o fQ L hd zp zf b nn m (S + 2 ^ K) k = cso o fQ L hd zp zf b nn m S k := by
  intro k
  induction k with
  | zero => intro _; rfl
  | succ k ih =>
    intro hk
    simp only [cso]
    rw [ih (by omega), bit_lo (by omega)]
theorem wsO_cso {o fQ : Nat → Int32} {L hd zp zf : Int32} {b nn m : Nat} {W : Nat → Int32} {C : Nat → Int64} : ∀ k S, S < 2 ^ k → (wsO o fQ L hd zp zf b nn m W C k).1 S = (cso o fQ L hd zp zf b nn m S k).1 ∧ (wsO o fQ L hd zp zf b nn m W C k).2 S = (cso o fQ L hd zp zf b nn m S k).2 := by
  intro k
  induction k with
  | zero =>
    intro S hS
    have : S = 0 := by simpa using hS
    subst this
    simp only [wsO, cso]
    exact ⟨up_s, uL_s⟩
  | succ k ih =>
    intro S hS
    obtain ⟨a1, a2, a3⟩ := wsI_eq (fp := fun x => wt o L hd zp x (b - (nn - k) * m) (b - (nn - k - 1) * m - (b - (nn - k) * m))) (f0 := fun x => wt o L hd 0 x (b - (nn - k) * m) (b - (nn - k - 1) * m - (b - (nn - k) * m))) (co := cm fQ zp (b - (nn - k) * m) (b - (nn - k - 1) * m - (b - (nn - k) * m))) (bit := 2 ^ k) (W := (wsO o fQ L hd zp zf b nn m W C k).1) (C := (wsO o fQ L hd zp zf b nn m W C k).2) (2 ^ k) (Nat.le_refl _)
    have e : wsO o fQ L hd zp zf b nn m W C (k + 1) = wsI (fun x => wt o L hd zp x (b - (nn - k) * m) (b - (nn - k - 1) * m - (b - (nn - k) * m))) (fun x => wt o L hd 0 x (b - (nn - k) * m) (b - (nn - k - 1) * m - (b - (nn - k) * m))) (cm fQ zp (b - (nn - k) * m) (b - (nn - k - 1) * m - (b - (nn - k) * m))) (2 ^ k) (wsO o fQ L hd zp zf b nn m W C k).1 (wsO o fQ L hd zp zf b nn m W C k).2 (2 ^ k) := rfl
    rw [e]
    rcases Nat.lt_or_ge S (2 ^ k) with q | q
    · have hb0 : ¬ S / 2 ^ k % 2 = 1 := by rw [Nat.div_eq_of_lt q]; decide
      rw [(a1 S q).1, a3 S q]
      simp only [cso, if_neg hb0]
      rw [(ih S q).1, (ih S q).2, Int64.add_zero]
      exact ⟨rfl, rfl⟩
    · obtain ⟨j, hj⟩ : ∃ j, S = j + 2 ^ k := ⟨S - 2 ^ k, by omega⟩
      have hjk : j < 2 ^ k := by rw [Nat.pow_succ] at hS; omega
      subst hj
      have hb1 : (j + 2 ^ k) / 2 ^ k % 2 = 1 := by
        rw [Nat.add_div_right _ (Nat.two_pow_pos k), Nat.div_eq_of_lt hjk]
      rw [(a1 j hjk).2.1, (a1 j hjk).2.2]
      simp only [cso, if_pos hb1]
      rw [cso_lo k (Nat.le_refl _), (ih j hjk).1, (ih j hjk).2]
      exact ⟨rfl, rfl⟩
/-- the cheapest set, by the table and by the reference -/
theorem bst_rb {W : Nat → Int32} {C c : Nat → Int64} {zw : Int32} {N : Nat} (hN : N ≤ 1024) (hc : ∀ j, j < N → 0 ≤ C j ∧ c j = if zw ≤ W j then C j else -1) : ∀ n, n ≤ N → bst W C zw n = (rb c n).1 ∧ (¬ bst W C zw n = -1 → (rb c n).2 = C (bst W C zw n).toNatClampNeg) := by
  intro n
  induction n with
  | zero => intro _; exact ⟨rfl, fun h => absurd rfl h⟩
  | succ n ih =>
    intro hn
    obtain ⟨i1, i2⟩ := ih (by omega)
    obtain ⟨h0, h1⟩ := hc n (by omega)
    have iff : (zw ≤ W n ∧ (bst W C zw n = -1 ∨ C n < C (bst W C zw n).toNatClampNeg)) ↔ (0 ≤ c n ∧ ((rb c n).1 = -1 ∨ c n < (rb c n).2)) := by
      rw [← i1]
      by_cases q : zw ≤ W n
      · rw [if_pos q] at h1
        rw [h1]
        by_cases q2 : bst W C zw n = -1
        · simp only [q2, true_or, and_true, q, h0]
        · rw [i2 q2]
          simp only [q2, q, h0]
      · rw [if_neg q] at h1
        rw [h1]
        constructor
        · intro a; exact absurd a.1 q
        · intro a; exact absurd a.1 (by decide)
    by_cases hcc : zw ≤ W n ∧ (bst W C zw n = -1 ∨ C n < C (bst W C zw n).toNatClampNeg)
    · have e1 : bst W C zw (n + 1) = nI n := if_pos hcc
      have e2 : rb c (n + 1) = (nI n, c n) := if_pos (iff.mp hcc)
      rw [e1, e2]
      refine ⟨rfl, fun _ => ?_⟩
      rw [nI_clamp (by omega)]
      show c n = C n
      rw [h1, if_pos hcc.1]
    · have e1 : bst W C zw (n + 1) = bst W C zw n := if_neg hcc
      have e2 : rb c (n + 1) = rb c n := if_neg (fun q => hcc (iff.mpr q))
      rw [e1, e2]
      exact ⟨i1, i2⟩
theorem cheap_eq {O1 o fQ : Nat → Int32} {L hd zp zf zw : Int32} {b nn m : Nat} {W : Nat → Int32} {C : Nat → Int64} (ho : ∀ t, t < 1440 → O1 t = o t) (hb : b < 1440) (hnn : nn ≤ 10) (h1 : 0 ≤ zp.toInt ∧ zp.toInt ≤ 100000) (h2 : ∀ i, i < 24 → 0 ≤ (fQ i).toInt ∧ (fQ i).toInt ≤ 1000) :
    bst (wsO o fQ L hd zp zf b nn m W C nn).1 (wsO o fQ L hd zp zf b nn m W C nn).2 zw (2 ^ nn) = (rb (fun j => if zw ≤ (rk O1 fQ L hd zp zf b (nn * m) m j b).1 then (rk O1 fQ L hd zp zf b (nn * m) m j b).2 else -1) (2 ^ nn)).1 := by
  refine (bst_rb (N := 2 ^ nn) (p2_le hnn) (fun j hj => ?_) (2 ^ nn) (Nat.le_refl _)).1
  obtain ⟨a1, a2⟩ := wsO_cso (o := o) (fQ := fQ) (L := L) (hd := hd) (zp := zp) (zf := zf) (b := b) (nn := nn) (m := m) (W := W) (C := C) nn j hj
  have a3 := cso_rk (fQ := fQ) (L := L) (hd := hd) (zp := zp) (zf := zf) (S := j) (m := m) (nn := nn) ho hb
  have a4 := rk_nn (O1 := O1) (L := L) (hd := hd) (zf := zf) (b := b) (q := nn * m) (m := m) (S := j) h1 h2 b (by omega)
  refine ⟨?_, ?_⟩
  · rw [a2, ← a3, Int64.le_iff_toInt_le]
    exact a4.1
  · rw [a1, a2, ← a3]
