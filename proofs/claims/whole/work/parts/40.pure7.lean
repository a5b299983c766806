/-! ===== pure: the lesson, class and reference ===== -/
theorem bm64 {n : Int} (h1 : -9223372036854775808 ≤ n) (h2 : n < 9223372036854775808) : n.bmod (2 ^ 64) = n := by
  rw [Int.bmod_def]
  omega
theorem l_mul {x y : Int64} {n : Int} (h : x.toInt * y.toInt = n) (h1 : -9223372036854775808 ≤ n) (h2 : n < 9223372036854775808) : (x * y).toInt = n := by
  rw [Int64.toInt_mul, h, bm64 h1 h2]
theorem l_add {x y : Int64} (h1 : -9223372036854775808 ≤ x.toInt + y.toInt) (h2 : x.toInt + y.toInt < 9223372036854775808) : (x + y).toInt = x.toInt + y.toInt := by
  rw [Int64.toInt_add, bm64 h1 h2]
theorem l_sub {x y : Int64} (h1 : -9223372036854775808 ≤ x.toInt - y.toInt) (h2 : x.toInt - y.toInt < 9223372036854775808) : (x - y).toInt = x.toInt - y.toInt := by
  rw [Int64.toInt_sub, bm64 h1 h2]
theorem l_div {x y : Int64} (h : ¬ y.toInt = 0) (h0 : 0 ≤ y.toInt) : (x / y).toInt = x.toInt.tdiv y.toInt := by
  rw [Int64.toInt_div_of_ne_right _ _ (fun q => by rw [q] at h0; exact absurd h0 (by decide))]
theorem l_zero {x : Int64} : x = 0 ↔ x.toInt = 0 := by
  constructor
  · intro h; rw [h]; rfl
  · intro h; exact Int64.toInt_inj.mp h
/-- a remainder of numbers that aren't below 0 -/
theorem l_mod {x y : Int64} {a b : Nat} (hx : x.toInt = (a : Int)) (hy : y.toInt = (b : Int)) (hb : 0 < b) (ha : a < 2 ^ 62) : (x - x / y * y).toInt = ((a % b : Nat) : Int) := by
  have e1 : (x / y).toInt = ((a / b : Nat) : Int) := by
    rw [l_div (by omega) (by omega), hx, hy]
    exact Int.ofNat_tdiv a b |>.symm
  have e2 : a / b * b ≤ a := Nat.div_mul_le_self a b
  have e3 : (x / y * y).toInt = ((a / b * b : Nat) : Int) := by
    refine l_mul ?_ (by omega) (by omega)
    rw [e1, hy, Int.natCast_mul]
  have e4 := Nat.div_add_mod a b
  rw [Nat.mul_comm] at e4
  rw [l_sub (by omega) (by omega), hx, e3]
  omega
theorem mod_half {a b : Nat} (h : b < a) (hb : 0 < b) : 2 * (a % b) < a := by
  have h1 := Nat.mod_lt a hb
  have h2 := Nat.div_add_mod a b
  have h3 : 1 ≤ a / b := Nat.div_pos (by omega) hb
  have h4 : b * 1 ≤ b * (a / b) := Nat.mul_le_mul_left b h3
  omega
theorem cdv_gcd : ∀ (k n : Nat) (d r : Int64) (a b : Nat), 2 * k ≤ n → d.toInt = (a : Int) → r.toInt = (b : Int) → b < 2 ^ k → a < 2 ^ 62 → b < 2 ^ 62 → (cdv d r n).toInt = ((Nat.gcd b a : Nat) : Int) := by
  intro k
  induction k with
  | zero =>
    intro n d r a b _ hd hr hb _ _
    have e : b = 0 := by simpa using hb
    subst e
    have er : r = 0 := l_zero.mpr (by simpa using hr)
    rw [Nat.gcd_zero_left]
    cases n with
    | zero => exact hd
    | succ n => simp only [cdv]; rw [if_pos er]; exact hd
  | succ k ih =>
    intro n d r a b hn hd hr hb ha9 hb9
    obtain ⟨n, rfl⟩ : ∃ n', n = n' + 2 := ⟨n - 2, by omega⟩
    by_cases er : r = 0
    · have e : b = 0 := by have := l_zero.mp er; omega
      subst e
      rw [Nat.gcd_zero_left]
      simp only [cdv]; rw [if_pos er]; exact hd
    · have b0 : 0 < b := by
        rcases Nat.eq_zero_or_pos b with q | q
        · exact absurd (l_zero.mpr (by rw [hr, q]; rfl)) er
        · exact q
      have h1 := l_mod hd hr b0 ha9
      have hlt := Nat.mod_lt a b0
      have e1 : cdv d r (n + 2) = cdv r (d - d / r * r) (n + 1) := by
        show (if r = 0 then d else cdv r (d - d / r * r) (n + 1)) = _
        rw [if_neg er]
      rw [e1, Nat.gcd_rec b a]
      by_cases er2 : d - d / r * r = 0
      · have e : a % b = 0 := by have := l_zero.mp er2; omega
        rw [e, Nat.gcd_zero_left]
        simp only [cdv]; rw [if_pos er2]; exact hr
      · have b1 : 0 < a % b := by
          rcases Nat.eq_zero_or_pos (a % b) with q | q
          · exact absurd (l_zero.mpr (by rw [h1, q]; rfl)) er2
          · exact q
        have h2 := l_mod hr h1 b1 hb9
        have hh := mod_half hlt b1
        have e2 : cdv r (d - d / r * r) (n + 1) = cdv (d - d / r * r) (r - r / (d - d / r * r) * (d - d / r * r)) n := by
          show (if d - d / r * r = 0 then r else cdv (d - d / r * r) (r - r / (d - d / r * r) * (d - d / r * r)) n) = _
          rw [if_neg er2]
        rw [e2, Nat.gcd_rec (a % b) b]
        refine ih n _ _ _ _ (by omega) h1 h2 ?_ (by omega) (by omega)
        rw [Nat.pow_succ] at hb
        omega
theorem dvR_gcd : ∀ (b : Nat) (x y : Int64) (a : Nat), x.toInt = (a : Int) → y.toInt = (b : Int) → a < 2 ^ 62 → b < 2 ^ 62 → ∃ (N : Nat) (g : Int64), dvR N x y g ∧ g.toInt = ((Nat.gcd b a : Nat) : Int) := by
  intro b
  induction b using Nat.strongRecOn with
  | _ b ih =>
    intro x y a hx hy ha hb
    by_cases ey : y = 0
    · have e : b = 0 := by have := l_zero.mp ey; omega
      subst e
      exact ⟨0, x, ⟨ey, rfl⟩, by rw [Nat.gcd_zero_left]; exact hx⟩
    · have b0 : 0 < b := by
        rcases Nat.eq_zero_or_pos b with q | q
        · exact absurd (l_zero.mpr (by rw [hy, q]; rfl)) ey
        · exact q
      have h1 := l_mod hx hy b0 ha
      have hlt := Nat.mod_lt a b0
      obtain ⟨N, g, hd, hg⟩ := ih (a % b) hlt y _ b hy h1 hb (by omega)
      exact ⟨N + 1, g, Or.inr ⟨ey, hd⟩, by rw [hg, ← Nat.gcd_rec]⟩
theorem labs_eq {x : Int64} (h : -4611686018427387904 < x.toInt ∧ x.toInt < 4611686018427387904) : (labs x).toInt = ((x.toInt.natAbs : Nat) : Int) := by
  unfold labs
  by_cases c : 0 < x
  · rw [if_pos c]
    rw [Int64.lt_iff_toInt_lt] at c
    have : (0 : Int64).toInt = 0 := rfl
    omega
  · rw [if_neg c]
    rw [Int64.lt_iff_toInt_lt] at c
    have : (0 : Int64).toInt = 0 := rfl
    rw [Int64.toInt_neg, bm64 (by omega) (by omega)]
    omega
theorem dabs_eq {x : Int64} (h : -4611686018427387904 < x.toInt ∧ x.toInt < 4611686018427387904) : (dabs x).toInt = ((x.toInt.natAbs : Nat) : Int) := by
  unfold dabs
  by_cases c : 0 ≤ x
  · rw [if_pos c]
    rw [Int64.le_iff_toInt_le] at c
    have : (0 : Int64).toInt = 0 := rfl
    omega
  · rw [if_neg c]
    rw [Int64.le_iff_toInt_le] at c
    have : (0 : Int64).toInt = 0 := rfl
    rw [Int64.toInt_neg, bm64 (by omega) (by omega)]
    omega
/-- of 1440 minutes at most, either way -/
def Lq (a b : Int) : Prop := 1 ≤ b ∧ -(1440 * b) ≤ a ∧ a ≤ 1440 * b
/-- the greatest common divisor on both sides, and what it leaves -/
theorem low_eq {x y : Int64} (hL : Lq x.toInt y.toInt) (hy : y.toInt ≤ 100000000000) : ∃ (g : Int64) (N : Nat) (u v : Int), cdv y (labs x) 100 = g ∧ dvR N (dabs x) y g ∧ 1 ≤ g.toInt ∧ x.toInt = g.toInt * u ∧ y.toInt = g.toInt * v ∧ (x / g).toInt = u ∧ (y / g).toInt = v ∧ Lq u v ∧ v ≤ y.toInt := by
  obtain ⟨h1, h2, h3⟩ := hL
  have hx9 : -4611686018427387904 < x.toInt ∧ x.toInt < 4611686018427387904 := by omega
  obtain ⟨a, ha⟩ : ∃ a : Nat, a = x.toInt.natAbs := ⟨_, rfl⟩
  obtain ⟨b, hb⟩ : ∃ b : Nat, y.toInt = (b : Int) := ⟨y.toInt.toNat, by omega⟩
  have hla := labs_eq hx9
  have hda := dabs_eq hx9
  rw [← ha] at hla hda
  have a48 : a < 2 ^ 48 := by omega
  obtain ⟨g, hg⟩ : ∃ g, cdv y (labs x) 100 = g := ⟨_, rfl⟩
  have hgc := cdv_gcd 48 100 y (labs x) b a (by omega) hb hla a48 (by omega) (by omega)
  rw [hg] at hgc
  obtain ⟨N, g', hd, hg'⟩ := dvR_gcd b (dabs x) y a hda hb (by omega) (by omega)
  have eg : g' = g := Int64.toInt_inj.mp (by rw [hg', hgc, Nat.gcd_comm])
  rw [eg] at hd
  obtain ⟨k, hk⟩ : ∃ k, k = Nat.gcd a b := ⟨_, rfl⟩
  rw [← hk] at hgc
  have k1 : 1 ≤ k := by rw [hk]; exact Nat.gcd_pos_of_pos_right a (by omega)
  obtain ⟨v, hv⟩ : ∃ v, b = k * v := by rw [hk]; exact Nat.gcd_dvd_right a b
  obtain ⟨u, hu⟩ : ∃ u, a = k * u := by rw [hk]; exact Nat.gcd_dvd_left a b
  obtain ⟨ui, hui⟩ : ∃ ui : Int, x.toInt = (k : Int) * ui := by
    rcases Int.le_total 0 x.toInt with q | q
    · refine ⟨(u : Int), ?_⟩
      rw [← Int.natCast_mul, ← hu]; omega
    · refine ⟨-(u : Int), ?_⟩
      rw [Int.mul_neg, ← Int.natCast_mul, ← hu]; omega
  have hvi : y.toInt = (k : Int) * (v : Int) := by rw [hb, hv, Int.natCast_mul]
  have kp : (0 : Int) < (k : Int) := by omega
  refine ⟨g, N, ui, (v : Int), hg, hd, by omega, by rw [hgc]; exact hui, by rw [hgc]; exact hvi, ?_, ?_, ⟨?_, ?_, ?_⟩, ?_⟩
  · rw [l_div (by omega) (by omega), hgc, hui, Int.mul_tdiv_cancel_left _ (by omega)]
  · rw [l_div (by omega) (by omega), hgc, hvi, Int.mul_tdiv_cancel_left _ (by omega)]
  · rcases Nat.eq_zero_or_pos v with q | q
    · rw [q, Nat.mul_zero] at hv; omega
    · omega
  · rw [hui, hvi] at h2
    refine Int.le_of_mul_le_mul_left (a := (k : Int)) ?_ kp
    rw [Int.mul_neg, Int.mul_left_comm]
    exact h2
  · rw [hui, hvi] at h3
    refine Int.le_of_mul_le_mul_left (a := (k : Int)) ?_ kp
    rw [Int.mul_left_comm]
    exact h3
  · rw [hvi]
    have : 1 * (v : Int) ≤ (k : Int) * (v : Int) := Int.mul_le_mul_of_nonneg_right (by omega) (by omega)
    omega
/-- millionths, in whole numbers -/
theorem mill_int {a b : Int} (hb : 1 ≤ b) : a.tdiv b * 1000000 + ((a - a.tdiv b * b) * 1000000).tdiv b = (a * 1000000).tdiv b := by
  have pos : ∀ a : Int, 0 ≤ a → a.tdiv b * 1000000 + ((a - a.tdiv b * b) * 1000000).tdiv b = (a * 1000000).tdiv b := by
    intro a ha
    rw [Int.tdiv_eq_ediv_of_nonneg ha]
    have h1 : a - a / b * b = a % b := by rw [Int.mul_comm, Int.emod_def]
    have h2 := Int.emod_nonneg a (by omega : b ≠ 0)
    rw [h1, Int.tdiv_eq_ediv_of_nonneg (by omega), Int.tdiv_eq_ediv_of_nonneg (by omega)]
    have h3 : a * 1000000 = a % b * 1000000 + (a / b * 1000000) * b := by
      have h4 := Int.mul_ediv_add_emod a b
      rw [show a / b * 1000000 * b = b * (a / b) * 1000000 by rw [Int.mul_right_comm, Int.mul_comm (a / b) b], ← Int.add_mul, Int.add_comm (a % b), h4]
    rw [h3, Int.add_mul_ediv_right _ _ (by omega), Int.add_comm]
  rcases Int.le_total 0 a with q | q
  · exact pos a q
  · have h := pos (-a) (by omega)
    rw [Int.neg_tdiv, Int.neg_mul, Int.neg_mul, Int.neg_mul, show -a - -(a.tdiv b * b) = -(a - a.tdiv b * b) by omega, Int.neg_mul, Int.neg_tdiv, Int.neg_tdiv] at h
    omega
theorem tdv_bd {a b m : Int} (hb : 1 ≤ b) (h1 : -(m * b) ≤ a) (h2 : a ≤ m * b) (hm : 0 ≤ m) : -m ≤ a.tdiv b ∧ a.tdiv b ≤ m := by
  have pos : ∀ a : Int, 0 ≤ a → a ≤ m * b → 0 ≤ a.tdiv b ∧ a.tdiv b ≤ m := by
    intro a h0 h
    rw [Int.tdiv_eq_ediv_of_nonneg h0]
    refine ⟨Int.ediv_nonneg h0 (by omega), ?_⟩
    have := Int.ediv_le_ediv (by omega : 0 < b) h
    rw [Int.mul_ediv_cancel _ (by omega)] at this
    exact this
  rcases Int.le_total 0 a with q | q
  · have := pos a q h2; omega
  · have := pos (-a) (by omega) (by omega)
    rw [Int.neg_tdiv] at this
    omega
theorem mill_eq {x y : Int64} (hL : Lq x.toInt y.toInt) (hy : y.toInt ≤ 100000000000) : (mill x y).toInt = (x.toInt * 1000000).tdiv y.toInt ∧ -1440000000 ≤ (mill x y).toInt ∧ (mill x y).toInt ≤ 1440000000 := by
  obtain ⟨h1, h2, h3⟩ := hL
  have hq := tdv_bd h1 h2 h3 (by decide)
  have e1 : (x / y).toInt = x.toInt.tdiv y.toInt := l_div (by omega) (by omega)
  obtain ⟨q, hq9⟩ : ∃ q, q = x.toInt.tdiv y.toInt := ⟨_, rfl⟩
  rw [← hq9] at hq e1
  have hr : -y.toInt < x.toInt - q * y.toInt ∧ x.toInt - q * y.toInt < y.toInt := by
    have pos : ∀ a b : Int, 0 ≤ a → 1 ≤ b → -b < a - a.tdiv b * b ∧ a - a.tdiv b * b < b := by
      intro a b ha hb
      rw [Int.tdiv_eq_ediv_of_nonneg ha]
      have i1 : a - a / b * b = a % b := by rw [Int.mul_comm, Int.emod_def]
      have i2 := Int.emod_nonneg a (by omega : b ≠ 0)
      have i3 := Int.emod_lt_of_pos a (by omega : 0 < b)
      omega
    rw [hq9]
    rcases Int.le_total 0 x.toInt with c | c
    · exact pos _ _ c h1
    · have := pos (-x.toInt) _ (by omega) h1
      rw [Int.neg_tdiv, Int.neg_mul] at this
      omega
  have hqy : -(1440 * y.toInt) ≤ q * y.toInt ∧ q * y.toInt ≤ 1440 * y.toInt := by
    constructor
    · rw [← Int.neg_mul]
      exact Int.mul_le_mul_of_nonneg_right hq.1 (by omega)
    · exact Int.mul_le_mul_of_nonneg_right hq.2 (by omega)
  have e2 : (x / y * y).toInt = q * y.toInt := l_mul (by rw [e1]) (by omega) (by omega)
  have e3 : (x - x / y * y).toInt = x.toInt - q * y.toInt := by rw [l_sub (by omega) (by omega), e2]
  have c6 : (1000000 : Int64).toInt = 1000000 := rfl
  have e4 : ((x - x / y * y) * 1000000).toInt = (x.toInt - q * y.toInt) * 1000000 := l_mul (by rw [e3, c6]) (by omega) (by omega)
  have e5 : ((x - x / y * y) * 1000000 / y).toInt = ((x.toInt - q * y.toInt) * 1000000).tdiv y.toInt := by rw [l_div (by omega) (by omega), e4]
  have e6 : (x / y * 1000000).toInt = q * 1000000 := l_mul (by rw [e1, c6]) (by omega) (by omega)
  have hm := mill_int (a := x.toInt) (b := y.toInt) h1
  rw [← hq9] at hm
  have hb2 := tdv_bd (a := x.toInt * 1000000) (b := y.toInt) (m := 1440000000) h1 (by omega) (by omega) (by decide)
  have e7 : (mill x y).toInt = (x.toInt * 1000000).tdiv y.toInt := by
    unfold mill
    rw [l_add (by rw [e6, e5]; omega) (by rw [e6, e5]; omega), e6, e5]
    exact hm
  rw [e7]
  exact ⟨rfl, hb2⟩
theorem mill_low {x y a b g : Int64} (hL : Lq x.toInt y.toInt) (hy : y.toInt ≤ 100000000000) (hg : 1 ≤ g.toInt) {u v : Int} (hx : x.toInt = g.toInt * u) (hyv : y.toInt = g.toInt * v) (ha : a.toInt = u) (hb : b.toInt = v) (hL2 : Lq u v) (hv : v ≤ y.toInt) : mill a b = mill x y := by
  apply Int64.toInt_inj.mp
  rw [(mill_eq hL hy).1, (mill_eq (by rw [ha, hb]; exact hL2) (by omega)).1, ha, hb, hx, hyv, Int.mul_assoc, Int.mul_tdiv_mul_of_pos _ _ (by omega)]
/-- a lesson as it is kept -/
def LB (a b : Int64) : Prop := Lq a.toInt b.toInt ∧ b.toInt ≤ 1000000000
theorem les_in {ea eb : Int64} {fa fb mn : Int32} (h : LB ea eb) (hf : 0 ≤ fa.toInt ∧ fa.toInt ≤ fb.toInt ∧ 1 ≤ fb.toInt ∧ fb.toInt ≤ 100) (hm : -1440 ≤ mn.toInt ∧ mn.toInt ≤ 1440) :
    Lq (ea * (fb - fa).toInt64 + mn.toInt64 * eb * fa.toInt64).toInt (eb * fb.toInt64).toInt ∧ (eb * fb.toInt64).toInt ≤ 100000000000 := by
  obtain ⟨⟨h1, h2, h3⟩, h4⟩ := h
  obtain ⟨f1, f2, f3, f4⟩ := hf
  obtain ⟨E, hE⟩ : ∃ E, E = eb.toInt := ⟨_, rfl⟩
  obtain ⟨Q, hQ⟩ : ∃ Q, Q = ea.toInt := ⟨_, rfl⟩
  obtain ⟨a, ha⟩ : ∃ a, a = fa.toInt := ⟨_, rfl⟩
  obtain ⟨b, hb⟩ : ∃ b, b = fb.toInt := ⟨_, rfl⟩
  obtain ⟨n, hn⟩ : ∃ n, n = mn.toInt := ⟨_, rfl⟩
  have d1 : (fb - fa).toInt64.toInt = b - a := by rw [Int32.toInt_toInt64, Int32.toInt_sub, bm32 (by omega) (by omega), ha, hb]
  have d2 : fb.toInt64.toInt = b := by rw [Int32.toInt_toInt64, hb]
  have d3 : fa.toInt64.toInt = a := by rw [Int32.toInt_toInt64, ha]
  have d4 : mn.toInt64.toInt = n := by rw [Int32.toInt_toInt64, hn]
  rw [← hE] at h1 h2 h3 h4
  rw [← hQ] at h2 h3
  rw [← ha] at f1 f2
  rw [← hb] at f2 f3 f4
  rw [← hn] at hm
  -- products
  obtain ⟨p, hp⟩ : ∃ p, p = E * (b - a) := ⟨_, rfl⟩
  obtain ⟨q, hq⟩ : ∃ q, q = E * a := ⟨_, rfl⟩
  have hpq : E * b = p + q := by rw [hp, hq, ← Int.mul_add, show b - a + a = b by omega]
  have p0 : 0 ≤ p := by rw [hp]; exact Int.mul_nonneg (by omega) (by omega)
  have q0 : 0 ≤ q := by rw [hq]; exact Int.mul_nonneg (by omega) (by omega)
  have y1 : 1 ≤ E * b := by have : 1 * 1 ≤ E * b := Int.mul_le_mul h1 f3 (by omega) (by omega); omega
  have y2 : E * b ≤ 1000000000 * 100 := Int.mul_le_mul h4 f4 (by omega) (by omega)
  have s1 : -(1440 * p) ≤ Q * (b - a) ∧ Q * (b - a) ≤ 1440 * p := by
    rw [hp, ← Int.mul_assoc, ← Int.neg_mul]
    exact ⟨Int.mul_le_mul_of_nonneg_right h2 (by omega), Int.mul_le_mul_of_nonneg_right h3 (by omega)⟩
  have s2 : -(1440 * E) ≤ n * E ∧ n * E ≤ 1440 * E := by
    rw [← Int.neg_mul]
    exact ⟨Int.mul_le_mul_of_nonneg_right hm.1 (by omega), Int.mul_le_mul_of_nonneg_right hm.2 (by omega)⟩
  have s3 : -(1440 * q) ≤ n * E * a ∧ n * E * a ≤ 1440 * q := by
    rw [hq, ← Int.mul_assoc, ← Int.neg_mul]
    exact ⟨Int.mul_le_mul_of_nonneg_right s2.1 (by omega), Int.mul_le_mul_of_nonneg_right s2.2 (by omega)⟩
  have m1 : (ea * (fb - fa).toInt64).toInt = Q * (b - a) := l_mul (by rw [d1, hQ]) (by omega) (by omega)
  have m2 : (mn.toInt64 * eb).toInt = n * E := l_mul (by rw [d4, hE]) (by omega) (by omega)
  have m3 : (mn.toInt64 * eb * fa.toInt64).toInt = n * E * a := l_mul (by rw [m2, d3]) (by omega) (by omega)
  have m4 : (eb * fb.toInt64).toInt = E * b := l_mul (by rw [d2, hE]) (by omega) (by omega)
  have m5 : (ea * (fb - fa).toInt64 + mn.toInt64 * eb * fa.toInt64).toInt = Q * (b - a) + n * E * a := by rw [l_add (by rw [m1, m3]; omega) (by rw [m1, m3]; omega), m1, m3]
  rw [m4, m5]
  refine ⟨⟨y1, by omega, by omega⟩, by omega⟩
/-- a day learnt on both sides -/
theorem les_eq {ea eb : Int64} {fa fb mn : Int32} (h : LB ea eb) (hf : 0 ≤ fa.toInt ∧ fa.toInt ≤ fb.toInt ∧ 1 ≤ fb.toInt ∧ fb.toInt ≤ 100) (hm : -1440 ≤ mn.toInt ∧ mn.toInt ≤ 1440) :
    ∃ (x1 y1 g1 a1 b1 : Int64) (N1 : Nat), ea * (fb - fa).toInt64 + mn.toInt64 * eb * fa.toInt64 = x1 ∧ eb * fb.toInt64 = y1 ∧ cdv y1 (labs x1) 100 = g1 ∧ dvR N1 (dabs x1) y1 g1 ∧ ¬ g1 = 0 ∧ x1 / g1 = a1 ∧ y1 / g1 = b1 ∧
      ((b1 ≤ 1000000000 ∧ LB a1 b1) ∨ (¬ b1 ≤ 1000000000 ∧ ¬ b1 = 0 ∧ ¬ y1 = 0 ∧ ∃ (x2 g2 : Int64) (N2 : Nat), mill a1 b1 = x2 ∧ mill x1 y1 = x2 ∧ cdv 1000000 (labs x2) 100 = g2 ∧ dvR N2 (dabs x2) 1000000 g2 ∧ ¬ g2 = 0 ∧ LB (x2 / g2) (1000000 / g2))) := by
  obtain ⟨hL, hy⟩ := les_in h hf hm
  obtain ⟨x1, hx1⟩ : ∃ x1, ea * (fb - fa).toInt64 + mn.toInt64 * eb * fa.toInt64 = x1 := ⟨_, rfl⟩
  obtain ⟨y1, hy1⟩ : ∃ y1, eb * fb.toInt64 = y1 := ⟨_, rfl⟩
  rw [hx1, hy1] at hL
  rw [hy1] at hy
  obtain ⟨g1, N1, u, v, c1, c2, c3, c4, c5, c6, c7, c8, c9⟩ := low_eq hL hy
  have hg0 : ¬ g1 = 0 := fun q => by have := l_zero.mp q; omega
  refine ⟨x1, y1, g1, x1 / g1, y1 / g1, N1, hx1, hy1, c1, c2, hg0, rfl, rfl, ?_⟩
  have cb : (1000000000 : Int64).toInt = 1000000000 := rfl
  by_cases hbig : y1 / g1 ≤ 1000000000
  · refine Or.inl ⟨hbig, ?_⟩
    rw [Int64.le_iff_toInt_le, cb] at hbig
    exact ⟨by rw [c6, c7]; exact c8, hbig⟩
  · refine Or.inr ⟨hbig, fun q => ?_, fun q => ?_, ?_⟩
    · have := l_zero.mp q
      rw [c7] at this
      have := c8.1
      omega
    · have := l_zero.mp q
      have := hL.1
      omega
    · have em := mill_low hL hy c3 c4 c5 c6 c7 c8 c9
      obtain ⟨x2, hx2⟩ : ∃ x2, mill x1 y1 = x2 := ⟨_, rfl⟩
      have hb2 := (mill_eq hL hy).2
      rw [hx2] at hb2
      have c6m : (1000000 : Int64).toInt = 1000000 := rfl
      have hL2 : Lq x2.toInt (1000000 : Int64).toInt := by rw [c6m]; exact ⟨by omega, by omega, by omega⟩
      obtain ⟨g2, N2, u2, v2, k1, k2, k3, k4, k5, k6, k7, k8, k9⟩ := low_eq hL2 (by rw [c6m]; omega)
      refine ⟨x2, g2, N2, em.trans hx2, hx2, k1, k2, fun q => by have := l_zero.mp q; omega, ⟨by rw [k6, k7]; exact k8, ?_⟩⟩
      rw [k7]
      rw [c6m] at k9
      omega
