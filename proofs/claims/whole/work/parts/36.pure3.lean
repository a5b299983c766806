/-! ===== pure: a zone's part of the plan, class and reference ===== -/
theorem i32_sub2 (a b c : Int32) : a - b - c = a - (b + c) := by
  rw [Int32.sub_eq_add_neg, Int32.sub_eq_add_neg, Int32.sub_eq_add_neg, Int32.neg_add, Int32.sub_eq_add_neg, Int32.add_assoc]
theorem up_s {f : Nat → Int32} {k : Nat} {x : Int32} : upd f k x k = x := if_pos rfl
theorem up_n {f : Nat → Int32} {k j : Nat} {x : Int32} (h : j ≠ k) : upd f k x j = f j := if_neg h
theorem sim_lu {oR o X T : Nat → Int32} {L hd : Int32} {p9 : Nat} (ho : ∀ t, t < 1440 → oR t = o t) (hX : ∀ t, t ≤ 1440 → X (p9 + t) = T t) : ∀ n, n ≤ 1440 → ∀ t, t ≤ 1440 → luX oR L hd X p9 n (p9 + t) = lu o L hd T 0 n t := by
  intro n
  induction n with
  | zero => intro _ t ht; exact hX t ht
  | succ n ih =>
    intro hn t ht
    have i1 := ih (by omega)
    show upd (luX oR L hd X p9 n) (p9 + n + 1) (luX oR L hd X p9 n (p9 + n) + (oR n - luX oR L hd X p9 n (p9 + n)) / L + 0 / hd) (p9 + t) = upd (lu o L hd T 0 n) (0 + n + 1) (lu o L hd T 0 n (0 + n) + (o (0 + n) - lu o L hd T 0 n (0 + n)) / L + 0 / hd) t
    rw [Nat.zero_add, i1 n (by omega), ho n (by omega)]
    by_cases e : t = n + 1
    · subst e
      rw [show p9 + (n + 1) = p9 + n + 1 by omega, up_s, up_s]
    · rw [up_n (by omega), up_n e]
      exact i1 t ht
theorem luX_fr {oR X : Nat → Int32} {L hd : Int32} {p9 : Nat} : ∀ n i, (i ≤ p9 ∨ p9 + n < i) → luX oR L hd X p9 n i = X i := by
  intro n
  induction n with
  | zero => intro i _; rfl
  | succ n ih =>
    intro i hi
    show upd (luX oR L hd X p9 n) (p9 + n + 1) _ i = X i
    rw [up_n (by omega)]
    exact ih i (by omega)
/-- heated minutes -/
theorem sim_hf {oR o X T F g : Nat → Int32} {L hd zp mp : Int32} {p9 a b : Nat} (ho : ∀ t, t < 1440 → oR t = o t) (hb : b < 1440) (hX : ∀ t, t ≤ 1440 → X (p9 + t) = T t) (hF : ∀ k, k < 1440 → F k = mp - g k) : ∀ n, a + n ≤ b →
    (∀ t, t ≤ 1440 → (hfX oR L hd zp b p9 X F a n).1 (p9 + t) = (hf o L hd zp mp T g a n).1 t) ∧ ∀ k, k < 1440 → (hfX oR L hd zp b p9 X F a n).2 k = mp - (hf o L hd zp mp T g a n).2 k := by
  intro n
  induction n with
  | zero => intro _; exact ⟨hX, hF⟩
  | succ n ih =>
    intro hn9
    obtain ⟨i1, i2⟩ := ih (by omega)
    have eh : (if a + n < b then hn (hfX oR L hd zp b p9 X F a n).2 zp (a + n) else 0) = sh (hf o L hd zp mp T g a n).2 zp mp (a + n) := by
      rw [if_pos (by omega)]
      unfold hn sh
      rw [i2 (a + n) (by omega)]
    constructor
    · intro t ht
      show upd (hfX oR L hd zp b p9 X F a n).1 (p9 + (a + n) + 1) ((hfX oR L hd zp b p9 X F a n).1 (p9 + (a + n)) + (oR (a + n) - (hfX oR L hd zp b p9 X F a n).1 (p9 + (a + n))) / L + (if a + n < b then hn (hfX oR L hd zp b p9 X F a n).2 zp (a + n) else 0) / hd) (p9 + t) = upd (hf o L hd zp mp T g a n).1 (a + n + 1) ((hf o L hd zp mp T g a n).1 (a + n) + (o (a + n) - (hf o L hd zp mp T g a n).1 (a + n)) / L + sh (hf o L hd zp mp T g a n).2 zp mp (a + n) / hd) t
      rw [eh, i1 (a + n) (by omega), ho (a + n) (by omega)]
      by_cases e : t = a + n + 1
      · subst e
        rw [show p9 + (a + n + 1) = p9 + (a + n) + 1 by omega, up_s, up_s]
      · rw [up_n (by omega), up_n e]
        exact i1 t ht
    · intro k hk
      show upd (hfX oR L hd zp b p9 X F a n).2 (a + n) ((hfX oR L hd zp b p9 X F a n).2 (a + n) - (if a + n < b then hn (hfX oR L hd zp b p9 X F a n).2 zp (a + n) else 0)) k = mp - upd (hf o L hd zp mp T g a n).2 (a + n) ((hf o L hd zp mp T g a n).2 (a + n) + sh (hf o L hd zp mp T g a n).2 zp mp (a + n)) k
      rw [eh]
      by_cases e : k = a + n
      · subst e
        rw [up_s, up_s, i2 _ hk, i32_sub2]
      · rw [up_n e, up_n e]
        exact i2 k hk
/-- .. and the minutes behind the wanted one -/
theorem sim_hl {oR o X T F g : Nat → Int32} {L hd zp mp : Int32} {p9 a b : Nat} (ho : ∀ t, t < 1440 → oR t = o t) (hab : a ≤ b) (hb : b < 1440) (hX : ∀ t, t ≤ 1440 → X (p9 + t) = T t) (hF : ∀ k, k < 1440 → F k = mp - g k) : ∀ n, b + n ≤ 1440 →
    (∀ t, t ≤ 1440 → (hfX oR L hd zp b p9 X F a (b - a + n)).1 (p9 + t) = lu o L hd (hf o L hd zp mp T g a (b - a)).1 b n t) ∧ ∀ k, k < 1440 → (hfX oR L hd zp b p9 X F a (b - a + n)).2 k = mp - (hf o L hd zp mp T g a (b - a)).2 k := by
  intro n
  induction n with
  | zero => intro _; exact sim_hf ho hb hX hF (b - a) (by omega)
  | succ n ih =>
    intro hn9
    obtain ⟨i1, i2⟩ := ih (by omega)
    have ea : a + (b - a + n) = b + n := by omega
    have eh : (if b + n < b then hn (hfX oR L hd zp b p9 X F a (b - a + n)).2 zp (b + n) else 0) = (0 : Int32) := if_neg (by omega)
    constructor
    · intro t ht
      show upd (hfX oR L hd zp b p9 X F a (b - a + n)).1 (p9 + (a + (b - a + n)) + 1) ((hfX oR L hd zp b p9 X F a (b - a + n)).1 (p9 + (a + (b - a + n))) + (oR (a + (b - a + n)) - (hfX oR L hd zp b p9 X F a (b - a + n)).1 (p9 + (a + (b - a + n)))) / L + (if a + (b - a + n) < b then hn (hfX oR L hd zp b p9 X F a (b - a + n)).2 zp (a + (b - a + n)) else 0) / hd) (p9 + t) = upd (lu o L hd (hf o L hd zp mp T g a (b - a)).1 b n) (b + n + 1) (lu o L hd (hf o L hd zp mp T g a (b - a)).1 b n (b + n) + (o (b + n) - lu o L hd (hf o L hd zp mp T g a (b - a)).1 b n (b + n)) / L + 0 / hd) t
      rw [ea, eh, i1 (b + n) (by omega), ho (b + n) (by omega)]
      by_cases e : t = b + n + 1
      · subst e
        rw [show p9 + (b + n + 1) = p9 + (b + n) + 1 by omega, up_s, up_s]
      · rw [up_n (by omega), up_n e]
        exact i1 t ht
    · intro k hk
      show upd (hfX oR L hd zp b p9 X F a (b - a + n)).2 (a + (b - a + n)) ((hfX oR L hd zp b p9 X F a (b - a + n)).2 (a + (b - a + n)) - (if a + (b - a + n) < b then hn (hfX oR L hd zp b p9 X F a (b - a + n)).2 zp (a + (b - a + n)) else 0)) k = _
      rw [ea, eh]
      by_cases e : k = b + n
      · subst e
        rw [up_s, i2 _ hk, Int32.sub_zero]
      · rw [up_n e]
        exact i2 k hk
theorem hfX_fr {oR X F : Nat → Int32} {L hd zp : Int32} {b p9 a : Nat} : ∀ n i, (i ≤ p9 ∨ p9 + (a + n) < i) → (hfX oR L hd zp b p9 X F a n).1 i = X i := by
  intro n
  induction n with
  | zero => intro i _; rfl
  | succ n ih =>
    intro i hi
    show upd (hfX oR L hd zp b p9 X F a n).1 (p9 + (a + n) + 1) _ i = X i
    rw [up_n (by omega)]
    exact ih i (by omega)
