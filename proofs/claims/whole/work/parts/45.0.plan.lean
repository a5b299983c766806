/-! ===== one call on both sides: the plan ===== -/
theorem plan_J {zs : List ZD} {nz : Nat} {nr : Nat} {ol : Int32} {mp : Int32} {pl : Int32} {fa : Int32} {fb : Int32} {th : Int32} {fZ : Nat → Option Nat} {fO : Nat → Int32} {fG : Nat → Int32} {fP : Nat → Int32} {fW : Nat → Int32} {fK : Nat → Int64} {fU : Nat → Int64} {rH : Nat → Int32} {rL : Nat → Int32} {rB : Nat → Int32} {rP : Nat → Int32} {rR : Nat → Int32} {rA : Nat → Int32} {rW : Nat → Int32} {rU : Nat → Int64} {rV : Nat → Int64} {rM : Nat → Int32} {rT : Nat → Int32} {rO : Nat → Int32} {rF : Nat → Int32} {rS : Nat → Int32} {rE : Nat → Int32} {rX : Nat → Int32} {rD : Nat → Int32} (hI : Inv (zs, nz, nr, ol, mp, pl, fa, fb, th, fZ, fO, fG, fP, fW, fK, fU, rH, rL, rB, rP, rR, rA, rW, rU, rV, rM, rT, rO, rF, rS, rE, rX, rD)) : ∃ (g0 g1 O1 F1 S1 E1 X1 D1 : Nat → Int32) (zs1 : List ZD), plTo fO mp nz zs fG g0 pl zs1 g1 ∧ rpTo pl mp nz nr rH rL rB rP rR rA rW rM rT rO rF rS rE rX rD O1 F1 S1 E1 X1 D1 ∧ plOk fZ nz zs ∧ (∀ k, k < nz → ¬ rL k = 0 ∧ ¬ rH k = 0) ∧ ∀ (fU : Nat → Int64) (th : Int32), Inv (zs1, nz, nr, ol, mp, 1, fa, fb, th, fZ, fO, g1, fP, fW, fK, fU, rH, rL, rB, rP, rR, rA, rW, rU, rV, rM, rT, O1, F1, S1, E1, X1, D1) := by
  have hI0 := hI
  obtain ⟨⟨hlen, hn, hnr, hpl⟩, ⟨hmp, hfd⟩, hpr, ⟨hob, hfo, hlast⟩, hzz, hlb, hun, hpn⟩ := hI
  have hok : plOk fZ nz zs := by
    refine ⟨hlen, fun j z hj => (hzz j z hj).1, fun z hz => ?_⟩
    obtain ⟨j, hj⟩ := List.getElem?_of_mem hz
    exact zb_ok (hzz j z hj).2.1
  have hLH : ∀ k, k < nz → ¬ rL k = 0 ∧ ¬ rH k = 0 := by
    intro k hk
    obtain ⟨z, hz⟩ : ∃ z, zs[k]? = some z := ⟨_, List.getElem?_eq_getElem (by omega)⟩
    exact told_hl (hzz k z hz).2.1 (hzz k z hz).2.2.1
  rcases hpl with e | e
  · subst e
    obtain ⟨g0, g1, O1, F1, S1, E1, X1, D1, zs1, h1, h2, h3, h4, h5⟩ := plan_eq (O := rO) (o := fO) (F := rF) (S := rS) (E := rE) (X := rX) (D := rD) (fG := fG) hn hmp hob hfo hlen (fun j z hj => (hzz j z hj).2)
    refine ⟨g0, g1, O1, F1, S1, E1, X1, D1, zs1, h1, h2, hok, hLH, fun fU th => ⟨⟨h4, hn, hnr, Or.inr rfl⟩, ⟨hmp, hfd⟩, hpr, ⟨hob, hfo, hlast⟩, fun j z hj => ?_, hlb, hun, fun _ => ⟨h3, fun j z hj => (h5 j z hj).2.2.2.2⟩⟩⟩
    obtain ⟨a1, a2, a3, a4, _⟩ := h5 j z hj
    refine ⟨?_, a1, a2, a3, a4⟩
    have e1 : (zs1.map (fun z => z.1))[j]? = some z.1 := by rw [List.getElem?_map, hj]; rfl
    rw [plTo_ad h1, List.getElem?_map] at e1
    cases hz0 : zs[j]? with
    | none => rw [hz0] at e1; cases e1
    | some z0 =>
      rw [hz0] at e1
      have e2 : z0.1 = z.1 := by simpa using e1
      rw [← e2]
      exact (hzz j z0 hz0).1
  · subst e
    exact ⟨fG, fG, rO, rF, rS, rE, rX, rD, zs, Or.inl ⟨rfl, rfl, rfl⟩, Or.inl ⟨rfl, rfl, rfl, rfl, rfl, rfl, rfl⟩, hok, hLH, fun _ _ => hI0⟩
theorem sub2 (a b : Int32) : a - (a - b) = b := by
  have h1 := a.toInt_lt
  have h2 := a.le_toInt
  have h3 := b.toInt_lt
  have h4 := b.le_toInt
  refine Int32.toInt_inj.mp ?_
  rw [Int32.toInt_sub, Int32.toInt_sub, Int.bmod_def, Int.bmod_def]
  omega
theorem cld_c {T T9 : Nat → Int32} {w : Int32} {b : Nat} : ∀ n, (∀ t, t < b + n → T t = T9 t) → cld T w b n = cld T9 w b n := by
  intro n
  induction n with
  | zero => intro _; rfl
  | succ n ih =>
    intro h
    show cld T w b n + (if T (b + n) < w then 1 else 0) = cld T9 w b n + (if T9 (b + n) < w then 1 else 0)
    rw [ih (fun t ht => h t (by omega)), h (b + n) (by omega)]
theorem bnd_1 {x : Int32} {b : Nat} (hb : b < 2 ^ 31) (h : ¬ (x < 1 ∨ nI b < x)) : ∃ j, 1 ≤ j ∧ j ≤ b ∧ x = nI j := by
  have h1 : (1 : Int32).toInt = 1 := rfl
  have h3 : (0 : Int32).toInt = 0 := rfl
  have h0 : ¬ x < 1 := fun q => h (Or.inl q)
  rw [Int32.lt_iff_toInt_lt] at h0
  obtain ⟨j, hj, e⟩ := bnd_n hb (fun q => q.elim (fun q => by rw [Int32.lt_iff_toInt_lt] at q; omega) (fun q => h (Or.inr q)))
  refine ⟨j, ?_, hj, e⟩
  rw [e, nI_toInt (by omega)] at h0
  omega
theorem tau_eq {s : Nat} (hs : s ≤ 1440) {ea eb : Int64} (h : LB ea eb) : (if 0 < (if 1439 < (nI s - (ea / eb).toInt32) then 1439 else (nI s - (ea / eb).toInt32)) then (if 1439 < (nI s - (ea / eb).toInt32) then 1439 else (nI s - (ea / eb).toInt32)) else 0) = if ((nI s).toInt64 - ea / eb) < 0 then 0 else if 1439 < ((nI s).toInt64 - ea / eb) then 1439 else ((nI s).toInt64 - ea / eb).toInt32 := by
  obtain ⟨⟨b1, b2, b3⟩, b4⟩ := h
  have hq := tdv_bd b1 b2 b3 (by decide)
  have hd := l_div (x := ea) (y := eb) (by omega) (by omega)
  obtain ⟨q, hq9⟩ : ∃ q : Int, (ea / eb).toInt = q := ⟨_, rfl⟩
  rw [← hd, hq9] at hq
  have hs9 : (nI s).toInt = (s : Int) := nI_toInt (by omega)
  have e1 : (ea / eb).toInt32.toInt = q := by rw [Int64.toInt_toInt32, hq9]; exact bm32 (by omega) (by omega)
  have e2 : (nI s - (ea / eb).toInt32).toInt = s - q := by rw [Int32.toInt_sub, hs9, e1]; exact bm32 (by omega) (by omega)
  have e4 : (nI s).toInt64.toInt = (s : Int) := by rw [Int32.toInt_toInt64, hs9]
  have e3 : ((nI s).toInt64 - ea / eb).toInt = s - q := by
    rw [l_sub (by rw [e4, hq9]; omega) (by rw [e4, hq9]; omega), e4, hq9]
  have e5 : ((nI s).toInt64 - ea / eb).toInt32 = nI s - (ea / eb).toInt32 := by
    refine Int32.toInt_inj.mp ?_
    rw [Int64.toInt_toInt32, e3, e2]
    exact bm32 (by omega) (by omega)
  rw [e5]
  obtain ⟨d, hd9⟩ : ∃ d, nI s - (ea / eb).toInt32 = d := ⟨_, rfl⟩
  obtain ⟨D, hD9⟩ : ∃ D, (nI s).toInt64 - ea / eb = D := ⟨_, rfl⟩
  rw [hd9] at e2
  rw [hD9] at e3
  rw [hd9, hD9]
  have c1 : (0 : Int64).toInt = 0 := rfl
  have c2 : (1439 : Int64).toInt = 1439 := rfl
  have c3 : (0 : Int32).toInt = 0 := rfl
  have c4 : (1439 : Int32).toInt = 1439 := rfl
  by_cases k1 : (s : Int) - q < 0
  · rw [if_pos (show D < 0 by rw [Int64.lt_iff_toInt_lt, e3, c1]; omega), if_neg (show ¬ 1439 < d by rw [Int32.lt_iff_toInt_lt, e2, c4]; omega), if_neg (show ¬ 0 < d by rw [Int32.lt_iff_toInt_lt, e2, c3]; omega)]
  · rw [if_neg (show ¬ D < 0 by rw [Int64.lt_iff_toInt_lt, e3, c1]; omega)]
    by_cases k2 : 1439 < (s : Int) - q
    · rw [if_pos (show 1439 < D by rw [Int64.lt_iff_toInt_lt, e3, c2]; omega), if_pos (show 1439 < d by rw [Int32.lt_iff_toInt_lt, e2, c4]; omega), if_pos (by decide)]
    · rw [if_neg (show ¬ 1439 < D by rw [Int64.lt_iff_toInt_lt, e3, c2]; omega), if_neg (show ¬ 1439 < d by rw [Int32.lt_iff_toInt_lt, e2, c4]; omega)]
      by_cases k3 : (s : Int) - q = 0
      · rw [if_neg (show ¬ 0 < d by rw [Int32.lt_iff_toInt_lt, e2, c3]; omega)]
        exact Int32.toInt_inj.mp (by rw [e2, c3, k3])
      · rw [if_pos (show 0 < d by rw [Int32.lt_iff_toInt_lt, e2, c3]; omega)]
