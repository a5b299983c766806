/-! ===== one call on both sides: the plan ===== -/
theorem plan_J {zs : List ZD} {nz : Nat} {nr : Nat} {ol : Int32} {mp : Int32} {pl : Int32} {fa : Int32} {fb : Int32} {th : Int32} {fZ : Nat → Option Nat} {fO : Nat → Int32} {fG : Nat → Int32} {fP : Nat → Int32} {fW : Nat → Int32} {fK : Nat → Int64} {fU : Nat → Int64} {rH : Nat → Int32} {rL : Nat → Int32} {rB : Nat → Int32} {rP : Nat → Int32} {rR : Nat → Int32} {rA : Nat → Int32} {rW : Nat → Int32} {rU : Nat → Int64} {rV : Nat → Int64} {rM : Nat → Int32} {rT : Nat → Int32} {rO : Nat → Int32} {rF : Nat → Int32} {rS : Nat → Int32} {rE : Nat → Int32} {rX : Nat → Int32} {rD : Nat → Int32} (hI : Inv (zs, nz, nr, ol, mp, pl, fa, fb, th, fZ, fO, fG, fP, fW, fK, fU, rH, rL, rB, rP, rR, rA, rW, rU, rV, rM, rT, rO, rF, rS, rE, rX, rD)) : ∃ (g0 g1 O1 F1 S1 E1 X1 D1 : Nat → Int32) (zs1 : List ZD), plTo fO mp nz zs fG g0 pl zs1 g1 ∧ rpTo pl mp nz nr rH rL rB rP rR rA rW rM rT rO rF rS rE rX rD O1 F1 S1 E1 X1 D1 ∧ plOk fZ nz zs ∧ (∀ k, k < nz → ¬ rL k = 0 ∧ ¬ rH k = 0) ∧ ∀ (fU : Nat → Int64) (th : Int32), Inv (zs1, nz, nr, ol, mp, 1, fa, fb, th, fZ, fO, g1, fP, fW, fK, fU, rH, rL, rB, rP, rR, rA, rW, rU, rV, rM, rT, O1, F1, S1, E1, X1, D1) := by
  have hI0 := hI
  obtain ⟨⟨hlen, hn, hnr, hpl⟩, ⟨hmp, hfd⟩, hpr, ⟨hob, hfo, hlast⟩, hzz, hlb, hun, hpn⟩ := hI
  have hok : plOk fZ nz zs := by
    refine ⟨hlen, fun j z hj => (hzz j z hj).1, fun z hz => ?_⟩
    obtain ⟨j, hj⟩ := List.getElem?_of_mem hz
    exact zb_ok (hzz j z hj).2.1
  have hLH : ∀ k, k < nz → ¬ rL k = 0 ∧ ¬ rH k = 0 := by
    intro k hk
    obtain ⟨z, hz⟩ : ∃ z, zs[k]? = some z := ⟨_, List.getElem?_eq_getElem (by omega)⟩
    exact told_hl (hzz k z hz).2.1 (hzz k z hz).2.2.1
  rcases hpl with e | e
  · subst e
    obtain ⟨g0, g1, O1, F1, S1, E1, X1, D1, zs1, h1, h2, h3, h4, h5⟩ := plan_eq (O := rO) (o := fO) (F := rF) (S := rS) (E := rE) (X := rX) (D := rD) (fG := fG) hn hmp hob hfo hlen (fun j z hj => (hzz j z hj).2)
    refine ⟨g0, g1, O1, F1, S1, E1, X1, D1, zs1, h1, h2, hok, hLH, fun fU th => ⟨⟨h4, hn, hnr, Or.inr rfl⟩, ⟨hmp, hfd⟩, hpr, ⟨hob, hfo, hlast⟩, fun j z hj => ?_, hlb, hun, fun _ => ⟨h3, fun j z hj => (h5 j z hj).2.2.2.2⟩⟩⟩
    obtain ⟨a1, a2, a3, a4, _⟩ := h5 j z hj
    refine ⟨?_, a1, a2, a3, a4⟩
    have e1 : (zs1.map (fun z => z.1))[j]? = some z.1 := by rw [List.getElem?_map, hj]; rfl
    rw [plTo_ad h1, List.getElem?_map] at e1
    cases hz0 : zs[j]? with
    | none => rw [hz0] at e1; cases e1
    | some z0 =>
      rw [hz0] at e1
      have e2 : z0.1 = z.1 := by simpa using e1
      rw [← e2]
      exact (hzz j z0 hz0).1
  · subst e
    exact ⟨fG, fG, rO, rF, rS, rE, rX, rD, zs, Or.inl ⟨rfl, rfl, rfl⟩, Or.inl ⟨rfl, rfl, rfl, rfl, rfl, rfl, rfl⟩, hok, hLH, fun _ _ => hI0⟩
theorem sub2 (a b : Int32) : a - (a - b) = b := by
  have h1 := a.toInt_lt
  have h2 := a.le_toInt
  have h3 := b.toInt_lt
  have h4 := b.le_toInt
  refine Int32.toInt_inj.mp ?_
  rw [Int32.toInt_sub, Int32.toInt_sub, Int.bmod_def, Int.bmod_def]
  omega
theorem cld_c {T T9 : Nat → Int32} {w : Int32} {b : Nat} : ∀ n, (∀ t, t < b + n → T t = T9 t) → cld T w b n = cld T9 w b n := by
  intro n
  induction n with
  | zero => intro _; rfl
  | succ n ih =>
    intro h
    show cld T w b n + (if T (b + n) < w then 1 else 0) = cld T9 w b n + (if T9 (b + n) < w then 1 else 0)
    rw [ih (fun t ht => h t (by omega)), h (b + n) (by omega)]
theorem bnd_1 {x : Int32} {b : Nat} (hb : b < 2 ^ 31) (h : ¬ (x < 1 ∨ nI b < x)) : ∃ j, 1 ≤ j ∧ j ≤ b ∧ x = nI j := by
  have h1 : (1 : Int32).toInt = 1 := rfl
  have h3 : (0 : Int32).toInt = 0 := rfl
  have h0 : ¬ x < 1 := fun q => h (Or.inl q)
  rw [Int32.lt_iff_toInt_lt] at h0
  obtain ⟨j, hj, e⟩ := bnd_n hb (fun q => q.elim (fun q => by rw [Int32.lt_iff_toInt_lt] at q; omega) (fun q => h (Or.inr q)))
  refine ⟨j, ?_, hj, e⟩
  rw [e, nI_toInt (by omega)] at h0
  omega
theorem tau_eq {s : Nat} (hs : s ≤ 1440) {ea eb : Int64} (h : LB ea eb) : (if 0 < (if 1439 < (nI s - (ea / eb).toInt32) then 1439 else (nI s - (ea / eb).toInt32)) then (if 1439 < (nI s - (ea / eb).toInt32) then 1439 else (nI s - (ea / eb).toInt32)) else 0) = if ((nI s).toInt64 - ea / eb) < 0 then 0 else if 1439 < ((nI s).toInt64 - ea / eb) then 1439 else ((nI s).toInt64 - ea / eb).toInt32 := by
  obtain ⟨⟨b1, b2, b3⟩, b4⟩ := h
  have hq := tdv_bd b1 b2 b3 (by decide)
  have hd := l_div (x := ea) (y := eb) (by omega) (by omega)
  obtain ⟨q, hq9⟩ : ∃ q : Int, (ea / eb).toInt = q := ⟨_, rfl⟩
  rw [← hd, hq9] at hq
  have hs9 : (nI s).toInt = (s : Int) := nI_toInt (by omega)
  have e1 : (ea / eb).toInt32.toInt = q := by rw [Int64.toInt_toInt32, hq9]; exact bm32 (by omega) (by omega)
  have e2 : (nI s - (ea / eb).toInt32).toInt = s - q := by rw [Int32.toInt_sub, hs9, e1]; exact bm32 (by omega) (by omega)
  have e4 : (nI s).toInt64.toInt = (s : Int) := by rw [Int32.toInt_toInt64, hs9]
  have e3 : ((nI s).toInt64 - ea / eb).toInt = s - q := by
    rw [l_sub (by rw [e4, hq9]; omega) (by rw [e4, hq9]; omega), e4, hq9]
  have e5 : ((nI s).toInt64 - ea / eb).toInt32 = nI s - (ea / eb).toInt32 := by
    refine Int32.toInt_inj.mp ?_
    rw [Int64.toInt_toInt32, e3, e2]
    exact bm32 (by omega) (by omega)
  rw [e5]
  obtain ⟨d, hd9⟩ : ∃ d, nI s - (ea / eb).toInt32 = d := ⟨_, rfl⟩
  obtain ⟨D, hD9⟩ : ∃ D, (nI s).toInt64 - ea / eb = D := ⟨_, rfl⟩
  rw [hd9] at e2
  rw [hD9] at e3
  rw [hd9, hD9]
  have c1 : (0 : Int64).toInt = 0 := rfl
  have c2 : (1439 : Int64).toInt = 1439 := rfl
  have c3 : (0 : Int32).toInt = 0 := rfl
  have c4 : (1439 : Int32).toInt = 1439 := rfl
  by_cases k1 : (s : Int) - q < 0
  · rw [if_pos (show D < 0 by rw [Int64.lt_iff_toInt_lt, e3, c1]; omega), if_neg (show ¬ 1439 < d by rw [Int32.lt_iff_toInt_lt, e2, c4]; omega), if_neg (show ¬ 0 < d by rw [Int32.lt_iff_toInt_lt, e2, c3]; omega)]
  · rw [if_neg (show ¬ D < 0 by rw [Int64.lt_iff_toInt_lt, e3, c1]; omega)]
    by_cases k2 : 1439 < (s : Int) - q
    · rw [if_pos (show 1439 < D by rw [Int64.lt_iff_toInt_lt, e3, c2]; omega), if_pos (show 1439 < d by rw [Int32.lt_iff_toInt_lt, e2, c4]; omega), if_pos (by decide)]
    · rw [if_neg (show ¬ 1439 < D by rw [Int64.lt_iff_toInt_lt, e3, c2]; omega), if_neg (show ¬ 1439 < d by rw [Int32.lt_iff_toInt_lt, e2, c4]; omega)]
      by_cases k3 : (s : Int) - q = 0
      · rw [if_neg (show ¬ 0 < d by rw [Int32.lt_iff_toInt_lt, e2, c3]; omega)]
        exact Int32.toInt_inj.mp (by rw [e2, c3, k3])
      · rw [if_pos (show 0 < d by rw [Int32.lt_iff_toInt_lt, e2, c3]; omega)]
set_option maxHeartbeats 1000000 in
theorem j_start (l : Launch) (dC : Nat → ClassId) (dI : Nat → Nat → Nat) (cI cJ cZ cB : ClassId) (hl : l.stackTraces = false) (a0 aZ aO aG aP aW aK ou : Nat) (m0 mH mL mB mP mR mA mW mU mV mM mT mQ mO mF mS mE mX mD : Nat) (J : JS) (hI : Inv J) (x : Int32) : ∃ (k : Int32) (J1 : Nat × Nat × Nat → JS) (b : Int32), SC l dC dI cI cJ cZ cB a0 aZ aO aG aP aW aK ou y_L_start w_L_start [.ref a0, .int x, .ref ou] J k J1 ∧ (∀ u, SMi l dC dI cI cJ cZ cB m0 mH mL mB mP mR mA mW mU mV mM mT mQ mO mF mS mE mX mD y_M_start w_M_start [.ref m0, .int x] J k b (J1 u)) ∧ (∀ u, thJ (J1 u) = k) ∧ (∀ u, k = 0 → outJ (J1 u) = b.toInt64) ∧ ∀ u, Inv (J1 u) := by
  obtain ⟨zs, nz, nr, ol, mp, pl, fa, fb, th, fZ, fO, fG, fP, fW, fK, fU, rH, rL, rB, rP, rR, rA, rW, rU, rV, rM, rT, rO, rF, rS, rE, rX, rD⟩ := J
  have hI0 := hI
  obtain ⟨⟨hlen, hn, hnr, hpl⟩, ⟨hmp, hfd⟩, hpr, ⟨hob, hfo, hlast⟩, hzz, hlb, hun, hpn⟩ := hI
  by_cases hx0 : (x < 0 ∨ nI nz ≤ x)
  · skip
    refine ⟨1, fun _ => (zs, nz, nr, ol, mp, pl, fa, fb, 1, fZ, fO, fG, fP, fW, fK, fU, rH, rL, rB, rP, rR, rA, rW, rU, rV, rM, rT, rO, rF, rS, rE, rX, rD), 0, fun sz => liftA [0, 1, 7] (l_startX l dC dI cI cJ cZ cB hl a0 aZ aO aG aP aW aK (nI nz) (nI nr) ol mp pl fa fb fZ nz x ou fU sz hx0) (List.Perm.refl _) rfl rfl rfl (List.Perm.refl _) ⟨by decide, by decide, by decide, by decide⟩ ⟨by decide, by decide⟩, fun _ sz => liftMi [0] (m_startX l dC dI cI cJ cZ cB m0 mH mL mB mP mR mA mW mU mV mM mT mQ mO mF mS mE mX mD th (nI nz) (nI nr) mp fa fb pl nz x sz hx0) rfl rfl rfl (fun _ _ _ h => absurd h (by decide)) ⟨by decide, by decide, by decide, by decide⟩, fun _ => rfl, fun _ h => absurd h (by decide), fun _ => hI0⟩
  · obtain ⟨k, hk, rfl⟩ := bnd_z hn hx0
    obtain ⟨g0, g1, O1, F1, S1, E1, X1, D1, zs1, hto, hro, hok, hLH, hJ⟩ := plan_J hI0
    obtain ⟨⟨hlen1, _⟩, _, _, _, hzz1, hlb1, _, hpn1⟩ := hJ fU th
    obtain ⟨z, hz1⟩ : ∃ z, zs1[k]? = some z := ⟨_, List.getElem?_eq_getElem (by omega)⟩
    obtain ⟨⟨za, la, wa⟩, ⟨zh, zl, zf, zp, zr, zm, zw, z9⟩, ⟨ea, eb⟩, fT⟩ := z
    obtain ⟨hz, hzb, htl, hu, hv9⟩ := hzz1 k _ hz1
    obtain ⟨hS, hE, hX, hsb⟩ := (hpn1 rfl).2 k _ hz1
    dsimp only at hz hu hv9 hS hE hX
    refine ⟨0, fun _ => (zs1, nz, nr, ol, mp, 1, fa, fb, 0, fZ, fO, g1, fP, fW, fK, vp_updL fU 0 z9.toInt64, rH, rL, rB, rP, rR, rA, rW, rU, rV, rM, rT, O1, F1, S1, E1, X1, D1), S1 k, fun sz => liftC [0, 1, 2, 3, 7] (l_start l dC dI cI cJ cZ cB a0 aZ aO aG aP aW aK (nI nz) (nI nr) ol mp pl fa fb fZ fO fG g0 g1 nz k zs zs1 za la wa zh zl zf zp zr zm zw z9 ea eb fT ou fU sz hn hok hto hk hz hz1) rfl rfl rfl (tri_fst hto) ⟨by decide, by decide, by decide, by decide⟩ ⟨by decide, by decide⟩, fun _ sz => liftMi [0, 1, 2, 3, 4, 5, 6, 7, 10, 11, 13, 14, 15, 16, 17, 18] (m_start l dC dI cI cJ cZ cB m0 mH mL mB mP mR mA mW mU mV mM mT mQ mO mF mS mE mX mD th (nI nz) (nI nr) mp fa fb pl rH rL rB rP rR rA rW rM rT rO rF rS rE rX rD O1 F1 S1 E1 X1 D1 nz nr k sz hn hnr hLH hro hk) rfl rfl rfl (fun _ _ h _ => h) ⟨by decide, by decide, by decide, by decide⟩, fun _ => rfl, fun _ _ => ?_, fun _ => hJ _ _⟩
    show vp_updL fU 0 z9.toInt64 0 = _
    rw [uL_s, hS]
set_option maxHeartbeats 1000000 in
theorem j_late (l : Launch) (dC : Nat → ClassId) (dI : Nat → Nat → Nat) (cI cJ cZ cB : ClassId) (hl : l.stackTraces = false) (a0 aZ aO aG aP aW aK ou : Nat) (m0 mH mL mB mP mR mA mW mU mV mM mT mQ mO mF mS mE mX mD : Nat) (J : JS) (hI : Inv J) (x : Int32) : ∃ (k : Int32) (J1 : Nat × Nat × Nat → JS) (b : Int32), SC l dC dI cI cJ cZ cB a0 aZ aO aG aP aW aK ou y_L_late w_L_late [.ref a0, .int x, .ref ou] J k J1 ∧ (∀ u, SMi l dC dI cI cJ cZ cB m0 mH mL mB mP mR mA mW mU mV mM mT mQ mO mF mS mE mX mD y_M_late w_M_late [.ref m0, .int x] J k b (J1 u)) ∧ (∀ u, thJ (J1 u) = k) ∧ (∀ u, k = 0 → outJ (J1 u) = b.toInt64) ∧ (b = 0 ∨ b = 1) ∧ ∀ u, Inv (J1 u) := by
  obtain ⟨zs, nz, nr, ol, mp, pl, fa, fb, th, fZ, fO, fG, fP, fW, fK, fU, rH, rL, rB, rP, rR, rA, rW, rU, rV, rM, rT, rO, rF, rS, rE, rX, rD⟩ := J
  have hI0 := hI
  obtain ⟨⟨hlen, hn, hnr, hpl⟩, ⟨hmp, hfd⟩, hpr, ⟨hob, hfo, hlast⟩, hzz, hlb, hun, hpn⟩ := hI
  by_cases hx0 : (x < 0 ∨ nI nz ≤ x)
  · skip
    refine ⟨1, fun _ => (zs, nz, nr, ol, mp, pl, fa, fb, 1, fZ, fO, fG, fP, fW, fK, fU, rH, rL, rB, rP, rR, rA, rW, rU, rV, rM, rT, rO, rF, rS, rE, rX, rD), 0, fun sz => liftA [0, 1, 7] (l_lateX l dC dI cI cJ cZ cB hl a0 aZ aO aG aP aW aK (nI nz) (nI nr) ol mp pl fa fb fZ nz x ou fU sz hx0) (List.Perm.refl _) rfl rfl rfl (List.Perm.refl _) ⟨by decide, by decide, by decide, by decide⟩ ⟨by decide, by decide⟩, fun _ sz => liftMi [0] (m_lateX l dC dI cI cJ cZ cB m0 mH mL mB mP mR mA mW mU mV mM mT mQ mO mF mS mE mX mD th (nI nz) (nI nr) mp fa fb pl nz x sz hx0) rfl rfl rfl (fun _ _ _ h => absurd h (by decide)) ⟨by decide, by decide, by decide, by decide⟩, fun _ => rfl, fun _ h => absurd h (by decide), Or.inl rfl, fun _ => hI0⟩
  · obtain ⟨k, hk, rfl⟩ := bnd_z hn hx0
    obtain ⟨g0, g1, O1, F1, S1, E1, X1, D1, zs1, hto, hro, hok, hLH, hJ⟩ := plan_J hI0
    obtain ⟨⟨hlen1, _⟩, _, _, _, hzz1, hlb1, _, hpn1⟩ := hJ fU th
    obtain ⟨z, hz1⟩ : ∃ z, zs1[k]? = some z := ⟨_, List.getElem?_eq_getElem (by omega)⟩
    obtain ⟨⟨za, la, wa⟩, ⟨zh, zl, zf, zp, zr, zm, zw, z9⟩, ⟨ea, eb⟩, fT⟩ := z
    obtain ⟨hz, hzb, htl, hu, hv9⟩ := hzz1 k _ hz1
    obtain ⟨hS, hE, hX, hsb⟩ := (hpn1 rfl).2 k _ hz1
    dsimp only at hz hu hv9 hS hE hX
    have hE01 : E1 k = 0 ∨ E1 k = 1 := by
      rw [hE]
      split
      · exact Or.inr rfl
      · exact Or.inl rfl
    have hzm := hzb.2.2.2.2.2
    dsimp only at hzm
    refine ⟨0, fun _ => (zs1, nz, nr, ol, mp, 1, fa, fb, 0, fZ, fO, g1, fP, fW, fK, vp_updL fU 0 (if ¬ zm = -1 ∧ fT zm.toNatClampNeg < zw then (1 : Int64) else 0), rH, rL, rB, rP, rR, rA, rW, rU, rV, rM, rT, O1, F1, S1, E1, X1, D1), E1 k, fun sz => liftC [0, 1, 2, 3, 7] (l_late l dC dI cI cJ cZ cB a0 aZ aO aG aP aW aK (nI nz) (nI nr) ol mp pl fa fb fZ fO fG g0 g1 nz k zs zs1 za la wa zh zl zf zp zr zm zw z9 ea eb fT ou fU sz hn hok hto hk hz hz1 hzm) rfl rfl rfl (tri_fst hto) ⟨by decide, by decide, by decide, by decide⟩ ⟨by decide, by decide⟩, fun _ sz => liftMi [0, 1, 2, 3, 4, 5, 6, 7, 10, 11, 13, 14, 15, 16, 17, 18] (m_late l dC dI cI cJ cZ cB m0 mH mL mB mP mR mA mW mU mV mM mT mQ mO mF mS mE mX mD th (nI nz) (nI nr) mp fa fb pl rH rL rB rP rR rA rW rM rT rO rF rS rE rX rD O1 F1 S1 E1 X1 D1 nz nr k sz hn hnr hLH hro hk hE01) rfl rfl rfl (fun _ _ h _ => h) ⟨by decide, by decide, by decide, by decide⟩, fun _ => rfl, fun _ _ => ?_, hE01, fun _ => hJ _ _⟩
    show vp_updL fU 0 (if ¬ zm = -1 ∧ fT zm.toNatClampNeg < zw then (1 : Int64) else 0) 0 = _
    rw [uL_s, hE]
    split <;> rfl
set_option maxHeartbeats 1000000 in
theorem j_at (l : Launch) (dC : Nat → ClassId) (dI : Nat → Nat → Nat) (cI cJ cZ cB : ClassId) (hl : l.stackTraces = false) (a0 aZ aO aG aP aW aK ou : Nat) (m0 mH mL mB mP mR mA mW mU mV mM mT mQ mO mF mS mE mX mD : Nat) (J : JS) (hI : Inv J) (x y : Int32) : ∃ (k : Int32) (J1 : Nat × Nat × Nat → JS) (b : Int32), SC l dC dI cI cJ cZ cB a0 aZ aO aG aP aW aK ou y_L_at w_L_at [.ref a0, .int x, .int y, .ref ou] J k J1 ∧ (∀ u, SMi l dC dI cI cJ cZ cB m0 mH mL mB mP mR mA mW mU mV mM mT mQ mO mF mS mE mX mD y_M_at w_M_at [.ref m0, .int x, .int y] J k b (J1 u)) ∧ (∀ u, thJ (J1 u) = k) ∧ (∀ u, k = 0 → outJ (J1 u) = b.toInt64) ∧ ∀ u, Inv (J1 u) := by
  obtain ⟨zs, nz, nr, ol, mp, pl, fa, fb, th, fZ, fO, fG, fP, fW, fK, fU, rH, rL, rB, rP, rR, rA, rW, rU, rV, rM, rT, rO, rF, rS, rE, rX, rD⟩ := J
  have hI0 := hI
  obtain ⟨⟨hlen, hn, hnr, hpl⟩, ⟨hmp, hfd⟩, hpr, ⟨hob, hfo, hlast⟩, hzz, hlb, hun, hpn⟩ := hI
  by_cases hy0 : (y < 0 ∨ 1440 < y)
  · skip
    refine ⟨1, fun _ => (zs, nz, nr, ol, mp, pl, fa, fb, 1, fZ, fO, fG, fP, fW, fK, fU, rH, rL, rB, rP, rR, rA, rW, rU, rV, rM, rT, rO, rF, rS, rE, rX, rD), 0, fun sz => liftA [0, 7] (l_atT l dC dI cI cJ cZ cB hl a0 x y aZ aO aG aP aW aK (nI nz) (nI nr) ol mp pl fa fb ou fU sz hy0) (List.Perm.refl _) rfl rfl rfl (List.Perm.refl _) ⟨by decide, by decide, by decide, by decide⟩ ⟨by decide, by decide⟩, fun _ sz => liftMi [0] (m_atX l dC dI cI cJ cZ cB m0 mH mL mB mP mR mA mW mU mV mM mT mQ mO mF mS mE mX mD th (nI nz) (nI nr) mp fa fb pl nz x y sz (Or.inr hy0)) rfl rfl rfl (fun _ _ _ h => absurd h (by decide)) ⟨by decide, by decide, by decide, by decide⟩, fun _ => rfl, fun _ h => absurd h (by decide), fun _ => hI0⟩
  by_cases hx0 : (x < 0 ∨ nI nz ≤ x)
  · skip
    refine ⟨1, fun _ => (zs, nz, nr, ol, mp, pl, fa, fb, 1, fZ, fO, fG, fP, fW, fK, fU, rH, rL, rB, rP, rR, rA, rW, rU, rV, rM, rT, rO, rF, rS, rE, rX, rD), 0, fun sz => liftA [0, 1, 7] (l_atX l dC dI cI cJ cZ cB hl a0 aZ aO aG aP aW aK (nI nz) (nI nr) ol mp pl fa fb fZ nz x y ou fU sz hx0) (List.Perm.refl _) rfl rfl rfl (List.Perm.refl _) ⟨by decide, by decide, by decide, by decide⟩ ⟨by decide, by decide⟩, fun _ sz => liftMi [0] (m_atX l dC dI cI cJ cZ cB m0 mH mL mB mP mR mA mW mU mV mM mT mQ mO mF mS mE mX mD th (nI nz) (nI nr) mp fa fb pl nz x y sz (Or.inl hx0)) rfl rfl rfl (fun _ _ _ h => absurd h (by decide)) ⟨by decide, by decide, by decide, by decide⟩, fun _ => rfl, fun _ h => absurd h (by decide), fun _ => hI0⟩
  · obtain ⟨k, hk, rfl⟩ := bnd_z hn hx0
    obtain ⟨j, hj, rfl⟩ := bnd_n (b := 1440) (by decide) hy0
    obtain ⟨g0, g1, O1, F1, S1, E1, X1, D1, zs1, hto, hro, hok, hLH, hJ⟩ := plan_J hI0
    obtain ⟨⟨hlen1, _⟩, _, _, _, hzz1, hlb1, _, hpn1⟩ := hJ fU th
    obtain ⟨z, hz1⟩ : ∃ z, zs1[k]? = some z := ⟨_, List.getElem?_eq_getElem (by omega)⟩
    obtain ⟨⟨za, la, wa⟩, ⟨zh, zl, zf, zp, zr, zm, zw, z9⟩, ⟨ea, eb⟩, fT⟩ := z
    obtain ⟨hz, hzb, htl, hu, hv9⟩ := hzz1 k _ hz1
    obtain ⟨hS, hE, hX, hsb⟩ := (hpn1 rfl).2 k _ hz1
    dsimp only at hz hu hv9 hS hE hX
    refine ⟨0, fun _ => (zs1, nz, nr, ol, mp, 1, fa, fb, 0, fZ, fO, g1, fP, fW, fK, vp_updL fU 0 (fT (nI j).toNatClampNeg).toInt64, rH, rL, rB, rP, rR, rA, rW, rU, rV, rM, rT, O1, F1, S1, E1, X1, D1), X1 (1441 * k + j), fun sz => liftC [0, 1, 2, 3, 7] (l_at l dC dI cI cJ cZ cB hl a0 aZ aO aG aP aW aK (nI nz) (nI nr) ol mp pl fa fb fZ fO fG g0 g1 nz k zs zs1 za la wa zh zl zf zp zr zm zw z9 ea eb fT (nI j) ou fU sz hn hok hto hk hz hz1 hy0) rfl rfl rfl (tri_fst hto) ⟨by decide, by decide, by decide, by decide⟩ ⟨by decide, by decide⟩, fun _ sz => liftMi [0, 1, 2, 3, 4, 5, 6, 7, 10, 11, 13, 14, 15, 16, 17, 18] (m_at l dC dI cI cJ cZ cB m0 mH mL mB mP mR mA mW mU mV mM mT mQ mO mF mS mE mX mD th (nI nz) (nI nr) mp fa fb pl rH rL rB rP rR rA rW rM rT rO rF rS rE rX rD O1 F1 S1 E1 X1 D1 nz nr k j sz hn hnr hLH hro hk hj) rfl rfl rfl (fun _ _ h _ => h) ⟨by decide, by decide, by decide, by decide⟩, fun _ => rfl, fun _ _ => ?_, fun _ => hJ _ _⟩
    show vp_updL fU 0 (fT (nI j).toNatClampNeg).toInt64 0 = _
    rw [uL_s, nI_clamp (by omega), hX j hj]
set_option maxHeartbeats 1000000 in
theorem j_used (l : Launch) (dC : Nat → ClassId) (dI : Nat → Nat → Nat) (cI cJ cZ cB : ClassId) (hl : l.stackTraces = false) (a0 aZ aO aG aP aW aK ou : Nat) (m0 mH mL mB mP mR mA mW mU mV mM mT mQ mO mF mS mE mX mD : Nat) (J : JS) (hI : Inv J) (y : Int32) : ∃ (k : Int32) (J1 : Nat × Nat × Nat → JS) (b : Int32), SC l dC dI cI cJ cZ cB a0 aZ aO aG aP aW aK ou y_L_used w_L_used [.ref a0, .int y, .ref ou] J k J1 ∧ (∀ u, SMi l dC dI cI cJ cZ cB m0 mH mL mB mP mR mA mW mU mV mM mT mQ mO mF mS mE mX mD y_M_used w_M_used [.ref m0, .int y] J k b (J1 u)) ∧ (∀ u, thJ (J1 u) = k) ∧ (∀ u, k = 0 → outJ (J1 u) = b.toInt64) ∧ ∀ u, Inv (J1 u) := by
  obtain ⟨zs, nz, nr, ol, mp, pl, fa, fb, th, fZ, fO, fG, fP, fW, fK, fU, rH, rL, rB, rP, rR, rA, rW, rU, rV, rM, rT, rO, rF, rS, rE, rX, rD⟩ := J
  have hI0 := hI
  obtain ⟨⟨hlen, hn, hnr, hpl⟩, ⟨hmp, hfd⟩, hpr, ⟨hob, hfo, hlast⟩, hzz, hlb, hun, hpn⟩ := hI
  by_cases hy0 : (y < 0 ∨ 1439 < y)
  · skip
    refine ⟨1, fun _ => (zs, nz, nr, ol, mp, pl, fa, fb, 1, fZ, fO, fG, fP, fW, fK, fU, rH, rL, rB, rP, rR, rA, rW, rU, rV, rM, rT, rO, rF, rS, rE, rX, rD), 0, fun sz => liftA [0, 7] (l_usedX l dC dI cI cJ cZ cB hl a0 y aZ aO aG aP aW aK (nI nz) (nI nr) ol mp pl fa fb ou fU sz hy0) (List.Perm.refl _) rfl rfl rfl (List.Perm.refl _) ⟨by decide, by decide, by decide, by decide⟩ ⟨by decide, by decide⟩, fun _ sz => liftMi [0] (m_usedX l dC dI cI cJ cZ cB m0 mH mL mB mP mR mA mW mU mV mM mT mQ mO mF mS mE mX mD th (nI nz) (nI nr) mp fa fb pl nz y sz hy0) rfl rfl rfl (fun _ _ _ h => absurd h (by decide)) ⟨by decide, by decide, by decide, by decide⟩, fun _ => rfl, fun _ h => absurd h (by decide), fun _ => hI0⟩
  · obtain ⟨j, hj, rfl⟩ := bnd_n (b := 1439) (by decide) hy0
    obtain ⟨g0, g1, O1, F1, S1, E1, X1, D1, zs1, hto, hro, hok, hLH, hJ⟩ := plan_J hI0
    obtain ⟨⟨hlen1, _⟩, _, _, _, hzz1, hlb1, _, hpn1⟩ := hJ fU th
    refine ⟨0, fun _ => (zs1, nz, nr, ol, mp, 1, fa, fb, 0, fZ, fO, g1, fP, fW, fK, vp_updL fU 0 (g1 (nI j).toNatClampNeg).toInt64, rH, rL, rB, rP, rR, rA, rW, rU, rV, rM, rT, O1, F1, S1, E1, X1, D1), mp - F1 j, fun sz => liftC [0, 1, 2, 3, 7] (l_used l dC dI cI cJ cZ cB hl a0 aZ aO aG aP aW aK (nI nz) (nI nr) ol mp pl fa fb fZ fO fG g0 g1 nz zs zs1 (nI j) ou fU sz hn hok hto hy0) rfl rfl rfl (tri_fst hto) ⟨by decide, by decide, by decide, by decide⟩ ⟨by decide, by decide⟩, fun _ sz => liftMi [0, 1, 2, 3, 4, 5, 6, 7, 10, 11, 13, 14, 15, 16, 17, 18] (m_used l dC dI cI cJ cZ cB m0 mH mL mB mP mR mA mW mU mV mM mT mQ mO mF mS mE mX mD th (nI nz) (nI nr) mp fa fb pl rH rL rB rP rR rA rW rM rT rO rF rS rE rX rD O1 F1 S1 E1 X1 D1 nz nr j sz hn hnr hLH hro (by omega)) rfl rfl rfl (fun _ _ h _ => h) ⟨by decide, by decide, by decide, by decide⟩, fun _ => rfl, fun _ _ => ?_, fun _ => hJ _ _⟩
    show vp_updL fU 0 (g1 (nI j).toNatClampNeg).toInt64 0 = _
    rw [uL_s, nI_clamp (by omega), (hpn1 rfl).1 j (by omega), sub2]
set_option maxHeartbeats 1000000 in
theorem j_cold (l : Launch) (dC : Nat → ClassId) (dI : Nat → Nat → Nat) (cI cJ cZ cB : ClassId) (hl : l.stackTraces = false) (a0 aZ aO aG aP aW aK ou : Nat) (m0 mH mL mB mP mR mA mW mU mV mM mT mQ mO mF mS mE mX mD : Nat) (J : JS) (hI : Inv J) (x : Int32) : ∃ (k : Int32) (J1 : Nat × Nat × Nat → JS) (b : Int32), SC l dC dI cI cJ cZ cB a0 aZ aO aG aP aW aK ou y_L_cold w_L_cold [.ref a0, .int x, .ref ou] J k J1 ∧ (∀ u, SMi l dC dI cI cJ cZ cB m0 mH mL mB mP mR mA mW mU mV mM mT mQ mO mF mS mE mX mD y_M_cold w_M_cold [.ref m0, .int x] J k b (J1 u)) ∧ (∀ u, thJ (J1 u) = k) ∧ (∀ u, k = 0 → outJ (J1 u) = b.toInt64) ∧ ∀ u, Inv (J1 u) := by
  obtain ⟨zs, nz, nr, ol, mp, pl, fa, fb, th, fZ, fO, fG, fP, fW, fK, fU, rH, rL, rB, rP, rR, rA, rW, rU, rV, rM, rT, rO, rF, rS, rE, rX, rD⟩ := J
  have hI0 := hI
  obtain ⟨⟨hlen, hn, hnr, hpl⟩, ⟨hmp, hfd⟩, hpr, ⟨hob, hfo, hlast⟩, hzz, hlb, hun, hpn⟩ := hI
  by_cases hx0 : (x < 0 ∨ nI nz ≤ x)
  · skip
    refine ⟨1, fun _ => (zs, nz, nr, ol, mp, pl, fa, fb, 1, fZ, fO, fG, fP, fW, fK, fU, rH, rL, rB, rP, rR, rA, rW, rU, rV, rM, rT, rO, rF, rS, rE, rX, rD), 0, fun sz => liftA [0, 1, 7] (l_coldX l dC dI cI cJ cZ cB hl a0 aZ aO aG aP aW aK (nI nz) (nI nr) ol mp pl fa fb fZ nz x ou fU sz hx0) (List.Perm.refl _) rfl rfl rfl (List.Perm.refl _) ⟨by decide, by decide, by decide, by decide⟩ ⟨by decide, by decide⟩, fun _ sz => liftMi [0] (m_coldX l dC dI cI cJ cZ cB m0 mH mL mB mP mR mA mW mU mV mM mT mQ mO mF mS mE mX mD th (nI nz) (nI nr) mp fa fb pl nz x sz hx0) rfl rfl rfl (fun _ _ _ h => absurd h (by decide)) ⟨by decide, by decide, by decide, by decide⟩, fun _ => rfl, fun _ h => absurd h (by decide), fun _ => hI0⟩
  · obtain ⟨k, hk, rfl⟩ := bnd_z hn hx0
    obtain ⟨g0, g1, O1, F1, S1, E1, X1, D1, zs1, hto, hro, hok, hLH, hJ⟩ := plan_J hI0
    obtain ⟨⟨hlen1, _⟩, _, _, _, hzz1, hlb1, _, hpn1⟩ := hJ fU th
    obtain ⟨z, hz1⟩ : ∃ z, zs1[k]? = some z := ⟨_, List.getElem?_eq_getElem (by omega)⟩
    obtain ⟨⟨za, la, wa⟩, ⟨zh, zl, zf, zp, zr, zm, zw, z9⟩, ⟨ea, eb⟩, fT⟩ := z
    obtain ⟨hz, hzb, htl, hu, hv9⟩ := hzz1 k _ hz1
    obtain ⟨hS, hE, hX, hsb⟩ := (hpn1 rfl).2 k _ hz1
    dsimp only at hz hu hv9 hS hE hX
    have hzm := hzb.2.2.2.2.2
    have hAb := htl.2.2.2.2.2.1
    have hW := htl.2.2.2.2.2.2
    dsimp only at hzm hAb hW
    have hzm9 := hzm
    rcases hzm9 with e | ⟨b, hb1, e⟩
    · rw [e] at hAb
      refine ⟨0, fun _ => (zs1, nz, nr, ol, mp, 1, fa, fb, 0, fZ, fO, g1, fP, fW, fK, vp_updL fU 0 (if zm = -1 then 0 else nI (cld fT zw zm.toNatClampNeg (1440 - zm.toNatClampNeg))).toInt64, rH, rL, rB, rP, rR, rA, rW, rU, rV, rM, rT, O1, F1, S1, E1, X1, D1), 0, fun sz => liftC [0, 1, 2, 3, 7] (l_cold l dC dI cI cJ cZ cB a0 aZ aO aG aP aW aK (nI nz) (nI nr) ol mp pl fa fb fZ fO fG g0 g1 nz k zs zs1 za la wa zh zl zf zp zr zm zw z9 ea eb fT ou fU sz hn hok hto hk hz hz1 hzm) rfl rfl rfl (tri_fst hto) ⟨by decide, by decide, by decide, by decide⟩ ⟨by decide, by decide⟩, fun _ sz => liftMi [0, 1, 2, 3, 4, 5, 6, 7, 10, 11, 13, 14, 15, 16, 17, 18] (m_cold0 l dC dI cI cJ cZ cB m0 mH mL mB mP mR mA mW mU mV mM mT mQ mO mF mS mE mX mD th (nI nz) (nI nr) mp fa fb pl rH rL rB rP rR rA rW rM rT rO rF rS rE rX rD O1 F1 S1 E1 X1 D1 nz nr k sz hn hnr hLH hro hk hAb) rfl rfl rfl (fun _ _ h _ => h) ⟨by decide, by decide, by decide, by decide⟩, fun _ => rfl, fun _ _ => ?_, fun _ => hJ _ _⟩
      show vp_updL fU 0 (if zm = -1 then 0 else nI (cld fT zw zm.toNatClampNeg (1440 - zm.toNatClampNeg))).toInt64 0 = _
      rw [uL_s, if_pos e]
    · rw [e] at hAb
      refine ⟨0, fun _ => (zs1, nz, nr, ol, mp, 1, fa, fb, 0, fZ, fO, g1, fP, fW, fK, vp_updL fU 0 (if zm = -1 then 0 else nI (cld fT zw zm.toNatClampNeg (1440 - zm.toNatClampNeg))).toInt64, rH, rL, rB, rP, rR, rA, rW, rU, rV, rM, rT, O1, F1, S1, E1, X1, D1), nI (cld (fun t => X1 (1441 * k + t)) (rW k) b (1440 - b)), fun sz => liftC [0, 1, 2, 3, 7] (l_cold l dC dI cI cJ cZ cB a0 aZ aO aG aP aW aK (nI nz) (nI nr) ol mp pl fa fb fZ fO fG g0 g1 nz k zs zs1 za la wa zh zl zf zp zr zm zw z9 ea eb fT ou fU sz hn hok hto hk hz hz1 hzm) rfl rfl rfl (tri_fst hto) ⟨by decide, by decide, by decide, by decide⟩ ⟨by decide, by decide⟩, fun _ sz => liftMi [0, 1, 2, 3, 4, 5, 6, 7, 10, 11, 13, 14, 15, 16, 17, 18] (m_cold1 l dC dI cI cJ cZ cB m0 mH mL mB mP mR mA mW mU mV mM mT mQ mO mF mS mE mX mD th (nI nz) (nI nr) mp fa fb pl rH rL rB rP rR rA rW rM rT rO rF rS rE rX rD O1 F1 S1 E1 X1 D1 nz nr k b sz hn hnr hLH hro hk hb1 hAb) rfl rfl rfl (fun _ _ h _ => h) ⟨by decide, by decide, by decide, by decide⟩, fun _ => rfl, fun _ _ => ?_, fun _ => hJ _ _⟩
      show vp_updL fU 0 (if zm = -1 then 0 else nI (cld fT zw zm.toNatClampNeg (1440 - zm.toNatClampNeg))).toInt64 0 = _
      rw [uL_s, if_neg (by rw [e]; exact nb_ne hb1), e, nI_clamp (by omega), hW, cld_c (T := fun t => X1 (1441 * k + t)) (T9 := fT) (1440 - b) (fun t ht => hX t (by omega))]
set_option maxHeartbeats 1000000 in
theorem j_taught (l : Launch) (dC : Nat → ClassId) (dI : Nat → Nat → Nat) (cI cJ cZ cB : ClassId) (hl : l.stackTraces = false) (a0 aZ aO aG aP aW aK ou : Nat) (m0 mH mL mB mP mR mA mW mU mV mM mT mQ mO mF mS mE mX mD : Nat) (J : JS) (hI : Inv J) (x : Int32) : ∃ (k : Int32) (J1 : Nat × Nat × Nat → JS) (b : Int32), SC l dC dI cI cJ cZ cB a0 aZ aO aG aP aW aK ou y_L_taught w_L_taught [.ref a0, .int x, .ref ou] J k J1 ∧ (∀ u, SMi l dC dI cI cJ cZ cB m0 mH mL mB mP mR mA mW mU mV mM mT mQ mO mF mS mE mX mD y_M_taught w_M_taught [.ref m0, .int x] J k b (J1 u)) ∧ (∀ u, thJ (J1 u) = k) ∧ (∀ u, k = 0 → outJ (J1 u) = b.toInt64) ∧ ∀ u, Inv (J1 u) := by
  obtain ⟨zs, nz, nr, ol, mp, pl, fa, fb, th, fZ, fO, fG, fP, fW, fK, fU, rH, rL, rB, rP, rR, rA, rW, rU, rV, rM, rT, rO, rF, rS, rE, rX, rD⟩ := J
  have hI0 := hI
  obtain ⟨⟨hlen, hn, hnr, hpl⟩, ⟨hmp, hfd⟩, hpr, ⟨hob, hfo, hlast⟩, hzz, hlb, hun, hpn⟩ := hI
  by_cases hx0 : (x < 0 ∨ nI nz ≤ x)
  · skip
    refine ⟨1, fun _ => (zs, nz, nr, ol, mp, pl, fa, fb, 1, fZ, fO, fG, fP, fW, fK, fU, rH, rL, rB, rP, rR, rA, rW, rU, rV, rM, rT, rO, rF, rS, rE, rX, rD), 0, fun sz => liftA [0, 1, 7] (l_taughtX l dC dI cI cJ cZ cB hl a0 aZ aO aG aP aW aK (nI nz) (nI nr) ol mp pl fa fb fZ nz x ou fU sz hx0) (List.Perm.refl _) rfl rfl rfl (List.Perm.refl _) ⟨by decide, by decide, by decide, by decide⟩ ⟨by decide, by decide⟩, fun _ sz => liftMi [0] (m_taughtX l dC dI cI cJ cZ cB m0 mH mL mB mP mR mA mW mU mV mM mT mQ mO mF mS mE mX mD th (nI nz) (nI nr) mp fa fb pl nz x sz hx0) rfl rfl rfl (fun _ _ _ h => absurd h (by decide)) ⟨by decide, by decide, by decide, by decide⟩, fun _ => rfl, fun _ h => absurd h (by decide), fun _ => hI0⟩
  · obtain ⟨k, hk, rfl⟩ := bnd_z hn hx0
    obtain ⟨g0, g1, O1, F1, S1, E1, X1, D1, zs1, hto, hro, hok, hLH, hJ⟩ := plan_J hI0
    obtain ⟨⟨hlen1, _⟩, _, _, _, hzz1, hlb1, _, hpn1⟩ := hJ fU th
    obtain ⟨z, hz1⟩ : ∃ z, zs1[k]? = some z := ⟨_, List.getElem?_eq_getElem (by omega)⟩
    obtain ⟨⟨za, la, wa⟩, ⟨zh, zl, zf, zp, zr, zm, zw, z9⟩, ⟨ea, eb⟩, fT⟩ := z
    obtain ⟨hz, hzb, htl, hu, hv9⟩ := hzz1 k _ hz1
    obtain ⟨hS, hE, hX, hsb⟩ := (hpn1 rfl).2 k _ hz1
    dsimp only at hz hu hv9 hS hE hX
    have hzm := hzb.2.2.2.2.2
    dsimp only at hzm
    have hL := hlb1 k hk
    have hV : ¬ rV k = 0 := by
      intro q
      have := hL.1.1
      rw [q] at this
      exact absurd this (by decide)
    have hne : ¬ eb = 0 := by rw [← hv9]; exact hV
    rw [hu, hv9] at hL
    refine ⟨0, fun _ => (zs1, nz, nr, ol, mp, 1, fa, fb, 0, fZ, fO, g1, fP, fW, fK, vp_updL fU 0 (if zm = -1 then -1 else (if 0 < (if 1439 < (z9 - (ea / eb).toInt32) then 1439 else (z9 - (ea / eb).toInt32)) then (if 1439 < (z9 - (ea / eb).toInt32) then 1439 else (z9 - (ea / eb).toInt32)) else 0)).toInt64, rH, rL, rB, rP, rR, rA, rW, rU, rV, rM, rT, O1, F1, S1, E1, X1, D1), (if S1 k = -1 then -1 else if ((S1 k).toInt64 - rU k / rV k) < 0 then 0 else if 1439 < ((S1 k).toInt64 - rU k / rV k) then 1439 else ((S1 k).toInt64 - rU k / rV k).toInt32), fun sz => liftC [0, 1, 2, 3, 7] (l_taught l dC dI cI cJ cZ cB a0 aZ aO aG aP aW aK (nI nz) (nI nr) ol mp pl fa fb fZ fO fG g0 g1 nz k zs zs1 za la wa zh zl zf zp zr zm zw z9 ea eb fT ou fU sz hn hok hto hk hz hz1 hzm hne) rfl rfl rfl (tri_fst hto) ⟨by decide, by decide, by decide, by decide⟩ ⟨by decide, by decide⟩, fun _ sz => liftMi [0, 1, 2, 3, 4, 5, 6, 7, 10, 11, 13, 14, 15, 16, 17, 18, 8, 9] (m_taught l dC dI cI cJ cZ cB m0 mH mL mB mP mR mA mW mU mV mM mT mQ mO mF mS mE mX mD th (nI nz) (nI nr) mp fa fb pl rH rL rB rP rR rA rW rM rT rO rF rS rE rX rD O1 F1 S1 E1 X1 D1 nz nr rU rV k sz hn hnr hLH hro hk hV) rfl rfl rfl (fun _ _ h _ => h) ⟨by decide, by decide, by decide, by decide⟩, fun _ => rfl, fun _ _ => ?_, fun _ => hJ _ _⟩
    show vp_updL fU 0 (if zm = -1 then -1 else (if 0 < (if 1439 < (z9 - (ea / eb).toInt32) then 1439 else (z9 - (ea / eb).toInt32)) then (if 1439 < (z9 - (ea / eb).toInt32) then 1439 else (z9 - (ea / eb).toInt32)) else 0)).toInt64 0 = _
    rw [uL_s, hS, hu, hv9]
    rcases hsb with ⟨e1, e2⟩ | ⟨b, s, hb1, e1, hs9, e2⟩
    · dsimp only at e1 e2
      rw [if_pos e1, if_pos e2]
    · dsimp only at e1 e2
      rw [if_neg (by rw [e1]; exact nb_ne hb1), if_neg (by rw [e2]; exact nb_ne (by omega)), e2, tau_eq (by omega) hL]
set_option maxHeartbeats 1000000 in
theorem j_cheapest (l : Launch) (dC : Nat → ClassId) (dI : Nat → Nat → Nat) (cI cJ cZ cB : ClassId) (hl : l.stackTraces = false) (a0 aZ aO aG aP aW aK ou : Nat) (m0 mH mL mB mP mR mA mW mU mV mM mT mQ mO mF mS mE mX mD : Nat) (J : JS) (hI : Inv J) (x y w : Int32) : ∃ (k : Int32) (J1 : Nat × Nat × Nat → JS) (b : Int32), SC l dC dI cI cJ cZ cB a0 aZ aO aG aP aW aK ou y_L_cheapest w_L_cheapest [.ref a0, .int x, .int y, .int w, .ref ou] J k J1 ∧ (∀ u, SMi l dC dI cI cJ cZ cB m0 mH mL mB mP mR mA mW mU mV mM mT mQ mO mF mS mE mX mD y_M_cheapest w_M_cheapest [.ref m0, .int x, .int y, .int w] J k b (J1 u)) ∧ (∀ u, thJ (J1 u) = k) ∧ (∀ u, k = 0 → outJ (J1 u) = b.toInt64) ∧ ∀ u, Inv (J1 u) := by
  obtain ⟨zs, nz, nr, ol, mp, pl, fa, fb, th, fZ, fO, fG, fP, fW, fK, fU, rH, rL, rB, rP, rR, rA, rW, rU, rV, rM, rT, rO, rF, rS, rE, rX, rD⟩ := J
  have hI0 := hI
  obtain ⟨⟨hlen, hn, hnr, hpl⟩, ⟨hmp, hfd⟩, hpr, ⟨hob, hfo, hlast⟩, hzz, hlb, hun, hpn⟩ := hI
  by_cases hx0 : (x < 0 ∨ nI nz ≤ x)
  · skip
    refine ⟨1, fun _ => (zs, nz, nr, ol, mp, pl, fa, fb, 1, fZ, fO, fG, fP, fW, fK, fU, rH, rL, rB, rP, rR, rA, rW, rU, rV, rM, rT, rO, rF, rS, rE, rX, rD), 0, fun sz => liftA [0, 1, 7] (l_cheapestX l dC dI cI cJ cZ cB hl a0 aZ aO aG aP aW aK (nI nz) (nI nr) ol mp pl fa fb fZ nz x y w ou fU sz hx0) (List.Perm.refl _) rfl rfl rfl (List.Perm.refl _) ⟨by decide, by decide, by decide, by decide⟩ ⟨by decide, by decide⟩, fun _ sz => liftMi [0] (m_cheapestX l dC dI cI cJ cZ cB m0 mH mL mB mP mR mA mW mU mV mM mT mQ mO mF mS mE mX mD th (nI nz) (nI nr) mp fa fb pl nz x y w sz (Or.inl hx0)) rfl rfl rfl (fun _ _ _ h => absurd h (by decide)) ⟨by decide, by decide, by decide, by decide⟩, fun _ => rfl, fun _ h => absurd h (by decide), fun _ => hI0⟩
  · skip
    obtain ⟨k, hk, rfl⟩ := bnd_z hn hx0
    obtain ⟨l1, z, l2, rfl, hl1⟩ := get_len hlen hk
    subst hl1
    obtain ⟨⟨za, la, wa⟩, ⟨zh, zl, zf, zp, zr, zm, zw, z9⟩, ⟨ea, eb⟩, fT⟩ := z
    have hzk := hzz l1.length _ split_get
    obtain ⟨hz, hzb, htl, hu, hv9⟩ := hzk
    have hzm := hzb.2.2.2.2.2
    have hAb := htl.2.2.2.2.2.1
    have hW := htl.2.2.2.2.2.2
    have e1 := htl.1
    have e2 := htl.2.1
    have e3 := htl.2.2.1
    have e4 := htl.2.2.2.1
    have hzl := (zb_ok hzb).2.1
    have hzh := (zb_ok hzb).1
    have hzp := hzb.2.2.2.1
    obtain ⟨hrL, hrH⟩ := told_hl hzb htl
    dsimp only at hz hzm hAb hW e1 e2 e3 e4 hzl hzh hzp
    by_cases hq0 : ((y < 1 ∨ 10 < y) ∨ (w < 1 ∨ 30 < w))
    · skip
      refine ⟨1, fun _ => ((l1 ++ ((za, la, wa), (zh, zl, zf, zp, zr, zm, zw, z9), (ea, eb), fT) :: l2), nz, nr, ol, mp, pl, fa, fb, 1, fZ, fO, fG, fP, fW, fK, fU, rH, rL, rB, rP, rR, rA, rW, rU, rV, rM, rT, rO, rF, rS, rE, rX, rD), 0, fun sz => liftA [0, 1, 8, 7] (l_cheapestY l dC dI cI cJ cZ cB hl a0 aZ aO aG aP aW aK (nI nz) (nI nr) ol mp pl fa fb fZ za la wa zh zl zf zp zr zm zw z9 nz l1.length y w ou fU sz hk hn hz (Or.inl hq0) hq0) (foc_perm cI _ l1 l2 _) rfl rfl rfl (foc_perm cI (xC cI cJ cZ a0 aZ aO aG aP aW aK ou ((l1 ++ ((za, la, wa), (zh, zl, zf, zp, zr, zm, zw, z9), (ea, eb), fT) :: l2), nz, nr, ol, mp, pl, fa, fb, th, fZ, fO, fG, fP, fW, fK, fU, rH, rL, rB, rP, rR, rA, rW, rU, rV, rM, rT, rO, rF, rS, rE, rX, rD)) l1 l2 ((za, la, wa), (zh, zl, zf, zp, zr, zm, zw, z9), (ea, eb), fT)).symm ⟨by decide, by decide, by decide, by decide⟩ ⟨by decide, by decide⟩, fun _ sz => liftMi [0] (m_cheapestX l dC dI cI cJ cZ cB m0 mH mL mB mP mR mA mW mU mV mM mT mQ mO mF mS mE mX mD th (nI nz) (nI nr) mp fa fb pl nz (nI l1.length) y w sz (Or.inr hq0)) rfl rfl rfl (fun _ _ _ h => absurd h (by decide)) ⟨by decide, by decide, by decide, by decide⟩, fun _ => rfl, fun _ h => absurd h (by decide), fun _ => hI0⟩
    · rcases hzm with e | ⟨b, hb1, e⟩
      · subst e
        refine ⟨2, fun _ => ((l1 ++ ((za, la, wa), (zh, zl, zf, zp, zr, -1, zw, z9), (ea, eb), fT) :: l2), nz, nr, ol, mp, pl, fa, fb, 2, fZ, fO, fG, fP, fW, fK, fU, rH, rL, rB, rP, rR, rA, rW, rU, rV, rM, rT, rO, rF, rS, rE, rX, rD), 0, fun sz => liftA [0, 1, 8, 7] (l_cheapestZ l dC dI cI cJ cZ cB hl a0 aZ aO aG aP aW aK (nI nz) (nI nr) ol mp pl fa fb fZ za la wa zh zl zf zp zr (-1) zw z9 nz l1.length y w ou fU sz hk hn hz (Or.inr rfl) hq0) (foc_perm cI _ l1 l2 _) rfl rfl rfl (foc_perm cI (xC cI cJ cZ a0 aZ aO aG aP aW aK ou ((l1 ++ ((za, la, wa), (zh, zl, zf, zp, zr, -1, zw, z9), (ea, eb), fT) :: l2), nz, nr, ol, mp, pl, fa, fb, th, fZ, fO, fG, fP, fW, fK, fU, rH, rL, rB, rP, rR, rA, rW, rU, rV, rM, rT, rO, rF, rS, rE, rX, rD)) l1 l2 ((za, la, wa), (zh, zl, zf, zp, zr, -1, zw, z9), (ea, eb), fT)).symm ⟨by decide, by decide, by decide, by decide⟩ ⟨by decide, by decide⟩, fun _ sz => liftMi [0, 6] (m_cheapestY l dC dI cI cJ cZ cB m0 mH mL mB mP mR mA mW mU mV mM mT mQ mO mF mS mE mX mD th (nI nz) (nI nr) mp fa fb pl rA nz l1.length y w sz hk hn hq0 hAb) rfl rfl rfl (fun _ _ _ h => absurd h (by decide)) ⟨by decide, by decide, by decide, by decide⟩, fun _ => rfl, fun _ h => absurd h (by decide), fun _ => hI0⟩
      · subst e
        obtain ⟨nn, hn1, hnn, rfl⟩ := bnd_1 (b := 10) (by decide) (fun q => hq0 (Or.inl q))
        obtain ⟨mm, hm1, hmm, rfl⟩ := bnd_1 (b := 30) (by decide) (fun q => hq0 (Or.inr q))
        obtain ⟨O1, ho⟩ : ∃ O1, foA rO rM rT nr 1440 = O1 := ⟨_, rfl⟩
        have ho9 : ∀ t, t < 1440 → O1 t = fO t := fun t ht => by rw [← ho, foA_in 1440 t ht]; exact hfo t ht
        refine ⟨0, fun _ => ((l1 ++ ((za, la, wa), (zh, zl, zf, zp, zr, nI b, zw, z9), (ea, eb), fT) :: l2), nz, nr, ol, mp, pl, fa, fb, 0, fZ, fO, fG, fP, (wsO fO fP zl zh zp zf b nn mm fW fK nn).1, (wsO fO fP zl zh zp zf b nn mm fW fK nn).2, vp_updL fU 0 (bst (wsO fO fP zl zh zp zf b nn mm fW fK nn).1 (wsO fO fP zl zh zp zf b nn mm fW fK nn).2 zw (2 ^ nn)).toInt64, rH, rL, rB, rP, rR, rA, rW, rU, rV, rM, rT, O1, rF, rS, rE, rX, rD), (rb (fun j => if rW l1.length ≤ (rk O1 fP (rL l1.length) (rH l1.length) (rP l1.length) (rB l1.length) b (nn * mm) mm j b).1 then (rk O1 fP (rL l1.length) (rH l1.length) (rP l1.length) (rB l1.length) b (nn * mm) mm j b).2 else -1) (2 ^ nn)).1, fun sz => liftA [0, 1, 2, 4, 5, 6, 8, 7] (l_cheapest l dC dI cI cJ cZ cB hl a0 aZ aO aG aP aW aK (nI nz) (nI nr) ol mp pl fa fb fZ fO fP fW fK za la wa zh zl zf zp zr (nI b) zw z9 nz l1.length b nn mm ou fU sz hk hn hz hb1 hn1 hnn hm1 hmm hzl hzh) (foc_perm cI _ l1 l2 _) rfl rfl rfl (foc_perm cI (xC cI cJ cZ a0 aZ aO aG aP aW aK ou ((l1 ++ ((za, la, wa), (zh, zl, zf, zp, zr, nI b, zw, z9), (ea, eb), fT) :: l2), nz, nr, ol, mp, pl, fa, fb, 0, fZ, fO, fG, fP, (wsO fO fP zl zh zp zf b nn mm fW fK nn).1, (wsO fO fP zl zh zp zf b nn mm fW fK nn).2, vp_updL fU 0 (bst (wsO fO fP zl zh zp zf b nn mm fW fK nn).1 (wsO fO fP zl zh zp zf b nn mm fW fK nn).2 zw (2 ^ nn)).toInt64, rH, rL, rB, rP, rR, rA, rW, rU, rV, rM, rT, O1, rF, rS, rE, rX, rD)) l1 l2 ((za, la, wa), (zh, zl, zf, zp, zr, nI b, zw, z9), (ea, eb), fT)).symm ⟨by decide, by decide, by decide, by decide⟩ ⟨by decide, by decide⟩, fun _ sz => liftMi [0, 1, 2, 3, 4, 6, 7, 10, 11, 12, 13] (m_cheapest l dC dI cI cJ cZ cB m0 mH mL mB mP mR mA mW mU mV mM mT mQ mO mF mS mE mX mD th (nI nz) (nI nr) mp fa fb pl rH rL rB rP rA rW rM rT fP rO O1 nz nr l1.length b nn mm sz hk hn hnr ho hb1 hn1 hnn hm1 hmm hrL hrH hAb) rfl rfl rfl (fun _ _ h _ => h) ⟨by decide, by decide, by decide, by decide⟩, fun _ => rfl, fun _ _ => ?_, fun _ => hI0⟩
        show vp_updL fU 0 (bst (wsO fO fP zl zh zp zf b nn mm fW fK nn).1 (wsO fO fP zl zh zp zf b nn mm fW fK nn).2 zw (2 ^ nn)).toInt64 0 = _
        rw [uL_s, cheap_eq ho9 hb1 hnn hzp hpr, e1, e2, e3, e4, hW]
set_option maxHeartbeats 1000000 in
theorem j_costs (l : Launch) (dC : Nat → ClassId) (dI : Nat → Nat → Nat) (cI cJ cZ cB : ClassId) (hl : l.stackTraces = false) (a0 aZ aO aG aP aW aK ou : Nat) (m0 mH mL mB mP mR mA mW mU mV mM mT mQ mO mF mS mE mX mD : Nat) (J : JS) (hI : Inv J) (x y w sx : Int32) : ∃ (k : Int32) (J1 : Nat × Nat × Nat → JS) (b : Int64), SC l dC dI cI cJ cZ cB a0 aZ aO aG aP aW aK ou y_L_costs w_L_costs [.ref a0, .int x, .int y, .int w, .int sx, .ref ou] J k J1 ∧ (∀ u, SMl l dC dI cI cJ cZ cB m0 mH mL mB mP mR mA mW mU mV mM mT mQ mO mF mS mE mX mD y_M_costs w_M_costs [.ref m0, .int x, .int y, .int w, .int sx] J k b (J1 u)) ∧ (∀ u, thJ (J1 u) = k) ∧ (∀ u, k = 0 → outJ (J1 u) = b) ∧ ∀ u, Inv (J1 u) := by
  obtain ⟨zs, nz, nr, ol, mp, pl, fa, fb, th, fZ, fO, fG, fP, fW, fK, fU, rH, rL, rB, rP, rR, rA, rW, rU, rV, rM, rT, rO, rF, rS, rE, rX, rD⟩ := J
  have hI0 := hI
  obtain ⟨⟨hlen, hn, hnr, hpl⟩, ⟨hmp, hfd⟩, hpr, ⟨hob, hfo, hlast⟩, hzz, hlb, hun, hpn⟩ := hI
  by_cases hx0 : (x < 0 ∨ nI nz ≤ x)
  · skip
    refine ⟨1, fun _ => (zs, nz, nr, ol, mp, pl, fa, fb, 1, fZ, fO, fG, fP, fW, fK, fU, rH, rL, rB, rP, rR, rA, rW, rU, rV, rM, rT, rO, rF, rS, rE, rX, rD), 0, fun sz => liftA [0, 1, 7] (l_costsX l dC dI cI cJ cZ cB hl a0 aZ aO aG aP aW aK (nI nz) (nI nr) ol mp pl fa fb fZ nz x y w sx ou fU sz hx0) (List.Perm.refl _) rfl rfl rfl (List.Perm.refl _) ⟨by decide, by decide, by decide, by decide⟩ ⟨by decide, by decide⟩, fun _ sz => liftMl [0] (m_costsX l dC dI cI cJ cZ cB m0 mH mL mB mP mR mA mW mU mV mM mT mQ mO mF mS mE mX mD th (nI nz) (nI nr) mp fa fb pl nz x y w sx sz (Or.inl hx0)) rfl rfl rfl (fun _ _ _ h => absurd h (by decide)) ⟨by decide, by decide, by decide, by decide⟩, fun _ => rfl, fun _ h => absurd h (by decide), fun _ => hI0⟩
  · skip
    obtain ⟨k, hk, rfl⟩ := bnd_z hn hx0
    obtain ⟨l1, z, l2, rfl, hl1⟩ := get_len hlen hk
    subst hl1
    obtain ⟨⟨za, la, wa⟩, ⟨zh, zl, zf, zp, zr, zm, zw, z9⟩, ⟨ea, eb⟩, fT⟩ := z
    have hzk := hzz l1.length _ split_get
    obtain ⟨hz, hzb, htl, hu, hv9⟩ := hzk
    have hzm := hzb.2.2.2.2.2
    have hAb := htl.2.2.2.2.2.1
    have hW := htl.2.2.2.2.2.2
    have e1 := htl.1
    have e2 := htl.2.1
    have e3 := htl.2.2.1
    have e4 := htl.2.2.2.1
    have hzl := (zb_ok hzb).2.1
    have hzh := (zb_ok hzb).1
    have hzp := hzb.2.2.2.1
    obtain ⟨hrL, hrH⟩ := told_hl hzb htl
    dsimp only at hz hzm hAb hW e1 e2 e3 e4 hzl hzh hzp
    by_cases hq0 : ((y < 1 ∨ 10 < y) ∨ (w < 1 ∨ 30 < w))
    · skip
      refine ⟨1, fun _ => ((l1 ++ ((za, la, wa), (zh, zl, zf, zp, zr, zm, zw, z9), (ea, eb), fT) :: l2), nz, nr, ol, mp, pl, fa, fb, 1, fZ, fO, fG, fP, fW, fK, fU, rH, rL, rB, rP, rR, rA, rW, rU, rV, rM, rT, rO, rF, rS, rE, rX, rD), 0, fun sz => liftA [0, 1, 8, 7] (l_costsY l dC dI cI cJ cZ cB hl a0 aZ aO aG aP aW aK (nI nz) (nI nr) ol mp pl fa fb fZ za la wa zh zl zf zp zr zm zw z9 nz l1.length y w sx ou fU sz hk hn hz (Or.inl (Or.inl hq0)) (Or.inl hq0)) (foc_perm cI _ l1 l2 _) rfl rfl rfl (foc_perm cI (xC cI cJ cZ a0 aZ aO aG aP aW aK ou ((l1 ++ ((za, la, wa), (zh, zl, zf, zp, zr, zm, zw, z9), (ea, eb), fT) :: l2), nz, nr, ol, mp, pl, fa, fb, th, fZ, fO, fG, fP, fW, fK, fU, rH, rL, rB, rP, rR, rA, rW, rU, rV, rM, rT, rO, rF, rS, rE, rX, rD)) l1 l2 ((za, la, wa), (zh, zl, zf, zp, zr, zm, zw, z9), (ea, eb), fT)).symm ⟨by decide, by decide, by decide, by decide⟩ ⟨by decide, by decide⟩, fun _ sz => liftMl [0] (m_costsX l dC dI cI cJ cZ cB m0 mH mL mB mP mR mA mW mU mV mM mT mQ mO mF mS mE mX mD th (nI nz) (nI nr) mp fa fb pl nz (nI l1.length) y w sx sz (Or.inr hq0)) rfl rfl rfl (fun _ _ _ h => absurd h (by decide)) ⟨by decide, by decide, by decide, by decide⟩, fun _ => rfl, fun _ h => absurd h (by decide), fun _ => hI0⟩
    · by_cases hs0 : sx < 0
      · skip
        refine ⟨1, fun _ => ((l1 ++ ((za, la, wa), (zh, zl, zf, zp, zr, zm, zw, z9), (ea, eb), fT) :: l2), nz, nr, ol, mp, pl, fa, fb, 1, fZ, fO, fG, fP, fW, fK, fU, rH, rL, rB, rP, rR, rA, rW, rU, rV, rM, rT, rO, rF, rS, rE, rX, rD), 0, fun sz => liftA [0, 1, 8, 7] (l_costsY l dC dI cI cJ cZ cB hl a0 aZ aO aG aP aW aK (nI nz) (nI nr) ol mp pl fa fb fZ za la wa zh zl zf zp zr zm zw z9 nz l1.length y w sx ou fU sz hk hn hz (Or.inl (Or.inr (Or.inl hs0))) (Or.inr (Or.inl hs0))) (foc_perm cI _ l1 l2 _) rfl rfl rfl (foc_perm cI (xC cI cJ cZ a0 aZ aO aG aP aW aK ou ((l1 ++ ((za, la, wa), (zh, zl, zf, zp, zr, zm, zw, z9), (ea, eb), fT) :: l2), nz, nr, ol, mp, pl, fa, fb, th, fZ, fO, fG, fP, fW, fK, fU, rH, rL, rB, rP, rR, rA, rW, rU, rV, rM, rT, rO, rF, rS, rE, rX, rD)) l1 l2 ((za, la, wa), (zh, zl, zf, zp, zr, zm, zw, z9), (ea, eb), fT)).symm ⟨by decide, by decide, by decide, by decide⟩ ⟨by decide, by decide⟩, fun _ sz => liftMl [0] (m_costsX2 l dC dI cI cJ cZ cB m0 mH mL mB mP mR mA mW mU mV mM mT mQ mO mF mS mE mX mD th (nI nz) (nI nr) mp fa fb pl nz l1.length y w sx sz hk hn hq0 hs0) rfl rfl rfl (fun _ _ _ h => absurd h (by decide)) ⟨by decide, by decide, by decide, by decide⟩, fun _ => rfl, fun _ h => absurd h (by decide), fun _ => hI0⟩
      · obtain ⟨nn, hn1, hnn, rfl⟩ := bnd_1 (b := 10) (by decide) (fun q => hq0 (Or.inl q))
        obtain ⟨mm, hm1, hmm, rfl⟩ := bnd_1 (b := 30) (by decide) (fun q => hq0 (Or.inr q))
        obtain ⟨S, hS31, rfl⟩ := nI_of hs0
        have hp2 := p2_le hnn
        have hp1 : 1 ≤ 2 ^ nn := Nat.one_le_two_pow
        have hsh : ((1 : Int32) <<< (nI nn &&& 31) - 1 < nI S) ↔ 2 ^ nn ≤ S := by
          have h1 : (1 : Int32).toInt = 1 := rfl
          rw [shl1 hnn, Int32.lt_iff_toInt_lt, Int32.toInt_sub, nI_toInt (by omega), nI_toInt (by omega), h1, bm32 (by omega) (by omega)]
          omega
        by_cases hSb : 2 ^ nn ≤ S
        · have hw9 := hsh.mpr hSb
          refine ⟨1, fun _ => ((l1 ++ ((za, la, wa), (zh, zl, zf, zp, zr, zm, zw, z9), (ea, eb), fT) :: l2), nz, nr, ol, mp, pl, fa, fb, 1, fZ, fO, fG, fP, fW, fK, fU, rH, rL, rB, rP, rR, rA, rW, rU, rV, rM, rT, rO, rF, rS, rE, rX, rD), 0, fun sz => liftA [0, 1, 8, 7] (l_costsY l dC dI cI cJ cZ cB hl a0 aZ aO aG aP aW aK (nI nz) (nI nr) ol mp pl fa fb fZ za la wa zh zl zf zp zr zm zw z9 nz l1.length (nI nn) (nI mm) (nI S) ou fU sz hk hn hz (Or.inl (Or.inr (Or.inr hw9))) (Or.inr (Or.inr hw9))) (foc_perm cI _ l1 l2 _) rfl rfl rfl (foc_perm cI (xC cI cJ cZ a0 aZ aO aG aP aW aK ou ((l1 ++ ((za, la, wa), (zh, zl, zf, zp, zr, zm, zw, z9), (ea, eb), fT) :: l2), nz, nr, ol, mp, pl, fa, fb, th, fZ, fO, fG, fP, fW, fK, fU, rH, rL, rB, rP, rR, rA, rW, rU, rV, rM, rT, rO, rF, rS, rE, rX, rD)) l1 l2 ((za, la, wa), (zh, zl, zf, zp, zr, zm, zw, z9), (ea, eb), fT)).symm ⟨by decide, by decide, by decide, by decide⟩ ⟨by decide, by decide⟩, fun _ sz => liftMl [0] (m_costsX3 l dC dI cI cJ cZ cB m0 mH mL mB mP mR mA mW mU mV mM mT mQ mO mF mS mE mX mD th (nI nz) (nI nr) mp fa fb pl nz l1.length nn mm S sz hk hn hn1 hnn hm1 hmm hS31 hSb) rfl rfl rfl (fun _ _ _ h => absurd h (by decide)) ⟨by decide, by decide, by decide, by decide⟩, fun _ => rfl, fun _ h => absurd h (by decide), fun _ => hI0⟩
        · have hS2 : S < 2 ^ nn := by omega
          rcases hzm with e | ⟨b, hb1, e⟩
          · subst e
            have hq9 : ¬ (((nI nn < 1 ∨ 10 < nI nn) ∨ (nI mm < 1 ∨ 30 < nI mm)) ∨ (nI S < 0 ∨ (1 <<< (nI nn &&& 31)) - 1 < nI S)) := fun q => q.elim hq0 (fun q => q.elim hs0 (fun q => hSb (hsh.mp q)))
            refine ⟨2, fun _ => ((l1 ++ ((za, la, wa), (zh, zl, zf, zp, zr, -1, zw, z9), (ea, eb), fT) :: l2), nz, nr, ol, mp, pl, fa, fb, 2, fZ, fO, fG, fP, fW, fK, fU, rH, rL, rB, rP, rR, rA, rW, rU, rV, rM, rT, rO, rF, rS, rE, rX, rD), 0, fun sz => liftA [0, 1, 8, 7] (l_costsZ l dC dI cI cJ cZ cB hl a0 aZ aO aG aP aW aK (nI nz) (nI nr) ol mp pl fa fb fZ za la wa zh zl zf zp zr (-1) zw z9 nz l1.length (nI nn) (nI mm) (nI S) ou fU sz hk hn hz (Or.inr rfl) hq9) (foc_perm cI _ l1 l2 _) rfl rfl rfl (foc_perm cI (xC cI cJ cZ a0 aZ aO aG aP aW aK ou ((l1 ++ ((za, la, wa), (zh, zl, zf, zp, zr, -1, zw, z9), (ea, eb), fT) :: l2), nz, nr, ol, mp, pl, fa, fb, th, fZ, fO, fG, fP, fW, fK, fU, rH, rL, rB, rP, rR, rA, rW, rU, rV, rM, rT, rO, rF, rS, rE, rX, rD)) l1 l2 ((za, la, wa), (zh, zl, zf, zp, zr, -1, zw, z9), (ea, eb), fT)).symm ⟨by decide, by decide, by decide, by decide⟩ ⟨by decide, by decide⟩, fun _ sz => liftMl [0, 6] (m_costsY l dC dI cI cJ cZ cB m0 mH mL mB mP mR mA mW mU mV mM mT mQ mO mF mS mE mX mD th (nI nz) (nI nr) mp fa fb pl rA nz l1.length nn mm S sz hk hn hn1 hnn hm1 hmm hS2 hAb) rfl rfl rfl (fun _ _ _ h => absurd h (by decide)) ⟨by decide, by decide, by decide, by decide⟩, fun _ => rfl, fun _ h => absurd h (by decide), fun _ => hI0⟩
          · subst e
            obtain ⟨O1, ho⟩ : ∃ O1, foA rO rM rT nr 1440 = O1 := ⟨_, rfl⟩
            have ho9 : ∀ t, t < 1440 → O1 t = fO t := fun t ht => by rw [← ho, foA_in 1440 t ht]; exact hfo t ht
            refine ⟨0, fun _ => ((l1 ++ ((za, la, wa), (zh, zl, zf, zp, zr, nI b, zw, z9), (ea, eb), fT) :: l2), nz, nr, ol, mp, pl, fa, fb, 0, fZ, fO, fG, fP, fW, fK, vp_updL fU 0 (if zw ≤ (cso fO fP zl zh zp zf b nn mm S nn).1 then (cso fO fP zl zh zp zf b nn mm S nn).2 else -1), rH, rL, rB, rP, rR, rA, rW, rU, rV, rM, rT, O1, rF, rS, rE, rX, rD), (if rW l1.length ≤ (rk O1 fP (rL l1.length) (rH l1.length) (rP l1.length) (rB l1.length) b (nn * mm) mm S b).1 then (rk O1 fP (rL l1.length) (rH l1.length) (rP l1.length) (rB l1.length) b (nn * mm) mm S b).2 else -1), fun sz => liftA [0, 1, 2, 4, 8, 7] (l_costs l dC dI cI cJ cZ cB hl a0 aZ aO aG aP aW aK (nI nz) (nI nr) ol mp pl fa fb fZ fO fP za la wa zh zl zf zp zr (nI b) zw z9 nz l1.length b nn mm S ou fU sz hk hn hz hb1 hn1 hnn hm1 hmm hzl hzh hS2) (foc_perm cI _ l1 l2 _) rfl rfl rfl (foc_perm cI (xC cI cJ cZ a0 aZ aO aG aP aW aK ou ((l1 ++ ((za, la, wa), (zh, zl, zf, zp, zr, nI b, zw, z9), (ea, eb), fT) :: l2), nz, nr, ol, mp, pl, fa, fb, 0, fZ, fO, fG, fP, fW, fK, vp_updL fU 0 (if zw ≤ (cso fO fP zl zh zp zf b nn mm S nn).1 then (cso fO fP zl zh zp zf b nn mm S nn).2 else -1), rH, rL, rB, rP, rR, rA, rW, rU, rV, rM, rT, O1, rF, rS, rE, rX, rD)) l1 l2 ((za, la, wa), (zh, zl, zf, zp, zr, nI b, zw, z9), (ea, eb), fT)).symm ⟨by decide, by decide, by decide, by decide⟩ ⟨by decide, by decide⟩, fun _ sz => liftMl [0, 1, 2, 3, 4, 6, 7, 10, 11, 12, 13] (m_costs l dC dI cI cJ cZ cB m0 mH mL mB mP mR mA mW mU mV mM mT mQ mO mF mS mE mX mD th (nI nz) (nI nr) mp fa fb pl rH rL rB rP rA rW rM rT fP rO O1 nz nr l1.length b nn mm S sz hk hn hnr ho hb1 hn1 hnn hm1 hmm hrL hrH hAb hS2) rfl rfl rfl (fun _ _ h _ => h) ⟨by decide, by decide, by decide, by decide⟩, fun _ => rfl, fun _ _ => ?_, fun _ => hI0⟩
            show vp_updL fU 0 (if zw ≤ (cso fO fP zl zh zp zf b nn mm S nn).1 then (cso fO fP zl zh zp zf b nn mm S nn).2 else -1) 0 = _
            rw [uL_s, e1, e2, e3, e4, hW, cso_rk ho9 hb1]
