set_option maxHeartbeats 1000000 in
theorem j_start (l : Launch) (dC : Nat → ClassId) (dI : Nat → Nat → Nat) (cI cJ cZ cB : ClassId) (hl : l.stackTraces = false) (a0 aZ aO aG aP aW aK ou : Nat) (m0 mH mL mB mP mR mA mW mU mV mM mT mQ mO mF mS mE mX mD : Nat) (J : JS) (hI : Inv J) (x : Int32) : ∃ (k : Int32) (J1 : Nat × Nat × Nat → JS) (b : Int32), SC l dC dI cI cJ cZ cB a0 aZ aO aG aP aW aK ou y_L_start w_L_start [.ref a0, .int x, .ref ou] J k J1 ∧ (∀ u, SMi l dC dI cI cJ cZ cB m0 mH mL mB mP mR mA mW mU mV mM mT mQ mO mF mS mE mX mD y_M_start w_M_start [.ref m0, .int x] J k b (J1 u)) ∧ (∀ u, thJ (J1 u) = k) ∧ (∀ u, k = 0 → outJ (J1 u) = b.toInt64) ∧ ∀ u, Inv (J1 u) := by
  obtain ⟨zs, nz, nr, ol, mp, pl, fa, fb, th, fZ, fO, fG, fP, fW, fK, fU, rH, rL, rB, rP, rR, rA, rW, rU, rV, rM, rT, rO, rF, rS, rE, rX, rD⟩ := J
  have hI0 := hI
  obtain ⟨⟨hlen, hn, hnr, hpl⟩, ⟨hmp, hfd⟩, hpr, ⟨hob, hfo, hlast⟩, hzz, hlb, hun, hpn⟩ := hI
  by_cases hx0 : (x < 0 ∨ nI nz ≤ x)
  · skip
    refine ⟨1, fun _ => (zs, nz, nr, ol, mp, pl, fa, fb, 1, fZ, fO, fG, fP, fW, fK, fU, rH, rL, rB, rP, rR, rA, rW, rU, rV, rM, rT, rO, rF, rS, rE, rX, rD), 0, fun sz => liftA [0, 1, 7] (l_startX l dC dI cI cJ cZ cB hl a0 aZ aO aG aP aW aK (nI nz) (nI nr) ol mp pl fa fb fZ nz x ou fU sz hx0) (List.Perm.refl _) rfl rfl rfl (List.Perm.refl _) ⟨by decide, by decide, by decide, by decide⟩ ⟨by decide, by decide⟩, fun _ sz => liftMi [0] (m_startX l dC dI cI cJ cZ cB m0 mH mL mB mP mR mA mW mU mV mM mT mQ mO mF mS mE mX mD th (nI nz) (nI nr) mp fa fb pl nz x sz hx0) rfl rfl rfl (fun _ _ _ h => absurd h (by decide)) ⟨by decide, by decide, by decide, by decide⟩, fun _ => rfl, fun _ h => absurd h (by decide), fun _ => hI0⟩
  · obtain ⟨k, hk, rfl⟩ := bnd_z hn hx0
    obtain ⟨g0, g1, O1, F1, S1, E1, X1, D1, zs1, hto, hro, hok, hLH, hJ⟩ := plan_J hI0
    obtain ⟨⟨hlen1, _⟩, _, _, _, hzz1, hlb1, _, hpn1⟩ := hJ fU th
    obtain ⟨z, hz1⟩ : ∃ z, zs1[k]? = some z := ⟨_, List.getElem?_eq_getElem (by omega)⟩
    obtain ⟨⟨za, la, wa⟩, ⟨zh, zl, zf, zp, zr, zm, zw, z9⟩, ⟨ea, eb⟩, fT⟩ := z
    obtain ⟨hz, hzb, htl, hu, hv9⟩ := hzz1 k _ hz1
    obtain ⟨hS, hE, hX, hsb⟩ := (hpn1 rfl).2 k _ hz1
    dsimp only at hz hu hv9 hS hE hX
    refine ⟨0, fun _ => (zs1, nz, nr, ol, mp, 1, fa, fb, 0, fZ, fO, g1, fP, fW, fK, vp_updL fU 0 z9.toInt64, rH, rL, rB, rP, rR, rA, rW, rU, rV, rM, rT, O1, F1, S1, E1, X1, D1), S1 k, fun sz => liftC (X := xC cI cJ cZ a0 aZ aO aG aP aW aK ou (zs, nz, nr, ol, mp, pl, fa, fb, th, fZ, fO, fG, fP, fW, fK, fU, rH, rL, rB, rP, rR, rA, rW, rU, rV, rM, rT, rO, rF, rS, rE, rX, rD)) (pl := zs.flatMap (tri cI)) (pl1 := zs1.flatMap (tri cI)) [0, 1, 2, 3, 7] (l_start l dC dI cI cJ cZ cB a0 aZ aO aG aP aW aK (nI nz) (nI nr) ol mp pl fa fb fZ fO fG g0 g1 nz k zs zs1 za la wa zh zl zf zp zr zm zw z9 ea eb fT ou fU sz hn hok hto hk hz hz1) rfl rfl rfl (tri_fst hto) ⟨by decide, by decide, by decide, by decide⟩ ⟨by decide, by decide⟩, fun _ sz => rp_lift (m_start l dC dI cI cJ cZ cB m0 mH mL mB mP mR mA mW mU mV mM mT mQ mO mF mS mE mX mD th (nI nz) (nI nr) mp fa fb pl rH rL rB rP rR rA rW rM rT rO rF rS rE rX rD O1 F1 S1 E1 X1 D1 nz nr k sz hn hnr hLH hro hk) (fun _ _ h _ => h) ⟨by decide, by decide, by decide, by decide⟩, fun _ => rfl, fun _ _ => ?_, fun _ => hJ _ _⟩
    show vp_updL fU 0 z9.toInt64 0 = _
    rw [uL_s, hS]
