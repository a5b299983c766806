set_option maxHeartbeats 1000000 in
theorem j_taught (l : Launch) (dC : Nat → ClassId) (dI : Nat → Nat → Nat) (cI cJ cZ cB : ClassId) (hl : l.stackTraces = false) (a0 aZ aO aG aP aW aK ou : Nat) (m0 mH mL mB mP mR mA mW mU mV mM mT mQ mO mF mS mE mX mD : Nat) (J : JS) (hI : Inv J) (x : Int32) : ∃ (k : Int32) (J1 : Nat × Nat × Nat → JS) (b : Int32), SC l dC dI cI cJ cZ cB a0 aZ aO aG aP aW aK ou y_L_taught w_L_taught [.ref a0, .int x, .ref ou] J k J1 ∧ (∀ u, SMi l dC dI cI cJ cZ cB m0 mH mL mB mP mR mA mW mU mV mM mT mQ mO mF mS mE mX mD y_M_taught w_M_taught [.ref m0, .int x] J k b (J1 u)) ∧ (∀ u, thJ (J1 u) = k) ∧ (∀ u, k = 0 → outJ (J1 u) = b.toInt64) ∧ ∀ u, Inv (J1 u) := by
  obtain ⟨zs, nz, nr, ol, mp, pl, fa, fb, th, fZ, fO, fG, fP, fW, fK, fU, rH, rL, rB, rP, rR, rA, rW, rU, rV, rM, rT, rO, rF, rS, rE, rX, rD⟩ := J
  have hI0 := hI
  obtain ⟨⟨hlen, hn, hnr, hpl⟩, ⟨hmp, hfd⟩, hpr, ⟨hob, hfo, hlast⟩, hzz, hlb, hun, hpn⟩ := hI
  by_cases hx0 : (x < 0 ∨ nI nz ≤ x)
  · skip
    refine ⟨1, fun _ => (zs, nz, nr, ol, mp, pl, fa, fb, 1, fZ, fO, fG, fP, fW, fK, fU, rH, rL, rB, rP, rR, rA, rW, rU, rV, rM, rT, rO, rF, rS, rE, rX, rD), 0, fun sz => liftA [0, 1, 7] (l_taughtX l dC dI cI cJ cZ cB hl a0 aZ aO aG aP aW aK (nI nz) (nI nr) ol mp pl fa fb fZ nz x ou fU sz hx0) (List.Perm.refl _) rfl rfl rfl (List.Perm.refl _) ⟨by decide, by decide, by decide, by decide⟩ ⟨by decide, by decide⟩, fun _ sz => liftMi [0] (m_taughtX l dC dI cI cJ cZ cB m0 mH mL mB mP mR mA mW mU mV mM mT mQ mO mF mS mE mX mD th (nI nz) (nI nr) mp fa fb pl nz x sz hx0) rfl rfl rfl (fun _ _ _ h => absurd h (by decide)) ⟨by decide, by decide, by decide, by decide⟩, fun _ => rfl, fun _ h => absurd h (by decide), fun _ => hI0⟩
  · obtain ⟨k, hk, rfl⟩ := bnd_z hn hx0
    obtain ⟨g0, g1, O1, F1, S1, E1, X1, D1, zs1, hto, hro, hok, hLH, hJ⟩ := plan_J hI0
    obtain ⟨⟨hlen1, _⟩, _, _, _, hzz1, hlb1, _, hpn1⟩ := hJ fU th
    obtain ⟨z, hz1⟩ : ∃ z, zs1[k]? = some z := ⟨_, List.getElem?_eq_getElem (by omega)⟩
    obtain ⟨⟨za, la, wa⟩, ⟨zh, zl, zf, zp, zr, zm, zw, z9⟩, ⟨ea, eb⟩, fT⟩ := z
    obtain ⟨hz, hzb, htl, hu, hv9⟩ := hzz1 k _ hz1
    obtain ⟨hS, hE, hX, hsb⟩ := (hpn1 rfl).2 k _ hz1
    dsimp only at hz hu hv9 hS hE hX
    have hzm := hzb.2.2.2.2.2
    dsimp only at hzm
    have hL := hlb1 k hk
    have hV : ¬ rV k = 0 := by
      intro q
      have := hL.1.1
      rw [q] at this
      exact absurd this (by decide)
    have hne : ¬ eb = 0 := by rw [← hv9]; exact hV
    rw [hu, hv9] at hL
    refine ⟨0, fun _ => (zs1, nz, nr, ol, mp, 1, fa, fb, 0, fZ, fO, g1, fP, fW, fK, vp_updL fU 0 (if zm = -1 then -1 else (if 0 < (if 1439 < (z9 - (ea / eb).toInt32) then 1439 else (z9 - (ea / eb).toInt32)) then (if 1439 < (z9 - (ea / eb).toInt32) then 1439 else (z9 - (ea / eb).toInt32)) else 0)).toInt64, rH, rL, rB, rP, rR, rA, rW, rU, rV, rM, rT, O1, F1, S1, E1, X1, D1), (if S1 k = -1 then -1 else if ((S1 k).toInt64 - rU k / rV k) < 0 then 0 else if 1439 < ((S1 k).toInt64 - rU k / rV k) then 1439 else ((S1 k).toInt64 - rU k / rV k).toInt32), fun sz => liftC (X := xC cI cJ cZ a0 aZ aO aG aP aW aK ou (zs, nz, nr, ol, mp, pl, fa, fb, th, fZ, fO, fG, fP, fW, fK, fU, rH, rL, rB, rP, rR, rA, rW, rU, rV, rM, rT, rO, rF, rS, rE, rX, rD)) (pl := zs.flatMap (tri cI)) (pl1 := zs1.flatMap (tri cI)) [0, 1, 2, 3, 7] (l_taught l dC dI cI cJ cZ cB a0 aZ aO aG aP aW aK (nI nz) (nI nr) ol mp pl fa fb fZ fO fG g0 g1 nz k zs zs1 za la wa zh zl zf zp zr zm zw z9 ea eb fT ou fU sz hn hok hto hk hz hz1 hzm hne) rfl rfl rfl (tri_fst hto) ⟨by decide, by decide, by decide, by decide⟩ ⟨by decide, by decide⟩, fun _ sz => rt_lift (m_taught l dC dI cI cJ cZ cB m0 mH mL mB mP mR mA mW mU mV mM mT mQ mO mF mS mE mX mD th (nI nz) (nI nr) mp fa fb pl rH rL rB rP rR rA rW rM rT rO rF rS rE rX rD O1 F1 S1 E1 X1 D1 nz nr rU rV k sz hn hnr hLH hro hk hV) (fun _ _ h _ => h) ⟨by decide, by decide, by decide, by decide⟩, fun _ => rfl, fun _ _ => ?_, fun _ => hJ _ _⟩
    show vp_updL fU 0 (if zm = -1 then -1 else (if 0 < (if 1439 < (z9 - (ea / eb).toInt32) then 1439 else (z9 - (ea / eb).toInt32)) then (if 1439 < (z9 - (ea / eb).toInt32) then 1439 else (z9 - (ea / eb).toInt32)) else 0)).toInt64 0 = _
    rw [uL_s, hS, hu, hv9]
    rcases hsb with ⟨e1, e2⟩ | ⟨b, s, hb1, e1, hs9, e2⟩
    · dsimp only at e1 e2
      rw [if_pos e1, if_pos e2]
    · dsimp only at e1 e2
      have q1 : ¬ zm = -1 := by rw [e1]; exact nb_ne hb1
      have q2 : ¬ z9 = -1 := by rw [e2]; exact nb_ne (by omega)
      rw [if_neg q1, if_neg q2, e2, tau_eq (show s ≤ 1440 by omega) hL]
