set_option maxHeartbeats 1000000 in
theorem j_cheapest (l : Launch) (dC : Nat → ClassId) (dI : Nat → Nat → Nat) (cI cJ cZ cB : ClassId) (hl : l.stackTraces = false) (a0 aZ aO aG aP aW aK ou : Nat) (m0 mH mL mB mP mR mA mW mU mV mM mT mQ mO mF mS mE mX mD : Nat) (J : JS) (hI : Inv J) (x y w : Int32) : ∃ (k : Int32) (J1 : Nat × Nat × Nat → JS) (b : Int32), SC l dC dI cI cJ cZ cB a0 aZ aO aG aP aW aK ou y_L_cheapest w_L_cheapest [.ref a0, .int x, .int y, .int w, .ref ou] J k J1 ∧ (∀ u, SMi l dC dI cI cJ cZ cB m0 mH mL mB mP mR mA mW mU mV mM mT mQ mO mF mS mE mX mD y_M_cheapest w_M_cheapest [.ref m0, .int x, .int y, .int w] J k b (J1 u)) ∧ (∀ u, thJ (J1 u) = k) ∧ (∀ u, k = 0 → outJ (J1 u) = b.toInt64) ∧ ∀ u, Inv (J1 u) := by
  obtain ⟨zs, nz, nr, ol, mp, pl, fa, fb, th, fZ, fO, fG, fP, fW, fK, fU, rH, rL, rB, rP, rR, rA, rW, rU, rV, rM, rT, rO, rF, rS, rE, rX, rD⟩ := J
  have hI0 := hI
  obtain ⟨⟨hlen, hn, hnr, hpl⟩, ⟨hmp, hfd⟩, hpr, ⟨hob, hfo, hlast⟩, hzz, hlb, hun, hpn⟩ := hI
  by_cases hx0 : (x < 0 ∨ nI nz ≤ x)
  · skip
    refine ⟨1, fun _ => (zs, nz, nr, ol, mp, pl, fa, fb, 1, fZ, fO, fG, fP, fW, fK, fU, rH, rL, rB, rP, rR, rA, rW, rU, rV, rM, rT, rO, rF, rS, rE, rX, rD), 0, fun sz => liftA [0, 1, 7] (l_cheapestX l dC dI cI cJ cZ cB hl a0 aZ aO aG aP aW aK (nI nz) (nI nr) ol mp pl fa fb fZ nz x y w ou fU sz hx0) (List.Perm.refl _) rfl rfl rfl (List.Perm.refl _) ⟨by decide, by decide, by decide, by decide⟩ ⟨by decide, by decide⟩, fun _ sz => liftMi [0] (m_cheapestX l dC dI cI cJ cZ cB m0 mH mL mB mP mR mA mW mU mV mM mT mQ mO mF mS mE mX mD th (nI nz) (nI nr) mp fa fb pl nz x y w sz (Or.inl hx0)) rfl rfl rfl (fun _ _ _ h => absurd h (by decide)) ⟨by decide, by decide, by decide, by decide⟩, fun _ => rfl, fun _ h => absurd h (by decide), fun _ => hI0⟩
  · skip
    obtain ⟨k, hk, rfl⟩ := bnd_z hn hx0
    obtain ⟨l1, z, l2, rfl, hl1⟩ := get_len hlen hk
    subst hl1
    obtain ⟨⟨za, la, wa⟩, ⟨zh, zl, zf, zp, zr, zm, zw, z9⟩, ⟨ea, eb⟩, fT⟩ := z
    have hzk := hzz l1.length _ split_get
    obtain ⟨hz, hzb, htl, hu, hv9⟩ := hzk
    have hzm := hzb.2.2.2.2.2
    have hAb := htl.2.2.2.2.2.1
    have hW := htl.2.2.2.2.2.2
    have e1 := htl.1
    have e2 := htl.2.1
    have e3 := htl.2.2.1
    have e4 := htl.2.2.2.1
    have hzl := (zb_ok hzb).2.1
    have hzh := (zb_ok hzb).1
    have hzp := hzb.2.2.2.1
    obtain ⟨hrL, hrH⟩ := told_hl hzb htl
    dsimp only at hz hzm hAb hW e1 e2 e3 e4 hzl hzh hzp
    by_cases hq0 : ((y < 1 ∨ 10 < y) ∨ (w < 1 ∨ 30 < w))
    · skip
      refine ⟨1, fun _ => ((l1 ++ ((za, la, wa), (zh, zl, zf, zp, zr, zm, zw, z9), (ea, eb), fT) :: l2), nz, nr, ol, mp, pl, fa, fb, 1, fZ, fO, fG, fP, fW, fK, fU, rH, rL, rB, rP, rR, rA, rW, rU, rV, rM, rT, rO, rF, rS, rE, rX, rD), 0, fun sz => liftA [0, 1, 8, 7] (l_cheapestY l dC dI cI cJ cZ cB hl a0 aZ aO aG aP aW aK (nI nz) (nI nr) ol mp pl fa fb fZ za la wa zh zl zf zp zr zm zw z9 nz l1.length y w ou fU sz hk hn hz (Or.inl hq0) hq0) (foc_perm cI _ l1 l2 _) rfl rfl rfl (foc_perm cI (xC cI cJ cZ a0 aZ aO aG aP aW aK ou ((l1 ++ ((za, la, wa), (zh, zl, zf, zp, zr, zm, zw, z9), (ea, eb), fT) :: l2), nz, nr, ol, mp, pl, fa, fb, th, fZ, fO, fG, fP, fW, fK, fU, rH, rL, rB, rP, rR, rA, rW, rU, rV, rM, rT, rO, rF, rS, rE, rX, rD)) l1 l2 ((za, la, wa), (zh, zl, zf, zp, zr, zm, zw, z9), (ea, eb), fT)).symm ⟨by decide, by decide, by decide, by decide⟩ ⟨by decide, by decide⟩, fun _ sz => liftMi [0] (m_cheapestX l dC dI cI cJ cZ cB m0 mH mL mB mP mR mA mW mU mV mM mT mQ mO mF mS mE mX mD th (nI nz) (nI nr) mp fa fb pl nz (nI l1.length) y w sz (Or.inr hq0)) rfl rfl rfl (fun _ _ _ h => absurd h (by decide)) ⟨by decide, by decide, by decide, by decide⟩, fun _ => rfl, fun _ h => absurd h (by decide), fun _ => hI0⟩
    · rcases hzm with e | ⟨b, hb1, e⟩
      · subst e
        refine ⟨2, fun _ => ((l1 ++ ((za, la, wa), (zh, zl, zf, zp, zr, -1, zw, z9), (ea, eb), fT) :: l2), nz, nr, ol, mp, pl, fa, fb, 2, fZ, fO, fG, fP, fW, fK, fU, rH, rL, rB, rP, rR, rA, rW, rU, rV, rM, rT, rO, rF, rS, rE, rX, rD), 0, fun sz => liftA [0, 1, 8, 7] (l_cheapestZ l dC dI cI cJ cZ cB hl a0 aZ aO aG aP aW aK (nI nz) (nI nr) ol mp pl fa fb fZ za la wa zh zl zf zp zr (-1) zw z9 nz l1.length y w ou fU sz hk hn hz (Or.inr rfl) hq0) (foc_perm cI _ l1 l2 _) rfl rfl rfl (foc_perm cI (xC cI cJ cZ a0 aZ aO aG aP aW aK ou ((l1 ++ ((za, la, wa), (zh, zl, zf, zp, zr, -1, zw, z9), (ea, eb), fT) :: l2), nz, nr, ol, mp, pl, fa, fb, th, fZ, fO, fG, fP, fW, fK, fU, rH, rL, rB, rP, rR, rA, rW, rU, rV, rM, rT, rO, rF, rS, rE, rX, rD)) l1 l2 ((za, la, wa), (zh, zl, zf, zp, zr, -1, zw, z9), (ea, eb), fT)).symm ⟨by decide, by decide, by decide, by decide⟩ ⟨by decide, by decide⟩, fun _ sz => liftMi [0, 6] (m_cheapestY l dC dI cI cJ cZ cB m0 mH mL mB mP mR mA mW mU mV mM mT mQ mO mF mS mE mX mD th (nI nz) (nI nr) mp fa fb pl rA nz l1.length y w sz hk hn hq0 hAb) rfl rfl rfl (fun _ _ _ h => absurd h (by decide)) ⟨by decide, by decide, by decide, by decide⟩, fun _ => rfl, fun _ h => absurd h (by decide), fun _ => hI0⟩
      · subst e
        obtain ⟨nn, hn1, hnn, rfl⟩ := bnd_1 (b := 10) (by decide) (fun q => hq0 (Or.inl q))
        obtain ⟨mm, hm1, hmm, rfl⟩ := bnd_1 (b := 30) (by decide) (fun q => hq0 (Or.inr q))
        obtain ⟨O1, ho⟩ : ∃ O1, foA rO rM rT nr 1440 = O1 := ⟨_, rfl⟩
        have ho9 : ∀ t, t < 1440 → O1 t = fO t := fun t ht => by rw [← ho, foA_in 1440 t ht]; exact hfo t ht
        refine ⟨0, fun _ => ((l1 ++ ((za, la, wa), (zh, zl, zf, zp, zr, nI b, zw, z9), (ea, eb), fT) :: l2), nz, nr, ol, mp, pl, fa, fb, 0, fZ, fO, fG, fP, (wsO fO fP zl zh zp zf b nn mm fW fK nn).1, (wsO fO fP zl zh zp zf b nn mm fW fK nn).2, vp_updL fU 0 (bst (wsO fO fP zl zh zp zf b nn mm fW fK nn).1 (wsO fO fP zl zh zp zf b nn mm fW fK nn).2 zw (2 ^ nn)).toInt64, rH, rL, rB, rP, rR, rA, rW, rU, rV, rM, rT, O1, rF, rS, rE, rX, rD), (rb (fun j => if rW l1.length ≤ (rk O1 fP (rL l1.length) (rH l1.length) (rP l1.length) (rB l1.length) b (nn * mm) mm j b).1 then (rk O1 fP (rL l1.length) (rH l1.length) (rP l1.length) (rB l1.length) b (nn * mm) mm j b).2 else -1) (2 ^ nn)).1, fun sz => liftA [0, 1, 2, 4, 5, 6, 8, 7] (l_cheapest l dC dI cI cJ cZ cB hl a0 aZ aO aG aP aW aK (nI nz) (nI nr) ol mp pl fa fb fZ fO fP fW fK za la wa zh zl zf zp zr (nI b) zw z9 nz l1.length b nn mm ou fU sz hk hn hz hb1 hn1 hnn hm1 hmm hzl hzh) (foc_perm cI _ l1 l2 _) rfl rfl rfl (foc_perm cI (xC cI cJ cZ a0 aZ aO aG aP aW aK ou ((l1 ++ ((za, la, wa), (zh, zl, zf, zp, zr, nI b, zw, z9), (ea, eb), fT) :: l2), nz, nr, ol, mp, pl, fa, fb, 0, fZ, fO, fG, fP, (wsO fO fP zl zh zp zf b nn mm fW fK nn).1, (wsO fO fP zl zh zp zf b nn mm fW fK nn).2, vp_updL fU 0 (bst (wsO fO fP zl zh zp zf b nn mm fW fK nn).1 (wsO fO fP zl zh zp zf b nn mm fW fK nn).2 zw (2 ^ nn)).toInt64, rH, rL, rB, rP, rR, rA, rW, rU, rV, rM, rT, O1, rF, rS, rE, rX, rD)) l1 l2 ((za, la, wa), (zh, zl, zf, zp, zr, nI b, zw, z9), (ea, eb), fT)).symm ⟨by decide, by decide, by decide, by decide⟩ ⟨by decide, by decide⟩, fun _ sz => rc_lift (m_cheapest l dC dI cI cJ cZ cB m0 mH mL mB mP mR mA mW mU mV mM mT mQ mO mF mS mE mX mD th (nI nz) (nI nr) mp fa fb pl rH rL rB rP rA rW rM rT fP rO O1 nz nr l1.length b nn mm sz hk hn hnr ho hb1 hn1 hnn hm1 hmm hrL hrH hAb) (fun _ _ h _ => h) ⟨by decide, by decide, by decide, by decide⟩, fun _ => rfl, fun _ _ => ?_, fun _ => hI0⟩
        show vp_updL fU 0 (bst (wsO fO fP zl zh zp zf b nn mm fW fK nn).1 (wsO fO fP zl zh zp zf b nn mm fW fK nn).2 zw (2 ^ nn)).toInt64 0 = _
        rw [uL_s, cheap_eq ho9 hb1 hnn hzp hpr, e1, e2, e3, e4, hW]
