set_option maxHeartbeats 1000000 in
theorem j_costs (l : Launch) (dC : Nat → ClassId) (dI : Nat → Nat → Nat) (cI cJ cZ cB : ClassId) (hl : l.stackTraces = false) (a0 aZ aO aG aP aW aK ou : Nat) (m0 mH mL mB mP mR mA mW mU mV mM mT mQ mO mF mS mE mX mD : Nat) (J : JS) (hI : Inv J) (x y w sx : Int32) : ∃ (k : Int32) (J1 : Nat × Nat × Nat → JS) (b : Int64), SC l dC dI cI cJ cZ cB a0 aZ aO aG aP aW aK ou y_L_costs w_L_costs [.ref a0, .int x, .int y, .int w, .int sx, .ref ou] J k J1 ∧ (∀ u, SMl l dC dI cI cJ cZ cB m0 mH mL mB mP mR mA mW mU mV mM mT mQ mO mF mS mE mX mD y_M_costs w_M_costs [.ref m0, .int x, .int y, .int w, .int sx] J k b (J1 u)) ∧ (∀ u, thJ (J1 u) = k) ∧ (∀ u, k = 0 → outJ (J1 u) = b) ∧ ∀ u, Inv (J1 u) := by
  obtain ⟨zs, nz, nr, ol, mp, pl, fa, fb, th, fZ, fO, fG, fP, fW, fK, fU, rH, rL, rB, rP, rR, rA, rW, rU, rV, rM, rT, rO, rF, rS, rE, rX, rD⟩ := J
  have hI0 := hI
  obtain ⟨⟨hlen, hn, hnr, hpl⟩, ⟨hmp, hfd⟩, hpr, ⟨hob, hfo, hlast⟩, hzz, hlb, hun, hpn⟩ := hI
  by_cases hx0 : (x < 0 ∨ nI nz ≤ x)
  · skip
    refine ⟨1, fun _ => (zs, nz, nr, ol, mp, pl, fa, fb, 1, fZ, fO, fG, fP, fW, fK, fU, rH, rL, rB, rP, rR, rA, rW, rU, rV, rM, rT, rO, rF, rS, rE, rX, rD), 0, fun sz => liftA [0, 1, 7] (l_costsX l dC dI cI cJ cZ cB hl a0 aZ aO aG aP aW aK (nI nz) (nI nr) ol mp pl fa fb fZ nz x y w sx ou fU sz hx0) (List.Perm.refl _) rfl rfl rfl (List.Perm.refl _) ⟨by decide, by decide, by decide, by decide⟩ ⟨by decide, by decide⟩, fun _ sz => liftMl [0] (m_costsX l dC dI cI cJ cZ cB m0 mH mL mB mP mR mA mW mU mV mM mT mQ mO mF mS mE mX mD th (nI nz) (nI nr) mp fa fb pl nz x y w sx sz (Or.inl hx0)) rfl rfl rfl (fun _ _ _ h => absurd h (by decide)) ⟨by decide, by decide, by decide, by decide⟩, fun _ => rfl, fun _ h => absurd h (by decide), fun _ => hI0⟩
  · skip
    obtain ⟨k, hk, rfl⟩ := bnd_z hn hx0
    obtain ⟨l1, z, l2, rfl, hl1⟩ := get_len hlen hk
    subst hl1
    obtain ⟨⟨za, la, wa⟩, ⟨zh, zl, zf, zp, zr, zm, zw, z9⟩, ⟨ea, eb⟩, fT⟩ := z
    have hzk := hzz l1.length _ split_get
    obtain ⟨hz, hzb, htl, hu, hv9⟩ := hzk
    have hzm := hzb.2.2.2.2.2
    have hAb := htl.2.2.2.2.2.1
    have hW := htl.2.2.2.2.2.2
    have e1 := htl.1
    have e2 := htl.2.1
    have e3 := htl.2.2.1
    have e4 := htl.2.2.2.1
    have hzl := (zb_ok hzb).2.1
    have hzh := (zb_ok hzb).1
    have hzp := hzb.2.2.2.1
    obtain ⟨hrL, hrH⟩ := told_hl hzb htl
    dsimp only at hz hzm hAb hW e1 e2 e3 e4 hzl hzh hzp
    by_cases hq0 : ((y < 1 ∨ 10 < y) ∨ (w < 1 ∨ 30 < w))
    · skip
      refine ⟨1, fun _ => ((l1 ++ ((za, la, wa), (zh, zl, zf, zp, zr, zm, zw, z9), (ea, eb), fT) :: l2), nz, nr, ol, mp, pl, fa, fb, 1, fZ, fO, fG, fP, fW, fK, fU, rH, rL, rB, rP, rR, rA, rW, rU, rV, rM, rT, rO, rF, rS, rE, rX, rD), 0, fun sz => liftA [0, 1, 8, 7] (l_costsY l dC dI cI cJ cZ cB hl a0 aZ aO aG aP aW aK (nI nz) (nI nr) ol mp pl fa fb fZ za la wa zh zl zf zp zr zm zw z9 nz l1.length y w sx ou fU sz hk hn hz (Or.inl (Or.inl hq0)) (Or.inl hq0)) (foc_perm cI _ l1 l2 _) rfl rfl rfl (foc_perm cI (xC cI cJ cZ a0 aZ aO aG aP aW aK ou ((l1 ++ ((za, la, wa), (zh, zl, zf, zp, zr, zm, zw, z9), (ea, eb), fT) :: l2), nz, nr, ol, mp, pl, fa, fb, th, fZ, fO, fG, fP, fW, fK, fU, rH, rL, rB, rP, rR, rA, rW, rU, rV, rM, rT, rO, rF, rS, rE, rX, rD)) l1 l2 ((za, la, wa), (zh, zl, zf, zp, zr, zm, zw, z9), (ea, eb), fT)).symm ⟨by decide, by decide, by decide, by decide⟩ ⟨by decide, by decide⟩, fun _ sz => liftMl [0] (m_costsX l dC dI cI cJ cZ cB m0 mH mL mB mP mR mA mW mU mV mM mT mQ mO mF mS mE mX mD th (nI nz) (nI nr) mp fa fb pl nz (nI l1.length) y w sx sz (Or.inr hq0)) rfl rfl rfl (fun _ _ _ h => absurd h (by decide)) ⟨by decide, by decide, by decide, by decide⟩, fun _ => rfl, fun _ h => absurd h (by decide), fun _ => hI0⟩
    · by_cases hs0 : sx < 0
      · skip
        refine ⟨1, fun _ => ((l1 ++ ((za, la, wa), (zh, zl, zf, zp, zr, zm, zw, z9), (ea, eb), fT) :: l2), nz, nr, ol, mp, pl, fa, fb, 1, fZ, fO, fG, fP, fW, fK, fU, rH, rL, rB, rP, rR, rA, rW, rU, rV, rM, rT, rO, rF, rS, rE, rX, rD), 0, fun sz => liftA [0, 1, 8, 7] (l_costsY l dC dI cI cJ cZ cB hl a0 aZ aO aG aP aW aK (nI nz) (nI nr) ol mp pl fa fb fZ za la wa zh zl zf zp zr zm zw z9 nz l1.length y w sx ou fU sz hk hn hz (Or.inl (Or.inr (Or.inl hs0))) (Or.inr (Or.inl hs0))) (foc_perm cI _ l1 l2 _) rfl rfl rfl (foc_perm cI (xC cI cJ cZ a0 aZ aO aG aP aW aK ou ((l1 ++ ((za, la, wa), (zh, zl, zf, zp, zr, zm, zw, z9), (ea, eb), fT) :: l2), nz, nr, ol, mp, pl, fa, fb, th, fZ, fO, fG, fP, fW, fK, fU, rH, rL, rB, rP, rR, rA, rW, rU, rV, rM, rT, rO, rF, rS, rE, rX, rD)) l1 l2 ((za, la, wa), (zh, zl, zf, zp, zr, zm, zw, z9), (ea, eb), fT)).symm ⟨by decide, by decide, by decide, by decide⟩ ⟨by decide, by decide⟩, fun _ sz => liftMl [0] (m_costsX2 l dC dI cI cJ cZ cB m0 mH mL mB mP mR mA mW mU mV mM mT mQ mO mF mS mE mX mD th (nI nz) (nI nr) mp fa fb pl nz l1.length y w sx sz hk hn hq0 hs0) rfl rfl rfl (fun _ _ _ h => absurd h (by decide)) ⟨by decide, by decide, by decide, by decide⟩, fun _ => rfl, fun _ h => absurd h (by decide), fun _ => hI0⟩
      · obtain ⟨nn, hn1, hnn, rfl⟩ := bnd_1 (b := 10) (by decide) (fun q => hq0 (Or.inl q))
        obtain ⟨mm, hm1, hmm, rfl⟩ := bnd_1 (b := 30) (by decide) (fun q => hq0 (Or.inr q))
        obtain ⟨S, hS31, rfl⟩ := nI_of hs0
        have hp2 := p2_le hnn
        have hp1 : 1 ≤ 2 ^ nn := Nat.one_le_two_pow
        have hsh : ((1 : Int32) <<< (nI nn &&& 31) - 1 < nI S) ↔ 2 ^ nn ≤ S := by
          have h1 : (1 : Int32).toInt = 1 := rfl
          rw [shl1 hnn, Int32.lt_iff_toInt_lt, Int32.toInt_sub, nI_toInt (by omega), nI_toInt (by omega), h1, bm32 (by omega) (by omega)]
          omega
        by_cases hSb : 2 ^ nn ≤ S
        · have hw9 := hsh.mpr hSb
          refine ⟨1, fun _ => ((l1 ++ ((za, la, wa), (zh, zl, zf, zp, zr, zm, zw, z9), (ea, eb), fT) :: l2), nz, nr, ol, mp, pl, fa, fb, 1, fZ, fO, fG, fP, fW, fK, fU, rH, rL, rB, rP, rR, rA, rW, rU, rV, rM, rT, rO, rF, rS, rE, rX, rD), 0, fun sz => liftA [0, 1, 8, 7] (l_costsY l dC dI cI cJ cZ cB hl a0 aZ aO aG aP aW aK (nI nz) (nI nr) ol mp pl fa fb fZ za la wa zh zl zf zp zr zm zw z9 nz l1.length (nI nn) (nI mm) (nI S) ou fU sz hk hn hz (Or.inl (Or.inr (Or.inr hw9))) (Or.inr (Or.inr hw9))) (foc_perm cI _ l1 l2 _) rfl rfl rfl (foc_perm cI (xC cI cJ cZ a0 aZ aO aG aP aW aK ou ((l1 ++ ((za, la, wa), (zh, zl, zf, zp, zr, zm, zw, z9), (ea, eb), fT) :: l2), nz, nr, ol, mp, pl, fa, fb, th, fZ, fO, fG, fP, fW, fK, fU, rH, rL, rB, rP, rR, rA, rW, rU, rV, rM, rT, rO, rF, rS, rE, rX, rD)) l1 l2 ((za, la, wa), (zh, zl, zf, zp, zr, zm, zw, z9), (ea, eb), fT)).symm ⟨by decide, by decide, by decide, by decide⟩ ⟨by decide, by decide⟩, fun _ sz => liftMl [0] (m_costsX3 l dC dI cI cJ cZ cB m0 mH mL mB mP mR mA mW mU mV mM mT mQ mO mF mS mE mX mD th (nI nz) (nI nr) mp fa fb pl nz l1.length nn mm S sz hk hn hn1 hnn hm1 hmm hS31 hSb) rfl rfl rfl (fun _ _ _ h => absurd h (by decide)) ⟨by decide, by decide, by decide, by decide⟩, fun _ => rfl, fun _ h => absurd h (by decide), fun _ => hI0⟩
        · have hS2 : S < 2 ^ nn := by omega
          rcases hzm with e | ⟨b, hb1, e⟩
          · subst e
            have hq9 : ¬ (((nI nn < 1 ∨ 10 < nI nn) ∨ (nI mm < 1 ∨ 30 < nI mm)) ∨ (nI S < 0 ∨ (1 <<< (nI nn &&& 31)) - 1 < nI S)) := fun q => q.elim hq0 (fun q => q.elim hs0 (fun q => hSb (hsh.mp q)))
            refine ⟨2, fun _ => ((l1 ++ ((za, la, wa), (zh, zl, zf, zp, zr, -1, zw, z9), (ea, eb), fT) :: l2), nz, nr, ol, mp, pl, fa, fb, 2, fZ, fO, fG, fP, fW, fK, fU, rH, rL, rB, rP, rR, rA, rW, rU, rV, rM, rT, rO, rF, rS, rE, rX, rD), 0, fun sz => liftA [0, 1, 8, 7] (l_costsZ l dC dI cI cJ cZ cB hl a0 aZ aO aG aP aW aK (nI nz) (nI nr) ol mp pl fa fb fZ za la wa zh zl zf zp zr (-1) zw z9 nz l1.length (nI nn) (nI mm) (nI S) ou fU sz hk hn hz (Or.inr rfl) hq9) (foc_perm cI _ l1 l2 _) rfl rfl rfl (foc_perm cI (xC cI cJ cZ a0 aZ aO aG aP aW aK ou ((l1 ++ ((za, la, wa), (zh, zl, zf, zp, zr, -1, zw, z9), (ea, eb), fT) :: l2), nz, nr, ol, mp, pl, fa, fb, th, fZ, fO, fG, fP, fW, fK, fU, rH, rL, rB, rP, rR, rA, rW, rU, rV, rM, rT, rO, rF, rS, rE, rX, rD)) l1 l2 ((za, la, wa), (zh, zl, zf, zp, zr, -1, zw, z9), (ea, eb), fT)).symm ⟨by decide, by decide, by decide, by decide⟩ ⟨by decide, by decide⟩, fun _ sz => liftMl [0, 6] (m_costsY l dC dI cI cJ cZ cB m0 mH mL mB mP mR mA mW mU mV mM mT mQ mO mF mS mE mX mD th (nI nz) (nI nr) mp fa fb pl rA nz l1.length nn mm S sz hk hn hn1 hnn hm1 hmm hS2 hAb) rfl rfl rfl (fun _ _ _ h => absurd h (by decide)) ⟨by decide, by decide, by decide, by decide⟩, fun _ => rfl, fun _ h => absurd h (by decide), fun _ => hI0⟩
          · subst e
            obtain ⟨O1, ho⟩ : ∃ O1, foA rO rM rT nr 1440 = O1 := ⟨_, rfl⟩
            have ho9 : ∀ t, t < 1440 → O1 t = fO t := fun t ht => by rw [← ho, foA_in 1440 t ht]; exact hfo t ht
            refine ⟨0, fun _ => ((l1 ++ ((za, la, wa), (zh, zl, zf, zp, zr, nI b, zw, z9), (ea, eb), fT) :: l2), nz, nr, ol, mp, pl, fa, fb, 0, fZ, fO, fG, fP, fW, fK, vp_updL fU 0 (if zw ≤ (cso fO fP zl zh zp zf b nn mm S nn).1 then (cso fO fP zl zh zp zf b nn mm S nn).2 else -1), rH, rL, rB, rP, rR, rA, rW, rU, rV, rM, rT, O1, rF, rS, rE, rX, rD), (if rW l1.length ≤ (rk O1 fP (rL l1.length) (rH l1.length) (rP l1.length) (rB l1.length) b (nn * mm) mm S b).1 then (rk O1 fP (rL l1.length) (rH l1.length) (rP l1.length) (rB l1.length) b (nn * mm) mm S b).2 else -1), fun sz => liftA [0, 1, 2, 4, 8, 7] (l_costs l dC dI cI cJ cZ cB hl a0 aZ aO aG aP aW aK (nI nz) (nI nr) ol mp pl fa fb fZ fO fP za la wa zh zl zf zp zr (nI b) zw z9 nz l1.length b nn mm S ou fU sz hk hn hz hb1 hn1 hnn hm1 hmm hzl hzh hS2) (foc_perm cI _ l1 l2 _) rfl rfl rfl (foc_perm cI (xC cI cJ cZ a0 aZ aO aG aP aW aK ou ((l1 ++ ((za, la, wa), (zh, zl, zf, zp, zr, nI b, zw, z9), (ea, eb), fT) :: l2), nz, nr, ol, mp, pl, fa, fb, 0, fZ, fO, fG, fP, fW, fK, vp_updL fU 0 (if zw ≤ (cso fO fP zl zh zp zf b nn mm S nn).1 then (cso fO fP zl zh zp zf b nn mm S nn).2 else -1), rH, rL, rB, rP, rR, rA, rW, rU, rV, rM, rT, O1, rF, rS, rE, rX, rD)) l1 l2 ((za, la, wa), (zh, zl, zf, zp, zr, nI b, zw, z9), (ea, eb), fT)).symm ⟨by decide, by decide, by decide, by decide⟩ ⟨by decide, by decide⟩, fun _ sz => rk_lift (m_costs l dC dI cI cJ cZ cB m0 mH mL mB mP mR mA mW mU mV mM mT mQ mO mF mS mE mX mD th (nI nz) (nI nr) mp fa fb pl rH rL rB rP rA rW rM rT fP rO O1 nz nr l1.length b nn mm S sz hk hn hnr ho hb1 hn1 hnn hm1 hmm hrL hrH hAb hS2) (fun _ _ h _ => h) ⟨by decide, by decide, by decide, by decide⟩, fun _ => rfl, fun _ _ => ?_, fun _ => hI0⟩
            show vp_updL fU 0 (if zw ≤ (cso fO fP zl zh zp zf b nn mm S nn).1 then (cso fO fP zl zh zp zf b nn mm S nn).2 else -1) 0 = _
            rw [uL_s, e1, e2, e3, e4, hW, cso_rk ho9 hb1]
