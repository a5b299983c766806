/-! ===== one call on both sides: zones ===== -/
theorem mid_get {α : Type} {l1 l2 : List α} {z z' w : α} {j : Nat} (h : (l1 ++ z' :: l2)[j]? = some w) : (j = l1.length ∧ w = z') ∨ (j ≠ l1.length ∧ (l1 ++ z :: l2)[j]? = some w) := by
  by_cases e : j = l1.length
  · subst e
    rw [split_get] at h
    exact Or.inl ⟨rfl, (Option.some.inj h).symm⟩
  · refine Or.inr ⟨e, ?_⟩
    rcases Nat.lt_or_ge j l1.length with q | q
    · rw [List.getElem?_append_left q] at h ⊢; exact h
    · rw [List.getElem?_append_right q] at h ⊢
      obtain ⟨i, hi⟩ : ∃ i, j - l1.length = i + 1 := ⟨j - l1.length - 1, by omega⟩
      rw [hi] at h ⊢
      simpa using h
theorem told_up {H L B P R A W H' L' B' P' R' A' W' : Nat → Int32} {k : Nat} {z : ZD} (h : Told H L B P R A W k z) (e : H' k = H k ∧ L' k = L k ∧ B' k = B k ∧ P' k = P k ∧ R' k = R k ∧ A' k = A k ∧ W' k = W k) : Told H' L' B' P' R' A' W' k z := by
  obtain ⟨h1, h2, h3, h4, h5, h6, h7⟩ := h
  obtain ⟨e1, e2, e3, e4, e5, e6, e7⟩ := e
  exact ⟨e1.trans h1, e2.trans h2, e3.trans h3, e4.trans h4, e5.trans h5, e6.trans h6, e7.trans h7⟩
theorem zb_new {a : Nat × Nat × Nat} {x y : Int32} (hx : 1 ≤ x.toInt ∧ x.toInt ≤ 1000) (hy : 1 ≤ y.toInt ∧ y.toInt ≤ 1000) : ZB (a, (x, y, 0, 1000, 0, -1, 0, -1), (0, 1), (fun _ => 0)) :=
  ⟨hx, hy, ⟨show (-10000 : Int) ≤ (0 : Int32).toInt by decide, show (0 : Int32).toInt ≤ 10000 by decide⟩, ⟨show (0 : Int) ≤ (1000 : Int32).toInt by decide, show (1000 : Int32).toInt ≤ 100000 by decide⟩, ⟨show (0 : Int) ≤ (0 : Int32).toInt by decide, show (0 : Int32).toInt ≤ 9 by decide⟩, Or.inl rfl⟩
theorem ee0 : ((0 : Int32) = 0) = True := eq_true rfl
theorem ee01 : ((0 : Int32) = 1) = False := eq_false (by decide)
theorem ee02 : ((0 : Int32) = 2) = False := eq_false (by decide)
theorem ee10 : ((1 : Int32) = 0) = False := eq_false (by decide)
theorem ee1 : ((1 : Int32) = 1) = True := eq_true rfl
theorem ee12 : ((1 : Int32) = 2) = False := eq_false (by decide)
theorem ee20 : ((2 : Int32) = 0) = False := eq_false (by decide)
theorem ee21 : ((2 : Int32) = 1) = False := eq_false (by decide)
theorem ee2 : ((2 : Int32) = 2) = True := eq_true rfl
set_option maxHeartbeats 1000000 in
theorem j_set (l : Launch) (dC : Nat → ClassId) (dI : Nat → Nat → Nat) (cI cJ cZ cB : ClassId) (hl : l.stackTraces = false) (a0 aZ aO aG aP aW aK ou : Nat) (m0 mH mL mB mP mR mA mW mU mV mM mT mQ mO mF mS mE mX mD : Nat) (J : JS) (hI : Inv J) (x what v : Int32) : ∃ (k : Int32) (J1 : Nat × Nat × Nat → JS) (b : Int32), SC l dC dI cI cJ cZ cB a0 aZ aO aG aP aW aK ou y_L_set w_L_set [.ref a0, .int x, .int what, .int v, .ref ou] J k J1 ∧ (∀ u, SMi l dC dI cI cJ cZ cB m0 mH mL mB mP mR mA mW mU mV mM mT mQ mO mF mS mE mX mD y_M_set w_M_set [.ref m0, .int x, .int what, .int v] J k b (J1 u)) ∧ (∀ u, thJ (J1 u) = k) ∧ (∀ u, k = 0 → outJ (J1 u) = b.toInt64) ∧ ∀ u, Inv (J1 u) := by
  obtain ⟨zs, nz, nr, ol, mp, pl, fa, fb, th, fZ, fO, fG, fP, fW, fK, fU, rH, rL, rB, rP, rR, rA, rW, rU, rV, rM, rT, rO, rF, rS, rE, rX, rD⟩ := J
  have hI0 := hI
  obtain ⟨⟨hlen, hn, hnr, hpl⟩, ⟨hmp, hfd⟩, hpr, ⟨hob, hfo, hlast⟩, hzz, hlb, hun, hpn⟩ := hI
  by_cases hx0 : (x < 0 ∨ nI nz ≤ x)
  · skip
    refine ⟨1, fun _ => (zs, nz, nr, ol, mp, pl, fa, fb, 1, fZ, fO, fG, fP, fW, fK, fU, rH, rL, rB, rP, rR, rA, rW, rU, rV, rM, rT, rO, rF, rS, rE, rX, rD), 0, fun sz => liftA [0, 1, 7] (l_setX l dC dI cI cJ cZ cB hl a0 aZ aO aG aP aW aK (nI nz) (nI nr) ol mp pl fa fb fZ nz x what v ou fU sz hx0) (List.Perm.refl _) rfl rfl rfl (List.Perm.refl _) ⟨by decide, by decide, by decide, by decide⟩ ⟨by decide, by decide⟩, fun _ sz => liftMi [0] (m_setX l dC dI cI cJ cZ cB m0 mH mL mB mP mR mA mW mU mV mM mT mQ mO mF mS mE mX mD th (nI nz) (nI nr) mp fa fb pl nz x what v sz (Or.inl hx0)) rfl rfl rfl (fun _ _ _ h => absurd h (by decide)) ⟨by decide, by decide, by decide, by decide⟩, fun _ => rfl, fun _ h => absurd h (by decide), fun _ => hI0⟩
  · skip
    obtain ⟨k, hk, rfl⟩ := bnd_z hn hx0
    obtain ⟨l1, z, l2, rfl, hl1⟩ := get_len hlen hk
    subst hl1
    obtain ⟨⟨za, la, wa⟩, ⟨zh, zl, zf, zp, zr, zm, zw, z9⟩, ⟨ea, eb⟩, fT⟩ := z
    have hzk := hzz l1.length _ split_get
    obtain ⟨hz, hzb, htl, hu, hv9⟩ := hzk
    by_cases hok : okset what v
    · rcases hok with ⟨rfl, hv⟩ | ⟨rfl, hv⟩ | ⟨rfl, hv⟩
      · have hbv := bnd hv
        refine ⟨0, fun _ => ((l1 ++ ((za, la, wa), (zh, zl, v, zp, zr, zm, zw, z9), (ea, eb), fT) :: l2), nz, nr, ol, mp, 0, fa, fb, 0, fZ, fO, fG, fP, fW, fK, vp_updL fU 0 zf.toInt64, rH, rL, upd rB l1.length v, rP, rR, rA, rW, rU, rV, rM, rT, rO, rF, rS, rE, rX, rD), rB l1.length, fun sz => ?_, fun _ sz => liftMi [0, 3] (m_set0 l dC dI cI cJ cZ cB m0 mH mL mB mP mR mA mW mU mV mM mT mQ mO mF mS mE mX mD th (nI nz) (nI nr) mp fa fb pl rB nz l1.length v sz hk hn hv) rfl rfl rfl (fun _ _ h _ => h) ⟨by decide, by decide, by decide, by decide⟩, fun _ => rfl, fun _ _ => ?_, fun _ => ?_⟩
        · have h9 := (l_set l dC dI cI cJ cZ cB hl a0 aZ aO aG aP aW aK (nI nz) (nI nr) ol mp pl fa fb fZ za la wa zh zl zf zp zr zm zw z9 nz l1.length 0 v ou fU sz hk hn hz (Or.inl ⟨rfl, hv⟩))
          simp only [ee0, ee01, ee02, if_true, if_false] at h9
          exact liftA [0, 1, 8, 7] h9 (foc_perm cI _ l1 l2 _) rfl rfl rfl (foc_perm cI (xC cI cJ cZ a0 aZ aO aG aP aW aK ou ((l1 ++ ((za, la, wa), (zh, zl, v, zp, zr, zm, zw, z9), (ea, eb), fT) :: l2), nz, nr, ol, mp, 0, fa, fb, 0, fZ, fO, fG, fP, fW, fK, vp_updL fU 0 zf.toInt64, rH, rL, upd rB l1.length v, rP, rR, rA, rW, rU, rV, rM, rT, rO, rF, rS, rE, rX, rD)) l1 l2 ((za, la, wa), (zh, zl, v, zp, zr, zm, zw, z9), (ea, eb), fT)).symm ⟨by decide, by decide, by decide, by decide⟩ ⟨by decide, by decide⟩
        · show vp_updL fU 0 zf.toInt64 0 = _
          rw [uL_s, htl.2.2.1]
        · refine ⟨⟨by simpa using hlen, hn, hnr, Or.inl rfl⟩, ⟨hmp, hfd⟩, hpr, ⟨hob, hfo, hlast⟩, fun j z hj => ?_, hlb, fun j h1 h2 => ⟨(up_n (by omega)).trans (hun j h1 h2).1, (hun j h1 h2).2⟩, fun h => absurd h (by decide)⟩
          rcases mid_get (z := ((za, la, wa), (zh, zl, zf, zp, zr, zm, zw, z9), (ea, eb), fT)) hj with ⟨rfl, rfl⟩ | ⟨hj, hj9⟩
          · exact ⟨hz, ⟨hzb.1, hzb.2.1, hbv, hzb.2.2.2⟩, ⟨htl.1, htl.2.1, up_s, htl.2.2.2⟩, hu, hv9⟩
          · obtain ⟨c1, c2, c3, c4⟩ := hzz j z hj9
            exact ⟨c1, c2, told_up c3 ⟨rfl, rfl, up_n hj, rfl, rfl, rfl, rfl⟩, c4⟩
      · have hbv := bnd hv
        refine ⟨0, fun _ => ((l1 ++ ((za, la, wa), (zh, zl, zf, v, zr, zm, zw, z9), (ea, eb), fT) :: l2), nz, nr, ol, mp, 0, fa, fb, 0, fZ, fO, fG, fP, fW, fK, vp_updL fU 0 zp.toInt64, rH, rL, rB, upd rP l1.length v, rR, rA, rW, rU, rV, rM, rT, rO, rF, rS, rE, rX, rD), rP l1.length, fun sz => ?_, fun _ sz => liftMi [0, 4] (m_set1 l dC dI cI cJ cZ cB m0 mH mL mB mP mR mA mW mU mV mM mT mQ mO mF mS mE mX mD th (nI nz) (nI nr) mp fa fb pl rP nz l1.length v sz hk hn hv) rfl rfl rfl (fun _ _ h _ => h) ⟨by decide, by decide, by decide, by decide⟩, fun _ => rfl, fun _ _ => ?_, fun _ => ?_⟩
        · have h9 := (l_set l dC dI cI cJ cZ cB hl a0 aZ aO aG aP aW aK (nI nz) (nI nr) ol mp pl fa fb fZ za la wa zh zl zf zp zr zm zw z9 nz l1.length 1 v ou fU sz hk hn hz (Or.inr (Or.inl ⟨rfl, hv⟩)))
          simp only [ee10, ee1, ee12, if_true, if_false] at h9
          exact liftA [0, 1, 8, 7] h9 (foc_perm cI _ l1 l2 _) rfl rfl rfl (foc_perm cI (xC cI cJ cZ a0 aZ aO aG aP aW aK ou ((l1 ++ ((za, la, wa), (zh, zl, zf, v, zr, zm, zw, z9), (ea, eb), fT) :: l2), nz, nr, ol, mp, 0, fa, fb, 0, fZ, fO, fG, fP, fW, fK, vp_updL fU 0 zp.toInt64, rH, rL, rB, upd rP l1.length v, rR, rA, rW, rU, rV, rM, rT, rO, rF, rS, rE, rX, rD)) l1 l2 ((za, la, wa), (zh, zl, zf, v, zr, zm, zw, z9), (ea, eb), fT)).symm ⟨by decide, by decide, by decide, by decide⟩ ⟨by decide, by decide⟩
        · show vp_updL fU 0 zp.toInt64 0 = _
          rw [uL_s, htl.2.2.2.1]
        · refine ⟨⟨by simpa using hlen, hn, hnr, Or.inl rfl⟩, ⟨hmp, hfd⟩, hpr, ⟨hob, hfo, hlast⟩, fun j z hj => ?_, hlb, fun j h1 h2 => hun j h1 h2, fun h => absurd h (by decide)⟩
          rcases mid_get (z := ((za, la, wa), (zh, zl, zf, zp, zr, zm, zw, z9), (ea, eb), fT)) hj with ⟨rfl, rfl⟩ | ⟨hj, hj9⟩
          · exact ⟨hz, ⟨hzb.1, hzb.2.1, hzb.2.2.1, hbv, hzb.2.2.2.2⟩, ⟨htl.1, htl.2.1, htl.2.2.1, up_s, htl.2.2.2.2⟩, hu, hv9⟩
          · obtain ⟨c1, c2, c3, c4⟩ := hzz j z hj9
            exact ⟨c1, c2, told_up c3 ⟨rfl, rfl, rfl, up_n hj, rfl, rfl, rfl⟩, c4⟩
      · have hbv := bnd hv
        refine ⟨0, fun _ => ((l1 ++ ((za, la, wa), (zh, zl, zf, zp, v, zm, zw, z9), (ea, eb), fT) :: l2), nz, nr, ol, mp, 0, fa, fb, 0, fZ, fO, fG, fP, fW, fK, vp_updL fU 0 zr.toInt64, rH, rL, rB, rP, upd rR l1.length v, rA, rW, rU, rV, rM, rT, rO, rF, rS, rE, rX, rD), rR l1.length, fun sz => ?_, fun _ sz => liftMi [0, 5] (m_set2 l dC dI cI cJ cZ cB m0 mH mL mB mP mR mA mW mU mV mM mT mQ mO mF mS mE mX mD th (nI nz) (nI nr) mp fa fb pl rR nz l1.length v sz hk hn hv) rfl rfl rfl (fun _ _ h _ => h) ⟨by decide, by decide, by decide, by decide⟩, fun _ => rfl, fun _ _ => ?_, fun _ => ?_⟩
        · have h9 := (l_set l dC dI cI cJ cZ cB hl a0 aZ aO aG aP aW aK (nI nz) (nI nr) ol mp pl fa fb fZ za la wa zh zl zf zp zr zm zw z9 nz l1.length 2 v ou fU sz hk hn hz (Or.inr (Or.inr ⟨rfl, hv⟩)))
          simp only [ee20, ee21, ee2, if_true, if_false] at h9
          exact liftA [0, 1, 8, 7] h9 (foc_perm cI _ l1 l2 _) rfl rfl rfl (foc_perm cI (xC cI cJ cZ a0 aZ aO aG aP aW aK ou ((l1 ++ ((za, la, wa), (zh, zl, zf, zp, v, zm, zw, z9), (ea, eb), fT) :: l2), nz, nr, ol, mp, 0, fa, fb, 0, fZ, fO, fG, fP, fW, fK, vp_updL fU 0 zr.toInt64, rH, rL, rB, rP, upd rR l1.length v, rA, rW, rU, rV, rM, rT, rO, rF, rS, rE, rX, rD)) l1 l2 ((za, la, wa), (zh, zl, zf, zp, v, zm, zw, z9), (ea, eb), fT)).symm ⟨by decide, by decide, by decide, by decide⟩ ⟨by decide, by decide⟩
        · show vp_updL fU 0 zr.toInt64 0 = _
          rw [uL_s, htl.2.2.2.2.1]
        · refine ⟨⟨by simpa using hlen, hn, hnr, Or.inl rfl⟩, ⟨hmp, hfd⟩, hpr, ⟨hob, hfo, hlast⟩, fun j z hj => ?_, hlb, fun j h1 h2 => ⟨(hun j h1 h2).1, (up_n (by omega)).trans (hun j h1 h2).2.1, (hun j h1 h2).2.2⟩, fun h => absurd h (by decide)⟩
          rcases mid_get (z := ((za, la, wa), (zh, zl, zf, zp, zr, zm, zw, z9), (ea, eb), fT)) hj with ⟨rfl, rfl⟩ | ⟨hj, hj9⟩
          · exact ⟨hz, ⟨hzb.1, hzb.2.1, hzb.2.2.1, hzb.2.2.2.1, hbv, hzb.2.2.2.2.2⟩, ⟨htl.1, htl.2.1, htl.2.2.1, htl.2.2.2.1, up_s, htl.2.2.2.2.2⟩, hu, hv9⟩
          · obtain ⟨c1, c2, c3, c4⟩ := hzz j z hj9
            exact ⟨c1, c2, told_up c3 ⟨rfl, rfl, rfl, rfl, up_n hj, rfl, rfl⟩, c4⟩
    · skip
      refine ⟨1, fun _ => ((l1 ++ ((za, la, wa), (zh, zl, zf, zp, zr, zm, zw, z9), (ea, eb), fT) :: l2), nz, nr, ol, mp, pl, fa, fb, 1, fZ, fO, fG, fP, fW, fK, fU, rH, rL, rB, rP, rR, rA, rW, rU, rV, rM, rT, rO, rF, rS, rE, rX, rD), 0, fun sz => liftA [0, 1, 8, 7] (l_setY l dC dI cI cJ cZ cB hl a0 aZ aO aG aP aW aK (nI nz) (nI nr) ol mp pl fa fb fZ za la wa zh zl zf zp zr zm zw z9 nz l1.length what v ou fU sz hk hn hz hok) (foc_perm cI _ l1 l2 _) rfl rfl rfl (foc_perm cI (xC cI cJ cZ a0 aZ aO aG aP aW aK ou ((l1 ++ ((za, la, wa), (zh, zl, zf, zp, zr, zm, zw, z9), (ea, eb), fT) :: l2), nz, nr, ol, mp, pl, fa, fb, th, fZ, fO, fG, fP, fW, fK, fU, rH, rL, rB, rP, rR, rA, rW, rU, rV, rM, rT, rO, rF, rS, rE, rX, rD)) l1 l2 ((za, la, wa), (zh, zl, zf, zp, zr, zm, zw, z9), (ea, eb), fT)).symm ⟨by decide, by decide, by decide, by decide⟩ ⟨by decide, by decide⟩, fun _ sz => liftMi [0] (m_setX l dC dI cI cJ cZ cB m0 mH mL mB mP mR mA mW mU mV mM mT mQ mO mF mS mE mX mD th (nI nz) (nI nr) mp fa fb pl nz (nI l1.length) what v sz (Or.inr hok)) rfl rfl rfl (fun _ _ _ h => absurd h (by decide)) ⟨by decide, by decide, by decide, by decide⟩, fun _ => rfl, fun _ h => absurd h (by decide), fun _ => hI0⟩
set_option maxHeartbeats 1000000 in
theorem j_want (l : Launch) (dC : Nat → ClassId) (dI : Nat → Nat → Nat) (cI cJ cZ cB : ClassId) (hl : l.stackTraces = false) (a0 aZ aO aG aP aW aK ou : Nat) (m0 mH mL mB mP mR mA mW mU mV mM mT mQ mO mF mS mE mX mD : Nat) (J : JS) (hI : Inv J) (x y w : Int32) : ∃ (k : Int32) (J1 : Nat × Nat × Nat → JS), SC l dC dI cI cJ cZ cB a0 aZ aO aG aP aW aK ou y_L_want w_L_want [.ref a0, .int x, .int y, .int w] J k J1 ∧ (∀ u, SMv l dC dI cI cJ cZ cB m0 mH mL mB mP mR mA mW mU mV mM mT mQ mO mF mS mE mX mD y_M_want w_M_want [.ref m0, .int x, .int y, .int w] J (J1 u)) ∧ (∀ u, thJ (J1 u) = k) ∧ ∀ u, Inv (J1 u) := by
  obtain ⟨zs, nz, nr, ol, mp, pl, fa, fb, th, fZ, fO, fG, fP, fW, fK, fU, rH, rL, rB, rP, rR, rA, rW, rU, rV, rM, rT, rO, rF, rS, rE, rX, rD⟩ := J
  have hI0 := hI
  obtain ⟨⟨hlen, hn, hnr, hpl⟩, ⟨hmp, hfd⟩, hpr, ⟨hob, hfo, hlast⟩, hzz, hlb, hun, hpn⟩ := hI
  by_cases hx0 : (x < 0 ∨ nI nz ≤ x)
  · skip
    refine ⟨1, fun _ => (zs, nz, nr, ol, mp, pl, fa, fb, 1, fZ, fO, fG, fP, fW, fK, fU, rH, rL, rB, rP, rR, rA, rW, rU, rV, rM, rT, rO, rF, rS, rE, rX, rD), fun sz => liftA [0, 1] (l_wantX l dC dI cI cJ cZ cB hl a0 aZ aO aG aP aW aK (nI nz) (nI nr) ol mp pl fa fb fZ nz x y w sz hx0) (List.Perm.refl _) rfl rfl rfl (List.Perm.refl _) ⟨by decide, by decide, by decide, by decide⟩ ⟨by decide, by decide⟩, fun _ sz => liftMv [0] (m_wantX l dC dI cI cJ cZ cB m0 mH mL mB mP mR mA mW mU mV mM mT mQ mO mF mS mE mX mD th (nI nz) (nI nr) mp fa fb pl nz x y w sz (Or.inl hx0)) rfl rfl rfl ⟨by decide, by decide, by decide, by decide⟩, fun _ => rfl, fun _ => hI0⟩
  · skip
    obtain ⟨k, hk, rfl⟩ := bnd_z hn hx0
    obtain ⟨l1, z, l2, rfl, hl1⟩ := get_len hlen hk
    subst hl1
    obtain ⟨⟨za, la, wa⟩, ⟨zh, zl, zf, zp, zr, zm, zw, z9⟩, ⟨ea, eb⟩, fT⟩ := z
    have hzk := hzz l1.length _ split_get
    obtain ⟨hz, hzb, htl, hu, hv9⟩ := hzk
    by_cases hw0 : ((y < (-1) ∨ 1439 < y) ∨ (w < (-10000) ∨ 10000 < w))
    · skip
      refine ⟨1, fun _ => ((l1 ++ ((za, la, wa), (zh, zl, zf, zp, zr, zm, zw, z9), (ea, eb), fT) :: l2), nz, nr, ol, mp, pl, fa, fb, 1, fZ, fO, fG, fP, fW, fK, fU, rH, rL, rB, rP, rR, rA, rW, rU, rV, rM, rT, rO, rF, rS, rE, rX, rD), fun sz => liftA [0, 1, 8] (l_wantY l dC dI cI cJ cZ cB hl a0 aZ aO aG aP aW aK (nI nz) (nI nr) ol mp pl fa fb fZ za la wa zh zl zf zp zr zm zw z9 nz l1.length y w sz hk hn hz hw0) (foc_perm cI _ l1 l2 _) rfl rfl rfl (foc_perm cI (xC cI cJ cZ a0 aZ aO aG aP aW aK ou ((l1 ++ ((za, la, wa), (zh, zl, zf, zp, zr, zm, zw, z9), (ea, eb), fT) :: l2), nz, nr, ol, mp, pl, fa, fb, th, fZ, fO, fG, fP, fW, fK, fU, rH, rL, rB, rP, rR, rA, rW, rU, rV, rM, rT, rO, rF, rS, rE, rX, rD)) l1 l2 ((za, la, wa), (zh, zl, zf, zp, zr, zm, zw, z9), (ea, eb), fT)).symm ⟨by decide, by decide, by decide, by decide⟩ ⟨by decide, by decide⟩, fun _ sz => liftMv [0] (m_wantX l dC dI cI cJ cZ cB m0 mH mL mB mP mR mA mW mU mV mM mT mQ mO mF mS mE mX mD th (nI nz) (nI nr) mp fa fb pl nz (nI l1.length) y w sz (Or.inr hw0)) rfl rfl rfl ⟨by decide, by decide, by decide, by decide⟩, fun _ => rfl, fun _ => hI0⟩
    · have h1 : ¬ (y < (-1) ∨ 1439 < y) := fun q => hw0 (Or.inl q)
      have h2 : ¬ (w < (-10000) ∨ 10000 < w) := fun q => hw0 (Or.inr q)
      refine ⟨0, fun _ => ((l1 ++ ((za, la, wa), (zh, zl, zf, zp, zr, y, w, z9), (ea, eb), fT) :: l2), nz, nr, ol, mp, 0, fa, fb, 0, fZ, fO, fG, fP, fW, fK, fU, rH, rL, rB, rP, rR, upd rA l1.length y, upd rW l1.length w, rU, rV, rM, rT, rO, rF, rS, rE, rX, rD), fun sz => liftA [0, 1, 8] (l_want l dC dI cI cJ cZ cB hl a0 aZ aO aG aP aW aK (nI nz) (nI nr) ol mp pl fa fb fZ za la wa zh zl zf zp zr zm zw z9 nz l1.length y w sz hk hn hz hw0) (foc_perm cI _ l1 l2 _) rfl rfl rfl (foc_perm cI (xC cI cJ cZ a0 aZ aO aG aP aW aK ou ((l1 ++ ((za, la, wa), (zh, zl, zf, zp, zr, y, w, z9), (ea, eb), fT) :: l2), nz, nr, ol, mp, 0, fa, fb, 0, fZ, fO, fG, fP, fW, fK, fU, rH, rL, rB, rP, rR, upd rA l1.length y, upd rW l1.length w, rU, rV, rM, rT, rO, rF, rS, rE, rX, rD)) l1 l2 ((za, la, wa), (zh, zl, zf, zp, zr, y, w, z9), (ea, eb), fT)).symm ⟨by decide, by decide, by decide, by decide⟩ ⟨by decide, by decide⟩, fun _ sz => liftMv [0, 6, 7] (m_want l dC dI cI cJ cZ cB m0 mH mL mB mP mR mA mW mU mV mM mT mQ mO mF mS mE mX mD th (nI nz) (nI nr) mp fa fb pl rA rW nz l1.length y w sz hk hn h1 h2) rfl rfl rfl ⟨by decide, by decide, by decide, by decide⟩, fun _ => rfl, fun _ => ?_⟩
      refine ⟨⟨by simpa using hlen, hn, hnr, Or.inl rfl⟩, ⟨hmp, hfd⟩, hpr, ⟨hob, hfo, hlast⟩, fun j z hj => ?_, hlb, fun j h1 h2 => ⟨(hun j h1 h2).1, (hun j h1 h2).2.1, (up_n (by omega)).trans (hun j h1 h2).2.2.1, (hun j h1 h2).2.2.2⟩, fun h => absurd h (by decide)⟩
      rcases mid_get (z := ((za, la, wa), (zh, zl, zf, zp, zr, zm, zw, z9), (ea, eb), fT)) hj with ⟨rfl, rfl⟩ | ⟨hj, hj9⟩
      · exact ⟨hz, ⟨hzb.1, hzb.2.1, hzb.2.2.1, hzb.2.2.2.1, hzb.2.2.2.2.1, bnd_m h1⟩, ⟨htl.1, htl.2.1, htl.2.2.1, htl.2.2.2.1, htl.2.2.2.2.1, up_s, up_s⟩, hu, hv9⟩
      · obtain ⟨c1, c2, c3, c4⟩ := hzz j z hj9
        exact ⟨c1, c2, told_up c3 ⟨rfl, rfl, rfl, rfl, rfl, up_n hj, up_n hj⟩, c4⟩
set_option maxHeartbeats 1000000 in
theorem j_lesson (l : Launch) (dC : Nat → ClassId) (dI : Nat → Nat → Nat) (cI cJ cZ cB : ClassId) (hl : l.stackTraces = false) (a0 aZ aO aG aP aW aK ou : Nat) (m0 mH mL mB mP mR mA mW mU mV mM mT mQ mO mF mS mE mX mD : Nat) (J : JS) (hI : Inv J) (x y : Int32) : ∃ (k : Int32) (J1 : Nat × Nat × Nat → JS) (b : Int64), SC l dC dI cI cJ cZ cB a0 aZ aO aG aP aW aK ou y_L_lesson w_L_lesson [.ref a0, .int x, .int y, .ref ou] J k J1 ∧ (∀ u, SMl l dC dI cI cJ cZ cB m0 mH mL mB mP mR mA mW mU mV mM mT mQ mO mF mS mE mX mD y_M_lesson w_M_lesson [.ref m0, .int x, .int y] J k b (J1 u)) ∧ (∀ u, thJ (J1 u) = k) ∧ (∀ u, k = 0 → outJ (J1 u) = b) ∧ ∀ u, Inv (J1 u) := by
  obtain ⟨zs, nz, nr, ol, mp, pl, fa, fb, th, fZ, fO, fG, fP, fW, fK, fU, rH, rL, rB, rP, rR, rA, rW, rU, rV, rM, rT, rO, rF, rS, rE, rX, rD⟩ := J
  have hI0 := hI
  obtain ⟨⟨hlen, hn, hnr, hpl⟩, ⟨hmp, hfd⟩, hpr, ⟨hob, hfo, hlast⟩, hzz, hlb, hun, hpn⟩ := hI
  by_cases hx0 : (x < 0 ∨ nI nz ≤ x)
  · skip
    refine ⟨1, fun _ => (zs, nz, nr, ol, mp, pl, fa, fb, 1, fZ, fO, fG, fP, fW, fK, fU, rH, rL, rB, rP, rR, rA, rW, rU, rV, rM, rT, rO, rF, rS, rE, rX, rD), 0, fun sz => liftA [0, 1, 7] (l_lessonX l dC dI cI cJ cZ cB hl a0 aZ aO aG aP aW aK (nI nz) (nI nr) ol mp pl fa fb fZ nz x y ou fU sz hx0) (List.Perm.refl _) rfl rfl rfl (List.Perm.refl _) ⟨by decide, by decide, by decide, by decide⟩ ⟨by decide, by decide⟩, fun _ sz => liftMl [0] (m_lessonX l dC dI cI cJ cZ cB m0 mH mL mB mP mR mA mW mU mV mM mT mQ mO mF mS mE mX mD th (nI nz) (nI nr) mp fa fb pl nz x y sz (Or.inl hx0)) rfl rfl rfl (fun _ _ _ h => absurd h (by decide)) ⟨by decide, by decide, by decide, by decide⟩, fun _ => rfl, fun _ h => absurd h (by decide), fun _ => hI0⟩
  · skip
    obtain ⟨k, hk, rfl⟩ := bnd_z hn hx0
    obtain ⟨l1, z, l2, rfl, hl1⟩ := get_len hlen hk
    subst hl1
    obtain ⟨⟨za, la, wa⟩, ⟨zh, zl, zf, zp, zr, zm, zw, z9⟩, ⟨ea, eb⟩, fT⟩ := z
    have hzk := hzz l1.length _ split_get
    obtain ⟨hz, hzb, htl, hu, hv9⟩ := hzk
    by_cases hw0 : (y < 0 ∨ 1 < y)
    · skip
      refine ⟨1, fun _ => ((l1 ++ ((za, la, wa), (zh, zl, zf, zp, zr, zm, zw, z9), (ea, eb), fT) :: l2), nz, nr, ol, mp, pl, fa, fb, 1, fZ, fO, fG, fP, fW, fK, fU, rH, rL, rB, rP, rR, rA, rW, rU, rV, rM, rT, rO, rF, rS, rE, rX, rD), 0, fun sz => liftA [0, 1, 8, 9, 7] (l_lessonY l dC dI cI cJ cZ cB hl a0 aZ aO aG aP aW aK (nI nz) (nI nr) ol mp pl fa fb fZ za la wa zh zl zf zp zr zm zw z9 ea eb nz l1.length y ou fU sz hk hn hz hw0) (foc_perm cI _ l1 l2 _) rfl rfl rfl (foc_perm cI (xC cI cJ cZ a0 aZ aO aG aP aW aK ou ((l1 ++ ((za, la, wa), (zh, zl, zf, zp, zr, zm, zw, z9), (ea, eb), fT) :: l2), nz, nr, ol, mp, pl, fa, fb, th, fZ, fO, fG, fP, fW, fK, fU, rH, rL, rB, rP, rR, rA, rW, rU, rV, rM, rT, rO, rF, rS, rE, rX, rD)) l1 l2 ((za, la, wa), (zh, zl, zf, zp, zr, zm, zw, z9), (ea, eb), fT)).symm ⟨by decide, by decide, by decide, by decide⟩ ⟨by decide, by decide⟩, fun _ sz => liftMl [0] (m_lessonX l dC dI cI cJ cZ cB m0 mH mL mB mP mR mA mW mU mV mM mT mQ mO mF mS mE mX mD th (nI nz) (nI nr) mp fa fb pl nz (nI l1.length) y sz (Or.inr hw0)) rfl rfl rfl (fun _ _ _ h => absurd h (by decide)) ⟨by decide, by decide, by decide, by decide⟩, fun _ => rfl, fun _ h => absurd h (by decide), fun _ => hI0⟩
    · have hy9 : y = 0 ∨ y = 1 := by
        obtain ⟨j, hj, e⟩ := bnd_n (b := 1) (by decide) hw0
        rcases (show j = 0 ∨ j = 1 by omega) with q | q
        · subst q; exact Or.inl e
        · subst q; exact Or.inr e
      rcases hy9 with rfl | rfl
      · refine ⟨0, fun _ => ((l1 ++ ((za, la, wa), (zh, zl, zf, zp, zr, zm, zw, z9), (ea, eb), fT) :: l2), nz, nr, ol, mp, pl, fa, fb, 0, fZ, fO, fG, fP, fW, fK, vp_updL fU 0 ea, rH, rL, rB, rP, rR, rA, rW, rU, rV, rM, rT, rO, rF, rS, rE, rX, rD), rU l1.length, fun sz => ?_, fun _ sz => liftMl [0, 8] (m_lesson0 l dC dI cI cJ cZ cB m0 mH mL mB mP mR mA mW mU mV mM mT mQ mO mF mS mE mX mD th (nI nz) (nI nr) mp fa fb pl rU nz l1.length sz hk hn) rfl rfl rfl (fun _ _ h _ => h) ⟨by decide, by decide, by decide, by decide⟩, fun _ => rfl, fun _ _ => ?_, fun _ => hI0⟩
        · have h9 := (l_lesson l dC dI cI cJ cZ cB hl a0 aZ aO aG aP aW aK (nI nz) (nI nr) ol mp pl fa fb fZ za la wa zh zl zf zp zr zm zw z9 ea eb nz l1.length 0 ou fU sz hk hn hz hw0)
          simp only [ee0, if_true, if_false] at h9
          exact liftA [0, 1, 8, 9, 7] h9 (foc_perm cI _ l1 l2 _) rfl rfl rfl (foc_perm cI (xC cI cJ cZ a0 aZ aO aG aP aW aK ou ((l1 ++ ((za, la, wa), (zh, zl, zf, zp, zr, zm, zw, z9), (ea, eb), fT) :: l2), nz, nr, ol, mp, pl, fa, fb, 0, fZ, fO, fG, fP, fW, fK, vp_updL fU 0 ea, rH, rL, rB, rP, rR, rA, rW, rU, rV, rM, rT, rO, rF, rS, rE, rX, rD)) l1 l2 ((za, la, wa), (zh, zl, zf, zp, zr, zm, zw, z9), (ea, eb), fT)).symm ⟨by decide, by decide, by decide, by decide⟩ ⟨by decide, by decide⟩
        · show vp_updL fU 0 ea 0 = _
          rw [uL_s, hu]
      · refine ⟨0, fun _ => ((l1 ++ ((za, la, wa), (zh, zl, zf, zp, zr, zm, zw, z9), (ea, eb), fT) :: l2), nz, nr, ol, mp, pl, fa, fb, 0, fZ, fO, fG, fP, fW, fK, vp_updL fU 0 eb, rH, rL, rB, rP, rR, rA, rW, rU, rV, rM, rT, rO, rF, rS, rE, rX, rD), rV l1.length, fun sz => ?_, fun _ sz => liftMl [0, 9] (m_lesson1 l dC dI cI cJ cZ cB m0 mH mL mB mP mR mA mW mU mV mM mT mQ mO mF mS mE mX mD th (nI nz) (nI nr) mp fa fb pl rV nz l1.length sz hk hn) rfl rfl rfl (fun _ _ h _ => h) ⟨by decide, by decide, by decide, by decide⟩, fun _ => rfl, fun _ _ => ?_, fun _ => hI0⟩
        · have h9 := (l_lesson l dC dI cI cJ cZ cB hl a0 aZ aO aG aP aW aK (nI nz) (nI nr) ol mp pl fa fb fZ za la wa zh zl zf zp zr zm zw z9 ea eb nz l1.length 1 ou fU sz hk hn hz hw0)
          simp only [ee10, if_true, if_false] at h9
          exact liftA [0, 1, 8, 9, 7] h9 (foc_perm cI _ l1 l2 _) rfl rfl rfl (foc_perm cI (xC cI cJ cZ a0 aZ aO aG aP aW aK ou ((l1 ++ ((za, la, wa), (zh, zl, zf, zp, zr, zm, zw, z9), (ea, eb), fT) :: l2), nz, nr, ol, mp, pl, fa, fb, 0, fZ, fO, fG, fP, fW, fK, vp_updL fU 0 eb, rH, rL, rB, rP, rR, rA, rW, rU, rV, rM, rT, rO, rF, rS, rE, rX, rD)) l1 l2 ((za, la, wa), (zh, zl, zf, zp, zr, zm, zw, z9), (ea, eb), fT)).symm ⟨by decide, by decide, by decide, by decide⟩ ⟨by decide, by decide⟩
        · show vp_updL fU 0 eb 0 = _
          rw [uL_s, hv9]
set_option maxHeartbeats 1000000 in
theorem j_day (l : Launch) (dC : Nat → ClassId) (dI : Nat → Nat → Nat) (cI cJ cZ cB : ClassId) (hl : l.stackTraces = false) (a0 aZ aO aG aP aW aK ou : Nat) (m0 mH mL mB mP mR mA mW mU mV mM mT mQ mO mF mS mE mX mD : Nat) (J : JS) (hI : Inv J) (x mn : Int32) : ∃ (k : Int32) (J1 : Nat × Nat × Nat → JS), SC l dC dI cI cJ cZ cB a0 aZ aO aG aP aW aK ou y_L_day w_L_day [.ref a0, .int x, .int mn] J k J1 ∧ (∀ u, SMv l dC dI cI cJ cZ cB m0 mH mL mB mP mR mA mW mU mV mM mT mQ mO mF mS mE mX mD y_M_day w_M_day [.ref m0, .int x, .int mn] J (J1 u)) ∧ (∀ u, thJ (J1 u) = k) ∧ ∀ u, Inv (J1 u) := by
  obtain ⟨zs, nz, nr, ol, mp, pl, fa, fb, th, fZ, fO, fG, fP, fW, fK, fU, rH, rL, rB, rP, rR, rA, rW, rU, rV, rM, rT, rO, rF, rS, rE, rX, rD⟩ := J
  have hI0 := hI
  obtain ⟨⟨hlen, hn, hnr, hpl⟩, ⟨hmp, hfd⟩, hpr, ⟨hob, hfo, hlast⟩, hzz, hlb, hun, hpn⟩ := hI
  by_cases hx0 : (x < 0 ∨ nI nz ≤ x)
  · skip
    refine ⟨1, fun _ => (zs, nz, nr, ol, mp, pl, fa, fb, 1, fZ, fO, fG, fP, fW, fK, fU, rH, rL, rB, rP, rR, rA, rW, rU, rV, rM, rT, rO, rF, rS, rE, rX, rD), fun sz => liftA [0, 1] (l_dayX l dC dI cI cJ cZ cB hl a0 aZ aO aG aP aW aK (nI nz) (nI nr) ol mp pl fa fb fZ nz x mn sz hx0) (List.Perm.refl _) rfl rfl rfl (List.Perm.refl _) ⟨by decide, by decide, by decide, by decide⟩ ⟨by decide, by decide⟩, fun _ sz => liftMv [0] (m_dayX l dC dI cI cJ cZ cB m0 mH mL mB mP mR mA mW mU mV mM mT mQ mO mF mS mE mX mD th (nI nz) (nI nr) mp fa fb pl nz x mn sz (Or.inl hx0)) rfl rfl rfl ⟨by decide, by decide, by decide, by decide⟩, fun _ => rfl, fun _ => hI0⟩
  · skip
    obtain ⟨k, hk, rfl⟩ := bnd_z hn hx0
    obtain ⟨l1, z, l2, rfl, hl1⟩ := get_len hlen hk
    subst hl1
    obtain ⟨⟨za, la, wa⟩, ⟨zh, zl, zf, zp, zr, zm, zw, z9⟩, ⟨ea, eb⟩, fT⟩ := z
    have hzk := hzz l1.length _ split_get
    obtain ⟨hz, hzb, htl, hu, hv9⟩ := hzk
    by_cases hw0 : (mn < (-1440) ∨ 1440 < mn)
    · skip
      refine ⟨1, fun _ => ((l1 ++ ((za, la, wa), (zh, zl, zf, zp, zr, zm, zw, z9), (ea, eb), fT) :: l2), nz, nr, ol, mp, pl, fa, fb, 1, fZ, fO, fG, fP, fW, fK, fU, rH, rL, rB, rP, rR, rA, rW, rU, rV, rM, rT, rO, rF, rS, rE, rX, rD), fun sz => liftA [0, 1, 8] (l_dayY l dC dI cI cJ cZ cB hl a0 aZ aO aG aP aW aK (nI nz) (nI nr) ol mp pl fa fb fZ za la wa zh zl zf zp zr zm zw z9 nz l1.length mn sz hk hn hz hw0) (foc_perm cI _ l1 l2 _) rfl rfl rfl (foc_perm cI (xC cI cJ cZ a0 aZ aO aG aP aW aK ou ((l1 ++ ((za, la, wa), (zh, zl, zf, zp, zr, zm, zw, z9), (ea, eb), fT) :: l2), nz, nr, ol, mp, pl, fa, fb, th, fZ, fO, fG, fP, fW, fK, fU, rH, rL, rB, rP, rR, rA, rW, rU, rV, rM, rT, rO, rF, rS, rE, rX, rD)) l1 l2 ((za, la, wa), (zh, zl, zf, zp, zr, zm, zw, z9), (ea, eb), fT)).symm ⟨by decide, by decide, by decide, by decide⟩ ⟨by decide, by decide⟩, fun _ sz => liftMv [0] (m_dayX l dC dI cI cJ cZ cB m0 mH mL mB mP mR mA mW mU mV mM mT mQ mO mF mS mE mX mD th (nI nz) (nI nr) mp fa fb pl nz (nI l1.length) mn sz (Or.inr hw0)) rfl rfl rfl ⟨by decide, by decide, by decide, by decide⟩, fun _ => rfl, fun _ => hI0⟩
    · have hlk := hlb l1.length hk
      rw [hu, hv9] at hlk
      have hmb := bnd hw0
      obtain ⟨x1, y1, g1, a1, b1, N1, hx1, hy1, hg1, hd1, hn1, ha1, hb1, hcs⟩ := les_eq hlk hfd hmb
      have hx1' : rU l1.length * (fb - fa).toInt64 + mn.toInt64 * rV l1.length * fa.toInt64 = x1 := by rw [hu, hv9]; exact hx1
      have hy1' : rV l1.length * fb.toInt64 = y1 := by rw [hv9]; exact hy1
      rcases hcs with ⟨hbig, hLB⟩ | ⟨hbig, hb0, hy0, x2, g2, N2, hx2, hx2', hg2, hd2, hn2, hLB⟩
      · refine ⟨0, fun _ => ((l1 ++ ((za, la, wa), (zh, zl, zf, zp, zr, zm, zw, z9), (a1, b1), fT) :: l2), nz, nr, ol, mp, pl, fa, fb, 0, fZ, fO, fG, fP, fW, fK, fU, rH, rL, rB, rP, rR, rA, rW, vp_updL rU l1.length (x1 / g1), vp_updL rV l1.length (y1 / g1), rM, rT, rO, rF, rS, rE, rX, rD), fun sz => liftA [0, 1, 8, 9] (l_day1 l dC dI cI cJ cZ cB hl a0 aZ aO aG aP aW aK (nI nz) (nI nr) ol mp pl fa fb fZ za la wa zh zl zf zp zr zm zw z9 ea eb nz l1.length mn x1 y1 g1 a1 b1 sz hk hn hz hx1 hy1 hg1 hn1 ha1 hb1 hbig hw0) (foc_perm cI _ l1 l2 _) rfl rfl rfl (foc_perm cI (xC cI cJ cZ a0 aZ aO aG aP aW aK ou ((l1 ++ ((za, la, wa), (zh, zl, zf, zp, zr, zm, zw, z9), (a1, b1), fT) :: l2), nz, nr, ol, mp, pl, fa, fb, 0, fZ, fO, fG, fP, fW, fK, fU, rH, rL, rB, rP, rR, rA, rW, vp_updL rU l1.length (x1 / g1), vp_updL rV l1.length (y1 / g1), rM, rT, rO, rF, rS, rE, rX, rD)) l1 l2 ((za, la, wa), (zh, zl, zf, zp, zr, zm, zw, z9), (a1, b1), fT)).symm ⟨by decide, by decide, by decide, by decide⟩ ⟨by decide, by decide⟩, fun _ sz => liftMv [0, 8, 9] (m_day1 l dC dI cI cJ cZ cB m0 mH mL mB mP mR mA mW mU mV mM mT mQ mO mF mS mE mX mD th (nI nz) (nI nr) mp fa fb pl rU rV nz l1.length mn x1 y1 g1 N1 sz hk hn hw0 hx1' hy1' hd1 hn1 (by rw [hb1]; exact hbig)) rfl rfl rfl ⟨by decide, by decide, by decide, by decide⟩, fun _ => rfl, fun _ => ?_⟩
        refine ⟨⟨by simpa using hlen, hn, hnr, hpl⟩, ⟨hmp, hfd⟩, hpr, ⟨hob, hfo, hlast⟩, fun j z hj => ?_, fun j hj => ?_, fun j h1 h2 => ⟨(hun j h1 h2).1, (hun j h1 h2).2.1, (hun j h1 h2).2.2.1, (uL_n (by omega)).trans (hun j h1 h2).2.2.2⟩, fun h => ⟨(hpn h).1, fun j z hj => ?_⟩⟩
        · rcases mid_get (z := ((za, la, wa), (zh, zl, zf, zp, zr, zm, zw, z9), (ea, eb), fT)) hj with ⟨rfl, rfl⟩ | ⟨hj, hj9⟩
          · exact ⟨hz, hzb, htl, uL_s.trans ha1, uL_s.trans hb1⟩
          · obtain ⟨c1, c2, c3, c4, c5⟩ := hzz j z hj9
            exact ⟨c1, c2, c3, (uL_n hj).trans c4, (uL_n hj).trans c5⟩
        · by_cases e : j = l1.length
          · subst e; rw [uL_s, uL_s]; rw [ha1, hb1]; exact hLB
          · rw [uL_n e, uL_n e]; exact hlb j hj
        · rcases mid_get (z := ((za, la, wa), (zh, zl, zf, zp, zr, zm, zw, z9), (ea, eb), fT)) hj with ⟨rfl, rfl⟩ | ⟨hj, hj9⟩
          · exact (hpn h).2 l1.length ((za, la, wa), (zh, zl, zf, zp, zr, zm, zw, z9), (ea, eb), fT) split_get
          · exact (hpn h).2 j z hj9
      · refine ⟨0, fun _ => ((l1 ++ ((za, la, wa), (zh, zl, zf, zp, zr, zm, zw, z9), ((x2 / g2), (1000000 / g2)), fT) :: l2), nz, nr, ol, mp, pl, fa, fb, 0, fZ, fO, fG, fP, fW, fK, fU, rH, rL, rB, rP, rR, rA, rW, vp_updL rU l1.length (x2 / g2), vp_updL rV l1.length (1000000 / g2), rM, rT, rO, rF, rS, rE, rX, rD), fun sz => liftA [0, 1, 8, 9] (l_day2 l dC dI cI cJ cZ cB hl a0 aZ aO aG aP aW aK (nI nz) (nI nr) ol mp pl fa fb fZ za la wa zh zl zf zp zr zm zw z9 ea eb nz l1.length mn x1 y1 g1 a1 b1 x2 g2 sz hk hn hz hx1 hy1 hg1 hn1 ha1 hb1 hbig hb0 hx2 hg2 hn2 hw0) (foc_perm cI _ l1 l2 _) rfl rfl rfl (foc_perm cI (xC cI cJ cZ a0 aZ aO aG aP aW aK ou ((l1 ++ ((za, la, wa), (zh, zl, zf, zp, zr, zm, zw, z9), ((x2 / g2), (1000000 / g2)), fT) :: l2), nz, nr, ol, mp, pl, fa, fb, 0, fZ, fO, fG, fP, fW, fK, fU, rH, rL, rB, rP, rR, rA, rW, vp_updL rU l1.length (x2 / g2), vp_updL rV l1.length (1000000 / g2), rM, rT, rO, rF, rS, rE, rX, rD)) l1 l2 ((za, la, wa), (zh, zl, zf, zp, zr, zm, zw, z9), ((x2 / g2), (1000000 / g2)), fT)).symm ⟨by decide, by decide, by decide, by decide⟩ ⟨by decide, by decide⟩, fun _ sz => liftMv [0, 8, 9] (m_day2 l dC dI cI cJ cZ cB m0 mH mL mB mP mR mA mW mU mV mM mT mQ mO mF mS mE mX mD th (nI nz) (nI nr) mp fa fb pl rU rV nz l1.length mn x1 y1 g1 N1 x2 g2 N2 sz hk hn hw0 hx1' hy1' hd1 hn1 (by rw [hb1]; exact hbig) hy0 hx2' hd2 hn2) rfl rfl rfl ⟨by decide, by decide, by decide, by decide⟩, fun _ => rfl, fun _ => ?_⟩
        refine ⟨⟨by simpa using hlen, hn, hnr, hpl⟩, ⟨hmp, hfd⟩, hpr, ⟨hob, hfo, hlast⟩, fun j z hj => ?_, fun j hj => ?_, fun j h1 h2 => ⟨(hun j h1 h2).1, (hun j h1 h2).2.1, (hun j h1 h2).2.2.1, (uL_n (by omega)).trans (hun j h1 h2).2.2.2⟩, fun h => ⟨(hpn h).1, fun j z hj => ?_⟩⟩
        · rcases mid_get (z := ((za, la, wa), (zh, zl, zf, zp, zr, zm, zw, z9), (ea, eb), fT)) hj with ⟨rfl, rfl⟩ | ⟨hj, hj9⟩
          · exact ⟨hz, hzb, htl, uL_s, uL_s⟩
          · obtain ⟨c1, c2, c3, c4, c5⟩ := hzz j z hj9
            exact ⟨c1, c2, c3, (uL_n hj).trans c4, (uL_n hj).trans c5⟩
        · by_cases e : j = l1.length
          · subst e; rw [uL_s, uL_s]; exact hLB
          · rw [uL_n e, uL_n e]; exact hlb j hj
        · rcases mid_get (z := ((za, la, wa), (zh, zl, zf, zp, zr, zm, zw, z9), (ea, eb), fT)) hj with ⟨rfl, rfl⟩ | ⟨hj, hj9⟩
          · exact (hpn h).2 l1.length ((za, la, wa), (zh, zl, zf, zp, zr, zm, zw, z9), (ea, eb), fT) split_get
          · exact (hpn h).2 j z hj9
set_option maxHeartbeats 1000000 in
theorem j_zone (l : Launch) (dC : Nat → ClassId) (dI : Nat → Nat → Nat) (cI cJ cZ cB : ClassId) (hl : l.stackTraces = false) (a0 aZ aO aG aP aW aK ou : Nat) (m0 mH mL mB mP mR mA mW mU mV mM mT mQ mO mF mS mE mX mD : Nat) (J : JS) (hI : Inv J) (x y : Int32) : ∃ (k : Int32) (J1 : Nat × Nat × Nat → JS) (b : Int32), SC l dC dI cI cJ cZ cB a0 aZ aO aG aP aW aK ou y_L_zone w_L_zone [.ref a0, .int x, .int y, .ref ou] J k J1 ∧ (∀ u, SMi l dC dI cI cJ cZ cB m0 mH mL mB mP mR mA mW mU mV mM mT mQ mO mF mS mE mX mD y_M_zone w_M_zone [.ref m0, .int x, .int y] J k b (J1 u)) ∧ (∀ u, thJ (J1 u) = k) ∧ (∀ u, k = 0 → outJ (J1 u) = b.toInt64) ∧ ∀ u, Inv (J1 u) := by
  obtain ⟨zs, nz, nr, ol, mp, pl, fa, fb, th, fZ, fO, fG, fP, fW, fK, fU, rH, rL, rB, rP, rR, rA, rW, rU, rV, rM, rT, rO, rF, rS, rE, rX, rD⟩ := J
  have hI0 := hI
  obtain ⟨⟨hlen, hn, hnr, hpl⟩, ⟨hmp, hfd⟩, hpr, ⟨hob, hfo, hlast⟩, hzz, hlb, hun, hpn⟩ := hI
  by_cases hx0 : ((x < 1 ∨ 1000 < x) ∨ (y < 1 ∨ 1000 < y))
  · skip
    refine ⟨1, fun _ => (zs, nz, nr, ol, mp, pl, fa, fb, 1, fZ, fO, fG, fP, fW, fK, fU, rH, rL, rB, rP, rR, rA, rW, rU, rV, rM, rT, rO, rF, rS, rE, rX, rD), 0, fun sz => liftA [0, 1, 7] (l_zoneX l dC dI cI cJ cZ cB hl a0 aZ aO aG aP aW aK (nI nz) (nI nr) ol mp pl fa fb fZ nz x y ou fU sz hn hx0) (List.Perm.refl _) rfl rfl rfl (List.Perm.refl _) ⟨by decide, by decide, by decide, by decide⟩ ⟨by decide, by decide⟩, fun _ sz => liftMi [0] (m_zoneX l dC dI cI cJ cZ cB m0 mH mL mB mP mR mA mW mU mV mM mT mQ mO mF mS mE mX mD th (nI nz) (nI nr) mp fa fb pl nz x y sz hx0) rfl rfl rfl (fun _ _ _ h => absurd h (by decide)) ⟨by decide, by decide, by decide, by decide⟩, fun _ => rfl, fun _ h => absurd h (by decide), fun _ => hI0⟩
  · by_cases hlt : nz < 6
    · have hbx := bnd (fun q => hx0 (Or.inl q))
      have hby := bnd (fun q => hx0 (Or.inr q))
      refine ⟨0, fun u => ((zs ++ [((u.1, u.2.1, u.2.2), (x, y, 0, 1000, 0, -1, 0, -1), (0, 1), (fun _ => 0))]), nz + 1, nr, ol, mp, 0, fa, fb, 0, va_up fZ nz (some u.1), fO, fG, fP, fW, fK, vp_updL fU 0 (nI nz).toInt64, upd rH nz x, upd rL nz y, rB, upd rP nz 1000, rR, upd rA nz (-1), rW, rU, vp_updL rV nz 1, rM, rT, rO, rF, rS, rE, rX, rD), nI nz, fun sz => ?_, fun u sz => liftMi [0, 1, 2, 4, 6, 9] (m_zone l dC dI cI cJ cZ cB m0 mH mL mB mP mR mA mW mU mV mM mT mQ mO mF mS mE mX mD th (nI nz) (nI nr) mp fa fb pl rH rL rP rA rV nz x y sz hlt hx0) rfl rfl rfl (fun _ _ h _ => h) ⟨by decide, by decide, by decide, by decide⟩, fun _ => rfl, fun _ _ => uL_s, fun u => ?_⟩
      · have h9 := (l_zone l dC dI cI cJ cZ cB hl a0 aZ aO aG aP aW aK (nI nz) (nI nr) ol mp pl fa fb fZ nz x y ou fU sz hn hx0 hlt)
        have hC : [0, 1, 7].map (fun i => (xC cI cJ cZ a0 aZ aO aG aP aW aK ou (zs, nz, nr, ol, mp, pl, fa, fb, th, fZ, fO, fG, fP, fW, fK, fU, rH, rL, rB, rP, rR, rA, rW, rU, rV, rM, rT, rO, rF, rS, rE, rX, rD))[i]?) = ([(a0, .inr (2, [.ref aZ, .int (nI nz), .ref aO, .int (nI nr), .int ol, .int mp, .ref aG, .int pl, .int fa, .int fb, .ref aP, .ref aW, .ref aK])), (aZ, .inl (cZ, 6, .inr (.inr (.inr (.inr fZ))))), (ou, .inl (cJ, 1, .inr (.inl fU)))] : va_W).map some := rfl
        have hsub : ∀ q, va_A ([(a0, .inr (2, [.ref aZ, .int (nI nz), .ref aO, .int (nI nr), .int ol, .int mp, .ref aG, .int pl, .int fa, .int fb, .ref aP, .ref aW, .ref aK])), (aZ, .inl (cZ, 6, .inr (.inr (.inr (.inr fZ))))), (ou, .inl (cJ, 1, .inr (.inl fU)))] : va_W) sz q → va_A (wC cI cJ cZ a0 aZ aO aG aP aW aK ou (zs, nz, nr, ol, mp, pl, fa, fb, th, fZ, fO, fG, fP, fW, fK, fU, rH, rL, rB, rP, rR, rA, rW, rU, rV, rM, rT, rO, rF, rS, rE, rX, rD)) sz q := vA_sub [0, 1, 7] rfl
        refine met_up h9 ⟨by decide, by decide, by decide, by decide⟩ ⟨by decide, by decide⟩ ?_ ?_ hsub
        · rintro a s ⟨q0, q1, qP, qK, qD, qE, qN⟩
          exact ⟨q0, q1, vP_sub [0, 1, 7] rfl qP, qK, qD.sub [0, 1, 7] rfl rfl, qE.less hsub, qN⟩
        · rintro a s o t ⟨q0, q1, qP, qK, qD, qE, qN⟩ ⟨⟨r, u, ho, hpost, hB1, hB2⟩, hF⟩
          have hj := va_joinQ (A0 := va_A (wC cI cJ cZ a0 aZ aO aG aP aW aK ou (zs, nz, nr, ol, mp, pl, fa, fb, th, fZ, fO, fG, fP, fW, fK, fU, rH, rL, rB, rP, rR, rA, rW, rU, rV, rM, rT, rO, rF, rS, rE, rX, rD)) sz) (X := xC cI cJ cZ a0 aZ aO aG aP aW aK ou (zs, nz, nr, ol, mp, pl, fa, fb, th, fZ, fO, fG, fP, fW, fK, fU, rH, rL, rB, rP, rR, rA, rW, rU, rV, rM, rT, rO, rF, rS, rE, rX, rD)) (pl := zs.flatMap (tri cI)) (wr := [(aO, .inl (cI, 1440, .inl fO)), (aG, .inl (cI, 1440, .inl fG)), (aP, .inl (cI, 24, .inl fP)), (aW, .inl (cI, 1024, .inl fW)), (aK, .inl (cJ, 1024, .inr (.inl fK)))]) qP (qD.self (sz := sz)) [0, 1, 7] [2, 3, 4, 5, 6] hC rfl rfl (by decide) (fun q h9 h8 => hF.2 q h9 (fun z => h8 (by rw [q1]; exact z))) (fun q h8 => hsub q (by rw [q1] at h8; exact h8)) hB1 (by rw [q1]; exact hB2)
          have hperm : ∀ (A B C P : va_W), ((A ++ B) ++ (C ++ P)).Perm ((B ++ A) ++ (P ++ C)) := fun A B C P => List.Perm.append List.perm_append_comm List.perm_append_comm
          have hp9 := hperm [(aO, .inl (cI, 1440, .inl fO)), (aG, .inl (cI, 1440, .inl fG)), (aP, .inl (cI, 24, .inl fP)), (aW, .inl (cI, 1024, .inl fW)), (aK, .inl (cJ, 1024, .inr (.inl fK))), (ou, .inl (cJ, 1, .inr (.inl (vp_updL fU 0 (nI nz).toInt64))))] [(a0, .inr (2, [.ref aZ, .int (nI (nz + 1)), .ref aO, .int (nI nr), .int ol, .int mp, .ref aG, .int 0, .int fa, .int fb, .ref aP, .ref aW, .ref aK])), (aZ, .inl (cZ, 6, .inr (.inr (.inr (.inr (va_up fZ nz (some u.1)))))))] (tri cI ((u.1, u.2.1, u.2.2), (x, y, 0, 1000, 0, -1, 0, -1), (0, 1), (fun _ => 0))) (zs.flatMap (tri cI))
          have hfm : (zs.flatMap (tri cI)) ++ tri cI ((u.1, u.2.1, u.2.2), (x, y, 0, 1000, 0, -1, 0, -1), (0, 1), (fun _ => 0)) = (zs ++ [((u.1, u.2.1, u.2.2), (x, y, 0, 1000, 0, -1, 0, -1), (0, 1), (fun _ => 0))]).flatMap (tri cI) := by rw [List.flatMap_append, List.flatMap_cons, List.flatMap_nil, List.append_nil]
          rw [hfm] at hp9
          exact ⟨⟨r, u, ho, hpost, wp_perm hp9 hj.1, wd_perm hp9 hj.2⟩, hF.1, fun q h9 h8 => hF.2 q h9 (fun z => h8 (hsub q z))⟩
      · refine ⟨⟨by simp [hlen], by omega, hnr, Or.inl rfl⟩, ⟨hmp, hfd⟩, hpr, ⟨hob, hfo, hlast⟩, fun j z hj => ?_, fun j hj => ?_, fun j h1 h2 => hun j (by omega) h2, fun h => absurd h (by decide)⟩
        · by_cases e : j = nz
          · subst e
            rw [List.getElem?_append_right (by omega), hlen, Nat.sub_self] at hj
            have hj9 : ((u.1, u.2.1, u.2.2), (x, y, 0, 1000, 0, -1, 0, -1), (0, 1), (fun _ => 0)) = z := by simpa using hj
            subst hj9
            obtain ⟨n1, n2, n3, n4⟩ := hun j (Nat.le_refl _) hlt
            exact ⟨if_pos rfl, zb_new hbx hby, ⟨up_s, up_s, n1, up_s, n2, up_s, n3⟩, n4, uL_s⟩
          · have hjl : j < zs.length := by
              have := (List.getElem?_eq_some_iff.mp hj).1
              simp at this
              omega
            rw [List.getElem?_append_left hjl] at hj
            obtain ⟨c1, c2, c3, c4, c5⟩ := hzz j z hj
            exact ⟨(if_neg e).trans c1, c2, told_up c3 ⟨up_n e, up_n e, rfl, up_n e, rfl, up_n e, rfl⟩, c4, (uL_n e).trans c5⟩
        · by_cases e : j = nz
          · subst e
            obtain ⟨n1, n2, n3, n4⟩ := hun j (Nat.le_refl _) hlt
            rw [uL_s, n4]
            exact ⟨⟨by decide, by decide, by decide⟩, by decide⟩
          · rw [uL_n e]; exact hlb j (by omega)
    · have e6 : nz = 6 := by omega
      subst e6
      refine ⟨2, fun _ => (zs, 6, nr, ol, mp, pl, fa, fb, 2, fZ, fO, fG, fP, fW, fK, fU, rH, rL, rB, rP, rR, rA, rW, rU, rV, rM, rT, rO, rF, rS, rE, rX, rD), 0, fun sz => liftA [0, 1, 7] (l_zoneY l dC dI cI cJ cZ cB hl a0 aZ aO aG aP aW aK (nI 6) (nI nr) ol mp pl fa fb fZ 6 x y ou fU sz hn hx0 hlt) (List.Perm.refl _) rfl rfl rfl (List.Perm.refl _) ⟨by decide, by decide, by decide, by decide⟩ ⟨by decide, by decide⟩, fun _ sz => liftMi [0] (m_zoneY l dC dI cI cJ cZ cB m0 mH mL mB mP mR mA mW mU mV mM mT mQ mO mF mS mE mX mD th 0 (nI nr) mp fa fb pl x y sz hx0) rfl rfl rfl (fun _ _ _ h => absurd h (by decide)) ⟨by decide, by decide, by decide, by decide⟩, fun _ => rfl, fun _ h => absurd h (by decide), fun _ => hI0⟩
