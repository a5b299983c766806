/-! ===== one call on both sides ===== -/
theorem tri_fst' {cI : ClassId} : ∀ {l1 l2 : List ZD}, l1.map (fun z => z.1) = l2.map (fun z => z.1) → (l1.flatMap (tri cI)).map Prod.fst = (l2.flatMap (tri cI)).map Prod.fst := by
  intro l1
  induction l1 with
  | nil => intro l2 h; cases l2 with
    | nil => rfl
    | cons a l => simp at h
  | cons z l1 ih =>
    intro l2 h
    cases l2 with
    | nil => simp at h
    | cons z2 l2 =>
      simp only [List.map_cons, List.cons.injEq] at h
      rw [List.flatMap_cons, List.flatMap_cons, List.map_append, List.map_append, ih h.2]
      congr 1
      obtain ⟨⟨za, la, wa⟩, ⟨zh, zl, zf, zp, zr, zm, zw, zs⟩, ⟨ea, eb⟩, fT⟩ := z
      obtain ⟨⟨za2, la2, wa2⟩, ⟨zh2, zl2, zf2, zp2, zr2, zm2, zw2, zs2⟩, ⟨ea2, eb2⟩, fT2⟩ := z2
      have := h.1
      simp only [Prod.mk.injEq] at this
      obtain ⟨e1, e2, e3⟩ := this
      subst e1; subst e2; subst e3
      rfl
theorem tri_fst {cI : ClassId} {o : Nat → Int32} {mp : Int32} {nz : Nat} {zs0 zs1 : List ZD} {fG g0 g1 : Nat → Int32} {pl : Int32} (h : plTo o mp nz zs0 fG g0 pl zs1 g1) : (zs1.flatMap (tri cI)).map Prod.fst = (zs0.flatMap (tri cI)).map Prod.fst := tri_fst' (plTo_ad h)
set_option maxHeartbeats 1000000 in
theorem j_machine (l : Launch) (dC : Nat → ClassId) (dI : Nat → Nat → Nat) (cI cJ cZ cB : ClassId) (hl : l.stackTraces = false) (a0 aZ aO aG aP aW aK ou : Nat) (m0 mH mL mB mP mR mA mW mU mV mM mT mQ mO mF mS mE mX mD : Nat) (J : JS) (hI : Inv J) (x : Int32) : ∃ (k : Int32) (J1 : Nat × Nat × Nat → JS) (b : Int32), SC l dC dI cI cJ cZ cB a0 aZ aO aG aP aW aK ou y_L_machine w_L_machine [.ref a0, .int x, .ref ou] J k J1 ∧ (∀ u, SMi l dC dI cI cJ cZ cB m0 mH mL mB mP mR mA mW mU mV mM mT mQ mO mF mS mE mX mD y_M_machine w_M_machine [.ref m0, .int x] J k b (J1 u)) ∧ (∀ u, thJ (J1 u) = k) ∧ (∀ u, k = 0 → outJ (J1 u) = b.toInt64) ∧ ∀ u, Inv (J1 u) := by
  obtain ⟨zs, nz, nr, ol, mp, pl, fa, fb, th, fZ, fO, fG, fP, fW, fK, fU, rH, rL, rB, rP, rR, rA, rW, rU, rV, rM, rT, rO, rF, rS, rE, rX, rD⟩ := J
  have hI0 := hI
  obtain ⟨⟨hlen, hn, hnr, hpl⟩, ⟨hmp, hfd⟩, hpr, ⟨hob, hfo, hlast⟩, hzz, hlb, hun, hpn⟩ := hI
  by_cases hx0 : (x < 0 ∨ 1000000 < x)
  · skip
    refine ⟨1, fun _ => (zs, nz, nr, ol, mp, pl, fa, fb, 1, fZ, fO, fG, fP, fW, fK, fU, rH, rL, rB, rP, rR, rA, rW, rU, rV, rM, rT, rO, rF, rS, rE, rX, rD), 0, fun sz => liftA [0, 7] (l_machineX l dC dI cI cJ cZ cB hl a0 aZ aO aG aP aW aK (nI nz) (nI nr) ol mp pl fa fb x ou fU sz hx0) (List.Perm.refl _) rfl rfl rfl (List.Perm.refl _) ⟨by decide, by decide, by decide, by decide⟩ ⟨by decide, by decide⟩, fun _ sz => liftMi [0] (m_machineX l dC dI cI cJ cZ cB m0 mH mL mB mP mR mA mW mU mV mM mT mQ mO mF mS mE mX mD th (nI nz) (nI nr) mp fa fb pl x sz hx0) rfl rfl rfl (fun _ _ _ h => absurd h (by decide)) ⟨by decide, by decide, by decide, by decide⟩, fun _ => rfl, fun _ h => absurd h (by decide), fun _ => hI0⟩
  · skip
    refine ⟨0, fun _ => (zs, nz, nr, ol, x, 0, fa, fb, 0, fZ, fO, fG, fP, fW, fK, vp_updL fU 0 mp.toInt64, rH, rL, rB, rP, rR, rA, rW, rU, rV, rM, rT, rO, rF, rS, rE, rX, rD), mp, fun sz => liftA [0, 7] (l_machine l dC dI cI cJ cZ cB hl a0 aZ aO aG aP aW aK (nI nz) (nI nr) ol mp pl fa fb x ou fU sz hx0) (List.Perm.refl _) rfl rfl rfl (List.Perm.refl _) ⟨by decide, by decide, by decide, by decide⟩ ⟨by decide, by decide⟩, fun _ sz => liftMi [0] (m_machine l dC dI cI cJ cZ cB m0 mH mL mB mP mR mA mW mU mV mM mT mQ mO mF mS mE mX mD th (nI nz) (nI nr) mp fa fb pl x sz hx0) rfl rfl rfl (fun _ _ h _ => h) ⟨by decide, by decide, by decide, by decide⟩, fun _ => rfl, fun _ _ => uL_s, fun _ => ?_⟩
    have hb := bnd hx0
    exact ⟨⟨hlen, hn, hnr, Or.inl rfl⟩, ⟨⟨hb.1, hb.2⟩, hfd⟩, hpr, ⟨hob, hfo, hlast⟩, hzz, hlb, hun, fun h => absurd h (by decide)⟩
set_option maxHeartbeats 1000000 in
theorem j_fade (l : Launch) (dC : Nat → ClassId) (dI : Nat → Nat → Nat) (cI cJ cZ cB : ClassId) (hl : l.stackTraces = false) (a0 aZ aO aG aP aW aK ou : Nat) (m0 mH mL mB mP mR mA mW mU mV mM mT mQ mO mF mS mE mX mD : Nat) (J : JS) (hI : Inv J) (x y : Int32) : ∃ (k : Int32) (J1 : Nat × Nat × Nat → JS), SC l dC dI cI cJ cZ cB a0 aZ aO aG aP aW aK ou y_L_fade w_L_fade [.ref a0, .int x, .int y] J k J1 ∧ (∀ u, SMv l dC dI cI cJ cZ cB m0 mH mL mB mP mR mA mW mU mV mM mT mQ mO mF mS mE mX mD y_M_fade w_M_fade [.ref m0, .int x, .int y] J (J1 u)) ∧ (∀ u, thJ (J1 u) = k) ∧ ∀ u, Inv (J1 u) := by
  obtain ⟨zs, nz, nr, ol, mp, pl, fa, fb, th, fZ, fO, fG, fP, fW, fK, fU, rH, rL, rB, rP, rR, rA, rW, rU, rV, rM, rT, rO, rF, rS, rE, rX, rD⟩ := J
  have hI0 := hI
  obtain ⟨⟨hlen, hn, hnr, hpl⟩, ⟨hmp, hfd⟩, hpr, ⟨hob, hfo, hlast⟩, hzz, hlb, hun, hpn⟩ := hI
  by_cases hx0 : ((y < 1 ∨ 100 < y) ∨ (x < 0 ∨ y < x))
  · skip
    refine ⟨1, fun _ => (zs, nz, nr, ol, mp, pl, fa, fb, 1, fZ, fO, fG, fP, fW, fK, fU, rH, rL, rB, rP, rR, rA, rW, rU, rV, rM, rT, rO, rF, rS, rE, rX, rD), fun sz => liftA [0] (l_fadeX l dC dI cI cJ cZ cB hl a0 aZ aO aG aP aW aK (nI nz) (nI nr) ol mp pl fa fb x y sz hx0) (List.Perm.refl _) rfl rfl rfl (List.Perm.refl _) ⟨by decide, by decide, by decide, by decide⟩ ⟨by decide, by decide⟩, fun _ sz => liftMv [0] (m_fadeX l dC dI cI cJ cZ cB m0 mH mL mB mP mR mA mW mU mV mM mT mQ mO mF mS mE mX mD th (nI nz) (nI nr) mp fa fb pl x y sz hx0) rfl rfl rfl ⟨by decide, by decide, by decide, by decide⟩, fun _ => rfl, fun _ => hI0⟩
  · skip
    refine ⟨0, fun _ => (zs, nz, nr, ol, mp, pl, x, y, 0, fZ, fO, fG, fP, fW, fK, fU, rH, rL, rB, rP, rR, rA, rW, rU, rV, rM, rT, rO, rF, rS, rE, rX, rD), fun sz => liftA [0] (l_fade l dC dI cI cJ cZ cB hl a0 aZ aO aG aP aW aK (nI nz) (nI nr) ol mp pl fa fb x y sz hx0) (List.Perm.refl _) rfl rfl rfl (List.Perm.refl _) ⟨by decide, by decide, by decide, by decide⟩ ⟨by decide, by decide⟩, fun _ sz => liftMv [0] (m_fade l dC dI cI cJ cZ cB m0 mH mL mB mP mR mA mW mU mV mM mT mQ mO mF mS mE mX mD th (nI nz) (nI nr) mp fa fb pl x y sz hx0) rfl rfl rfl ⟨by decide, by decide, by decide, by decide⟩, fun _ => rfl, fun _ => ?_⟩
    have hb := bnd (fun q => hx0 (Or.inl q))
    have hc := bnd (fun q => hx0 (Or.inr q))
    exact ⟨⟨hlen, hn, hnr, hpl⟩, ⟨hmp, hc.1, hc.2, hb.1, hb.2⟩, hpr, ⟨hob, hfo, hlast⟩, hzz, hlb, hun, hpn⟩
set_option maxHeartbeats 1000000 in
theorem j_price (l : Launch) (dC : Nat → ClassId) (dI : Nat → Nat → Nat) (cI cJ cZ cB : ClassId) (hl : l.stackTraces = false) (a0 aZ aO aG aP aW aK ou : Nat) (m0 mH mL mB mP mR mA mW mU mV mM mT mQ mO mF mS mE mX mD : Nat) (J : JS) (hI : Inv J) (x y : Int32) : ∃ (k : Int32) (J1 : Nat × Nat × Nat → JS) (b : Int32), SC l dC dI cI cJ cZ cB a0 aZ aO aG aP aW aK ou y_L_price w_L_price [.ref a0, .int x, .int y, .ref ou] J k J1 ∧ (∀ u, SMi l dC dI cI cJ cZ cB m0 mH mL mB mP mR mA mW mU mV mM mT mQ mO mF mS mE mX mD y_M_price w_M_price [.ref m0, .int x, .int y] J k b (J1 u)) ∧ (∀ u, thJ (J1 u) = k) ∧ (∀ u, k = 0 → outJ (J1 u) = b.toInt64) ∧ ∀ u, Inv (J1 u) := by
  obtain ⟨zs, nz, nr, ol, mp, pl, fa, fb, th, fZ, fO, fG, fP, fW, fK, fU, rH, rL, rB, rP, rR, rA, rW, rU, rV, rM, rT, rO, rF, rS, rE, rX, rD⟩ := J
  have hI0 := hI
  obtain ⟨⟨hlen, hn, hnr, hpl⟩, ⟨hmp, hfd⟩, hpr, ⟨hob, hfo, hlast⟩, hzz, hlb, hun, hpn⟩ := hI
  by_cases hx0 : ((x < 0 ∨ 23 < x) ∨ (y < 0 ∨ 1000 < y))
  · skip
    refine ⟨1, fun _ => (zs, nz, nr, ol, mp, pl, fa, fb, 1, fZ, fO, fG, fP, fW, fK, fU, rH, rL, rB, rP, rR, rA, rW, rU, rV, rM, rT, rO, rF, rS, rE, rX, rD), 0, fun sz => liftA [0, 4, 7] (l_priceX l dC dI cI cJ cZ cB hl a0 aZ aO aG aP aW aK (nI nz) (nI nr) ol mp pl fa fb fP x y ou fU sz hx0) (List.Perm.refl _) rfl rfl rfl (List.Perm.refl _) ⟨by decide, by decide, by decide, by decide⟩ ⟨by decide, by decide⟩, fun _ sz => liftMi [0] (m_priceX l dC dI cI cJ cZ cB m0 mH mL mB mP mR mA mW mU mV mM mT mQ mO mF mS mE mX mD th (nI nz) (nI nr) mp fa fb pl x y sz hx0) rfl rfl rfl (fun _ _ _ h => absurd h (by decide)) ⟨by decide, by decide, by decide, by decide⟩, fun _ => rfl, fun _ h => absurd h (by decide), fun _ => hI0⟩
  · skip
    refine ⟨0, fun _ => (zs, nz, nr, ol, mp, pl, fa, fb, 0, fZ, fO, fG, upd fP x.toNatClampNeg y, fW, fK, vp_updL fU 0 (fP x.toNatClampNeg).toInt64, rH, rL, rB, rP, rR, rA, rW, rU, rV, rM, rT, rO, rF, rS, rE, rX, rD), fP x.toNatClampNeg, fun sz => liftA [0, 4, 7] (l_price l dC dI cI cJ cZ cB hl a0 aZ aO aG aP aW aK (nI nz) (nI nr) ol mp pl fa fb fP x y ou fU sz hx0) (List.Perm.refl _) rfl rfl rfl (List.Perm.refl _) ⟨by decide, by decide, by decide, by decide⟩ ⟨by decide, by decide⟩, fun _ sz => liftMi [0, 12] (m_price l dC dI cI cJ cZ cB m0 mH mL mB mP mR mA mW mU mV mM mT mQ mO mF mS mE mX mD th (nI nz) (nI nr) mp fa fb pl fP x y sz hx0) rfl rfl rfl (fun _ _ h _ => h) ⟨by decide, by decide, by decide, by decide⟩, fun _ => rfl, fun _ _ => uL_s, fun _ => ?_⟩
    have hb := bnd (fun q => hx0 (Or.inr q))
    refine ⟨⟨hlen, hn, hnr, hpl⟩, ⟨hmp, hfd⟩, fun j hj => ?_, ⟨hob, hfo, hlast⟩, hzz, hlb, hun, hpn⟩
    by_cases e : j = x.toNatClampNeg
    · subst e; rw [up_s]; exact hb
    · rw [up_n e]; exact hpr j hj
set_option maxHeartbeats 1000000 in
theorem j_outside (l : Launch) (dC : Nat → ClassId) (dI : Nat → Nat → Nat) (cI cJ cZ cB : ClassId) (hl : l.stackTraces = false) (a0 aZ aO aG aP aW aK ou : Nat) (m0 mH mL mB mP mR mA mW mU mV mM mT mQ mO mF mS mE mX mD : Nat) (J : JS) (hI : Inv J) (x y : Int32) : ∃ (k : Int32) (J1 : Nat × Nat × Nat → JS) (b : Int32), SC l dC dI cI cJ cZ cB a0 aZ aO aG aP aW aK ou y_L_outside w_L_outside [.ref a0, .int x, .int y, .ref ou] J k J1 ∧ (∀ u, SMi l dC dI cI cJ cZ cB m0 mH mL mB mP mR mA mW mU mV mM mT mQ mO mF mS mE mX mD y_M_outside w_M_outside [.ref m0, .int x, .int y] J k b (J1 u)) ∧ (∀ u, thJ (J1 u) = k) ∧ (∀ u, k = 0 → outJ (J1 u) = b.toInt64) ∧ ∀ u, Inv (J1 u) := by
  obtain ⟨zs, nz, nr, ol, mp, pl, fa, fb, th, fZ, fO, fG, fP, fW, fK, fU, rH, rL, rB, rP, rR, rA, rW, rU, rV, rM, rT, rO, rF, rS, rE, rX, rD⟩ := J
  have hI0 := hI
  obtain ⟨⟨hlen, hn, hnr, hpl⟩, ⟨hmp, hfd⟩, hpr, ⟨hob, hfo, hlast⟩, hzz, hlb, hun, hpn⟩ := hI
  by_cases hx0 : ((x < 0 ∨ 1439 < x) ∨ (y < (-10000) ∨ 10000 < y))
  · skip
    refine ⟨1, fun _ => (zs, nz, nr, ol, mp, pl, fa, fb, 1, fZ, fO, fG, fP, fW, fK, fU, rH, rL, rB, rP, rR, rA, rW, rU, rV, rM, rT, rO, rF, rS, rE, rX, rD), 0, fun sz => liftA [0, 2, 7] (l_outsideX l dC dI cI cJ cZ cB hl a0 aZ aO aG aP aW aK (nI nz) (nI nr) ol mp pl fa fb fO x y ou fU sz hx0) (List.Perm.refl _) rfl rfl rfl (List.Perm.refl _) ⟨by decide, by decide, by decide, by decide⟩ ⟨by decide, by decide⟩, fun _ sz => liftMi [0, 10] (m_outsideX l dC dI cI cJ cZ cB m0 mH mL mB mP mR mA mW mU mV mM mT mQ mO mF mS mE mX mD th (nI nz) (nI nr) mp fa fb pl rM nr x y sz hnr hx0) rfl rfl rfl (fun _ _ _ h => absurd h (by decide)) ⟨by decide, by decide, by decide, by decide⟩, fun _ => rfl, fun _ h => absurd h (by decide), fun _ => hI0⟩
  · have h24 : (24 : Int32) = nI 24 := rfl
    by_cases hy0 : (24 ≤ nI nr ∨ x ≤ ol)
    · have hbad : nr = 24 ∨ 0 < nr ∧ x ≤ rM (nr - 1) := by
        rcases hy0 with q | q
        · left
          rw [h24, Int32.le_iff_toInt_le, nI_toInt (by omega), nI_toInt (by omega)] at q
          omega
        · rcases hlast with ⟨_, e⟩ | ⟨e1, e2, _⟩
          · exfalso
            have hb := bnd (fun q => hx0 (Or.inl q))
            rw [e, Int32.le_iff_toInt_le] at q
            have h3 : (0 : Int32).toInt = 0 := rfl
            have h4 : (-1 : Int32).toInt = -1 := rfl
            omega
          · exact Or.inr ⟨e1, by rw [← e2]; exact q⟩
      refine ⟨2, fun _ => (zs, nz, nr, ol, mp, pl, fa, fb, 2, fZ, fO, fG, fP, fW, fK, fU, rH, rL, rB, rP, rR, rA, rW, rU, rV, rM, rT, rO, rF, rS, rE, rX, rD), 0, fun sz => liftA [0, 2, 7] (l_outsideY l dC dI cI cJ cZ cB hl a0 aZ aO aG aP aW aK (nI nz) (nI nr) ol mp pl fa fb fO x y ou fU sz hx0 hy0) (List.Perm.refl _) rfl rfl rfl (List.Perm.refl _) ⟨by decide, by decide, by decide, by decide⟩ ⟨by decide, by decide⟩, fun _ sz => liftMi [0, 10] (m_outsideY l dC dI cI cJ cZ cB m0 mH mL mB mP mR mA mW mU mV mM mT mQ mO mF mS mE mX mD th (nI nz) (nI nr) mp fa fb pl rM nr x y sz hnr hx0 hbad) rfl rfl rfl (fun _ _ _ h => absurd h (by decide)) ⟨by decide, by decide, by decide, by decide⟩, fun _ => rfl, fun _ h => absurd h (by decide), fun _ => hI0⟩
    · have hlt : nr < 24 := by
        rcases Nat.lt_or_ge nr 24 with q | q
        · exact q
        · exfalso; exact hy0 (Or.inl (by rw [h24, Int32.le_iff_toInt_le, nI_toInt (by omega), nI_toInt (by omega)]; omega))
      have hlast9 : nr = 0 ∨ rM (nr - 1) < x := by
        rcases hlast with ⟨e, _⟩ | ⟨e1, e2, _⟩
        · exact Or.inl e
        · right
          rw [← e2]
          exact Int32.not_le.mp (fun q => hy0 (Or.inr q))
      have hbx := bnd (fun q => hx0 (Or.inl q))
      have hby := bnd (fun q => hx0 (Or.inr q))
      have hx9 := nI_self (x := x) (fun q => hx0 (Or.inl (Or.inl q)))
      obtain ⟨a, ha⟩ : ∃ a, a = x.toNatClampNeg := ⟨_, rfl⟩
      have ha9 : a < 1440 := by
        have h5 : ((x.toNatClampNeg : Nat) : Int) = x.toInt := by
          have h3 : (0 : Int32).toInt = 0 := rfl
          rw [Int32.toNatClampNeg, Int.toNat_of_nonneg (by omega)]
        have h4 : (1439 : Int32).toInt = 1439 := rfl
        omega
      rw [← ha] at hx9
      obtain ⟨O9, hO9⟩ : ∃ O9, fillO fO a y (1440 - a) = O9 := ⟨_, rfl⟩
      have hOo : ∀ t, t < 1440 → O9 t = if a ≤ t then y else fO t := by
        intro t ht
        have key : ∀ n, n ≤ 1440 - a → fillO fO a y n t = if a ≤ t ∧ t < a + n then y else fO t := by
          intro n
          induction n with
          | zero => intro _; rw [if_neg (by omega)]; rfl
          | succ n ih =>
            intro hn9
            show upd (fillO fO a y n) (a + n) y t = _
            by_cases e : t = a + n
            · subst e; rw [up_s, if_pos (by omega)]
            · rw [up_n e, ih (by omega)]
              by_cases c : a ≤ t ∧ t < a + n
              · rw [if_pos c, if_pos (by omega)]
              · rw [if_neg c, if_neg (by omega)]
        rw [← hO9, key _ (Nat.le_refl _)]
        by_cases c : a ≤ t
        · rw [if_pos c, if_pos (by omega)]
        · rw [if_neg c, if_neg (by omega)]
      have hfo2 : ∀ t k, k ≤ nr → fo (upd rM nr x) (upd rT nr y) t k = fo rM rT t k := by
        intro t k
        induction k with
        | zero => intro _; rfl
        | succ k ih =>
          intro hk
          show (if upd rM nr x k ≤ nI t then upd rT nr y k else fo (upd rM nr x) (upd rT nr y) t k) = if rM k ≤ nI t then rT k else fo rM rT t k
          rw [up_n (by omega), up_n (by omega), ih (by omega)]
      refine ⟨0, fun _ => (zs, nz, nr + 1, x, mp, 0, fa, fb, 0, fZ, O9, fG, fP, fW, fK, vp_updL fU 0 (nI (nr + 1)).toInt64, rH, rL, rB, rP, rR, rA, rW, rU, rV, upd rM nr x, upd rT nr y, rO, rF, rS, rE, rX, rD), nI (nr + 1), fun sz => ?_, fun _ sz => liftMi [0, 10, 11] (m_outside l dC dI cI cJ cZ cB m0 mH mL mB mP mR mA mW mU mV mM mT mQ mO mF mS mE mX mD th (nI nz) (nI nr) mp fa fb pl rM rT nr x y sz hlt hx0 hlast9) rfl rfl rfl (fun _ _ h _ => h) ⟨by decide, by decide, by decide, by decide⟩, fun _ => rfl, fun _ _ => uL_s, fun _ => ?_⟩
      · have h9 := (l_outside l dC dI cI cJ cZ cB hl a0 aZ aO aG aP aW aK (nI nz) (nI nr) ol mp pl fa fb fO x y ou fU sz hx0 hy0)
        rw [← ha, hO9, show nI nr + 1 = nI (nr + 1) from nI_add (a := nr) (b := 1)] at h9
        exact liftA [0, 2, 7] h9 (List.Perm.refl _) rfl rfl rfl (List.Perm.refl _) ⟨by decide, by decide, by decide, by decide⟩ ⟨by decide, by decide⟩
      · refine ⟨⟨hlen, hn, by omega, Or.inl rfl⟩, ⟨hmp, hfd⟩, hpr, ⟨fun t ht => ?_, fun t ht => ?_, Or.inr ⟨by omega, ?_, hbx.1⟩⟩, hzz, hlb, hun, fun h => absurd h (by decide)⟩
        · rw [hOo t ht]
          split
          · exact hby
          · exact hob t ht
        · show (if upd rM nr x nr ≤ nI t then upd rT nr y nr else fo (upd rM nr x) (upd rT nr y) t nr) = O9 t
          rw [up_s, up_s, hfo2 t nr (Nat.le_refl _), hfo t ht, hOo t ht, hx9]
          by_cases c : a ≤ t
          · rw [if_pos c, if_pos (by rw [Int32.le_iff_toInt_le, nI_toInt (by omega), nI_toInt (by omega)]; omega)]
          · rw [if_neg c, if_neg (by rw [Int32.le_iff_toInt_le, nI_toInt (by omega), nI_toInt (by omega)]; omega)]
        · rw [show nr + 1 - 1 = nr by omega, up_s]
