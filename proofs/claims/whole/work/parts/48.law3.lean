set_option maxHeartbeats 4000000 in
set_option maxRecDepth 100000 in
theorem law_late {p : Program} {l : Launch} {e : Env} {s : State} {m : MethodId} {below : List Frame} {meth : Method} {c : Code} {b L : Nat} {xs : Nat → Int32} {dC : Nat → ClassId} {dI : Nat → Nat → Nat} {cI cJ cZ cB : ClassId} (C0 : LC p l s m meth c b L xs dC dI cI cJ cZ cB) {a0 aZ aO aG aP aW aK ou : Nat} {m0 mH mL mB mP mR mA mW mU mV mM mT mQ mO mF mS mE mX mD : Nat} {i cells slots : Nat} (hi : i + 5 ≤ L) (hc : cells + 5 ≤ room_1.cells ∧ slots + 1465 ≤ room_1.slots) {J : JS} (hI : Inv J) {H : Heap} {locs : List Loc} {ls : Array Slot} (hP : va_P (dC, dI) vwCl (wC cI cJ cZ a0 aZ aO aG aP aW aK ou J ++ wR cI cJ cB m0 mH mL mB mP mR mA mW mU mV mM mT mQ mO mF mS mE mX mD J) H) (hD : va_D (fun q : Nat => s.heap.size ≤ q) (wC cI cJ cZ a0 aZ aO aG aP aW aK ou J ++ wR cI cJ cB m0 mH mL mB mP mR mA mW mU mV mM mT mQ mO mF mS mE mX mD J)) (hS : va_S (fun q : Nat => s.heap.size ≤ q) s.heap H locs) (hl9 : lv_has ls 8 [(4, .int (nI i)), (3, .ref ou), (2, .ref m0), (1, .ref a0), (0, .ref b)]) (kk : LK p l e s m below meth c b dC dI cI cJ cZ cB a0 aZ aO aG aP aW aK ou m0 mH mL mB mP mR mA mW mU mV mM mT mQ mO mF mS mE mX mD i (cells + 5) (slots + 1465)) : W p l e room_1 s m #[Value.ref b] below meth c H locs cells slots (lw_Z below #[Value.ref b] s) (F0 m 508 ls []) := by
  obtain ⟨hx, hb, hml, hown, hG, hX, hbl, hK, hN, hE, hl, hL⟩ := C0
  have hA : ∀ q : Nat, s.heap.size ≤ q → (fun q : Nat => s.heap.size ≤ q) q := fun _ h => h
  have hbA : ¬ (fun q : Nat => s.heap.size ≤ q) b := Nat.not_le.mpr hbl
  have hin1 : vp_in (nI i + 1) L := by rw [show nI i + 1 = nI (i + 1) from nI_add i 1]; exact vp_in_nI (by omega) (by omega)
  obtain ⟨k9, J1, bv, hSC, hSM, hth, hout, hb01, hI1⟩ := j_late l dC dI cI cJ cZ cB hl a0 aZ aO aG aP aW aK ou m0 mH mL mB mP mR mA mW mU mV mM mT mQ mO mF mS mE mX mD J hI (xs (nI i + 1).toNatClampNeg)
  refine lv_aload_n hx hb d_L_law_508 rfl (lv_at hl9 3 rfl) ?_
  refine lv_aload_n hx hb d_L_law_509 rfl (lv_at hl9 4 rfl) ?_
  refine lv_iload hx hb d_L_law_510 (lv_at hl9 0 rfl) ?_
  refine lv_iconst (v := 1) hx hb d_L_law_512 (by decide) ?_
  refine lv_iadd hx hb d_L_law_513 ?_
  refine va_sld hx hb hX hbl hbA hS hin1 d_L_law_514 ?_
  refine lv_aload_n hx hb d_L_law_515 rfl (lv_at hl9 1 rfl) ?_
  have hPc := wp_l hP
  have hDc := wd_l hD
  have hFc := wf_l hD hS hA
  refine va_calli (vx_runSW (As := [.ref a0, .int (xs (nI i + 1).toNatClampNeg), .ref ou]) (rest := []) ⟨hx, hb, hml, hown, hG⟩ (hSC H.size) (vx_cwSW 3 hG g_L_104 rfl rfl rfl (by decide +kernel) ⟨Nat.le_of_ble_eq_true rfl, Nat.le_of_ble_eq_true rfl⟩) ⟨PCL.blind, PCL.of hPc hK hDc hE hN hS hFc⟩ rfl rfl hl9.1 rfl (lv_room (Nat.le_of_ble_eq_true rfl)) d_L_law_516 hc) hS (fun q _ h => hFc q h) hFc (fun r5 u t H1 locs ht hvm hw hB hz1 hk1 hS => ?_)
  have hw5 : r5 = k9 := hw
  rw [ht] at hB
  obtain ⟨hP, hD⟩ := wj_l hP hD hk1 hFc hB.1 hB.2
  clear hB hk1 hz1 hPc hDc hFc ht hvm
  refine lv_istore (lv' := [(5, .int r5), (4, .int (nI i)), (3, .ref ou), (2, .ref m0), (1, .ref a0), (0, .ref b)]) hx hb d_L_law_519 hl9 (by decide) rfl (fun ls hl9 => ?_)
  refine lv_aload_n hx hb d_L_law_521 rfl (lv_at hl9 3 rfl) ?_
  refine lv_aload_n hx hb d_L_law_522 rfl (lv_at hl9 5 rfl) ?_
  refine lv_iload hx hb d_L_law_523 (lv_at hl9 1 rfl) ?_
  refine lv_iconst (v := 1) hx hb d_L_law_525 (by decide) ?_
  refine lv_iadd hx hb d_L_law_526 ?_
  refine va_sld hx hb hX hbl hbA hS hin1 d_L_law_527 ?_
  have hPr := wp_r hP
  have hDr := wd_r hD
  have hFr := wf_r hD hS hA
  refine va_calli (va_runV (C := R_M) (As := [.int (xs (nI i + 1).toNatClampNeg)]) (rest := []) ⟨hx, hb, hml, hown, hG⟩ (hSM u H1.size) (cwV 1 hG g_L_106 rfl rfl rfl (by decide +kernel) ⟨Nat.le_of_ble_eq_true rfl, Nat.le_of_ble_eq_true rfl⟩) ⟨PC.blind, recv_R hK hPr, PC.of hPr hK hDr hE hS hFr⟩ rfl rfl hl9.1 rfl (lv_room (Nat.le_of_ble_eq_true rfl)) d_L_law_528 hc) hS (fun q _ h => hFr q h) hFr (fun r6 u9 t H2 locs ht hvm hwr6 hB hz1 hk1 hS => ?_)
  rw [ht] at hB
  obtain ⟨hP, hD⟩ := wj_r hP hD hk1 hFr hB.1 hB.2
  clear hB hk1 hz1 hPr hDr hFr ht hvm
  refine lv_istore (lv' := [(6, .int r6), (5, .int r5), (4, .int (nI i)), (3, .ref ou), (2, .ref m0), (1, .ref a0), (0, .ref b)]) hx hb d_L_law_531 hl9 (by decide) rfl (fun ls hl9 => ?_)
  refine lv_aload_n hx hb d_L_law_533 rfl (lv_at hl9 4 rfl) ?_
  have hPr := wp_r hP
  have hDr := wd_r hD
  have hFr := wf_r hD hS hA
  refine va_calli (va_runV (C := R_M) (As := []) (rest := []) ⟨hx, hb, hml, hown, hG⟩ (thrown_J l dC dI cI cJ cZ cB m0 mH mL mB mP mR mA mW mU mV mM mT mQ mO mF mS mE mX mD (J1 u) H2.size) (cwV 0 hG g_L_82 rfl rfl rfl (by decide +kernel) ⟨Nat.le_of_ble_eq_true rfl, Nat.le_of_ble_eq_true rfl⟩) ⟨PC.blind, recv_R hK hPr, PC.of hPr hK hDr hE hS hFr⟩ rfl rfl hl9.1 rfl (lv_room (Nat.le_of_ble_eq_true rfl)) d_L_law_534 hc) hS (fun q _ h => hFr q h) hFr (fun r7 u9 t H3 locs ht hvm hwr7 hB hz1 hk1 hS => ?_)
  rw [ht] at hB
  obtain ⟨hP, hD⟩ := wj_r hP hD hk1 hFr hB.1 hB.2
  clear hB hk1 hz1 hPr hDr hFr ht hvm
  have hr7 : r7 = r5 := ((hwr7 rfl).trans (hth u)).trans hw5.symm
  refine lv_iload hx hb d_L_law_537 (lv_at hl9 1 rfl) ?_
  refine lv_icmp_eq (tgt := 544) hx hb d_L_law_539 (by decide) (fun _ => ?_) (fun h => absurd hr7 h)
  refine lv_iload hx hb d_L_law_544 (lv_at hl9 1 rfl) ?_
  refine lv_if_ne (tgt := 568) hx hb d_L_law_546 (by decide) (fun _ => ?_) (fun c2 => ?_)
  · refine lv_goto (tgt := 1209) hx hb d_L_law_568 (by decide) ?_
    exact kk (J1 u) _ _ ls (hI1 u) hP hD hS (lv_sub hl9 [2, 3, 4, 5, 6] rfl)
  · obtain ⟨f7, hf7, hf0⟩ := out_get (cI := cI) (cJ := cJ) (cZ := cZ) (a0 := a0) (aZ := aZ) (aO := aO) (aG := aG) (aP := aP) (aW := aW) (aK := aK) (ou := ou) (w2 := wR cI cJ cB m0 mH mL mB mP mR mA mW mU mV mM mT mQ mO mF mS mE mX mD (J1 u)) (J1 u)
    have hk0 : k9 = 0 := hw5.symm.trans c2
    have h6 : r6 = bv := hwr6 hk0
    have hf0 : f7 0 = r6.toInt64 := by rw [hf0, hout u hk0, h6]
    refine lv_aload_n hx hb d_L_law_549 rfl (lv_at hl9 3 rfl) ?_
    refine lv_iconst (v := 0) hx hb d_L_law_550 (by decide) ?_
    refine va_lald hx hb hK hP 7 1 hf7 rfl (vp_in_nI (n := 0) (N := 1) (by decide) (by decide)) d_L_law_551 ?_
    refine lv_iload hx hb d_L_law_552 (lv_at hl9 0 rfl) ?_
    refine lv_if_eq (tgt := 561) hx hb d_L_law_554 (by decide) (fun c3 => ?_) (fun c3 => ?_)
    · rw [c3] at hf0
      refine lv_lconst (v := 0) hx hb d_L_law_561 (by decide) ?_
      refine W.lcmp hx hb d_L_law_562 ?_
      refine lv_if_eq (tgt := 568) hx hb d_L_law_563 (by decide) (fun _ => ?_) (fun h => absurd ((lg_cmp_eq _ _).mpr (hf0)) h)
      refine lv_goto (tgt := 1209) hx hb d_L_law_568 (by decide) ?_
      exact kk (J1 u) _ _ ls (hI1 u) hP hD hS (lv_sub hl9 [2, 3, 4, 5, 6] rfl)
    · have c4 : r6 = 1 := hb01.elim (fun h => absurd (h6.trans h) c3) (fun h => h6.trans h)
      rw [c4] at hf0
      refine lv_lconst (v := 1) hx hb d_L_law_557 (by decide) ?_
      refine lv_goto (tgt := 562) hx hb d_L_law_558 (by decide) ?_
      refine W.lcmp hx hb d_L_law_562 ?_
      refine lv_if_eq (tgt := 568) hx hb d_L_law_563 (by decide) (fun _ => ?_) (fun h => absurd ((lg_cmp_eq _ _).mpr (hf0)) h)
      refine lv_goto (tgt := 1209) hx hb d_L_law_568 (by decide) ?_
      exact kk (J1 u) _ _ ls (hI1 u) hP hD hS (lv_sub hl9 [2, 3, 4, 5, 6] rfl)
set_option maxHeartbeats 4000000 in
set_option maxRecDepth 100000 in
theorem law_at {p : Program} {l : Launch} {e : Env} {s : State} {m : MethodId} {below : List Frame} {meth : Method} {c : Code} {b L : Nat} {xs : Nat → Int32} {dC : Nat → ClassId} {dI : Nat → Nat → Nat} {cI cJ cZ cB : ClassId} (C0 : LC p l s m meth c b L xs dC dI cI cJ cZ cB) {a0 aZ aO aG aP aW aK ou : Nat} {m0 mH mL mB mP mR mA mW mU mV mM mT mQ mO mF mS mE mX mD : Nat} {i cells slots : Nat} (hi : i + 5 ≤ L) (hc : cells + 5 ≤ room_1.cells ∧ slots + 1465 ≤ room_1.slots) {J : JS} (hI : Inv J) {H : Heap} {locs : List Loc} {ls : Array Slot} (hP : va_P (dC, dI) vwCl (wC cI cJ cZ a0 aZ aO aG aP aW aK ou J ++ wR cI cJ cB m0 mH mL mB mP mR mA mW mU mV mM mT mQ mO mF mS mE mX mD J) H) (hD : va_D (fun q : Nat => s.heap.size ≤ q) (wC cI cJ cZ a0 aZ aO aG aP aW aK ou J ++ wR cI cJ cB m0 mH mL mB mP mR mA mW mU mV mM mT mQ mO mF mS mE mX mD J)) (hS : va_S (fun q : Nat => s.heap.size ≤ q) s.heap H locs) (hl9 : lv_has ls 8 [(4, .int (nI i)), (3, .ref ou), (2, .ref m0), (1, .ref a0), (0, .ref b)]) (kk : LK p l e s m below meth c b dC dI cI cJ cZ cB a0 aZ aO aG aP aW aK ou m0 mH mL mB mP mR mA mW mU mV mM mT mQ mO mF mS mE mX mD i (cells + 5) (slots + 1465)) : W p l e room_1 s m #[Value.ref b] below meth c H locs cells slots (lw_Z below #[Value.ref b] s) (F0 m 571 ls []) := by
  obtain ⟨hx, hb, hml, hown, hG, hX, hbl, hK, hN, hE, hl, hL⟩ := C0
  have hA : ∀ q : Nat, s.heap.size ≤ q → (fun q : Nat => s.heap.size ≤ q) q := fun _ h => h
  have hbA : ¬ (fun q : Nat => s.heap.size ≤ q) b := Nat.not_le.mpr hbl
  have hin1 : vp_in (nI i + 1) L := by rw [show nI i + 1 = nI (i + 1) from nI_add i 1]; exact vp_in_nI (by omega) (by omega)
  have hin2 : vp_in (nI i + 2) L := by rw [show nI i + 2 = nI (i + 2) from nI_add i 2]; exact vp_in_nI (by omega) (by omega)
  obtain ⟨k9, J1, bv, hSC, hSM, hth, hout, hI1⟩ := j_at l dC dI cI cJ cZ cB hl a0 aZ aO aG aP aW aK ou m0 mH mL mB mP mR mA mW mU mV mM mT mQ mO mF mS mE mX mD J hI (xs (nI i + 1).toNatClampNeg) (xs (nI i + 2).toNatClampNeg)
  refine lv_aload_n hx hb d_L_law_571 rfl (lv_at hl9 3 rfl) ?_
  refine lv_aload_n hx hb d_L_law_572 rfl (lv_at hl9 4 rfl) ?_
  refine lv_iload hx hb d_L_law_573 (lv_at hl9 0 rfl) ?_
  refine lv_iconst (v := 1) hx hb d_L_law_575 (by decide) ?_
  refine lv_iadd hx hb d_L_law_576 ?_
  refine va_sld hx hb hX hbl hbA hS hin1 d_L_law_577 ?_
  refine lv_aload_n hx hb d_L_law_578 rfl (lv_at hl9 4 rfl) ?_
  refine lv_iload hx hb d_L_law_579 (lv_at hl9 0 rfl) ?_
  refine lv_iconst (v := 2) hx hb d_L_law_581 (by decide) ?_
  refine lv_iadd hx hb d_L_law_582 ?_
  refine va_sld hx hb hX hbl hbA hS hin2 d_L_law_583 ?_
  refine lv_aload_n hx hb d_L_law_584 rfl (lv_at hl9 1 rfl) ?_
  have hPc := wp_l hP
  have hDc := wd_l hD
  have hFc := wf_l hD hS hA
  refine va_calli (vx_runSW (As := [.ref a0, .int (xs (nI i + 1).toNatClampNeg), .int (xs (nI i + 2).toNatClampNeg), .ref ou]) (rest := []) ⟨hx, hb, hml, hown, hG⟩ (hSC H.size) (vx_cwSW 4 hG g_L_107 rfl rfl rfl (by decide +kernel) ⟨Nat.le_of_ble_eq_true rfl, Nat.le_of_ble_eq_true rfl⟩) ⟨PCL.blind, PCL.of hPc hK hDc hE hN hS hFc⟩ rfl rfl hl9.1 rfl (lv_room (Nat.le_of_ble_eq_true rfl)) d_L_law_585 hc) hS (fun q _ h => hFc q h) hFc (fun r5 u t H1 locs ht hvm hw hB hz1 hk1 hS => ?_)
  have hw5 : r5 = k9 := hw
  rw [ht] at hB
  obtain ⟨hP, hD⟩ := wj_l hP hD hk1 hFc hB.1 hB.2
  clear hB hk1 hz1 hPc hDc hFc ht hvm
  refine lv_istore (lv' := [(5, .int r5), (4, .int (nI i)), (3, .ref ou), (2, .ref m0), (1, .ref a0), (0, .ref b)]) hx hb d_L_law_588 hl9 (by decide) rfl (fun ls hl9 => ?_)
  refine lv_aload_n hx hb d_L_law_590 rfl (lv_at hl9 3 rfl) ?_
  refine lv_aload_n hx hb d_L_law_591 rfl (lv_at hl9 5 rfl) ?_
  refine lv_iload hx hb d_L_law_592 (lv_at hl9 1 rfl) ?_
  refine lv_iconst (v := 1) hx hb d_L_law_594 (by decide) ?_
  refine lv_iadd hx hb d_L_law_595 ?_
  refine va_sld hx hb hX hbl hbA hS hin1 d_L_law_596 ?_
  refine lv_aload_n hx hb d_L_law_597 rfl (lv_at hl9 5 rfl) ?_
  refine lv_iload hx hb d_L_law_598 (lv_at hl9 1 rfl) ?_
  refine lv_iconst (v := 2) hx hb d_L_law_600 (by decide) ?_
  refine lv_iadd hx hb d_L_law_601 ?_
  refine va_sld hx hb hX hbl hbA hS hin2 d_L_law_602 ?_
  have hPr := wp_r hP
  have hDr := wd_r hD
  have hFr := wf_r hD hS hA
  refine va_calli (va_runV (C := R_M) (As := [.int (xs (nI i + 1).toNatClampNeg), .int (xs (nI i + 2).toNatClampNeg)]) (rest := []) ⟨hx, hb, hml, hown, hG⟩ (hSM u H1.size) (cwV 2 hG g_L_109 rfl rfl rfl (by decide +kernel) ⟨Nat.le_of_ble_eq_true rfl, Nat.le_of_ble_eq_true rfl⟩) ⟨PC.blind, recv_R hK hPr, PC.of hPr hK hDr hE hS hFr⟩ rfl rfl hl9.1 rfl (lv_room (Nat.le_of_ble_eq_true rfl)) d_L_law_603 hc) hS (fun q _ h => hFr q h) hFr (fun r6 u9 t H2 locs ht hvm hwr6 hB hz1 hk1 hS => ?_)
  rw [ht] at hB
  obtain ⟨hP, hD⟩ := wj_r hP hD hk1 hFr hB.1 hB.2
  clear hB hk1 hz1 hPr hDr hFr ht hvm
  refine lv_istore (lv' := [(6, .int r6), (5, .int r5), (4, .int (nI i)), (3, .ref ou), (2, .ref m0), (1, .ref a0), (0, .ref b)]) hx hb d_L_law_606 hl9 (by decide) rfl (fun ls hl9 => ?_)
  refine lv_aload_n hx hb d_L_law_608 rfl (lv_at hl9 4 rfl) ?_
  have hPr := wp_r hP
  have hDr := wd_r hD
  have hFr := wf_r hD hS hA
  refine va_calli (va_runV (C := R_M) (As := []) (rest := []) ⟨hx, hb, hml, hown, hG⟩ (thrown_J l dC dI cI cJ cZ cB m0 mH mL mB mP mR mA mW mU mV mM mT mQ mO mF mS mE mX mD (J1 u) H2.size) (cwV 0 hG g_L_82 rfl rfl rfl (by decide +kernel) ⟨Nat.le_of_ble_eq_true rfl, Nat.le_of_ble_eq_true rfl⟩) ⟨PC.blind, recv_R hK hPr, PC.of hPr hK hDr hE hS hFr⟩ rfl rfl hl9.1 rfl (lv_room (Nat.le_of_ble_eq_true rfl)) d_L_law_609 hc) hS (fun q _ h => hFr q h) hFr (fun r7 u9 t H3 locs ht hvm hwr7 hB hz1 hk1 hS => ?_)
  rw [ht] at hB
  obtain ⟨hP, hD⟩ := wj_r hP hD hk1 hFr hB.1 hB.2
  clear hB hk1 hz1 hPr hDr hFr ht hvm
  have hr7 : r7 = r5 := ((hwr7 rfl).trans (hth u)).trans hw5.symm
  refine lv_iload hx hb d_L_law_612 (lv_at hl9 1 rfl) ?_
  refine lv_icmp_eq (tgt := 619) hx hb d_L_law_614 (by decide) (fun _ => ?_) (fun h => absurd hr7 h)
  refine lv_iload hx hb d_L_law_619 (lv_at hl9 1 rfl) ?_
  refine lv_if_ne (tgt := 636) hx hb d_L_law_621 (by decide) (fun _ => ?_) (fun c2 => ?_)
  · refine lv_goto (tgt := 1209) hx hb d_L_law_636 (by decide) ?_
    exact kk (J1 u) _ _ ls (hI1 u) hP hD hS (lv_sub hl9 [2, 3, 4, 5, 6] rfl)
  · obtain ⟨f7, hf7, hf0⟩ := out_get (cI := cI) (cJ := cJ) (cZ := cZ) (a0 := a0) (aZ := aZ) (aO := aO) (aG := aG) (aP := aP) (aW := aW) (aK := aK) (ou := ou) (w2 := wR cI cJ cB m0 mH mL mB mP mR mA mW mU mV mM mT mQ mO mF mS mE mX mD (J1 u)) (J1 u)
    have hk0 : k9 = 0 := hw5.symm.trans c2
    have h6 : r6 = bv := hwr6 hk0
    have hf0 : f7 0 = r6.toInt64 := by rw [hf0, hout u hk0, h6]
    refine lv_aload_n hx hb d_L_law_624 rfl (lv_at hl9 3 rfl) ?_
    refine lv_iconst (v := 0) hx hb d_L_law_625 (by decide) ?_
    refine va_lald hx hb hK hP 7 1 hf7 rfl (vp_in_nI (n := 0) (N := 1) (by decide) (by decide)) d_L_law_626 ?_
    refine lv_iload hx hb d_L_law_627 (lv_at hl9 0 rfl) ?_
    refine lv_i2l hx hb d_L_law_629 rfl ?_
    refine W.lcmp hx hb d_L_law_630 ?_
    refine lv_if_eq (tgt := 636) hx hb d_L_law_631 (by decide) (fun _ => ?_) (fun h => absurd ((lg_cmp_eq _ _).mpr (hf0)) h)
    refine lv_goto (tgt := 1209) hx hb d_L_law_636 (by decide) ?_
    exact kk (J1 u) _ _ ls (hI1 u) hP hD hS (lv_sub hl9 [2, 3, 4, 5, 6] rfl)
set_option maxHeartbeats 4000000 in
set_option maxRecDepth 100000 in
theorem law_used {p : Program} {l : Launch} {e : Env} {s : State} {m : MethodId} {below : List Frame} {meth : Method} {c : Code} {b L : Nat} {xs : Nat → Int32} {dC : Nat → ClassId} {dI : Nat → Nat → Nat} {cI cJ cZ cB : ClassId} (C0 : LC p l s m meth c b L xs dC dI cI cJ cZ cB) {a0 aZ aO aG aP aW aK ou : Nat} {m0 mH mL mB mP mR mA mW mU mV mM mT mQ mO mF mS mE mX mD : Nat} {i cells slots : Nat} (hi : i + 5 ≤ L) (hc : cells + 5 ≤ room_1.cells ∧ slots + 1465 ≤ room_1.slots) {J : JS} (hI : Inv J) {H : Heap} {locs : List Loc} {ls : Array Slot} (hP : va_P (dC, dI) vwCl (wC cI cJ cZ a0 aZ aO aG aP aW aK ou J ++ wR cI cJ cB m0 mH mL mB mP mR mA mW mU mV mM mT mQ mO mF mS mE mX mD J) H) (hD : va_D (fun q : Nat => s.heap.size ≤ q) (wC cI cJ cZ a0 aZ aO aG aP aW aK ou J ++ wR cI cJ cB m0 mH mL mB mP mR mA mW mU mV mM mT mQ mO mF mS mE mX mD J)) (hS : va_S (fun q : Nat => s.heap.size ≤ q) s.heap H locs) (hl9 : lv_has ls 8 [(4, .int (nI i)), (3, .ref ou), (2, .ref m0), (1, .ref a0), (0, .ref b)]) (kk : LK p l e s m below meth c b dC dI cI cJ cZ cB a0 aZ aO aG aP aW aK ou m0 mH mL mB mP mR mA mW mU mV mM mT mQ mO mF mS mE mX mD i (cells + 5) (slots + 1465)) : W p l e room_1 s m #[Value.ref b] below meth c H locs cells slots (lw_Z below #[Value.ref b] s) (F0 m 639 ls []) := by
  obtain ⟨hx, hb, hml, hown, hG, hX, hbl, hK, hN, hE, hl, hL⟩ := C0
  have hA : ∀ q : Nat, s.heap.size ≤ q → (fun q : Nat => s.heap.size ≤ q) q := fun _ h => h
  have hbA : ¬ (fun q : Nat => s.heap.size ≤ q) b := Nat.not_le.mpr hbl
  have hin1 : vp_in (nI i + 1) L := by rw [show nI i + 1 = nI (i + 1) from nI_add i 1]; exact vp_in_nI (by omega) (by omega)
  obtain ⟨k9, J1, bv, hSC, hSM, hth, hout, hI1⟩ := j_used l dC dI cI cJ cZ cB hl a0 aZ aO aG aP aW aK ou m0 mH mL mB mP mR mA mW mU mV mM mT mQ mO mF mS mE mX mD J hI (xs (nI i + 1).toNatClampNeg)
  refine lv_aload_n hx hb d_L_law_639 rfl (lv_at hl9 3 rfl) ?_
  refine lv_aload_n hx hb d_L_law_640 rfl (lv_at hl9 4 rfl) ?_
  refine lv_iload hx hb d_L_law_641 (lv_at hl9 0 rfl) ?_
  refine lv_iconst (v := 1) hx hb d_L_law_643 (by decide) ?_
  refine lv_iadd hx hb d_L_law_644 ?_
  refine va_sld hx hb hX hbl hbA hS hin1 d_L_law_645 ?_
  refine lv_aload_n hx hb d_L_law_646 rfl (lv_at hl9 1 rfl) ?_
  have hPc := wp_l hP
  have hDc := wd_l hD
  have hFc := wf_l hD hS hA
  refine va_calli (vx_runSW (As := [.ref a0, .int (xs (nI i + 1).toNatClampNeg), .ref ou]) (rest := []) ⟨hx, hb, hml, hown, hG⟩ (hSC H.size) (vx_cwSW 3 hG g_L_110 rfl rfl rfl (by decide +kernel) ⟨Nat.le_of_ble_eq_true rfl, Nat.le_of_ble_eq_true rfl⟩) ⟨PCL.blind, PCL.of hPc hK hDc hE hN hS hFc⟩ rfl rfl hl9.1 rfl (lv_room (Nat.le_of_ble_eq_true rfl)) d_L_law_647 hc) hS (fun q _ h => hFc q h) hFc (fun r5 u t H1 locs ht hvm hw hB hz1 hk1 hS => ?_)
  have hw5 : r5 = k9 := hw
  rw [ht] at hB
  obtain ⟨hP, hD⟩ := wj_l hP hD hk1 hFc hB.1 hB.2
  clear hB hk1 hz1 hPc hDc hFc ht hvm
  refine lv_istore (lv' := [(5, .int r5), (4, .int (nI i)), (3, .ref ou), (2, .ref m0), (1, .ref a0), (0, .ref b)]) hx hb d_L_law_650 hl9 (by decide) rfl (fun ls hl9 => ?_)
  refine lv_aload_n hx hb d_L_law_652 rfl (lv_at hl9 3 rfl) ?_
  refine lv_aload_n hx hb d_L_law_653 rfl (lv_at hl9 5 rfl) ?_
  refine lv_iload hx hb d_L_law_654 (lv_at hl9 1 rfl) ?_
  refine lv_iconst (v := 1) hx hb d_L_law_656 (by decide) ?_
  refine lv_iadd hx hb d_L_law_657 ?_
  refine va_sld hx hb hX hbl hbA hS hin1 d_L_law_658 ?_
  have hPr := wp_r hP
  have hDr := wd_r hD
  have hFr := wf_r hD hS hA
  refine va_calli (va_runV (C := R_M) (As := [.int (xs (nI i + 1).toNatClampNeg)]) (rest := []) ⟨hx, hb, hml, hown, hG⟩ (hSM u H1.size) (cwV 1 hG g_L_112 rfl rfl rfl (by decide +kernel) ⟨Nat.le_of_ble_eq_true rfl, Nat.le_of_ble_eq_true rfl⟩) ⟨PC.blind, recv_R hK hPr, PC.of hPr hK hDr hE hS hFr⟩ rfl rfl hl9.1 rfl (lv_room (Nat.le_of_ble_eq_true rfl)) d_L_law_659 hc) hS (fun q _ h => hFr q h) hFr (fun r6 u9 t H2 locs ht hvm hwr6 hB hz1 hk1 hS => ?_)
  rw [ht] at hB
  obtain ⟨hP, hD⟩ := wj_r hP hD hk1 hFr hB.1 hB.2
  clear hB hk1 hz1 hPr hDr hFr ht hvm
  refine lv_istore (lv' := [(6, .int r6), (5, .int r5), (4, .int (nI i)), (3, .ref ou), (2, .ref m0), (1, .ref a0), (0, .ref b)]) hx hb d_L_law_662 hl9 (by decide) rfl (fun ls hl9 => ?_)
  refine lv_aload_n hx hb d_L_law_664 rfl (lv_at hl9 4 rfl) ?_
  have hPr := wp_r hP
  have hDr := wd_r hD
  have hFr := wf_r hD hS hA
  refine va_calli (va_runV (C := R_M) (As := []) (rest := []) ⟨hx, hb, hml, hown, hG⟩ (thrown_J l dC dI cI cJ cZ cB m0 mH mL mB mP mR mA mW mU mV mM mT mQ mO mF mS mE mX mD (J1 u) H2.size) (cwV 0 hG g_L_82 rfl rfl rfl (by decide +kernel) ⟨Nat.le_of_ble_eq_true rfl, Nat.le_of_ble_eq_true rfl⟩) ⟨PC.blind, recv_R hK hPr, PC.of hPr hK hDr hE hS hFr⟩ rfl rfl hl9.1 rfl (lv_room (Nat.le_of_ble_eq_true rfl)) d_L_law_665 hc) hS (fun q _ h => hFr q h) hFr (fun r7 u9 t H3 locs ht hvm hwr7 hB hz1 hk1 hS => ?_)
  rw [ht] at hB
  obtain ⟨hP, hD⟩ := wj_r hP hD hk1 hFr hB.1 hB.2
  clear hB hk1 hz1 hPr hDr hFr ht hvm
  have hr7 : r7 = r5 := ((hwr7 rfl).trans (hth u)).trans hw5.symm
  refine lv_iload hx hb d_L_law_668 (lv_at hl9 1 rfl) ?_
  refine lv_icmp_eq (tgt := 675) hx hb d_L_law_670 (by decide) (fun _ => ?_) (fun h => absurd hr7 h)
  refine lv_iload hx hb d_L_law_675 (lv_at hl9 1 rfl) ?_
  refine lv_if_ne (tgt := 692) hx hb d_L_law_677 (by decide) (fun _ => ?_) (fun c2 => ?_)
  · refine lv_goto (tgt := 1209) hx hb d_L_law_692 (by decide) ?_
    exact kk (J1 u) _ _ ls (hI1 u) hP hD hS (lv_sub hl9 [2, 3, 4, 5, 6] rfl)
  · obtain ⟨f7, hf7, hf0⟩ := out_get (cI := cI) (cJ := cJ) (cZ := cZ) (a0 := a0) (aZ := aZ) (aO := aO) (aG := aG) (aP := aP) (aW := aW) (aK := aK) (ou := ou) (w2 := wR cI cJ cB m0 mH mL mB mP mR mA mW mU mV mM mT mQ mO mF mS mE mX mD (J1 u)) (J1 u)
    have hk0 : k9 = 0 := hw5.symm.trans c2
    have h6 : r6 = bv := hwr6 hk0
    have hf0 : f7 0 = r6.toInt64 := by rw [hf0, hout u hk0, h6]
    refine lv_aload_n hx hb d_L_law_680 rfl (lv_at hl9 3 rfl) ?_
    refine lv_iconst (v := 0) hx hb d_L_law_681 (by decide) ?_
    refine va_lald hx hb hK hP 7 1 hf7 rfl (vp_in_nI (n := 0) (N := 1) (by decide) (by decide)) d_L_law_682 ?_
    refine lv_iload hx hb d_L_law_683 (lv_at hl9 0 rfl) ?_
    refine lv_i2l hx hb d_L_law_685 rfl ?_
    refine W.lcmp hx hb d_L_law_686 ?_
    refine lv_if_eq (tgt := 692) hx hb d_L_law_687 (by decide) (fun _ => ?_) (fun h => absurd ((lg_cmp_eq _ _).mpr (hf0)) h)
    refine lv_goto (tgt := 1209) hx hb d_L_law_692 (by decide) ?_
    exact kk (J1 u) _ _ ls (hI1 u) hP hD hS (lv_sub hl9 [2, 3, 4, 5, 6] rfl)
set_option maxHeartbeats 4000000 in
set_option maxRecDepth 100000 in
theorem law_cold {p : Program} {l : Launch} {e : Env} {s : State} {m : MethodId} {below : List Frame} {meth : Method} {c : Code} {b L : Nat} {xs : Nat → Int32} {dC : Nat → ClassId} {dI : Nat → Nat → Nat} {cI cJ cZ cB : ClassId} (C0 : LC p l s m meth c b L xs dC dI cI cJ cZ cB) {a0 aZ aO aG aP aW aK ou : Nat} {m0 mH mL mB mP mR mA mW mU mV mM mT mQ mO mF mS mE mX mD : Nat} {i cells slots : Nat} (hi : i + 5 ≤ L) (hc : cells + 5 ≤ room_1.cells ∧ slots + 1465 ≤ room_1.slots) {J : JS} (hI : Inv J) {H : Heap} {locs : List Loc} {ls : Array Slot} (hP : va_P (dC, dI) vwCl (wC cI cJ cZ a0 aZ aO aG aP aW aK ou J ++ wR cI cJ cB m0 mH mL mB mP mR mA mW mU mV mM mT mQ mO mF mS mE mX mD J) H) (hD : va_D (fun q : Nat => s.heap.size ≤ q) (wC cI cJ cZ a0 aZ aO aG aP aW aK ou J ++ wR cI cJ cB m0 mH mL mB mP mR mA mW mU mV mM mT mQ mO mF mS mE mX mD J)) (hS : va_S (fun q : Nat => s.heap.size ≤ q) s.heap H locs) (hl9 : lv_has ls 8 [(4, .int (nI i)), (3, .ref ou), (2, .ref m0), (1, .ref a0), (0, .ref b)]) (kk : LK p l e s m below meth c b dC dI cI cJ cZ cB a0 aZ aO aG aP aW aK ou m0 mH mL mB mP mR mA mW mU mV mM mT mQ mO mF mS mE mX mD i (cells + 5) (slots + 1465)) : W p l e room_1 s m #[Value.ref b] below meth c H locs cells slots (lw_Z below #[Value.ref b] s) (F0 m 695 ls []) := by
  obtain ⟨hx, hb, hml, hown, hG, hX, hbl, hK, hN, hE, hl, hL⟩ := C0
  have hA : ∀ q : Nat, s.heap.size ≤ q → (fun q : Nat => s.heap.size ≤ q) q := fun _ h => h
  have hbA : ¬ (fun q : Nat => s.heap.size ≤ q) b := Nat.not_le.mpr hbl
  have hin1 : vp_in (nI i + 1) L := by rw [show nI i + 1 = nI (i + 1) from nI_add i 1]; exact vp_in_nI (by omega) (by omega)
  obtain ⟨k9, J1, bv, hSC, hSM, hth, hout, hI1⟩ := j_cold l dC dI cI cJ cZ cB hl a0 aZ aO aG aP aW aK ou m0 mH mL mB mP mR mA mW mU mV mM mT mQ mO mF mS mE mX mD J hI (xs (nI i + 1).toNatClampNeg)
  refine lv_aload_n hx hb d_L_law_695 rfl (lv_at hl9 3 rfl) ?_
  refine lv_aload_n hx hb d_L_law_696 rfl (lv_at hl9 4 rfl) ?_
  refine lv_iload hx hb d_L_law_697 (lv_at hl9 0 rfl) ?_
  refine lv_iconst (v := 1) hx hb d_L_law_699 (by decide) ?_
  refine lv_iadd hx hb d_L_law_700 ?_
  refine va_sld hx hb hX hbl hbA hS hin1 d_L_law_701 ?_
  refine lv_aload_n hx hb d_L_law_702 rfl (lv_at hl9 1 rfl) ?_
  have hPc := wp_l hP
  have hDc := wd_l hD
  have hFc := wf_l hD hS hA
  refine va_calli (vx_runSW (As := [.ref a0, .int (xs (nI i + 1).toNatClampNeg), .ref ou]) (rest := []) ⟨hx, hb, hml, hown, hG⟩ (hSC H.size) (vx_cwSW 3 hG g_L_113 rfl rfl rfl (by decide +kernel) ⟨Nat.le_of_ble_eq_true rfl, Nat.le_of_ble_eq_true rfl⟩) ⟨PCL.blind, PCL.of hPc hK hDc hE hN hS hFc⟩ rfl rfl hl9.1 rfl (lv_room (Nat.le_of_ble_eq_true rfl)) d_L_law_703 hc) hS (fun q _ h => hFc q h) hFc (fun r5 u t H1 locs ht hvm hw hB hz1 hk1 hS => ?_)
  have hw5 : r5 = k9 := hw
  rw [ht] at hB
  obtain ⟨hP, hD⟩ := wj_l hP hD hk1 hFc hB.1 hB.2
  clear hB hk1 hz1 hPc hDc hFc ht hvm
  refine lv_istore (lv' := [(5, .int r5), (4, .int (nI i)), (3, .ref ou), (2, .ref m0), (1, .ref a0), (0, .ref b)]) hx hb d_L_law_706 hl9 (by decide) rfl (fun ls hl9 => ?_)
  refine lv_aload_n hx hb d_L_law_708 rfl (lv_at hl9 3 rfl) ?_
  refine lv_aload_n hx hb d_L_law_709 rfl (lv_at hl9 5 rfl) ?_
  refine lv_iload hx hb d_L_law_710 (lv_at hl9 1 rfl) ?_
  refine lv_iconst (v := 1) hx hb d_L_law_712 (by decide) ?_
  refine lv_iadd hx hb d_L_law_713 ?_
  refine va_sld hx hb hX hbl hbA hS hin1 d_L_law_714 ?_
  have hPr := wp_r hP
  have hDr := wd_r hD
  have hFr := wf_r hD hS hA
  refine va_calli (va_runV (C := R_M) (As := [.int (xs (nI i + 1).toNatClampNeg)]) (rest := []) ⟨hx, hb, hml, hown, hG⟩ (hSM u H1.size) (cwV 1 hG g_L_115 rfl rfl rfl (by decide +kernel) ⟨Nat.le_of_ble_eq_true rfl, Nat.le_of_ble_eq_true rfl⟩) ⟨PC.blind, recv_R hK hPr, PC.of hPr hK hDr hE hS hFr⟩ rfl rfl hl9.1 rfl (lv_room (Nat.le_of_ble_eq_true rfl)) d_L_law_715 hc) hS (fun q _ h => hFr q h) hFr (fun r6 u9 t H2 locs ht hvm hwr6 hB hz1 hk1 hS => ?_)
  rw [ht] at hB
  obtain ⟨hP, hD⟩ := wj_r hP hD hk1 hFr hB.1 hB.2
  clear hB hk1 hz1 hPr hDr hFr ht hvm
  refine lv_istore (lv' := [(6, .int r6), (5, .int r5), (4, .int (nI i)), (3, .ref ou), (2, .ref m0), (1, .ref a0), (0, .ref b)]) hx hb d_L_law_718 hl9 (by decide) rfl (fun ls hl9 => ?_)
  refine lv_aload_n hx hb d_L_law_720 rfl (lv_at hl9 4 rfl) ?_
  have hPr := wp_r hP
  have hDr := wd_r hD
  have hFr := wf_r hD hS hA
  refine va_calli (va_runV (C := R_M) (As := []) (rest := []) ⟨hx, hb, hml, hown, hG⟩ (thrown_J l dC dI cI cJ cZ cB m0 mH mL mB mP mR mA mW mU mV mM mT mQ mO mF mS mE mX mD (J1 u) H2.size) (cwV 0 hG g_L_82 rfl rfl rfl (by decide +kernel) ⟨Nat.le_of_ble_eq_true rfl, Nat.le_of_ble_eq_true rfl⟩) ⟨PC.blind, recv_R hK hPr, PC.of hPr hK hDr hE hS hFr⟩ rfl rfl hl9.1 rfl (lv_room (Nat.le_of_ble_eq_true rfl)) d_L_law_721 hc) hS (fun q _ h => hFr q h) hFr (fun r7 u9 t H3 locs ht hvm hwr7 hB hz1 hk1 hS => ?_)
  rw [ht] at hB
  obtain ⟨hP, hD⟩ := wj_r hP hD hk1 hFr hB.1 hB.2
  clear hB hk1 hz1 hPr hDr hFr ht hvm
  have hr7 : r7 = r5 := ((hwr7 rfl).trans (hth u)).trans hw5.symm
  refine lv_iload hx hb d_L_law_724 (lv_at hl9 1 rfl) ?_
  refine lv_icmp_eq (tgt := 731) hx hb d_L_law_726 (by decide) (fun _ => ?_) (fun h => absurd hr7 h)
  refine lv_iload hx hb d_L_law_731 (lv_at hl9 1 rfl) ?_
  refine lv_if_ne (tgt := 748) hx hb d_L_law_733 (by decide) (fun _ => ?_) (fun c2 => ?_)
  · refine lv_goto (tgt := 1209) hx hb d_L_law_748 (by decide) ?_
    exact kk (J1 u) _ _ ls (hI1 u) hP hD hS (lv_sub hl9 [2, 3, 4, 5, 6] rfl)
  · obtain ⟨f7, hf7, hf0⟩ := out_get (cI := cI) (cJ := cJ) (cZ := cZ) (a0 := a0) (aZ := aZ) (aO := aO) (aG := aG) (aP := aP) (aW := aW) (aK := aK) (ou := ou) (w2 := wR cI cJ cB m0 mH mL mB mP mR mA mW mU mV mM mT mQ mO mF mS mE mX mD (J1 u)) (J1 u)
    have hk0 : k9 = 0 := hw5.symm.trans c2
    have h6 : r6 = bv := hwr6 hk0
    have hf0 : f7 0 = r6.toInt64 := by rw [hf0, hout u hk0, h6]
    refine lv_aload_n hx hb d_L_law_736 rfl (lv_at hl9 3 rfl) ?_
    refine lv_iconst (v := 0) hx hb d_L_law_737 (by decide) ?_
    refine va_lald hx hb hK hP 7 1 hf7 rfl (vp_in_nI (n := 0) (N := 1) (by decide) (by decide)) d_L_law_738 ?_
    refine lv_iload hx hb d_L_law_739 (lv_at hl9 0 rfl) ?_
    refine lv_i2l hx hb d_L_law_741 rfl ?_
    refine W.lcmp hx hb d_L_law_742 ?_
    refine lv_if_eq (tgt := 748) hx hb d_L_law_743 (by decide) (fun _ => ?_) (fun h => absurd ((lg_cmp_eq _ _).mpr (hf0)) h)
    refine lv_goto (tgt := 1209) hx hb d_L_law_748 (by decide) ?_
    exact kk (J1 u) _ _ ls (hI1 u) hP hD hS (lv_sub hl9 [2, 3, 4, 5, 6] rfl)
set_option maxHeartbeats 4000000 in
set_option maxRecDepth 100000 in
theorem law_fade {p : Program} {l : Launch} {e : Env} {s : State} {m : MethodId} {below : List Frame} {meth : Method} {c : Code} {b L : Nat} {xs : Nat → Int32} {dC : Nat → ClassId} {dI : Nat → Nat → Nat} {cI cJ cZ cB : ClassId} (C0 : LC p l s m meth c b L xs dC dI cI cJ cZ cB) {a0 aZ aO aG aP aW aK ou : Nat} {m0 mH mL mB mP mR mA mW mU mV mM mT mQ mO mF mS mE mX mD : Nat} {i cells slots : Nat} (hi : i + 5 ≤ L) (hc : cells + 5 ≤ room_1.cells ∧ slots + 1465 ≤ room_1.slots) {J : JS} (hI : Inv J) {H : Heap} {locs : List Loc} {ls : Array Slot} (hP : va_P (dC, dI) vwCl (wC cI cJ cZ a0 aZ aO aG aP aW aK ou J ++ wR cI cJ cB m0 mH mL mB mP mR mA mW mU mV mM mT mQ mO mF mS mE mX mD J) H) (hD : va_D (fun q : Nat => s.heap.size ≤ q) (wC cI cJ cZ a0 aZ aO aG aP aW aK ou J ++ wR cI cJ cB m0 mH mL mB mP mR mA mW mU mV mM mT mQ mO mF mS mE mX mD J)) (hS : va_S (fun q : Nat => s.heap.size ≤ q) s.heap H locs) (hl9 : lv_has ls 8 [(4, .int (nI i)), (3, .ref ou), (2, .ref m0), (1, .ref a0), (0, .ref b)]) (kk : LK p l e s m below meth c b dC dI cI cJ cZ cB a0 aZ aO aG aP aW aK ou m0 mH mL mB mP mR mA mW mU mV mM mT mQ mO mF mS mE mX mD i (cells + 5) (slots + 1465)) : W p l e room_1 s m #[Value.ref b] below meth c H locs cells slots (lw_Z below #[Value.ref b] s) (F0 m 751 ls []) := by
  obtain ⟨hx, hb, hml, hown, hG, hX, hbl, hK, hN, hE, hl, hL⟩ := C0
  have hA : ∀ q : Nat, s.heap.size ≤ q → (fun q : Nat => s.heap.size ≤ q) q := fun _ h => h
  have hbA : ¬ (fun q : Nat => s.heap.size ≤ q) b := Nat.not_le.mpr hbl
  have hin1 : vp_in (nI i + 1) L := by rw [show nI i + 1 = nI (i + 1) from nI_add i 1]; exact vp_in_nI (by omega) (by omega)
  have hin2 : vp_in (nI i + 2) L := by rw [show nI i + 2 = nI (i + 2) from nI_add i 2]; exact vp_in_nI (by omega) (by omega)
  obtain ⟨k9, J1, hSC, hSM, hth, hI1⟩ := j_fade l dC dI cI cJ cZ cB hl a0 aZ aO aG aP aW aK ou m0 mH mL mB mP mR mA mW mU mV mM mT mQ mO mF mS mE mX mD J hI (xs (nI i + 1).toNatClampNeg) (xs (nI i + 2).toNatClampNeg)
  refine lv_aload_n hx hb d_L_law_751 rfl (lv_at hl9 3 rfl) ?_
  refine lv_aload_n hx hb d_L_law_752 rfl (lv_at hl9 4 rfl) ?_
  refine lv_iload hx hb d_L_law_753 (lv_at hl9 0 rfl) ?_
  refine lv_iconst (v := 1) hx hb d_L_law_755 (by decide) ?_
  refine lv_iadd hx hb d_L_law_756 ?_
  refine va_sld hx hb hX hbl hbA hS hin1 d_L_law_757 ?_
  refine lv_aload_n hx hb d_L_law_758 rfl (lv_at hl9 4 rfl) ?_
  refine lv_iload hx hb d_L_law_759 (lv_at hl9 0 rfl) ?_
  refine lv_iconst (v := 2) hx hb d_L_law_761 (by decide) ?_
  refine lv_iadd hx hb d_L_law_762 ?_
  refine va_sld hx hb hX hbl hbA hS hin2 d_L_law_763 ?_
  have hPc := wp_l hP
  have hDc := wd_l hD
  have hFc := wf_l hD hS hA
  refine va_calli (vx_runSW (As := [.ref a0, .int (xs (nI i + 1).toNatClampNeg), .int (xs (nI i + 2).toNatClampNeg)]) (rest := []) ⟨hx, hb, hml, hown, hG⟩ (hSC H.size) (vx_cwSW 3 hG g_L_116 rfl rfl rfl (by decide +kernel) ⟨Nat.le_of_ble_eq_true rfl, Nat.le_of_ble_eq_true rfl⟩) ⟨PCL.blind, PCL.of hPc hK hDc hE hN hS hFc⟩ rfl rfl hl9.1 rfl (lv_room (Nat.le_of_ble_eq_true rfl)) d_L_law_764 hc) hS (fun q _ h => hFc q h) hFc (fun r5 u t H1 locs ht hvm hw hB hz1 hk1 hS => ?_)
  have hw5 : r5 = k9 := hw
  rw [ht] at hB
  obtain ⟨hP, hD⟩ := wj_l hP hD hk1 hFc hB.1 hB.2
  clear hB hk1 hz1 hPc hDc hFc ht hvm
  refine lv_istore (lv' := [(5, .int r5), (4, .int (nI i)), (3, .ref ou), (2, .ref m0), (1, .ref a0), (0, .ref b)]) hx hb d_L_law_767 hl9 (by decide) rfl (fun ls hl9 => ?_)
  refine lv_aload_n hx hb d_L_law_769 rfl (lv_at hl9 3 rfl) ?_
  refine lv_aload_n hx hb d_L_law_770 rfl (lv_at hl9 5 rfl) ?_
  refine lv_iload hx hb d_L_law_771 (lv_at hl9 1 rfl) ?_
  refine lv_iconst (v := 1) hx hb d_L_law_773 (by decide) ?_
  refine lv_iadd hx hb d_L_law_774 ?_
  refine va_sld hx hb hX hbl hbA hS hin1 d_L_law_775 ?_
  refine lv_aload_n hx hb d_L_law_776 rfl (lv_at hl9 5 rfl) ?_
  refine lv_iload hx hb d_L_law_777 (lv_at hl9 1 rfl) ?_
  refine lv_iconst (v := 2) hx hb d_L_law_779 (by decide) ?_
  refine lv_iadd hx hb d_L_law_780 ?_
  refine va_sld hx hb hX hbl hbA hS hin2 d_L_law_781 ?_
  have hPr := wp_r hP
  have hDr := wd_r hD
  have hFr := wf_r hD hS hA
  refine va_callv (va_runV (C := R_M) (As := [.int (xs (nI i + 1).toNatClampNeg), .int (xs (nI i + 2).toNatClampNeg)]) (rest := []) ⟨hx, hb, hml, hown, hG⟩ (hSM u H1.size) (cwV 2 hG g_L_119 rfl rfl rfl (by decide +kernel) ⟨Nat.le_of_ble_eq_true rfl, Nat.le_of_ble_eq_true rfl⟩) ⟨PC.blind, recv_R hK hPr, PC.of hPr hK hDr hE hS hFr⟩ rfl rfl hl9.1 rfl (lv_room (Nat.le_of_ble_eq_true rfl)) d_L_law_782 hc) hS (fun q _ h => hFr q h) hFr (fun u9 t H2 locs ht hvm hwr6 hB hz1 hk1 hS => ?_)
  rw [ht] at hB
  obtain ⟨hP, hD⟩ := wj_r hP hD hk1 hFr hB.1 hB.2
  clear hB hk1 hz1 hPr hDr hFr ht hvm
  refine lv_aload_n hx hb d_L_law_785 rfl (lv_at hl9 3 rfl) ?_
  have hPr := wp_r hP
  have hDr := wd_r hD
  have hFr := wf_r hD hS hA
  refine va_calli (va_runV (C := R_M) (As := []) (rest := []) ⟨hx, hb, hml, hown, hG⟩ (thrown_J l dC dI cI cJ cZ cB m0 mH mL mB mP mR mA mW mU mV mM mT mQ mO mF mS mE mX mD (J1 u) H2.size) (cwV 0 hG g_L_82 rfl rfl rfl (by decide +kernel) ⟨Nat.le_of_ble_eq_true rfl, Nat.le_of_ble_eq_true rfl⟩) ⟨PC.blind, recv_R hK hPr, PC.of hPr hK hDr hE hS hFr⟩ rfl rfl hl9.1 rfl (lv_room (Nat.le_of_ble_eq_true rfl)) d_L_law_786 hc) hS (fun q _ h => hFr q h) hFr (fun r7 u9 t H3 locs ht hvm hwr7 hB hz1 hk1 hS => ?_)
  rw [ht] at hB
  obtain ⟨hP, hD⟩ := wj_r hP hD hk1 hFr hB.1 hB.2
  clear hB hk1 hz1 hPr hDr hFr ht hvm
  have hr7 : r7 = r5 := ((hwr7 rfl).trans (hth u)).trans hw5.symm
  refine lv_iload hx hb d_L_law_789 (lv_at hl9 0 rfl) ?_
  refine lv_icmp_eq (tgt := 796) hx hb d_L_law_791 (by decide) (fun _ => ?_) (fun h => absurd hr7 h)
  refine lv_goto (tgt := 1209) hx hb d_L_law_796 (by decide) ?_
  exact kk (J1 u) _ _ ls (hI1 u) hP hD hS (lv_sub hl9 [1, 2, 3, 4, 5] rfl)
set_option maxHeartbeats 4000000 in
set_option maxRecDepth 100000 in
theorem law_day {p : Program} {l : Launch} {e : Env} {s : State} {m : MethodId} {below : List Frame} {meth : Method} {c : Code} {b L : Nat} {xs : Nat → Int32} {dC : Nat → ClassId} {dI : Nat → Nat → Nat} {cI cJ cZ cB : ClassId} (C0 : LC p l s m meth c b L xs dC dI cI cJ cZ cB) {a0 aZ aO aG aP aW aK ou : Nat} {m0 mH mL mB mP mR mA mW mU mV mM mT mQ mO mF mS mE mX mD : Nat} {i cells slots : Nat} (hi : i + 5 ≤ L) (hc : cells + 5 ≤ room_1.cells ∧ slots + 1465 ≤ room_1.slots) {J : JS} (hI : Inv J) {H : Heap} {locs : List Loc} {ls : Array Slot} (hP : va_P (dC, dI) vwCl (wC cI cJ cZ a0 aZ aO aG aP aW aK ou J ++ wR cI cJ cB m0 mH mL mB mP mR mA mW mU mV mM mT mQ mO mF mS mE mX mD J) H) (hD : va_D (fun q : Nat => s.heap.size ≤ q) (wC cI cJ cZ a0 aZ aO aG aP aW aK ou J ++ wR cI cJ cB m0 mH mL mB mP mR mA mW mU mV mM mT mQ mO mF mS mE mX mD J)) (hS : va_S (fun q : Nat => s.heap.size ≤ q) s.heap H locs) (hl9 : lv_has ls 8 [(4, .int (nI i)), (3, .ref ou), (2, .ref m0), (1, .ref a0), (0, .ref b)]) (kk : LK p l e s m below meth c b dC dI cI cJ cZ cB a0 aZ aO aG aP aW aK ou m0 mH mL mB mP mR mA mW mU mV mM mT mQ mO mF mS mE mX mD i (cells + 5) (slots + 1465)) : W p l e room_1 s m #[Value.ref b] below meth c H locs cells slots (lw_Z below #[Value.ref b] s) (F0 m 799 ls []) := by
  obtain ⟨hx, hb, hml, hown, hG, hX, hbl, hK, hN, hE, hl, hL⟩ := C0
  have hA : ∀ q : Nat, s.heap.size ≤ q → (fun q : Nat => s.heap.size ≤ q) q := fun _ h => h
  have hbA : ¬ (fun q : Nat => s.heap.size ≤ q) b := Nat.not_le.mpr hbl
  have hin1 : vp_in (nI i + 1) L := by rw [show nI i + 1 = nI (i + 1) from nI_add i 1]; exact vp_in_nI (by omega) (by omega)
  have hin2 : vp_in (nI i + 2) L := by rw [show nI i + 2 = nI (i + 2) from nI_add i 2]; exact vp_in_nI (by omega) (by omega)
  obtain ⟨k9, J1, hSC, hSM, hth, hI1⟩ := j_day l dC dI cI cJ cZ cB hl a0 aZ aO aG aP aW aK ou m0 mH mL mB mP mR mA mW mU mV mM mT mQ mO mF mS mE mX mD J hI (xs (nI i + 1).toNatClampNeg) (xs (nI i + 2).toNatClampNeg)
  refine lv_aload_n hx hb d_L_law_799 rfl (lv_at hl9 3 rfl) ?_
  refine lv_aload_n hx hb d_L_law_800 rfl (lv_at hl9 4 rfl) ?_
  refine lv_iload hx hb d_L_law_801 (lv_at hl9 0 rfl) ?_
  refine lv_iconst (v := 1) hx hb d_L_law_803 (by decide) ?_
  refine lv_iadd hx hb d_L_law_804 ?_
  refine va_sld hx hb hX hbl hbA hS hin1 d_L_law_805 ?_
  refine lv_aload_n hx hb d_L_law_806 rfl (lv_at hl9 4 rfl) ?_
  refine lv_iload hx hb d_L_law_807 (lv_at hl9 0 rfl) ?_
  refine lv_iconst (v := 2) hx hb d_L_law_809 (by decide) ?_
  refine lv_iadd hx hb d_L_law_810 ?_
  refine va_sld hx hb hX hbl hbA hS hin2 d_L_law_811 ?_
  have hPc := wp_l hP
  have hDc := wd_l hD
  have hFc := wf_l hD hS hA
  refine va_calli (vx_runSW (As := [.ref a0, .int (xs (nI i + 1).toNatClampNeg), .int (xs (nI i + 2).toNatClampNeg)]) (rest := []) ⟨hx, hb, hml, hown, hG⟩ (hSC H.size) (vx_cwSW 3 hG g_L_120 rfl rfl rfl (by decide +kernel) ⟨Nat.le_of_ble_eq_true rfl, Nat.le_of_ble_eq_true rfl⟩) ⟨PCL.blind, PCL.of hPc hK hDc hE hN hS hFc⟩ rfl rfl hl9.1 rfl (lv_room (Nat.le_of_ble_eq_true rfl)) d_L_law_812 hc) hS (fun q _ h => hFc q h) hFc (fun r5 u t H1 locs ht hvm hw hB hz1 hk1 hS => ?_)
  have hw5 : r5 = k9 := hw
  rw [ht] at hB
  obtain ⟨hP, hD⟩ := wj_l hP hD hk1 hFc hB.1 hB.2
  clear hB hk1 hz1 hPc hDc hFc ht hvm
  refine lv_istore (lv' := [(5, .int r5), (4, .int (nI i)), (3, .ref ou), (2, .ref m0), (1, .ref a0), (0, .ref b)]) hx hb d_L_law_815 hl9 (by decide) rfl (fun ls hl9 => ?_)
  refine lv_aload_n hx hb d_L_law_817 rfl (lv_at hl9 3 rfl) ?_
  refine lv_aload_n hx hb d_L_law_818 rfl (lv_at hl9 5 rfl) ?_
  refine lv_iload hx hb d_L_law_819 (lv_at hl9 1 rfl) ?_
  refine lv_iconst (v := 1) hx hb d_L_law_821 (by decide) ?_
  refine lv_iadd hx hb d_L_law_822 ?_
  refine va_sld hx hb hX hbl hbA hS hin1 d_L_law_823 ?_
  refine lv_aload_n hx hb d_L_law_824 rfl (lv_at hl9 5 rfl) ?_
  refine lv_iload hx hb d_L_law_825 (lv_at hl9 1 rfl) ?_
  refine lv_iconst (v := 2) hx hb d_L_law_827 (by decide) ?_
  refine lv_iadd hx hb d_L_law_828 ?_
  refine va_sld hx hb hX hbl hbA hS hin2 d_L_law_829 ?_
  have hPr := wp_r hP
  have hDr := wd_r hD
  have hFr := wf_r hD hS hA
  refine va_callv (va_runV (C := R_M) (As := [.int (xs (nI i + 1).toNatClampNeg), .int (xs (nI i + 2).toNatClampNeg)]) (rest := []) ⟨hx, hb, hml, hown, hG⟩ (hSM u H1.size) (cwV 2 hG g_L_122 rfl rfl rfl (by decide +kernel) ⟨Nat.le_of_ble_eq_true rfl, Nat.le_of_ble_eq_true rfl⟩) ⟨PC.blind, recv_R hK hPr, PC.of hPr hK hDr hE hS hFr⟩ rfl rfl hl9.1 rfl (lv_room (Nat.le_of_ble_eq_true rfl)) d_L_law_830 hc) hS (fun q _ h => hFr q h) hFr (fun u9 t H2 locs ht hvm hwr6 hB hz1 hk1 hS => ?_)
  rw [ht] at hB
  obtain ⟨hP, hD⟩ := wj_r hP hD hk1 hFr hB.1 hB.2
  clear hB hk1 hz1 hPr hDr hFr ht hvm
  refine lv_aload_n hx hb d_L_law_833 rfl (lv_at hl9 3 rfl) ?_
  have hPr := wp_r hP
  have hDr := wd_r hD
  have hFr := wf_r hD hS hA
  refine va_calli (va_runV (C := R_M) (As := []) (rest := []) ⟨hx, hb, hml, hown, hG⟩ (thrown_J l dC dI cI cJ cZ cB m0 mH mL mB mP mR mA mW mU mV mM mT mQ mO mF mS mE mX mD (J1 u) H2.size) (cwV 0 hG g_L_82 rfl rfl rfl (by decide +kernel) ⟨Nat.le_of_ble_eq_true rfl, Nat.le_of_ble_eq_true rfl⟩) ⟨PC.blind, recv_R hK hPr, PC.of hPr hK hDr hE hS hFr⟩ rfl rfl hl9.1 rfl (lv_room (Nat.le_of_ble_eq_true rfl)) d_L_law_834 hc) hS (fun q _ h => hFr q h) hFr (fun r7 u9 t H3 locs ht hvm hwr7 hB hz1 hk1 hS => ?_)
  rw [ht] at hB
  obtain ⟨hP, hD⟩ := wj_r hP hD hk1 hFr hB.1 hB.2
  clear hB hk1 hz1 hPr hDr hFr ht hvm
  have hr7 : r7 = r5 := ((hwr7 rfl).trans (hth u)).trans hw5.symm
  refine lv_iload hx hb d_L_law_837 (lv_at hl9 0 rfl) ?_
  refine lv_icmp_eq (tgt := 844) hx hb d_L_law_839 (by decide) (fun _ => ?_) (fun h => absurd hr7 h)
  refine lv_goto (tgt := 1209) hx hb d_L_law_844 (by decide) ?_
  exact kk (J1 u) _ _ ls (hI1 u) hP hD hS (lv_sub hl9 [1, 2, 3, 4, 5] rfl)
