set_option maxHeartbeats 4000000 in
set_option maxRecDepth 100000 in
theorem law_lesson {p : Program} {l : Launch} {e : Env} {s : State} {m : MethodId} {below : List Frame} {meth : Method} {c : Code} {b L : Nat} {xs : Nat → Int32} {dC : Nat → ClassId} {dI : Nat → Nat → Nat} {cI cJ cZ cB : ClassId} (C0 : LC p l s m meth c b L xs dC dI cI cJ cZ cB) {a0 aZ aO aG aP aW aK ou : Nat} {m0 mH mL mB mP mR mA mW mU mV mM mT mQ mO mF mS mE mX mD : Nat} {i cells slots : Nat} (hi : i + 5 ≤ L) (hc : cells + 5 ≤ room_1.cells ∧ slots + 1465 ≤ room_1.slots) {J : JS} (hI : Inv J) {H : Heap} {locs : List Loc} {ls : Array Slot} (hP : va_P (dC, dI) vwCl (wC cI cJ cZ a0 aZ aO aG aP aW aK ou J ++ wR cI cJ cB m0 mH mL mB mP mR mA mW mU mV mM mT mQ mO mF mS mE mX mD J) H) (hD : va_D (fun q : Nat => s.heap.size ≤ q) (wC cI cJ cZ a0 aZ aO aG aP aW aK ou J ++ wR cI cJ cB m0 mH mL mB mP mR mA mW mU mV mM mT mQ mO mF mS mE mX mD J)) (hS : va_S (fun q : Nat => s.heap.size ≤ q) s.heap H locs) (hl9 : lv_has ls 8 [(4, .int (nI i)), (3, .ref ou), (2, .ref m0), (1, .ref a0), (0, .ref b)]) (kk : LK p l e s m below meth c b dC dI cI cJ cZ cB a0 aZ aO aG aP aW aK ou m0 mH mL mB mP mR mA mW mU mV mM mT mQ mO mF mS mE mX mD i (cells + 5) (slots + 1465)) : W p l e room_1 s m #[Value.ref b] below meth c H locs cells slots (lw_Z below #[Value.ref b] s) (F0 m 847 ls []) := by
  obtain ⟨hx, hb, hml, hown, hG, hX, hbl, hK, hN, hE, hl, hL⟩ := C0
  have hA : ∀ q : Nat, s.heap.size ≤ q → (fun q : Nat => s.heap.size ≤ q) q := fun _ h => h
  have hbA : ¬ (fun q : Nat => s.heap.size ≤ q) b := Nat.not_le.mpr hbl
  have hin1 : vp_in (nI i + 1) L := by rw [show nI i + 1 = nI (i + 1) from nI_add i 1]; exact vp_in_nI (by omega) (by omega)
  have hin2 : vp_in (nI i + 2) L := by rw [show nI i + 2 = nI (i + 2) from nI_add i 2]; exact vp_in_nI (by omega) (by omega)
  obtain ⟨k9, J1, bv, hSC, hSM, hth, hout, hI1⟩ := j_lesson l dC dI cI cJ cZ cB hl a0 aZ aO aG aP aW aK ou m0 mH mL mB mP mR mA mW mU mV mM mT mQ mO mF mS mE mX mD J hI (xs (nI i + 1).toNatClampNeg) (xs (nI i + 2).toNatClampNeg)
  refine lv_aload_n hx hb d_L_law_847 rfl (lv_at hl9 3 rfl) ?_
  refine lv_aload_n hx hb d_L_law_848 rfl (lv_at hl9 4 rfl) ?_
  refine lv_iload hx hb d_L_law_849 (lv_at hl9 0 rfl) ?_
  refine lv_iconst (v := 1) hx hb d_L_law_851 (by decide) ?_
  refine lv_iadd hx hb d_L_law_852 ?_
  refine va_sld hx hb hX hbl hbA hS hin1 d_L_law_853 ?_
  refine lv_aload_n hx hb d_L_law_854 rfl (lv_at hl9 4 rfl) ?_
  refine lv_iload hx hb d_L_law_855 (lv_at hl9 0 rfl) ?_
  refine lv_iconst (v := 2) hx hb d_L_law_857 (by decide) ?_
  refine lv_iadd hx hb d_L_law_858 ?_
  refine va_sld hx hb hX hbl hbA hS hin2 d_L_law_859 ?_
  refine lv_aload_n hx hb d_L_law_860 rfl (lv_at hl9 1 rfl) ?_
  have hPc := wp_l hP
  have hDc := wd_l hD
  have hFc := wf_l hD hS hA
  refine va_calli (vx_runSW (As := [.ref a0, .int (xs (nI i + 1).toNatClampNeg), .int (xs (nI i + 2).toNatClampNeg), .ref ou]) (rest := []) ⟨hx, hb, hml, hown, hG⟩ (hSC H.size) (vx_cwSW 4 hG g_L_123 rfl rfl rfl (by decide +kernel) ⟨Nat.le_of_ble_eq_true rfl, Nat.le_of_ble_eq_true rfl⟩) ⟨PCL.blind, PCL.of hPc hK hDc hE hN hS hFc⟩ rfl rfl hl9.1 rfl (lv_room (Nat.le_of_ble_eq_true rfl)) d_L_law_861 hc) hS (fun q _ h => hFc q h) hFc (fun r5 u t H1 locs ht hvm hw hB hz1 hk1 hS => ?_)
  have hw5 : r5 = k9 := hw
  rw [ht] at hB
  obtain ⟨hP, hD⟩ := wj_l hP hD hk1 hFc hB.1 hB.2
  clear hB hk1 hz1 hPc hDc hFc ht hvm
  refine lv_istore (lv' := [(5, .int r5), (4, .int (nI i)), (3, .ref ou), (2, .ref m0), (1, .ref a0), (0, .ref b)]) hx hb d_L_law_864 hl9 (by decide) rfl (fun ls hl9 => ?_)
  refine lv_aload_n hx hb d_L_law_866 rfl (lv_at hl9 3 rfl) ?_
  refine lv_aload_n hx hb d_L_law_867 rfl (lv_at hl9 5 rfl) ?_
  refine lv_iload hx hb d_L_law_868 (lv_at hl9 1 rfl) ?_
  refine lv_iconst (v := 1) hx hb d_L_law_870 (by decide) ?_
  refine lv_iadd hx hb d_L_law_871 ?_
  refine va_sld hx hb hX hbl hbA hS hin1 d_L_law_872 ?_
  refine lv_aload_n hx hb d_L_law_873 rfl (lv_at hl9 5 rfl) ?_
  refine lv_iload hx hb d_L_law_874 (lv_at hl9 1 rfl) ?_
  refine lv_iconst (v := 2) hx hb d_L_law_876 (by decide) ?_
  refine lv_iadd hx hb d_L_law_877 ?_
  refine va_sld hx hb hX hbl hbA hS hin2 d_L_law_878 ?_
  have hPr := wp_r hP
  have hDr := wd_r hD
  have hFr := wf_r hD hS hA
  refine va_calll (va_runV (C := R_M) (As := [.int (xs (nI i + 1).toNatClampNeg), .int (xs (nI i + 2).toNatClampNeg)]) (rest := []) ⟨hx, hb, hml, hown, hG⟩ (hSM u H1.size) (cwV 2 hG g_L_125 rfl rfl rfl (by decide +kernel) ⟨Nat.le_of_ble_eq_true rfl, Nat.le_of_ble_eq_true rfl⟩) ⟨PC.blind, recv_R hK hPr, PC.of hPr hK hDr hE hS hFr⟩ rfl rfl hl9.1 rfl (lv_room (Nat.le_of_ble_eq_true rfl)) d_L_law_879 hc) hS (fun q _ h => hFr q h) hFr (fun r6 u9 t H2 locs ht hvm hwr6 hB hz1 hk1 hS => ?_)
  rw [ht] at hB
  obtain ⟨hP, hD⟩ := wj_r hP hD hk1 hFr hB.1 hB.2
  clear hB hk1 hz1 hPr hDr hFr ht hvm
  refine lv_lstore (lv' := [(6, .long r6), (5, .int r5), (4, .int (nI i)), (3, .ref ou), (2, .ref m0), (1, .ref a0), (0, .ref b)]) hx hb d_L_law_882 hl9 (by decide) rfl (fun ls hl9 => ?_)
  refine lv_aload_n hx hb d_L_law_884 rfl (lv_at hl9 4 rfl) ?_
  have hPr := wp_r hP
  have hDr := wd_r hD
  have hFr := wf_r hD hS hA
  refine va_calli (va_runV (C := R_M) (As := []) (rest := []) ⟨hx, hb, hml, hown, hG⟩ (thrown_J l dC dI cI cJ cZ cB m0 mH mL mB mP mR mA mW mU mV mM mT mQ mO mF mS mE mX mD (J1 u) H2.size) (cwV 0 hG g_L_82 rfl rfl rfl (by decide +kernel) ⟨Nat.le_of_ble_eq_true rfl, Nat.le_of_ble_eq_true rfl⟩) ⟨PC.blind, recv_R hK hPr, PC.of hPr hK hDr hE hS hFr⟩ rfl rfl hl9.1 rfl (lv_room (Nat.le_of_ble_eq_true rfl)) d_L_law_885 hc) hS (fun q _ h => hFr q h) hFr (fun r7 u9 t H3 locs ht hvm hwr7 hB hz1 hk1 hS => ?_)
  rw [ht] at hB
  obtain ⟨hP, hD⟩ := wj_r hP hD hk1 hFr hB.1 hB.2
  clear hB hk1 hz1 hPr hDr hFr ht hvm
  have hr7 : r7 = r5 := ((hwr7 rfl).trans (hth u)).trans hw5.symm
  refine lv_iload hx hb d_L_law_888 (lv_at hl9 1 rfl) ?_
  refine lv_icmp_eq (tgt := 895) hx hb d_L_law_890 (by decide) (fun _ => ?_) (fun h => absurd hr7 h)
  refine lv_iload hx hb d_L_law_895 (lv_at hl9 1 rfl) ?_
  refine lv_if_ne (tgt := 911) hx hb d_L_law_897 (by decide) (fun _ => ?_) (fun c2 => ?_)
  · refine lv_goto (tgt := 1209) hx hb d_L_law_911 (by decide) ?_
    exact kk (J1 u) _ _ ls (hI1 u) hP hD hS (lv_sub hl9 [2, 3, 4, 5, 6] rfl)
  · obtain ⟨f7, hf7, hf0⟩ := out_get (cI := cI) (cJ := cJ) (cZ := cZ) (a0 := a0) (aZ := aZ) (aO := aO) (aG := aG) (aP := aP) (aW := aW) (aK := aK) (ou := ou) (w2 := wR cI cJ cB m0 mH mL mB mP mR mA mW mU mV mM mT mQ mO mF mS mE mX mD (J1 u)) (J1 u)
    have hk0 : k9 = 0 := hw5.symm.trans c2
    have h6 : r6 = bv := hwr6 hk0
    have hf0 : f7 0 = r6 := by rw [hf0, hout u hk0, h6]
    refine lv_aload_n hx hb d_L_law_900 rfl (lv_at hl9 3 rfl) ?_
    refine lv_iconst (v := 0) hx hb d_L_law_901 (by decide) ?_
    refine va_lald hx hb hK hP 7 1 hf7 rfl (vp_in_nI (n := 0) (N := 1) (by decide) (by decide)) d_L_law_902 ?_
    refine lv_lload hx hb d_L_law_903 (lv_at hl9 0 rfl) ?_
    refine W.lcmp hx hb d_L_law_905 ?_
    refine lv_if_eq (tgt := 911) hx hb d_L_law_906 (by decide) (fun _ => ?_) (fun h => absurd ((lg_cmp_eq _ _).mpr (hf0)) h)
    refine lv_goto (tgt := 1209) hx hb d_L_law_911 (by decide) ?_
    exact kk (J1 u) _ _ ls (hI1 u) hP hD hS (lv_sub hl9 [2, 3, 4, 5, 6] rfl)
set_option maxHeartbeats 4000000 in
set_option maxRecDepth 100000 in
theorem law_taught {p : Program} {l : Launch} {e : Env} {s : State} {m : MethodId} {below : List Frame} {meth : Method} {c : Code} {b L : Nat} {xs : Nat → Int32} {dC : Nat → ClassId} {dI : Nat → Nat → Nat} {cI cJ cZ cB : ClassId} (C0 : LC p l s m meth c b L xs dC dI cI cJ cZ cB) {a0 aZ aO aG aP aW aK ou : Nat} {m0 mH mL mB mP mR mA mW mU mV mM mT mQ mO mF mS mE mX mD : Nat} {i cells slots : Nat} (hi : i + 5 ≤ L) (hc : cells + 5 ≤ room_1.cells ∧ slots + 1465 ≤ room_1.slots) {J : JS} (hI : Inv J) {H : Heap} {locs : List Loc} {ls : Array Slot} (hP : va_P (dC, dI) vwCl (wC cI cJ cZ a0 aZ aO aG aP aW aK ou J ++ wR cI cJ cB m0 mH mL mB mP mR mA mW mU mV mM mT mQ mO mF mS mE mX mD J) H) (hD : va_D (fun q : Nat => s.heap.size ≤ q) (wC cI cJ cZ a0 aZ aO aG aP aW aK ou J ++ wR cI cJ cB m0 mH mL mB mP mR mA mW mU mV mM mT mQ mO mF mS mE mX mD J)) (hS : va_S (fun q : Nat => s.heap.size ≤ q) s.heap H locs) (hl9 : lv_has ls 8 [(4, .int (nI i)), (3, .ref ou), (2, .ref m0), (1, .ref a0), (0, .ref b)]) (kk : LK p l e s m below meth c b dC dI cI cJ cZ cB a0 aZ aO aG aP aW aK ou m0 mH mL mB mP mR mA mW mU mV mM mT mQ mO mF mS mE mX mD i (cells + 5) (slots + 1465)) : W p l e room_1 s m #[Value.ref b] below meth c H locs cells slots (lw_Z below #[Value.ref b] s) (F0 m 914 ls []) := by
  obtain ⟨hx, hb, hml, hown, hG, hX, hbl, hK, hN, hE, hl, hL⟩ := C0
  have hA : ∀ q : Nat, s.heap.size ≤ q → (fun q : Nat => s.heap.size ≤ q) q := fun _ h => h
  have hbA : ¬ (fun q : Nat => s.heap.size ≤ q) b := Nat.not_le.mpr hbl
  have hin1 : vp_in (nI i + 1) L := by rw [show nI i + 1 = nI (i + 1) from nI_add i 1]; exact vp_in_nI (by omega) (by omega)
  obtain ⟨k9, J1, bv, hSC, hSM, hth, hout, hI1⟩ := j_taught l dC dI cI cJ cZ cB hl a0 aZ aO aG aP aW aK ou m0 mH mL mB mP mR mA mW mU mV mM mT mQ mO mF mS mE mX mD J hI (xs (nI i + 1).toNatClampNeg)
  refine lv_aload_n hx hb d_L_law_914 rfl (lv_at hl9 3 rfl) ?_
  refine lv_aload_n hx hb d_L_law_915 rfl (lv_at hl9 4 rfl) ?_
  refine lv_iload hx hb d_L_law_916 (lv_at hl9 0 rfl) ?_
  refine lv_iconst (v := 1) hx hb d_L_law_918 (by decide) ?_
  refine lv_iadd hx hb d_L_law_919 ?_
  refine va_sld hx hb hX hbl hbA hS hin1 d_L_law_920 ?_
  refine lv_aload_n hx hb d_L_law_921 rfl (lv_at hl9 1 rfl) ?_
  have hPc := wp_l hP
  have hDc := wd_l hD
  have hFc := wf_l hD hS hA
  refine va_calli (vx_runSW (As := [.ref a0, .int (xs (nI i + 1).toNatClampNeg), .ref ou]) (rest := []) ⟨hx, hb, hml, hown, hG⟩ (hSC H.size) (vx_cwSW 3 hG g_L_126 rfl rfl rfl (by decide +kernel) ⟨Nat.le_of_ble_eq_true rfl, Nat.le_of_ble_eq_true rfl⟩) ⟨PCL.blind, PCL.of hPc hK hDc hE hN hS hFc⟩ rfl rfl hl9.1 rfl (lv_room (Nat.le_of_ble_eq_true rfl)) d_L_law_922 hc) hS (fun q _ h => hFc q h) hFc (fun r5 u t H1 locs ht hvm hw hB hz1 hk1 hS => ?_)
  have hw5 : r5 = k9 := hw
  rw [ht] at hB
  obtain ⟨hP, hD⟩ := wj_l hP hD hk1 hFc hB.1 hB.2
  clear hB hk1 hz1 hPc hDc hFc ht hvm
  refine lv_istore (lv' := [(5, .int r5), (4, .int (nI i)), (3, .ref ou), (2, .ref m0), (1, .ref a0), (0, .ref b)]) hx hb d_L_law_925 hl9 (by decide) rfl (fun ls hl9 => ?_)
  refine lv_aload_n hx hb d_L_law_927 rfl (lv_at hl9 3 rfl) ?_
  refine lv_aload_n hx hb d_L_law_928 rfl (lv_at hl9 5 rfl) ?_
  refine lv_iload hx hb d_L_law_929 (lv_at hl9 1 rfl) ?_
  refine lv_iconst (v := 1) hx hb d_L_law_931 (by decide) ?_
  refine lv_iadd hx hb d_L_law_932 ?_
  refine va_sld hx hb hX hbl hbA hS hin1 d_L_law_933 ?_
  have hPr := wp_r hP
  have hDr := wd_r hD
  have hFr := wf_r hD hS hA
  refine va_calli (va_runV (C := R_M) (As := [.int (xs (nI i + 1).toNatClampNeg)]) (rest := []) ⟨hx, hb, hml, hown, hG⟩ (hSM u H1.size) (cwV 1 hG g_L_128 rfl rfl rfl (by decide +kernel) ⟨Nat.le_of_ble_eq_true rfl, Nat.le_of_ble_eq_true rfl⟩) ⟨PC.blind, recv_R hK hPr, PC.of hPr hK hDr hE hS hFr⟩ rfl rfl hl9.1 rfl (lv_room (Nat.le_of_ble_eq_true rfl)) d_L_law_934 hc) hS (fun q _ h => hFr q h) hFr (fun r6 u9 t H2 locs ht hvm hwr6 hB hz1 hk1 hS => ?_)
  rw [ht] at hB
  obtain ⟨hP, hD⟩ := wj_r hP hD hk1 hFr hB.1 hB.2
  clear hB hk1 hz1 hPr hDr hFr ht hvm
  refine lv_istore (lv' := [(6, .int r6), (5, .int r5), (4, .int (nI i)), (3, .ref ou), (2, .ref m0), (1, .ref a0), (0, .ref b)]) hx hb d_L_law_937 hl9 (by decide) rfl (fun ls hl9 => ?_)
  refine lv_aload_n hx hb d_L_law_939 rfl (lv_at hl9 4 rfl) ?_
  have hPr := wp_r hP
  have hDr := wd_r hD
  have hFr := wf_r hD hS hA
  refine va_calli (va_runV (C := R_M) (As := []) (rest := []) ⟨hx, hb, hml, hown, hG⟩ (thrown_J l dC dI cI cJ cZ cB m0 mH mL mB mP mR mA mW mU mV mM mT mQ mO mF mS mE mX mD (J1 u) H2.size) (cwV 0 hG g_L_82 rfl rfl rfl (by decide +kernel) ⟨Nat.le_of_ble_eq_true rfl, Nat.le_of_ble_eq_true rfl⟩) ⟨PC.blind, recv_R hK hPr, PC.of hPr hK hDr hE hS hFr⟩ rfl rfl hl9.1 rfl (lv_room (Nat.le_of_ble_eq_true rfl)) d_L_law_940 hc) hS (fun q _ h => hFr q h) hFr (fun r7 u9 t H3 locs ht hvm hwr7 hB hz1 hk1 hS => ?_)
  rw [ht] at hB
  obtain ⟨hP, hD⟩ := wj_r hP hD hk1 hFr hB.1 hB.2
  clear hB hk1 hz1 hPr hDr hFr ht hvm
  have hr7 : r7 = r5 := ((hwr7 rfl).trans (hth u)).trans hw5.symm
  refine lv_iload hx hb d_L_law_943 (lv_at hl9 1 rfl) ?_
  refine lv_icmp_eq (tgt := 950) hx hb d_L_law_945 (by decide) (fun _ => ?_) (fun h => absurd hr7 h)
  refine lv_iload hx hb d_L_law_950 (lv_at hl9 1 rfl) ?_
  refine lv_if_ne (tgt := 967) hx hb d_L_law_952 (by decide) (fun _ => ?_) (fun c2 => ?_)
  · refine lv_goto (tgt := 1209) hx hb d_L_law_967 (by decide) ?_
    exact kk (J1 u) _ _ ls (hI1 u) hP hD hS (lv_sub hl9 [2, 3, 4, 5, 6] rfl)
  · obtain ⟨f7, hf7, hf0⟩ := out_get (cI := cI) (cJ := cJ) (cZ := cZ) (a0 := a0) (aZ := aZ) (aO := aO) (aG := aG) (aP := aP) (aW := aW) (aK := aK) (ou := ou) (w2 := wR cI cJ cB m0 mH mL mB mP mR mA mW mU mV mM mT mQ mO mF mS mE mX mD (J1 u)) (J1 u)
    have hk0 : k9 = 0 := hw5.symm.trans c2
    have h6 : r6 = bv := hwr6 hk0
    have hf0 : f7 0 = r6.toInt64 := by rw [hf0, hout u hk0, h6]
    refine lv_aload_n hx hb d_L_law_955 rfl (lv_at hl9 3 rfl) ?_
    refine lv_iconst (v := 0) hx hb d_L_law_956 (by decide) ?_
    refine va_lald hx hb hK hP 7 1 hf7 rfl (vp_in_nI (n := 0) (N := 1) (by decide) (by decide)) d_L_law_957 ?_
    refine lv_iload hx hb d_L_law_958 (lv_at hl9 0 rfl) ?_
    refine lv_i2l hx hb d_L_law_960 rfl ?_
    refine W.lcmp hx hb d_L_law_961 ?_
    refine lv_if_eq (tgt := 967) hx hb d_L_law_962 (by decide) (fun _ => ?_) (fun h => absurd ((lg_cmp_eq _ _).mpr (hf0)) h)
    refine lv_goto (tgt := 1209) hx hb d_L_law_967 (by decide) ?_
    exact kk (J1 u) _ _ ls (hI1 u) hP hD hS (lv_sub hl9 [2, 3, 4, 5, 6] rfl)
set_option maxHeartbeats 4000000 in
set_option maxRecDepth 100000 in
theorem law_price {p : Program} {l : Launch} {e : Env} {s : State} {m : MethodId} {below : List Frame} {meth : Method} {c : Code} {b L : Nat} {xs : Nat → Int32} {dC : Nat → ClassId} {dI : Nat → Nat → Nat} {cI cJ cZ cB : ClassId} (C0 : LC p l s m meth c b L xs dC dI cI cJ cZ cB) {a0 aZ aO aG aP aW aK ou : Nat} {m0 mH mL mB mP mR mA mW mU mV mM mT mQ mO mF mS mE mX mD : Nat} {i cells slots : Nat} (hi : i + 5 ≤ L) (hc : cells + 5 ≤ room_1.cells ∧ slots + 1465 ≤ room_1.slots) {J : JS} (hI : Inv J) {H : Heap} {locs : List Loc} {ls : Array Slot} (hP : va_P (dC, dI) vwCl (wC cI cJ cZ a0 aZ aO aG aP aW aK ou J ++ wR cI cJ cB m0 mH mL mB mP mR mA mW mU mV mM mT mQ mO mF mS mE mX mD J) H) (hD : va_D (fun q : Nat => s.heap.size ≤ q) (wC cI cJ cZ a0 aZ aO aG aP aW aK ou J ++ wR cI cJ cB m0 mH mL mB mP mR mA mW mU mV mM mT mQ mO mF mS mE mX mD J)) (hS : va_S (fun q : Nat => s.heap.size ≤ q) s.heap H locs) (hl9 : lv_has ls 8 [(4, .int (nI i)), (3, .ref ou), (2, .ref m0), (1, .ref a0), (0, .ref b)]) (kk : LK p l e s m below meth c b dC dI cI cJ cZ cB a0 aZ aO aG aP aW aK ou m0 mH mL mB mP mR mA mW mU mV mM mT mQ mO mF mS mE mX mD i (cells + 5) (slots + 1465)) : W p l e room_1 s m #[Value.ref b] below meth c H locs cells slots (lw_Z below #[Value.ref b] s) (F0 m 970 ls []) := by
  obtain ⟨hx, hb, hml, hown, hG, hX, hbl, hK, hN, hE, hl, hL⟩ := C0
  have hA : ∀ q : Nat, s.heap.size ≤ q → (fun q : Nat => s.heap.size ≤ q) q := fun _ h => h
  have hbA : ¬ (fun q : Nat => s.heap.size ≤ q) b := Nat.not_le.mpr hbl
  have hin1 : vp_in (nI i + 1) L := by rw [show nI i + 1 = nI (i + 1) from nI_add i 1]; exact vp_in_nI (by omega) (by omega)
  have hin2 : vp_in (nI i + 2) L := by rw [show nI i + 2 = nI (i + 2) from nI_add i 2]; exact vp_in_nI (by omega) (by omega)
  obtain ⟨k9, J1, bv, hSC, hSM, hth, hout, hI1⟩ := j_price l dC dI cI cJ cZ cB hl a0 aZ aO aG aP aW aK ou m0 mH mL mB mP mR mA mW mU mV mM mT mQ mO mF mS mE mX mD J hI (xs (nI i + 1).toNatClampNeg) (xs (nI i + 2).toNatClampNeg)
  refine lv_aload_n hx hb d_L_law_970 rfl (lv_at hl9 3 rfl) ?_
  refine lv_aload_n hx hb d_L_law_971 rfl (lv_at hl9 4 rfl) ?_
  refine lv_iload hx hb d_L_law_972 (lv_at hl9 0 rfl) ?_
  refine lv_iconst (v := 1) hx hb d_L_law_974 (by decide) ?_
  refine lv_iadd hx hb d_L_law_975 ?_
  refine va_sld hx hb hX hbl hbA hS hin1 d_L_law_976 ?_
  refine lv_aload_n hx hb d_L_law_977 rfl (lv_at hl9 4 rfl) ?_
  refine lv_iload hx hb d_L_law_978 (lv_at hl9 0 rfl) ?_
  refine lv_iconst (v := 2) hx hb d_L_law_980 (by decide) ?_
  refine lv_iadd hx hb d_L_law_981 ?_
  refine va_sld hx hb hX hbl hbA hS hin2 d_L_law_982 ?_
  refine lv_aload_n hx hb d_L_law_983 rfl (lv_at hl9 1 rfl) ?_
  have hPc := wp_l hP
  have hDc := wd_l hD
  have hFc := wf_l hD hS hA
  refine va_calli (vx_runSW (As := [.ref a0, .int (xs (nI i + 1).toNatClampNeg), .int (xs (nI i + 2).toNatClampNeg), .ref ou]) (rest := []) ⟨hx, hb, hml, hown, hG⟩ (hSC H.size) (vx_cwSW 4 hG g_L_129 rfl rfl rfl (by decide +kernel) ⟨Nat.le_of_ble_eq_true rfl, Nat.le_of_ble_eq_true rfl⟩) ⟨PCL.blind, PCL.of hPc hK hDc hE hN hS hFc⟩ rfl rfl hl9.1 rfl (lv_room (Nat.le_of_ble_eq_true rfl)) d_L_law_984 hc) hS (fun q _ h => hFc q h) hFc (fun r5 u t H1 locs ht hvm hw hB hz1 hk1 hS => ?_)
  have hw5 : r5 = k9 := hw
  rw [ht] at hB
  obtain ⟨hP, hD⟩ := wj_l hP hD hk1 hFc hB.1 hB.2
  clear hB hk1 hz1 hPc hDc hFc ht hvm
  refine lv_istore (lv' := [(5, .int r5), (4, .int (nI i)), (3, .ref ou), (2, .ref m0), (1, .ref a0), (0, .ref b)]) hx hb d_L_law_987 hl9 (by decide) rfl (fun ls hl9 => ?_)
  refine lv_aload_n hx hb d_L_law_989 rfl (lv_at hl9 3 rfl) ?_
  refine lv_aload_n hx hb d_L_law_990 rfl (lv_at hl9 5 rfl) ?_
  refine lv_iload hx hb d_L_law_991 (lv_at hl9 1 rfl) ?_
  refine lv_iconst (v := 1) hx hb d_L_law_993 (by decide) ?_
  refine lv_iadd hx hb d_L_law_994 ?_
  refine va_sld hx hb hX hbl hbA hS hin1 d_L_law_995 ?_
  refine lv_aload_n hx hb d_L_law_996 rfl (lv_at hl9 5 rfl) ?_
  refine lv_iload hx hb d_L_law_997 (lv_at hl9 1 rfl) ?_
  refine lv_iconst (v := 2) hx hb d_L_law_999 (by decide) ?_
  refine lv_iadd hx hb d_L_law_1000 ?_
  refine va_sld hx hb hX hbl hbA hS hin2 d_L_law_1001 ?_
  have hPr := wp_r hP
  have hDr := wd_r hD
  have hFr := wf_r hD hS hA
  refine va_calli (va_runV (C := R_M) (As := [.int (xs (nI i + 1).toNatClampNeg), .int (xs (nI i + 2).toNatClampNeg)]) (rest := []) ⟨hx, hb, hml, hown, hG⟩ (hSM u H1.size) (cwV 2 hG g_L_131 rfl rfl rfl (by decide +kernel) ⟨Nat.le_of_ble_eq_true rfl, Nat.le_of_ble_eq_true rfl⟩) ⟨PC.blind, recv_R hK hPr, PC.of hPr hK hDr hE hS hFr⟩ rfl rfl hl9.1 rfl (lv_room (Nat.le_of_ble_eq_true rfl)) d_L_law_1002 hc) hS (fun q _ h => hFr q h) hFr (fun r6 u9 t H2 locs ht hvm hwr6 hB hz1 hk1 hS => ?_)
  rw [ht] at hB
  obtain ⟨hP, hD⟩ := wj_r hP hD hk1 hFr hB.1 hB.2
  clear hB hk1 hz1 hPr hDr hFr ht hvm
  refine lv_istore (lv' := [(6, .int r6), (5, .int r5), (4, .int (nI i)), (3, .ref ou), (2, .ref m0), (1, .ref a0), (0, .ref b)]) hx hb d_L_law_1005 hl9 (by decide) rfl (fun ls hl9 => ?_)
  refine lv_aload_n hx hb d_L_law_1007 rfl (lv_at hl9 4 rfl) ?_
  have hPr := wp_r hP
  have hDr := wd_r hD
  have hFr := wf_r hD hS hA
  refine va_calli (va_runV (C := R_M) (As := []) (rest := []) ⟨hx, hb, hml, hown, hG⟩ (thrown_J l dC dI cI cJ cZ cB m0 mH mL mB mP mR mA mW mU mV mM mT mQ mO mF mS mE mX mD (J1 u) H2.size) (cwV 0 hG g_L_82 rfl rfl rfl (by decide +kernel) ⟨Nat.le_of_ble_eq_true rfl, Nat.le_of_ble_eq_true rfl⟩) ⟨PC.blind, recv_R hK hPr, PC.of hPr hK hDr hE hS hFr⟩ rfl rfl hl9.1 rfl (lv_room (Nat.le_of_ble_eq_true rfl)) d_L_law_1008 hc) hS (fun q _ h => hFr q h) hFr (fun r7 u9 t H3 locs ht hvm hwr7 hB hz1 hk1 hS => ?_)
  rw [ht] at hB
  obtain ⟨hP, hD⟩ := wj_r hP hD hk1 hFr hB.1 hB.2
  clear hB hk1 hz1 hPr hDr hFr ht hvm
  have hr7 : r7 = r5 := ((hwr7 rfl).trans (hth u)).trans hw5.symm
  refine lv_iload hx hb d_L_law_1011 (lv_at hl9 1 rfl) ?_
  refine lv_icmp_eq (tgt := 1018) hx hb d_L_law_1013 (by decide) (fun _ => ?_) (fun h => absurd hr7 h)
  refine lv_iload hx hb d_L_law_1018 (lv_at hl9 1 rfl) ?_
  refine lv_if_ne (tgt := 1035) hx hb d_L_law_1020 (by decide) (fun _ => ?_) (fun c2 => ?_)
  · refine lv_goto (tgt := 1209) hx hb d_L_law_1035 (by decide) ?_
    exact kk (J1 u) _ _ ls (hI1 u) hP hD hS (lv_sub hl9 [2, 3, 4, 5, 6] rfl)
  · obtain ⟨f7, hf7, hf0⟩ := out_get (cI := cI) (cJ := cJ) (cZ := cZ) (a0 := a0) (aZ := aZ) (aO := aO) (aG := aG) (aP := aP) (aW := aW) (aK := aK) (ou := ou) (w2 := wR cI cJ cB m0 mH mL mB mP mR mA mW mU mV mM mT mQ mO mF mS mE mX mD (J1 u)) (J1 u)
    have hk0 : k9 = 0 := hw5.symm.trans c2
    have h6 : r6 = bv := hwr6 hk0
    have hf0 : f7 0 = r6.toInt64 := by rw [hf0, hout u hk0, h6]
    refine lv_aload_n hx hb d_L_law_1023 rfl (lv_at hl9 3 rfl) ?_
    refine lv_iconst (v := 0) hx hb d_L_law_1024 (by decide) ?_
    refine va_lald hx hb hK hP 7 1 hf7 rfl (vp_in_nI (n := 0) (N := 1) (by decide) (by decide)) d_L_law_1025 ?_
    refine lv_iload hx hb d_L_law_1026 (lv_at hl9 0 rfl) ?_
    refine lv_i2l hx hb d_L_law_1028 rfl ?_
    refine W.lcmp hx hb d_L_law_1029 ?_
    refine lv_if_eq (tgt := 1035) hx hb d_L_law_1030 (by decide) (fun _ => ?_) (fun h => absurd ((lg_cmp_eq _ _).mpr (hf0)) h)
    refine lv_goto (tgt := 1209) hx hb d_L_law_1035 (by decide) ?_
    exact kk (J1 u) _ _ ls (hI1 u) hP hD hS (lv_sub hl9 [2, 3, 4, 5, 6] rfl)
set_option maxHeartbeats 4000000 in
set_option maxRecDepth 100000 in
theorem law_cheapest {p : Program} {l : Launch} {e : Env} {s : State} {m : MethodId} {below : List Frame} {meth : Method} {c : Code} {b L : Nat} {xs : Nat → Int32} {dC : Nat → ClassId} {dI : Nat → Nat → Nat} {cI cJ cZ cB : ClassId} (C0 : LC p l s m meth c b L xs dC dI cI cJ cZ cB) {a0 aZ aO aG aP aW aK ou : Nat} {m0 mH mL mB mP mR mA mW mU mV mM mT mQ mO mF mS mE mX mD : Nat} {i cells slots : Nat} (hi : i + 5 ≤ L) (hc : cells + 5 ≤ room_1.cells ∧ slots + 1465 ≤ room_1.slots) {J : JS} (hI : Inv J) {H : Heap} {locs : List Loc} {ls : Array Slot} (hP : va_P (dC, dI) vwCl (wC cI cJ cZ a0 aZ aO aG aP aW aK ou J ++ wR cI cJ cB m0 mH mL mB mP mR mA mW mU mV mM mT mQ mO mF mS mE mX mD J) H) (hD : va_D (fun q : Nat => s.heap.size ≤ q) (wC cI cJ cZ a0 aZ aO aG aP aW aK ou J ++ wR cI cJ cB m0 mH mL mB mP mR mA mW mU mV mM mT mQ mO mF mS mE mX mD J)) (hS : va_S (fun q : Nat => s.heap.size ≤ q) s.heap H locs) (hl9 : lv_has ls 8 [(4, .int (nI i)), (3, .ref ou), (2, .ref m0), (1, .ref a0), (0, .ref b)]) (kk : LK p l e s m below meth c b dC dI cI cJ cZ cB a0 aZ aO aG aP aW aK ou m0 mH mL mB mP mR mA mW mU mV mM mT mQ mO mF mS mE mX mD i (cells + 5) (slots + 1465)) : W p l e room_1 s m #[Value.ref b] below meth c H locs cells slots (lw_Z below #[Value.ref b] s) (F0 m 1038 ls []) := by
  obtain ⟨hx, hb, hml, hown, hG, hX, hbl, hK, hN, hE, hl, hL⟩ := C0
  have hA : ∀ q : Nat, s.heap.size ≤ q → (fun q : Nat => s.heap.size ≤ q) q := fun _ h => h
  have hbA : ¬ (fun q : Nat => s.heap.size ≤ q) b := Nat.not_le.mpr hbl
  have hin1 : vp_in (nI i + 1) L := by rw [show nI i + 1 = nI (i + 1) from nI_add i 1]; exact vp_in_nI (by omega) (by omega)
  have hin2 : vp_in (nI i + 2) L := by rw [show nI i + 2 = nI (i + 2) from nI_add i 2]; exact vp_in_nI (by omega) (by omega)
  have hin3 : vp_in (nI i + 3) L := by rw [show nI i + 3 = nI (i + 3) from nI_add i 3]; exact vp_in_nI (by omega) (by omega)
  obtain ⟨k9, J1, bv, hSC, hSM, hth, hout, hI1⟩ := j_cheapest l dC dI cI cJ cZ cB hl a0 aZ aO aG aP aW aK ou m0 mH mL mB mP mR mA mW mU mV mM mT mQ mO mF mS mE mX mD J hI (xs (nI i + 1).toNatClampNeg) (xs (nI i + 2).toNatClampNeg) (xs (nI i + 3).toNatClampNeg)
  refine lv_aload_n hx hb d_L_law_1038 rfl (lv_at hl9 3 rfl) ?_
  refine lv_aload_n hx hb d_L_law_1039 rfl (lv_at hl9 4 rfl) ?_
  refine lv_iload hx hb d_L_law_1040 (lv_at hl9 0 rfl) ?_
  refine lv_iconst (v := 1) hx hb d_L_law_1042 (by decide) ?_
  refine lv_iadd hx hb d_L_law_1043 ?_
  refine va_sld hx hb hX hbl hbA hS hin1 d_L_law_1044 ?_
  refine lv_aload_n hx hb d_L_law_1045 rfl (lv_at hl9 4 rfl) ?_
  refine lv_iload hx hb d_L_law_1046 (lv_at hl9 0 rfl) ?_
  refine lv_iconst (v := 2) hx hb d_L_law_1048 (by decide) ?_
  refine lv_iadd hx hb d_L_law_1049 ?_
  refine va_sld hx hb hX hbl hbA hS hin2 d_L_law_1050 ?_
  refine lv_aload_n hx hb d_L_law_1051 rfl (lv_at hl9 4 rfl) ?_
  refine lv_iload hx hb d_L_law_1052 (lv_at hl9 0 rfl) ?_
  refine lv_iconst (v := 3) hx hb d_L_law_1054 (by decide) ?_
  refine lv_iadd hx hb d_L_law_1055 ?_
  refine va_sld hx hb hX hbl hbA hS hin3 d_L_law_1056 ?_
  refine lv_aload_n hx hb d_L_law_1057 rfl (lv_at hl9 1 rfl) ?_
  have hPc := wp_l hP
  have hDc := wd_l hD
  have hFc := wf_l hD hS hA
  refine va_calli (vx_runSW (As := [.ref a0, .int (xs (nI i + 1).toNatClampNeg), .int (xs (nI i + 2).toNatClampNeg), .int (xs (nI i + 3).toNatClampNeg), .ref ou]) (rest := []) ⟨hx, hb, hml, hown, hG⟩ (hSC H.size) (vx_cwSW 5 hG g_L_132 rfl rfl rfl (by decide +kernel) ⟨Nat.le_of_ble_eq_true rfl, Nat.le_of_ble_eq_true rfl⟩) ⟨PCL.blind, PCL.of hPc hK hDc hE hN hS hFc⟩ rfl rfl hl9.1 rfl (lv_room (Nat.le_of_ble_eq_true rfl)) d_L_law_1058 hc) hS (fun q _ h => hFc q h) hFc (fun r5 u t H1 locs ht hvm hw hB hz1 hk1 hS => ?_)
  have hw5 : r5 = k9 := hw
  rw [ht] at hB
  obtain ⟨hP, hD⟩ := wj_l hP hD hk1 hFc hB.1 hB.2
  clear hB hk1 hz1 hPc hDc hFc ht hvm
  refine lv_istore (lv' := [(5, .int r5), (4, .int (nI i)), (3, .ref ou), (2, .ref m0), (1, .ref a0), (0, .ref b)]) hx hb d_L_law_1061 hl9 (by decide) rfl (fun ls hl9 => ?_)
  refine lv_aload_n hx hb d_L_law_1063 rfl (lv_at hl9 3 rfl) ?_
  refine lv_aload_n hx hb d_L_law_1064 rfl (lv_at hl9 5 rfl) ?_
  refine lv_iload hx hb d_L_law_1065 (lv_at hl9 1 rfl) ?_
  refine lv_iconst (v := 1) hx hb d_L_law_1067 (by decide) ?_
  refine lv_iadd hx hb d_L_law_1068 ?_
  refine va_sld hx hb hX hbl hbA hS hin1 d_L_law_1069 ?_
  refine lv_aload_n hx hb d_L_law_1070 rfl (lv_at hl9 5 rfl) ?_
  refine lv_iload hx hb d_L_law_1071 (lv_at hl9 1 rfl) ?_
  refine lv_iconst (v := 2) hx hb d_L_law_1073 (by decide) ?_
  refine lv_iadd hx hb d_L_law_1074 ?_
  refine va_sld hx hb hX hbl hbA hS hin2 d_L_law_1075 ?_
  refine lv_aload_n hx hb d_L_law_1076 rfl (lv_at hl9 5 rfl) ?_
  refine lv_iload hx hb d_L_law_1077 (lv_at hl9 1 rfl) ?_
  refine lv_iconst (v := 3) hx hb d_L_law_1079 (by decide) ?_
  refine lv_iadd hx hb d_L_law_1080 ?_
  refine va_sld hx hb hX hbl hbA hS hin3 d_L_law_1081 ?_
  have hPr := wp_r hP
  have hDr := wd_r hD
  have hFr := wf_r hD hS hA
  refine va_calli (va_runV (C := R_M) (As := [.int (xs (nI i + 1).toNatClampNeg), .int (xs (nI i + 2).toNatClampNeg), .int (xs (nI i + 3).toNatClampNeg)]) (rest := []) ⟨hx, hb, hml, hown, hG⟩ (hSM u H1.size) (cwV 3 hG g_L_134 rfl rfl rfl (by decide +kernel) ⟨Nat.le_of_ble_eq_true rfl, Nat.le_of_ble_eq_true rfl⟩) ⟨PC.blind, recv_R hK hPr, PC.of hPr hK hDr hE hS hFr⟩ rfl rfl hl9.1 rfl (lv_room (Nat.le_of_ble_eq_true rfl)) d_L_law_1082 hc) hS (fun q _ h => hFr q h) hFr (fun r6 u9 t H2 locs ht hvm hwr6 hB hz1 hk1 hS => ?_)
  rw [ht] at hB
  obtain ⟨hP, hD⟩ := wj_r hP hD hk1 hFr hB.1 hB.2
  clear hB hk1 hz1 hPr hDr hFr ht hvm
  refine lv_istore (lv' := [(6, .int r6), (5, .int r5), (4, .int (nI i)), (3, .ref ou), (2, .ref m0), (1, .ref a0), (0, .ref b)]) hx hb d_L_law_1085 hl9 (by decide) rfl (fun ls hl9 => ?_)
  refine lv_aload_n hx hb d_L_law_1087 rfl (lv_at hl9 4 rfl) ?_
  have hPr := wp_r hP
  have hDr := wd_r hD
  have hFr := wf_r hD hS hA
  refine va_calli (va_runV (C := R_M) (As := []) (rest := []) ⟨hx, hb, hml, hown, hG⟩ (thrown_J l dC dI cI cJ cZ cB m0 mH mL mB mP mR mA mW mU mV mM mT mQ mO mF mS mE mX mD (J1 u) H2.size) (cwV 0 hG g_L_82 rfl rfl rfl (by decide +kernel) ⟨Nat.le_of_ble_eq_true rfl, Nat.le_of_ble_eq_true rfl⟩) ⟨PC.blind, recv_R hK hPr, PC.of hPr hK hDr hE hS hFr⟩ rfl rfl hl9.1 rfl (lv_room (Nat.le_of_ble_eq_true rfl)) d_L_law_1088 hc) hS (fun q _ h => hFr q h) hFr (fun r7 u9 t H3 locs ht hvm hwr7 hB hz1 hk1 hS => ?_)
  rw [ht] at hB
  obtain ⟨hP, hD⟩ := wj_r hP hD hk1 hFr hB.1 hB.2
  clear hB hk1 hz1 hPr hDr hFr ht hvm
  have hr7 : r7 = r5 := ((hwr7 rfl).trans (hth u)).trans hw5.symm
  refine lv_iload hx hb d_L_law_1091 (lv_at hl9 1 rfl) ?_
  refine lv_icmp_eq (tgt := 1098) hx hb d_L_law_1093 (by decide) (fun _ => ?_) (fun h => absurd hr7 h)
  refine lv_iload hx hb d_L_law_1098 (lv_at hl9 1 rfl) ?_
  refine lv_if_ne (tgt := 1115) hx hb d_L_law_1100 (by decide) (fun _ => ?_) (fun c2 => ?_)
  · refine lv_goto (tgt := 1209) hx hb d_L_law_1115 (by decide) ?_
    exact kk (J1 u) _ _ ls (hI1 u) hP hD hS (lv_sub hl9 [2, 3, 4, 5, 6] rfl)
  · obtain ⟨f7, hf7, hf0⟩ := out_get (cI := cI) (cJ := cJ) (cZ := cZ) (a0 := a0) (aZ := aZ) (aO := aO) (aG := aG) (aP := aP) (aW := aW) (aK := aK) (ou := ou) (w2 := wR cI cJ cB m0 mH mL mB mP mR mA mW mU mV mM mT mQ mO mF mS mE mX mD (J1 u)) (J1 u)
    have hk0 : k9 = 0 := hw5.symm.trans c2
    have h6 : r6 = bv := hwr6 hk0
    have hf0 : f7 0 = r6.toInt64 := by rw [hf0, hout u hk0, h6]
    refine lv_aload_n hx hb d_L_law_1103 rfl (lv_at hl9 3 rfl) ?_
    refine lv_iconst (v := 0) hx hb d_L_law_1104 (by decide) ?_
    refine va_lald hx hb hK hP 7 1 hf7 rfl (vp_in_nI (n := 0) (N := 1) (by decide) (by decide)) d_L_law_1105 ?_
    refine lv_iload hx hb d_L_law_1106 (lv_at hl9 0 rfl) ?_
    refine lv_i2l hx hb d_L_law_1108 rfl ?_
    refine W.lcmp hx hb d_L_law_1109 ?_
    refine lv_if_eq (tgt := 1115) hx hb d_L_law_1110 (by decide) (fun _ => ?_) (fun h => absurd ((lg_cmp_eq _ _).mpr (hf0)) h)
    refine lv_goto (tgt := 1209) hx hb d_L_law_1115 (by decide) ?_
    exact kk (J1 u) _ _ ls (hI1 u) hP hD hS (lv_sub hl9 [2, 3, 4, 5, 6] rfl)
set_option maxHeartbeats 4000000 in
set_option maxRecDepth 100000 in
theorem law_costs {p : Program} {l : Launch} {e : Env} {s : State} {m : MethodId} {below : List Frame} {meth : Method} {c : Code} {b L : Nat} {xs : Nat → Int32} {dC : Nat → ClassId} {dI : Nat → Nat → Nat} {cI cJ cZ cB : ClassId} (C0 : LC p l s m meth c b L xs dC dI cI cJ cZ cB) {a0 aZ aO aG aP aW aK ou : Nat} {m0 mH mL mB mP mR mA mW mU mV mM mT mQ mO mF mS mE mX mD : Nat} {i cells slots : Nat} (hi : i + 5 ≤ L) (hc : cells + 5 ≤ room_1.cells ∧ slots + 1465 ≤ room_1.slots) {J : JS} (hI : Inv J) {H : Heap} {locs : List Loc} {ls : Array Slot} (hP : va_P (dC, dI) vwCl (wC cI cJ cZ a0 aZ aO aG aP aW aK ou J ++ wR cI cJ cB m0 mH mL mB mP mR mA mW mU mV mM mT mQ mO mF mS mE mX mD J) H) (hD : va_D (fun q : Nat => s.heap.size ≤ q) (wC cI cJ cZ a0 aZ aO aG aP aW aK ou J ++ wR cI cJ cB m0 mH mL mB mP mR mA mW mU mV mM mT mQ mO mF mS mE mX mD J)) (hS : va_S (fun q : Nat => s.heap.size ≤ q) s.heap H locs) (hl9 : lv_has ls 8 [(4, .int (nI i)), (3, .ref ou), (2, .ref m0), (1, .ref a0), (0, .ref b)]) (kk : LK p l e s m below meth c b dC dI cI cJ cZ cB a0 aZ aO aG aP aW aK ou m0 mH mL mB mP mR mA mW mU mV mM mT mQ mO mF mS mE mX mD i (cells + 5) (slots + 1465)) : W p l e room_1 s m #[Value.ref b] below meth c H locs cells slots (lw_Z below #[Value.ref b] s) (F0 m 1118 ls []) := by
  obtain ⟨hx, hb, hml, hown, hG, hX, hbl, hK, hN, hE, hl, hL⟩ := C0
  have hA : ∀ q : Nat, s.heap.size ≤ q → (fun q : Nat => s.heap.size ≤ q) q := fun _ h => h
  have hbA : ¬ (fun q : Nat => s.heap.size ≤ q) b := Nat.not_le.mpr hbl
  have hin1 : vp_in (nI i + 1) L := by rw [show nI i + 1 = nI (i + 1) from nI_add i 1]; exact vp_in_nI (by omega) (by omega)
  have hin2 : vp_in (nI i + 2) L := by rw [show nI i + 2 = nI (i + 2) from nI_add i 2]; exact vp_in_nI (by omega) (by omega)
  have hin3 : vp_in (nI i + 3) L := by rw [show nI i + 3 = nI (i + 3) from nI_add i 3]; exact vp_in_nI (by omega) (by omega)
  have hin4 : vp_in (nI i + 4) L := by rw [show nI i + 4 = nI (i + 4) from nI_add i 4]; exact vp_in_nI (by omega) (by omega)
  obtain ⟨k9, J1, bv, hSC, hSM, hth, hout, hI1⟩ := j_costs l dC dI cI cJ cZ cB hl a0 aZ aO aG aP aW aK ou m0 mH mL mB mP mR mA mW mU mV mM mT mQ mO mF mS mE mX mD J hI (xs (nI i + 1).toNatClampNeg) (xs (nI i + 2).toNatClampNeg) (xs (nI i + 3).toNatClampNeg) (xs (nI i + 4).toNatClampNeg)
  refine lv_aload_n hx hb d_L_law_1118 rfl (lv_at hl9 3 rfl) ?_
  refine lv_aload_n hx hb d_L_law_1119 rfl (lv_at hl9 4 rfl) ?_
  refine lv_iload hx hb d_L_law_1120 (lv_at hl9 0 rfl) ?_
  refine lv_iconst (v := 1) hx hb d_L_law_1122 (by decide) ?_
  refine lv_iadd hx hb d_L_law_1123 ?_
  refine va_sld hx hb hX hbl hbA hS hin1 d_L_law_1124 ?_
  refine lv_aload_n hx hb d_L_law_1125 rfl (lv_at hl9 4 rfl) ?_
  refine lv_iload hx hb d_L_law_1126 (lv_at hl9 0 rfl) ?_
  refine lv_iconst (v := 2) hx hb d_L_law_1128 (by decide) ?_
  refine lv_iadd hx hb d_L_law_1129 ?_
  refine va_sld hx hb hX hbl hbA hS hin2 d_L_law_1130 ?_
  refine lv_aload_n hx hb d_L_law_1131 rfl (lv_at hl9 4 rfl) ?_
  refine lv_iload hx hb d_L_law_1132 (lv_at hl9 0 rfl) ?_
  refine lv_iconst (v := 3) hx hb d_L_law_1134 (by decide) ?_
  refine lv_iadd hx hb d_L_law_1135 ?_
  refine va_sld hx hb hX hbl hbA hS hin3 d_L_law_1136 ?_
  refine lv_aload_n hx hb d_L_law_1137 rfl (lv_at hl9 4 rfl) ?_
  refine lv_iload hx hb d_L_law_1138 (lv_at hl9 0 rfl) ?_
  refine lv_iconst (v := 4) hx hb d_L_law_1140 (by decide) ?_
  refine lv_iadd hx hb d_L_law_1141 ?_
  refine va_sld hx hb hX hbl hbA hS hin4 d_L_law_1142 ?_
  refine lv_aload_n hx hb d_L_law_1143 rfl (lv_at hl9 1 rfl) ?_
  have hPc := wp_l hP
  have hDc := wd_l hD
  have hFc := wf_l hD hS hA
  refine va_calli (vx_runSW (As := [.ref a0, .int (xs (nI i + 1).toNatClampNeg), .int (xs (nI i + 2).toNatClampNeg), .int (xs (nI i + 3).toNatClampNeg), .int (xs (nI i + 4).toNatClampNeg), .ref ou]) (rest := []) ⟨hx, hb, hml, hown, hG⟩ (hSC H.size) (vx_cwSW 6 hG g_L_135 rfl rfl rfl (by decide +kernel) ⟨Nat.le_of_ble_eq_true rfl, Nat.le_of_ble_eq_true rfl⟩) ⟨PCL.blind, PCL.of hPc hK hDc hE hN hS hFc⟩ rfl rfl hl9.1 rfl (lv_room (Nat.le_of_ble_eq_true rfl)) d_L_law_1144 hc) hS (fun q _ h => hFc q h) hFc (fun r5 u t H1 locs ht hvm hw hB hz1 hk1 hS => ?_)
  have hw5 : r5 = k9 := hw
  rw [ht] at hB
  obtain ⟨hP, hD⟩ := wj_l hP hD hk1 hFc hB.1 hB.2
  clear hB hk1 hz1 hPc hDc hFc ht hvm
  refine lv_istore (lv' := [(5, .int r5), (4, .int (nI i)), (3, .ref ou), (2, .ref m0), (1, .ref a0), (0, .ref b)]) hx hb d_L_law_1147 hl9 (by decide) rfl (fun ls hl9 => ?_)
  refine lv_aload_n hx hb d_L_law_1149 rfl (lv_at hl9 3 rfl) ?_
  refine lv_aload_n hx hb d_L_law_1150 rfl (lv_at hl9 5 rfl) ?_
  refine lv_iload hx hb d_L_law_1151 (lv_at hl9 1 rfl) ?_
  refine lv_iconst (v := 1) hx hb d_L_law_1153 (by decide) ?_
  refine lv_iadd hx hb d_L_law_1154 ?_
  refine va_sld hx hb hX hbl hbA hS hin1 d_L_law_1155 ?_
  refine lv_aload_n hx hb d_L_law_1156 rfl (lv_at hl9 5 rfl) ?_
  refine lv_iload hx hb d_L_law_1157 (lv_at hl9 1 rfl) ?_
  refine lv_iconst (v := 2) hx hb d_L_law_1159 (by decide) ?_
  refine lv_iadd hx hb d_L_law_1160 ?_
  refine va_sld hx hb hX hbl hbA hS hin2 d_L_law_1161 ?_
  refine lv_aload_n hx hb d_L_law_1162 rfl (lv_at hl9 5 rfl) ?_
  refine lv_iload hx hb d_L_law_1163 (lv_at hl9 1 rfl) ?_
  refine lv_iconst (v := 3) hx hb d_L_law_1165 (by decide) ?_
  refine lv_iadd hx hb d_L_law_1166 ?_
  refine va_sld hx hb hX hbl hbA hS hin3 d_L_law_1167 ?_
  refine lv_aload_n hx hb d_L_law_1168 rfl (lv_at hl9 5 rfl) ?_
  refine lv_iload hx hb d_L_law_1169 (lv_at hl9 1 rfl) ?_
  refine lv_iconst (v := 4) hx hb d_L_law_1171 (by decide) ?_
  refine lv_iadd hx hb d_L_law_1172 ?_
  refine va_sld hx hb hX hbl hbA hS hin4 d_L_law_1173 ?_
  have hPr := wp_r hP
  have hDr := wd_r hD
  have hFr := wf_r hD hS hA
  refine va_calll (va_runV (C := R_M) (As := [.int (xs (nI i + 1).toNatClampNeg), .int (xs (nI i + 2).toNatClampNeg), .int (xs (nI i + 3).toNatClampNeg), .int (xs (nI i + 4).toNatClampNeg)]) (rest := []) ⟨hx, hb, hml, hown, hG⟩ (hSM u H1.size) (cwV 4 hG g_L_138 rfl rfl rfl (by decide +kernel) ⟨Nat.le_of_ble_eq_true rfl, Nat.le_of_ble_eq_true rfl⟩) ⟨PC.blind, recv_R hK hPr, PC.of hPr hK hDr hE hS hFr⟩ rfl rfl hl9.1 rfl (lv_room (Nat.le_of_ble_eq_true rfl)) d_L_law_1174 hc) hS (fun q _ h => hFr q h) hFr (fun r6 u9 t H2 locs ht hvm hwr6 hB hz1 hk1 hS => ?_)
  rw [ht] at hB
  obtain ⟨hP, hD⟩ := wj_r hP hD hk1 hFr hB.1 hB.2
  clear hB hk1 hz1 hPr hDr hFr ht hvm
  refine lv_lstore (lv' := [(6, .long r6), (5, .int r5), (4, .int (nI i)), (3, .ref ou), (2, .ref m0), (1, .ref a0), (0, .ref b)]) hx hb d_L_law_1177 hl9 (by decide) rfl (fun ls hl9 => ?_)
  refine lv_aload_n hx hb d_L_law_1179 rfl (lv_at hl9 4 rfl) ?_
  have hPr := wp_r hP
  have hDr := wd_r hD
  have hFr := wf_r hD hS hA
  refine va_calli (va_runV (C := R_M) (As := []) (rest := []) ⟨hx, hb, hml, hown, hG⟩ (thrown_J l dC dI cI cJ cZ cB m0 mH mL mB mP mR mA mW mU mV mM mT mQ mO mF mS mE mX mD (J1 u) H2.size) (cwV 0 hG g_L_82 rfl rfl rfl (by decide +kernel) ⟨Nat.le_of_ble_eq_true rfl, Nat.le_of_ble_eq_true rfl⟩) ⟨PC.blind, recv_R hK hPr, PC.of hPr hK hDr hE hS hFr⟩ rfl rfl hl9.1 rfl (lv_room (Nat.le_of_ble_eq_true rfl)) d_L_law_1180 hc) hS (fun q _ h => hFr q h) hFr (fun r7 u9 t H3 locs ht hvm hwr7 hB hz1 hk1 hS => ?_)
  rw [ht] at hB
  obtain ⟨hP, hD⟩ := wj_r hP hD hk1 hFr hB.1 hB.2
  clear hB hk1 hz1 hPr hDr hFr ht hvm
  have hr7 : r7 = r5 := ((hwr7 rfl).trans (hth u)).trans hw5.symm
  refine lv_iload hx hb d_L_law_1183 (lv_at hl9 1 rfl) ?_
  refine lv_icmp_eq (tgt := 1190) hx hb d_L_law_1185 (by decide) (fun _ => ?_) (fun h => absurd hr7 h)
  refine lv_iload hx hb d_L_law_1190 (lv_at hl9 1 rfl) ?_
  refine lv_if_ne (tgt := 1206) hx hb d_L_law_1192 (by decide) (fun _ => ?_) (fun c2 => ?_)
  · refine lv_goto (tgt := 1209) hx hb d_L_law_1206 (by decide) ?_
    exact kk (J1 u) _ _ ls (hI1 u) hP hD hS (lv_sub hl9 [2, 3, 4, 5, 6] rfl)
  · obtain ⟨f7, hf7, hf0⟩ := out_get (cI := cI) (cJ := cJ) (cZ := cZ) (a0 := a0) (aZ := aZ) (aO := aO) (aG := aG) (aP := aP) (aW := aW) (aK := aK) (ou := ou) (w2 := wR cI cJ cB m0 mH mL mB mP mR mA mW mU mV mM mT mQ mO mF mS mE mX mD (J1 u)) (J1 u)
    have hk0 : k9 = 0 := hw5.symm.trans c2
    have h6 : r6 = bv := hwr6 hk0
    have hf0 : f7 0 = r6 := by rw [hf0, hout u hk0, h6]
    refine lv_aload_n hx hb d_L_law_1195 rfl (lv_at hl9 3 rfl) ?_
    refine lv_iconst (v := 0) hx hb d_L_law_1196 (by decide) ?_
    refine va_lald hx hb hK hP 7 1 hf7 rfl (vp_in_nI (n := 0) (N := 1) (by decide) (by decide)) d_L_law_1197 ?_
    refine lv_lload hx hb d_L_law_1198 (lv_at hl9 0 rfl) ?_
    refine W.lcmp hx hb d_L_law_1200 ?_
    refine lv_if_eq (tgt := 1206) hx hb d_L_law_1201 (by decide) (fun _ => ?_) (fun h => absurd ((lg_cmp_eq _ _).mpr (hf0)) h)
    refine lv_goto (tgt := 1209) hx hb d_L_law_1206 (by decide) ?_
    exact kk (J1 u) _ _ ls (hI1 u) hP hD hS (lv_sub hl9 [2, 3, 4, 5, 6] rfl)
