set_option maxHeartbeats 4000000 in
set_option maxRecDepth 100000 in
theorem law_zone {p : Program} {l : Launch} {e : Env} {s : State} {m : MethodId} {below : List Frame} {meth : Method} {c : Code} {b L : Nat} {xs : Nat → Int32} {dC : Nat → ClassId} {dI : Nat → Nat → Nat} {cI cJ cZ cB : ClassId} (C0 : LC p l s m meth c b L xs dC dI cI cJ cZ cB) {a0 aZ aO aG aP aW aK ou : Nat} {m0 mH mL mB mP mR mA mW mU mV mM mT mQ mO mF mS mE mX mD : Nat} {i cells slots : Nat} (hi : i + 5 ≤ L) (hc : cells + 5 ≤ room_1.cells ∧ slots + 1465 ≤ room_1.slots) {J : JS} (hI : Inv J) {H : Heap} {locs : List Loc} {ls : Array Slot} (hP : va_P (dC, dI) vwCl (wC cI cJ cZ a0 aZ aO aG aP aW aK ou J ++ wR cI cJ cB m0 mH mL mB mP mR mA mW mU mV mM mT mQ mO mF mS mE mX mD J) H) (hD : va_D (fun q : Nat => s.heap.size ≤ q) (wC cI cJ cZ a0 aZ aO aG aP aW aK ou J ++ wR cI cJ cB m0 mH mL mB mP mR mA mW mU mV mM mT mQ mO mF mS mE mX mD J)) (hS : va_S (fun q : Nat => s.heap.size ≤ q) s.heap H locs) (hl9 : lv_has ls 8 [(4, .int (nI i)), (3, .ref ou), (2, .ref m0), (1, .ref a0), (0, .ref b)]) (kk : LK p l e s m below meth c b dC dI cI cJ cZ cB a0 aZ aO aG aP aW aK ou m0 mH mL mB mP mR mA mW mU mV mM mT mQ mO mF mS mE mX mD i (cells + 5) (slots + 1465)) : W p l e room_1 s m #[Value.ref b] below meth c H locs cells slots (lw_Z below #[Value.ref b] s) (F0 m 120 ls []) := by
  obtain ⟨hx, hb, hml, hown, hG, hX, hbl, hK, hN, hE, hl, hL⟩ := C0
  have hA : ∀ q : Nat, s.heap.size ≤ q → (fun q : Nat => s.heap.size ≤ q) q := fun _ h => h
  have hbA : ¬ (fun q : Nat => s.heap.size ≤ q) b := Nat.not_le.mpr hbl
  have hin1 : vp_in (nI i + 1) L := by rw [show nI i + 1 = nI (i + 1) from nI_add i 1]; exact vp_in_nI (by omega) (by omega)
  have hin2 : vp_in (nI i + 2) L := by rw [show nI i + 2 = nI (i + 2) from nI_add i 2]; exact vp_in_nI (by omega) (by omega)
  obtain ⟨k9, J1, bv, hSC, hSM, hth, hout, hI1⟩ := j_zone l dC dI cI cJ cZ cB hl a0 aZ aO aG aP aW aK ou m0 mH mL mB mP mR mA mW mU mV mM mT mQ mO mF mS mE mX mD J hI (xs (nI i + 1).toNatClampNeg) (xs (nI i + 2).toNatClampNeg)
  refine lv_aload_n hx hb d_L_law_120 rfl (lv_at hl9 3 rfl) ?_
  refine lv_aload_n hx hb d_L_law_121 rfl (lv_at hl9 4 rfl) ?_
  refine lv_iload hx hb d_L_law_122 (lv_at hl9 0 rfl) ?_
  refine lv_iconst (v := 1) hx hb d_L_law_124 (by decide) ?_
  refine lv_iadd hx hb d_L_law_125 ?_
  refine va_sld hx hb hX hbl hbA hS hin1 d_L_law_126 ?_
  refine lv_aload_n hx hb d_L_law_127 rfl (lv_at hl9 4 rfl) ?_
  refine lv_iload hx hb d_L_law_128 (lv_at hl9 0 rfl) ?_
  refine lv_iconst (v := 2) hx hb d_L_law_130 (by decide) ?_
  refine lv_iadd hx hb d_L_law_131 ?_
  refine va_sld hx hb hX hbl hbA hS hin2 d_L_law_132 ?_
  refine lv_aload_n hx hb d_L_law_133 rfl (lv_at hl9 1 rfl) ?_
  have hPc := wp_l hP
  have hDc := wd_l hD
  have hFc := wf_l hD hS hA
  refine va_calli (vx_runSW (As := [.ref a0, .int (xs (nI i + 1).toNatClampNeg), .int (xs (nI i + 2).toNatClampNeg), .ref ou]) (rest := []) ⟨hx, hb, hml, hown, hG⟩ (hSC H.size) (vx_cwSW 4 hG g_L_76 rfl rfl rfl (by decide +kernel) ⟨Nat.le_of_ble_eq_true rfl, Nat.le_of_ble_eq_true rfl⟩) ⟨PCL.blind, PCL.of hPc hK hDc hE hN hS hFc⟩ rfl rfl hl9.1 rfl (lv_room (Nat.le_of_ble_eq_true rfl)) d_L_law_134 hc) hS (fun q _ h => hFc q h) hFc (fun r5 u t H1 locs ht hvm hw hB hz1 hk1 hS => ?_)
  have hw5 : r5 = k9 := hw
  rw [ht] at hB
  obtain ⟨hP, hD⟩ := wj_l hP hD hk1 hFc hB.1 hB.2
  clear hB hk1 hz1 hPc hDc hFc ht hvm
  refine lv_istore (lv' := [(5, .int r5), (4, .int (nI i)), (3, .ref ou), (2, .ref m0), (1, .ref a0), (0, .ref b)]) hx hb d_L_law_137 hl9 (by decide) rfl (fun ls hl9 => ?_)
  refine lv_aload_n hx hb d_L_law_139 rfl (lv_at hl9 3 rfl) ?_
  refine lv_aload_n hx hb d_L_law_140 rfl (lv_at hl9 5 rfl) ?_
  refine lv_iload hx hb d_L_law_141 (lv_at hl9 1 rfl) ?_
  refine lv_iconst (v := 1) hx hb d_L_law_143 (by decide) ?_
  refine lv_iadd hx hb d_L_law_144 ?_
  refine va_sld hx hb hX hbl hbA hS hin1 d_L_law_145 ?_
  refine lv_aload_n hx hb d_L_law_146 rfl (lv_at hl9 5 rfl) ?_
  refine lv_iload hx hb d_L_law_147 (lv_at hl9 1 rfl) ?_
  refine lv_iconst (v := 2) hx hb d_L_law_149 (by decide) ?_
  refine lv_iadd hx hb d_L_law_150 ?_
  refine va_sld hx hb hX hbl hbA hS hin2 d_L_law_151 ?_
  have hPr := wp_r hP
  have hDr := wd_r hD
  have hFr := wf_r hD hS hA
  refine va_calli (va_runV (C := R_M) (As := [.int (xs (nI i + 1).toNatClampNeg), .int (xs (nI i + 2).toNatClampNeg)]) (rest := []) ⟨hx, hb, hml, hown, hG⟩ (hSM u H1.size) (cwV 2 hG g_L_81 rfl rfl rfl (by decide +kernel) ⟨Nat.le_of_ble_eq_true rfl, Nat.le_of_ble_eq_true rfl⟩) ⟨PC.blind, recv_R hK hPr, PC.of hPr hK hDr hE hS hFr⟩ rfl rfl hl9.1 rfl (lv_room (Nat.le_of_ble_eq_true rfl)) d_L_law_152 hc) hS (fun q _ h => hFr q h) hFr (fun r6 u9 t H2 locs ht hvm hwr6 hB hz1 hk1 hS => ?_)
  rw [ht] at hB
  obtain ⟨hP, hD⟩ := wj_r hP hD hk1 hFr hB.1 hB.2
  clear hB hk1 hz1 hPr hDr hFr ht hvm
  refine lv_istore (lv' := [(6, .int r6), (5, .int r5), (4, .int (nI i)), (3, .ref ou), (2, .ref m0), (1, .ref a0), (0, .ref b)]) hx hb d_L_law_155 hl9 (by decide) rfl (fun ls hl9 => ?_)
  refine lv_aload_n hx hb d_L_law_157 rfl (lv_at hl9 4 rfl) ?_
  have hPr := wp_r hP
  have hDr := wd_r hD
  have hFr := wf_r hD hS hA
  refine va_calli (va_runV (C := R_M) (As := []) (rest := []) ⟨hx, hb, hml, hown, hG⟩ (thrown_J l dC dI cI cJ cZ cB m0 mH mL mB mP mR mA mW mU mV mM mT mQ mO mF mS mE mX mD (J1 u) H2.size) (cwV 0 hG g_L_82 rfl rfl rfl (by decide +kernel) ⟨Nat.le_of_ble_eq_true rfl, Nat.le_of_ble_eq_true rfl⟩) ⟨PC.blind, recv_R hK hPr, PC.of hPr hK hDr hE hS hFr⟩ rfl rfl hl9.1 rfl (lv_room (Nat.le_of_ble_eq_true rfl)) d_L_law_158 hc) hS (fun q _ h => hFr q h) hFr (fun r7 u9 t H3 locs ht hvm hwr7 hB hz1 hk1 hS => ?_)
  rw [ht] at hB
  obtain ⟨hP, hD⟩ := wj_r hP hD hk1 hFr hB.1 hB.2
  clear hB hk1 hz1 hPr hDr hFr ht hvm
  have hr7 : r7 = r5 := ((hwr7 rfl).trans (hth u)).trans hw5.symm
  refine lv_iload hx hb d_L_law_161 (lv_at hl9 1 rfl) ?_
  refine lv_icmp_eq (tgt := 168) hx hb d_L_law_163 (by decide) (fun _ => ?_) (fun h => absurd hr7 h)
  refine lv_iload hx hb d_L_law_168 (lv_at hl9 1 rfl) ?_
  refine lv_if_ne (tgt := 185) hx hb d_L_law_170 (by decide) (fun _ => ?_) (fun c2 => ?_)
  · refine lv_goto (tgt := 1209) hx hb d_L_law_185 (by decide) ?_
    exact kk (J1 u) _ _ ls (hI1 u) hP hD hS (lv_sub hl9 [2, 3, 4, 5, 6] rfl)
  · obtain ⟨f7, hf7, hf0⟩ := out_get (cI := cI) (cJ := cJ) (cZ := cZ) (a0 := a0) (aZ := aZ) (aO := aO) (aG := aG) (aP := aP) (aW := aW) (aK := aK) (ou := ou) (w2 := wR cI cJ cB m0 mH mL mB mP mR mA mW mU mV mM mT mQ mO mF mS mE mX mD (J1 u)) (J1 u)
    have hk0 : k9 = 0 := hw5.symm.trans c2
    have h6 : r6 = bv := hwr6 hk0
    have hf0 : f7 0 = r6.toInt64 := by rw [hf0, hout u hk0, h6]
    refine lv_aload_n hx hb d_L_law_173 rfl (lv_at hl9 3 rfl) ?_
    refine lv_iconst (v := 0) hx hb d_L_law_174 (by decide) ?_
    refine va_lald hx hb hK hP 7 1 hf7 rfl (vp_in_nI (n := 0) (N := 1) (by decide) (by decide)) d_L_law_175 ?_
    refine lv_iload hx hb d_L_law_176 (lv_at hl9 0 rfl) ?_
    refine lv_i2l hx hb d_L_law_178 rfl ?_
    refine W.lcmp hx hb d_L_law_179 ?_
    refine lv_if_eq (tgt := 185) hx hb d_L_law_180 (by decide) (fun _ => ?_) (fun h => absurd ((lg_cmp_eq _ _).mpr (hf0)) h)
    refine lv_goto (tgt := 1209) hx hb d_L_law_185 (by decide) ?_
    exact kk (J1 u) _ _ ls (hI1 u) hP hD hS (lv_sub hl9 [2, 3, 4, 5, 6] rfl)
set_option maxHeartbeats 4000000 in
set_option maxRecDepth 100000 in
theorem law_set {p : Program} {l : Launch} {e : Env} {s : State} {m : MethodId} {below : List Frame} {meth : Method} {c : Code} {b L : Nat} {xs : Nat → Int32} {dC : Nat → ClassId} {dI : Nat → Nat → Nat} {cI cJ cZ cB : ClassId} (C0 : LC p l s m meth c b L xs dC dI cI cJ cZ cB) {a0 aZ aO aG aP aW aK ou : Nat} {m0 mH mL mB mP mR mA mW mU mV mM mT mQ mO mF mS mE mX mD : Nat} {i cells slots : Nat} (hi : i + 5 ≤ L) (hc : cells + 5 ≤ room_1.cells ∧ slots + 1465 ≤ room_1.slots) {J : JS} (hI : Inv J) {H : Heap} {locs : List Loc} {ls : Array Slot} (hP : va_P (dC, dI) vwCl (wC cI cJ cZ a0 aZ aO aG aP aW aK ou J ++ wR cI cJ cB m0 mH mL mB mP mR mA mW mU mV mM mT mQ mO mF mS mE mX mD J) H) (hD : va_D (fun q : Nat => s.heap.size ≤ q) (wC cI cJ cZ a0 aZ aO aG aP aW aK ou J ++ wR cI cJ cB m0 mH mL mB mP mR mA mW mU mV mM mT mQ mO mF mS mE mX mD J)) (hS : va_S (fun q : Nat => s.heap.size ≤ q) s.heap H locs) (hl9 : lv_has ls 8 [(4, .int (nI i)), (3, .ref ou), (2, .ref m0), (1, .ref a0), (0, .ref b)]) (kk : LK p l e s m below meth c b dC dI cI cJ cZ cB a0 aZ aO aG aP aW aK ou m0 mH mL mB mP mR mA mW mU mV mM mT mQ mO mF mS mE mX mD i (cells + 5) (slots + 1465)) : W p l e room_1 s m #[Value.ref b] below meth c H locs cells slots (lw_Z below #[Value.ref b] s) (F0 m 188 ls []) := by
  obtain ⟨hx, hb, hml, hown, hG, hX, hbl, hK, hN, hE, hl, hL⟩ := C0
  have hA : ∀ q : Nat, s.heap.size ≤ q → (fun q : Nat => s.heap.size ≤ q) q := fun _ h => h
  have hbA : ¬ (fun q : Nat => s.heap.size ≤ q) b := Nat.not_le.mpr hbl
  have hin1 : vp_in (nI i + 1) L := by rw [show nI i + 1 = nI (i + 1) from nI_add i 1]; exact vp_in_nI (by omega) (by omega)
  have hin2 : vp_in (nI i + 2) L := by rw [show nI i + 2 = nI (i + 2) from nI_add i 2]; exact vp_in_nI (by omega) (by omega)
  have hin3 : vp_in (nI i + 3) L := by rw [show nI i + 3 = nI (i + 3) from nI_add i 3]; exact vp_in_nI (by omega) (by omega)
  obtain ⟨k9, J1, bv, hSC, hSM, hth, hout, hI1⟩ := j_set l dC dI cI cJ cZ cB hl a0 aZ aO aG aP aW aK ou m0 mH mL mB mP mR mA mW mU mV mM mT mQ mO mF mS mE mX mD J hI (xs (nI i + 1).toNatClampNeg) (xs (nI i + 2).toNatClampNeg) (xs (nI i + 3).toNatClampNeg)
  refine lv_aload_n hx hb d_L_law_188 rfl (lv_at hl9 3 rfl) ?_
  refine lv_aload_n hx hb d_L_law_189 rfl (lv_at hl9 4 rfl) ?_
  refine lv_iload hx hb d_L_law_190 (lv_at hl9 0 rfl) ?_
  refine lv_iconst (v := 1) hx hb d_L_law_192 (by decide) ?_
  refine lv_iadd hx hb d_L_law_193 ?_
  refine va_sld hx hb hX hbl hbA hS hin1 d_L_law_194 ?_
  refine lv_aload_n hx hb d_L_law_195 rfl (lv_at hl9 4 rfl) ?_
  refine lv_iload hx hb d_L_law_196 (lv_at hl9 0 rfl) ?_
  refine lv_iconst (v := 2) hx hb d_L_law_198 (by decide) ?_
  refine lv_iadd hx hb d_L_law_199 ?_
  refine va_sld hx hb hX hbl hbA hS hin2 d_L_law_200 ?_
  refine lv_aload_n hx hb d_L_law_201 rfl (lv_at hl9 4 rfl) ?_
  refine lv_iload hx hb d_L_law_202 (lv_at hl9 0 rfl) ?_
  refine lv_iconst (v := 3) hx hb d_L_law_204 (by decide) ?_
  refine lv_iadd hx hb d_L_law_205 ?_
  refine va_sld hx hb hX hbl hbA hS hin3 d_L_law_206 ?_
  refine lv_aload_n hx hb d_L_law_207 rfl (lv_at hl9 1 rfl) ?_
  have hPc := wp_l hP
  have hDc := wd_l hD
  have hFc := wf_l hD hS hA
  refine va_calli (vx_runSW (As := [.ref a0, .int (xs (nI i + 1).toNatClampNeg), .int (xs (nI i + 2).toNatClampNeg), .int (xs (nI i + 3).toNatClampNeg), .ref ou]) (rest := []) ⟨hx, hb, hml, hown, hG⟩ (hSC H.size) (vx_cwSW 5 hG g_L_86 rfl rfl rfl (by decide +kernel) ⟨Nat.le_of_ble_eq_true rfl, Nat.le_of_ble_eq_true rfl⟩) ⟨PCL.blind, PCL.of hPc hK hDc hE hN hS hFc⟩ rfl rfl hl9.1 rfl (lv_room (Nat.le_of_ble_eq_true rfl)) d_L_law_208 hc) hS (fun q _ h => hFc q h) hFc (fun r5 u t H1 locs ht hvm hw hB hz1 hk1 hS => ?_)
  have hw5 : r5 = k9 := hw
  rw [ht] at hB
  obtain ⟨hP, hD⟩ := wj_l hP hD hk1 hFc hB.1 hB.2
  clear hB hk1 hz1 hPc hDc hFc ht hvm
  refine lv_istore (lv' := [(5, .int r5), (4, .int (nI i)), (3, .ref ou), (2, .ref m0), (1, .ref a0), (0, .ref b)]) hx hb d_L_law_211 hl9 (by decide) rfl (fun ls hl9 => ?_)
  refine lv_aload_n hx hb d_L_law_213 rfl (lv_at hl9 3 rfl) ?_
  refine lv_aload_n hx hb d_L_law_214 rfl (lv_at hl9 5 rfl) ?_
  refine lv_iload hx hb d_L_law_215 (lv_at hl9 1 rfl) ?_
  refine lv_iconst (v := 1) hx hb d_L_law_217 (by decide) ?_
  refine lv_iadd hx hb d_L_law_218 ?_
  refine va_sld hx hb hX hbl hbA hS hin1 d_L_law_219 ?_
  refine lv_aload_n hx hb d_L_law_220 rfl (lv_at hl9 5 rfl) ?_
  refine lv_iload hx hb d_L_law_221 (lv_at hl9 1 rfl) ?_
  refine lv_iconst (v := 2) hx hb d_L_law_223 (by decide) ?_
  refine lv_iadd hx hb d_L_law_224 ?_
  refine va_sld hx hb hX hbl hbA hS hin2 d_L_law_225 ?_
  refine lv_aload_n hx hb d_L_law_226 rfl (lv_at hl9 5 rfl) ?_
  refine lv_iload hx hb d_L_law_227 (lv_at hl9 1 rfl) ?_
  refine lv_iconst (v := 3) hx hb d_L_law_229 (by decide) ?_
  refine lv_iadd hx hb d_L_law_230 ?_
  refine va_sld hx hb hX hbl hbA hS hin3 d_L_law_231 ?_
  have hPr := wp_r hP
  have hDr := wd_r hD
  have hFr := wf_r hD hS hA
  refine va_calli (va_runV (C := R_M) (As := [.int (xs (nI i + 1).toNatClampNeg), .int (xs (nI i + 2).toNatClampNeg), .int (xs (nI i + 3).toNatClampNeg)]) (rest := []) ⟨hx, hb, hml, hown, hG⟩ (hSM u H1.size) (cwV 3 hG g_L_89 rfl rfl rfl (by decide +kernel) ⟨Nat.le_of_ble_eq_true rfl, Nat.le_of_ble_eq_true rfl⟩) ⟨PC.blind, recv_R hK hPr, PC.of hPr hK hDr hE hS hFr⟩ rfl rfl hl9.1 rfl (lv_room (Nat.le_of_ble_eq_true rfl)) d_L_law_232 hc) hS (fun q _ h => hFr q h) hFr (fun r6 u9 t H2 locs ht hvm hwr6 hB hz1 hk1 hS => ?_)
  rw [ht] at hB
  obtain ⟨hP, hD⟩ := wj_r hP hD hk1 hFr hB.1 hB.2
  clear hB hk1 hz1 hPr hDr hFr ht hvm
  refine lv_istore (lv' := [(6, .int r6), (5, .int r5), (4, .int (nI i)), (3, .ref ou), (2, .ref m0), (1, .ref a0), (0, .ref b)]) hx hb d_L_law_235 hl9 (by decide) rfl (fun ls hl9 => ?_)
  refine lv_aload_n hx hb d_L_law_237 rfl (lv_at hl9 4 rfl) ?_
  have hPr := wp_r hP
  have hDr := wd_r hD
  have hFr := wf_r hD hS hA
  refine va_calli (va_runV (C := R_M) (As := []) (rest := []) ⟨hx, hb, hml, hown, hG⟩ (thrown_J l dC dI cI cJ cZ cB m0 mH mL mB mP mR mA mW mU mV mM mT mQ mO mF mS mE mX mD (J1 u) H2.size) (cwV 0 hG g_L_82 rfl rfl rfl (by decide +kernel) ⟨Nat.le_of_ble_eq_true rfl, Nat.le_of_ble_eq_true rfl⟩) ⟨PC.blind, recv_R hK hPr, PC.of hPr hK hDr hE hS hFr⟩ rfl rfl hl9.1 rfl (lv_room (Nat.le_of_ble_eq_true rfl)) d_L_law_238 hc) hS (fun q _ h => hFr q h) hFr (fun r7 u9 t H3 locs ht hvm hwr7 hB hz1 hk1 hS => ?_)
  rw [ht] at hB
  obtain ⟨hP, hD⟩ := wj_r hP hD hk1 hFr hB.1 hB.2
  clear hB hk1 hz1 hPr hDr hFr ht hvm
  have hr7 : r7 = r5 := ((hwr7 rfl).trans (hth u)).trans hw5.symm
  refine lv_iload hx hb d_L_law_241 (lv_at hl9 1 rfl) ?_
  refine lv_icmp_eq (tgt := 248) hx hb d_L_law_243 (by decide) (fun _ => ?_) (fun h => absurd hr7 h)
  refine lv_iload hx hb d_L_law_248 (lv_at hl9 1 rfl) ?_
  refine lv_if_ne (tgt := 265) hx hb d_L_law_250 (by decide) (fun _ => ?_) (fun c2 => ?_)
  · refine lv_goto (tgt := 1209) hx hb d_L_law_265 (by decide) ?_
    exact kk (J1 u) _ _ ls (hI1 u) hP hD hS (lv_sub hl9 [2, 3, 4, 5, 6] rfl)
  · obtain ⟨f7, hf7, hf0⟩ := out_get (cI := cI) (cJ := cJ) (cZ := cZ) (a0 := a0) (aZ := aZ) (aO := aO) (aG := aG) (aP := aP) (aW := aW) (aK := aK) (ou := ou) (w2 := wR cI cJ cB m0 mH mL mB mP mR mA mW mU mV mM mT mQ mO mF mS mE mX mD (J1 u)) (J1 u)
    have hk0 : k9 = 0 := hw5.symm.trans c2
    have h6 : r6 = bv := hwr6 hk0
    have hf0 : f7 0 = r6.toInt64 := by rw [hf0, hout u hk0, h6]
    refine lv_aload_n hx hb d_L_law_253 rfl (lv_at hl9 3 rfl) ?_
    refine lv_iconst (v := 0) hx hb d_L_law_254 (by decide) ?_
    refine va_lald hx hb hK hP 7 1 hf7 rfl (vp_in_nI (n := 0) (N := 1) (by decide) (by decide)) d_L_law_255 ?_
    refine lv_iload hx hb d_L_law_256 (lv_at hl9 0 rfl) ?_
    refine lv_i2l hx hb d_L_law_258 rfl ?_
    refine W.lcmp hx hb d_L_law_259 ?_
    refine lv_if_eq (tgt := 265) hx hb d_L_law_260 (by decide) (fun _ => ?_) (fun h => absurd ((lg_cmp_eq _ _).mpr (hf0)) h)
    refine lv_goto (tgt := 1209) hx hb d_L_law_265 (by decide) ?_
    exact kk (J1 u) _ _ ls (hI1 u) hP hD hS (lv_sub hl9 [2, 3, 4, 5, 6] rfl)
set_option maxHeartbeats 4000000 in
set_option maxRecDepth 100000 in
theorem law_want {p : Program} {l : Launch} {e : Env} {s : State} {m : MethodId} {below : List Frame} {meth : Method} {c : Code} {b L : Nat} {xs : Nat → Int32} {dC : Nat → ClassId} {dI : Nat → Nat → Nat} {cI cJ cZ cB : ClassId} (C0 : LC p l s m meth c b L xs dC dI cI cJ cZ cB) {a0 aZ aO aG aP aW aK ou : Nat} {m0 mH mL mB mP mR mA mW mU mV mM mT mQ mO mF mS mE mX mD : Nat} {i cells slots : Nat} (hi : i + 5 ≤ L) (hc : cells + 5 ≤ room_1.cells ∧ slots + 1465 ≤ room_1.slots) {J : JS} (hI : Inv J) {H : Heap} {locs : List Loc} {ls : Array Slot} (hP : va_P (dC, dI) vwCl (wC cI cJ cZ a0 aZ aO aG aP aW aK ou J ++ wR cI cJ cB m0 mH mL mB mP mR mA mW mU mV mM mT mQ mO mF mS mE mX mD J) H) (hD : va_D (fun q : Nat => s.heap.size ≤ q) (wC cI cJ cZ a0 aZ aO aG aP aW aK ou J ++ wR cI cJ cB m0 mH mL mB mP mR mA mW mU mV mM mT mQ mO mF mS mE mX mD J)) (hS : va_S (fun q : Nat => s.heap.size ≤ q) s.heap H locs) (hl9 : lv_has ls 8 [(4, .int (nI i)), (3, .ref ou), (2, .ref m0), (1, .ref a0), (0, .ref b)]) (kk : LK p l e s m below meth c b dC dI cI cJ cZ cB a0 aZ aO aG aP aW aK ou m0 mH mL mB mP mR mA mW mU mV mM mT mQ mO mF mS mE mX mD i (cells + 5) (slots + 1465)) : W p l e room_1 s m #[Value.ref b] below meth c H locs cells slots (lw_Z below #[Value.ref b] s) (F0 m 268 ls []) := by
  obtain ⟨hx, hb, hml, hown, hG, hX, hbl, hK, hN, hE, hl, hL⟩ := C0
  have hA : ∀ q : Nat, s.heap.size ≤ q → (fun q : Nat => s.heap.size ≤ q) q := fun _ h => h
  have hbA : ¬ (fun q : Nat => s.heap.size ≤ q) b := Nat.not_le.mpr hbl
  have hin1 : vp_in (nI i + 1) L := by rw [show nI i + 1 = nI (i + 1) from nI_add i 1]; exact vp_in_nI (by omega) (by omega)
  have hin2 : vp_in (nI i + 2) L := by rw [show nI i + 2 = nI (i + 2) from nI_add i 2]; exact vp_in_nI (by omega) (by omega)
  have hin3 : vp_in (nI i + 3) L := by rw [show nI i + 3 = nI (i + 3) from nI_add i 3]; exact vp_in_nI (by omega) (by omega)
  obtain ⟨k9, J1, hSC, hSM, hth, hI1⟩ := j_want l dC dI cI cJ cZ cB hl a0 aZ aO aG aP aW aK ou m0 mH mL mB mP mR mA mW mU mV mM mT mQ mO mF mS mE mX mD J hI (xs (nI i + 1).toNatClampNeg) (xs (nI i + 2).toNatClampNeg) (xs (nI i + 3).toNatClampNeg)
  refine lv_aload_n hx hb d_L_law_268 rfl (lv_at hl9 3 rfl) ?_
  refine lv_aload_n hx hb d_L_law_269 rfl (lv_at hl9 4 rfl) ?_
  refine lv_iload hx hb d_L_law_270 (lv_at hl9 0 rfl) ?_
  refine lv_iconst (v := 1) hx hb d_L_law_272 (by decide) ?_
  refine lv_iadd hx hb d_L_law_273 ?_
  refine va_sld hx hb hX hbl hbA hS hin1 d_L_law_274 ?_
  refine lv_aload_n hx hb d_L_law_275 rfl (lv_at hl9 4 rfl) ?_
  refine lv_iload hx hb d_L_law_276 (lv_at hl9 0 rfl) ?_
  refine lv_iconst (v := 2) hx hb d_L_law_278 (by decide) ?_
  refine lv_iadd hx hb d_L_law_279 ?_
  refine va_sld hx hb hX hbl hbA hS hin2 d_L_law_280 ?_
  refine lv_aload_n hx hb d_L_law_281 rfl (lv_at hl9 4 rfl) ?_
  refine lv_iload hx hb d_L_law_282 (lv_at hl9 0 rfl) ?_
  refine lv_iconst (v := 3) hx hb d_L_law_284 (by decide) ?_
  refine lv_iadd hx hb d_L_law_285 ?_
  refine va_sld hx hb hX hbl hbA hS hin3 d_L_law_286 ?_
  have hPc := wp_l hP
  have hDc := wd_l hD
  have hFc := wf_l hD hS hA
  refine va_calli (vx_runSW (As := [.ref a0, .int (xs (nI i + 1).toNatClampNeg), .int (xs (nI i + 2).toNatClampNeg), .int (xs (nI i + 3).toNatClampNeg)]) (rest := []) ⟨hx, hb, hml, hown, hG⟩ (hSC H.size) (vx_cwSW 4 hG g_L_90 rfl rfl rfl (by decide +kernel) ⟨Nat.le_of_ble_eq_true rfl, Nat.le_of_ble_eq_true rfl⟩) ⟨PCL.blind, PCL.of hPc hK hDc hE hN hS hFc⟩ rfl rfl hl9.1 rfl (lv_room (Nat.le_of_ble_eq_true rfl)) d_L_law_287 hc) hS (fun q _ h => hFc q h) hFc (fun r5 u t H1 locs ht hvm hw hB hz1 hk1 hS => ?_)
  have hw5 : r5 = k9 := hw
  rw [ht] at hB
  obtain ⟨hP, hD⟩ := wj_l hP hD hk1 hFc hB.1 hB.2
  clear hB hk1 hz1 hPc hDc hFc ht hvm
  refine lv_istore (lv' := [(5, .int r5), (4, .int (nI i)), (3, .ref ou), (2, .ref m0), (1, .ref a0), (0, .ref b)]) hx hb d_L_law_290 hl9 (by decide) rfl (fun ls hl9 => ?_)
  refine lv_aload_n hx hb d_L_law_292 rfl (lv_at hl9 3 rfl) ?_
  refine lv_aload_n hx hb d_L_law_293 rfl (lv_at hl9 5 rfl) ?_
  refine lv_iload hx hb d_L_law_294 (lv_at hl9 1 rfl) ?_
  refine lv_iconst (v := 1) hx hb d_L_law_296 (by decide) ?_
  refine lv_iadd hx hb d_L_law_297 ?_
  refine va_sld hx hb hX hbl hbA hS hin1 d_L_law_298 ?_
  refine lv_aload_n hx hb d_L_law_299 rfl (lv_at hl9 5 rfl) ?_
  refine lv_iload hx hb d_L_law_300 (lv_at hl9 1 rfl) ?_
  refine lv_iconst (v := 2) hx hb d_L_law_302 (by decide) ?_
  refine lv_iadd hx hb d_L_law_303 ?_
  refine va_sld hx hb hX hbl hbA hS hin2 d_L_law_304 ?_
  refine lv_aload_n hx hb d_L_law_305 rfl (lv_at hl9 5 rfl) ?_
  refine lv_iload hx hb d_L_law_306 (lv_at hl9 1 rfl) ?_
  refine lv_iconst (v := 3) hx hb d_L_law_308 (by decide) ?_
  refine lv_iadd hx hb d_L_law_309 ?_
  refine va_sld hx hb hX hbl hbA hS hin3 d_L_law_310 ?_
  have hPr := wp_r hP
  have hDr := wd_r hD
  have hFr := wf_r hD hS hA
  refine va_callv (va_runV (C := R_M) (As := [.int (xs (nI i + 1).toNatClampNeg), .int (xs (nI i + 2).toNatClampNeg), .int (xs (nI i + 3).toNatClampNeg)]) (rest := []) ⟨hx, hb, hml, hown, hG⟩ (hSM u H1.size) (cwV 3 hG g_L_93 rfl rfl rfl (by decide +kernel) ⟨Nat.le_of_ble_eq_true rfl, Nat.le_of_ble_eq_true rfl⟩) ⟨PC.blind, recv_R hK hPr, PC.of hPr hK hDr hE hS hFr⟩ rfl rfl hl9.1 rfl (lv_room (Nat.le_of_ble_eq_true rfl)) d_L_law_311 hc) hS (fun q _ h => hFr q h) hFr (fun u9 t H2 locs ht hvm hwr6 hB hz1 hk1 hS => ?_)
  rw [ht] at hB
  obtain ⟨hP, hD⟩ := wj_r hP hD hk1 hFr hB.1 hB.2
  clear hB hk1 hz1 hPr hDr hFr ht hvm
  refine lv_aload_n hx hb d_L_law_314 rfl (lv_at hl9 3 rfl) ?_
  have hPr := wp_r hP
  have hDr := wd_r hD
  have hFr := wf_r hD hS hA
  refine va_calli (va_runV (C := R_M) (As := []) (rest := []) ⟨hx, hb, hml, hown, hG⟩ (thrown_J l dC dI cI cJ cZ cB m0 mH mL mB mP mR mA mW mU mV mM mT mQ mO mF mS mE mX mD (J1 u) H2.size) (cwV 0 hG g_L_82 rfl rfl rfl (by decide +kernel) ⟨Nat.le_of_ble_eq_true rfl, Nat.le_of_ble_eq_true rfl⟩) ⟨PC.blind, recv_R hK hPr, PC.of hPr hK hDr hE hS hFr⟩ rfl rfl hl9.1 rfl (lv_room (Nat.le_of_ble_eq_true rfl)) d_L_law_315 hc) hS (fun q _ h => hFr q h) hFr (fun r7 u9 t H3 locs ht hvm hwr7 hB hz1 hk1 hS => ?_)
  rw [ht] at hB
  obtain ⟨hP, hD⟩ := wj_r hP hD hk1 hFr hB.1 hB.2
  clear hB hk1 hz1 hPr hDr hFr ht hvm
  have hr7 : r7 = r5 := ((hwr7 rfl).trans (hth u)).trans hw5.symm
  refine lv_iload hx hb d_L_law_318 (lv_at hl9 0 rfl) ?_
  refine lv_icmp_eq (tgt := 325) hx hb d_L_law_320 (by decide) (fun _ => ?_) (fun h => absurd hr7 h)
  refine lv_goto (tgt := 1209) hx hb d_L_law_325 (by decide) ?_
  exact kk (J1 u) _ _ ls (hI1 u) hP hD hS (lv_sub hl9 [1, 2, 3, 4, 5] rfl)
set_option maxHeartbeats 4000000 in
set_option maxRecDepth 100000 in
theorem law_outside {p : Program} {l : Launch} {e : Env} {s : State} {m : MethodId} {below : List Frame} {meth : Method} {c : Code} {b L : Nat} {xs : Nat → Int32} {dC : Nat → ClassId} {dI : Nat → Nat → Nat} {cI cJ cZ cB : ClassId} (C0 : LC p l s m meth c b L xs dC dI cI cJ cZ cB) {a0 aZ aO aG aP aW aK ou : Nat} {m0 mH mL mB mP mR mA mW mU mV mM mT mQ mO mF mS mE mX mD : Nat} {i cells slots : Nat} (hi : i + 5 ≤ L) (hc : cells + 5 ≤ room_1.cells ∧ slots + 1465 ≤ room_1.slots) {J : JS} (hI : Inv J) {H : Heap} {locs : List Loc} {ls : Array Slot} (hP : va_P (dC, dI) vwCl (wC cI cJ cZ a0 aZ aO aG aP aW aK ou J ++ wR cI cJ cB m0 mH mL mB mP mR mA mW mU mV mM mT mQ mO mF mS mE mX mD J) H) (hD : va_D (fun q : Nat => s.heap.size ≤ q) (wC cI cJ cZ a0 aZ aO aG aP aW aK ou J ++ wR cI cJ cB m0 mH mL mB mP mR mA mW mU mV mM mT mQ mO mF mS mE mX mD J)) (hS : va_S (fun q : Nat => s.heap.size ≤ q) s.heap H locs) (hl9 : lv_has ls 8 [(4, .int (nI i)), (3, .ref ou), (2, .ref m0), (1, .ref a0), (0, .ref b)]) (kk : LK p l e s m below meth c b dC dI cI cJ cZ cB a0 aZ aO aG aP aW aK ou m0 mH mL mB mP mR mA mW mU mV mM mT mQ mO mF mS mE mX mD i (cells + 5) (slots + 1465)) : W p l e room_1 s m #[Value.ref b] below meth c H locs cells slots (lw_Z below #[Value.ref b] s) (F0 m 328 ls []) := by
  obtain ⟨hx, hb, hml, hown, hG, hX, hbl, hK, hN, hE, hl, hL⟩ := C0
  have hA : ∀ q : Nat, s.heap.size ≤ q → (fun q : Nat => s.heap.size ≤ q) q := fun _ h => h
  have hbA : ¬ (fun q : Nat => s.heap.size ≤ q) b := Nat.not_le.mpr hbl
  have hin1 : vp_in (nI i + 1) L := by rw [show nI i + 1 = nI (i + 1) from nI_add i 1]; exact vp_in_nI (by omega) (by omega)
  have hin2 : vp_in (nI i + 2) L := by rw [show nI i + 2 = nI (i + 2) from nI_add i 2]; exact vp_in_nI (by omega) (by omega)
  obtain ⟨k9, J1, bv, hSC, hSM, hth, hout, hI1⟩ := j_outside l dC dI cI cJ cZ cB hl a0 aZ aO aG aP aW aK ou m0 mH mL mB mP mR mA mW mU mV mM mT mQ mO mF mS mE mX mD J hI (xs (nI i + 1).toNatClampNeg) (xs (nI i + 2).toNatClampNeg)
  refine lv_aload_n hx hb d_L_law_328 rfl (lv_at hl9 3 rfl) ?_
  refine lv_aload_n hx hb d_L_law_329 rfl (lv_at hl9 4 rfl) ?_
  refine lv_iload hx hb d_L_law_330 (lv_at hl9 0 rfl) ?_
  refine lv_iconst (v := 1) hx hb d_L_law_332 (by decide) ?_
  refine lv_iadd hx hb d_L_law_333 ?_
  refine va_sld hx hb hX hbl hbA hS hin1 d_L_law_334 ?_
  refine lv_aload_n hx hb d_L_law_335 rfl (lv_at hl9 4 rfl) ?_
  refine lv_iload hx hb d_L_law_336 (lv_at hl9 0 rfl) ?_
  refine lv_iconst (v := 2) hx hb d_L_law_338 (by decide) ?_
  refine lv_iadd hx hb d_L_law_339 ?_
  refine va_sld hx hb hX hbl hbA hS hin2 d_L_law_340 ?_
  refine lv_aload_n hx hb d_L_law_341 rfl (lv_at hl9 1 rfl) ?_
  have hPc := wp_l hP
  have hDc := wd_l hD
  have hFc := wf_l hD hS hA
  refine va_calli (vx_runSW (As := [.ref a0, .int (xs (nI i + 1).toNatClampNeg), .int (xs (nI i + 2).toNatClampNeg), .ref ou]) (rest := []) ⟨hx, hb, hml, hown, hG⟩ (hSC H.size) (vx_cwSW 4 hG g_L_94 rfl rfl rfl (by decide +kernel) ⟨Nat.le_of_ble_eq_true rfl, Nat.le_of_ble_eq_true rfl⟩) ⟨PCL.blind, PCL.of hPc hK hDc hE hN hS hFc⟩ rfl rfl hl9.1 rfl (lv_room (Nat.le_of_ble_eq_true rfl)) d_L_law_342 hc) hS (fun q _ h => hFc q h) hFc (fun r5 u t H1 locs ht hvm hw hB hz1 hk1 hS => ?_)
  have hw5 : r5 = k9 := hw
  rw [ht] at hB
  obtain ⟨hP, hD⟩ := wj_l hP hD hk1 hFc hB.1 hB.2
  clear hB hk1 hz1 hPc hDc hFc ht hvm
  refine lv_istore (lv' := [(5, .int r5), (4, .int (nI i)), (3, .ref ou), (2, .ref m0), (1, .ref a0), (0, .ref b)]) hx hb d_L_law_345 hl9 (by decide) rfl (fun ls hl9 => ?_)
  refine lv_aload_n hx hb d_L_law_347 rfl (lv_at hl9 3 rfl) ?_
  refine lv_aload_n hx hb d_L_law_348 rfl (lv_at hl9 5 rfl) ?_
  refine lv_iload hx hb d_L_law_349 (lv_at hl9 1 rfl) ?_
  refine lv_iconst (v := 1) hx hb d_L_law_351 (by decide) ?_
  refine lv_iadd hx hb d_L_law_352 ?_
  refine va_sld hx hb hX hbl hbA hS hin1 d_L_law_353 ?_
  refine lv_aload_n hx hb d_L_law_354 rfl (lv_at hl9 5 rfl) ?_
  refine lv_iload hx hb d_L_law_355 (lv_at hl9 1 rfl) ?_
  refine lv_iconst (v := 2) hx hb d_L_law_357 (by decide) ?_
  refine lv_iadd hx hb d_L_law_358 ?_
  refine va_sld hx hb hX hbl hbA hS hin2 d_L_law_359 ?_
  have hPr := wp_r hP
  have hDr := wd_r hD
  have hFr := wf_r hD hS hA
  refine va_calli (va_runV (C := R_M) (As := [.int (xs (nI i + 1).toNatClampNeg), .int (xs (nI i + 2).toNatClampNeg)]) (rest := []) ⟨hx, hb, hml, hown, hG⟩ (hSM u H1.size) (cwV 2 hG g_L_96 rfl rfl rfl (by decide +kernel) ⟨Nat.le_of_ble_eq_true rfl, Nat.le_of_ble_eq_true rfl⟩) ⟨PC.blind, recv_R hK hPr, PC.of hPr hK hDr hE hS hFr⟩ rfl rfl hl9.1 rfl (lv_room (Nat.le_of_ble_eq_true rfl)) d_L_law_360 hc) hS (fun q _ h => hFr q h) hFr (fun r6 u9 t H2 locs ht hvm hwr6 hB hz1 hk1 hS => ?_)
  rw [ht] at hB
  obtain ⟨hP, hD⟩ := wj_r hP hD hk1 hFr hB.1 hB.2
  clear hB hk1 hz1 hPr hDr hFr ht hvm
  refine lv_istore (lv' := [(6, .int r6), (5, .int r5), (4, .int (nI i)), (3, .ref ou), (2, .ref m0), (1, .ref a0), (0, .ref b)]) hx hb d_L_law_363 hl9 (by decide) rfl (fun ls hl9 => ?_)
  refine lv_aload_n hx hb d_L_law_365 rfl (lv_at hl9 4 rfl) ?_
  have hPr := wp_r hP
  have hDr := wd_r hD
  have hFr := wf_r hD hS hA
  refine va_calli (va_runV (C := R_M) (As := []) (rest := []) ⟨hx, hb, hml, hown, hG⟩ (thrown_J l dC dI cI cJ cZ cB m0 mH mL mB mP mR mA mW mU mV mM mT mQ mO mF mS mE mX mD (J1 u) H2.size) (cwV 0 hG g_L_82 rfl rfl rfl (by decide +kernel) ⟨Nat.le_of_ble_eq_true rfl, Nat.le_of_ble_eq_true rfl⟩) ⟨PC.blind, recv_R hK hPr, PC.of hPr hK hDr hE hS hFr⟩ rfl rfl hl9.1 rfl (lv_room (Nat.le_of_ble_eq_true rfl)) d_L_law_366 hc) hS (fun q _ h => hFr q h) hFr (fun r7 u9 t H3 locs ht hvm hwr7 hB hz1 hk1 hS => ?_)
  rw [ht] at hB
  obtain ⟨hP, hD⟩ := wj_r hP hD hk1 hFr hB.1 hB.2
  clear hB hk1 hz1 hPr hDr hFr ht hvm
  have hr7 : r7 = r5 := ((hwr7 rfl).trans (hth u)).trans hw5.symm
  refine lv_iload hx hb d_L_law_369 (lv_at hl9 1 rfl) ?_
  refine lv_icmp_eq (tgt := 376) hx hb d_L_law_371 (by decide) (fun _ => ?_) (fun h => absurd hr7 h)
  refine lv_iload hx hb d_L_law_376 (lv_at hl9 1 rfl) ?_
  refine lv_if_ne (tgt := 393) hx hb d_L_law_378 (by decide) (fun _ => ?_) (fun c2 => ?_)
  · refine lv_goto (tgt := 1209) hx hb d_L_law_393 (by decide) ?_
    exact kk (J1 u) _ _ ls (hI1 u) hP hD hS (lv_sub hl9 [2, 3, 4, 5, 6] rfl)
  · obtain ⟨f7, hf7, hf0⟩ := out_get (cI := cI) (cJ := cJ) (cZ := cZ) (a0 := a0) (aZ := aZ) (aO := aO) (aG := aG) (aP := aP) (aW := aW) (aK := aK) (ou := ou) (w2 := wR cI cJ cB m0 mH mL mB mP mR mA mW mU mV mM mT mQ mO mF mS mE mX mD (J1 u)) (J1 u)
    have hk0 : k9 = 0 := hw5.symm.trans c2
    have h6 : r6 = bv := hwr6 hk0
    have hf0 : f7 0 = r6.toInt64 := by rw [hf0, hout u hk0, h6]
    refine lv_aload_n hx hb d_L_law_381 rfl (lv_at hl9 3 rfl) ?_
    refine lv_iconst (v := 0) hx hb d_L_law_382 (by decide) ?_
    refine va_lald hx hb hK hP 7 1 hf7 rfl (vp_in_nI (n := 0) (N := 1) (by decide) (by decide)) d_L_law_383 ?_
    refine lv_iload hx hb d_L_law_384 (lv_at hl9 0 rfl) ?_
    refine lv_i2l hx hb d_L_law_386 rfl ?_
    refine W.lcmp hx hb d_L_law_387 ?_
    refine lv_if_eq (tgt := 393) hx hb d_L_law_388 (by decide) (fun _ => ?_) (fun h => absurd ((lg_cmp_eq _ _).mpr (hf0)) h)
    refine lv_goto (tgt := 1209) hx hb d_L_law_393 (by decide) ?_
    exact kk (J1 u) _ _ ls (hI1 u) hP hD hS (lv_sub hl9 [2, 3, 4, 5, 6] rfl)
set_option maxHeartbeats 4000000 in
set_option maxRecDepth 100000 in
theorem law_machine {p : Program} {l : Launch} {e : Env} {s : State} {m : MethodId} {below : List Frame} {meth : Method} {c : Code} {b L : Nat} {xs : Nat → Int32} {dC : Nat → ClassId} {dI : Nat → Nat → Nat} {cI cJ cZ cB : ClassId} (C0 : LC p l s m meth c b L xs dC dI cI cJ cZ cB) {a0 aZ aO aG aP aW aK ou : Nat} {m0 mH mL mB mP mR mA mW mU mV mM mT mQ mO mF mS mE mX mD : Nat} {i cells slots : Nat} (hi : i + 5 ≤ L) (hc : cells + 5 ≤ room_1.cells ∧ slots + 1465 ≤ room_1.slots) {J : JS} (hI : Inv J) {H : Heap} {locs : List Loc} {ls : Array Slot} (hP : va_P (dC, dI) vwCl (wC cI cJ cZ a0 aZ aO aG aP aW aK ou J ++ wR cI cJ cB m0 mH mL mB mP mR mA mW mU mV mM mT mQ mO mF mS mE mX mD J) H) (hD : va_D (fun q : Nat => s.heap.size ≤ q) (wC cI cJ cZ a0 aZ aO aG aP aW aK ou J ++ wR cI cJ cB m0 mH mL mB mP mR mA mW mU mV mM mT mQ mO mF mS mE mX mD J)) (hS : va_S (fun q : Nat => s.heap.size ≤ q) s.heap H locs) (hl9 : lv_has ls 8 [(4, .int (nI i)), (3, .ref ou), (2, .ref m0), (1, .ref a0), (0, .ref b)]) (kk : LK p l e s m below meth c b dC dI cI cJ cZ cB a0 aZ aO aG aP aW aK ou m0 mH mL mB mP mR mA mW mU mV mM mT mQ mO mF mS mE mX mD i (cells + 5) (slots + 1465)) : W p l e room_1 s m #[Value.ref b] below meth c H locs cells slots (lw_Z below #[Value.ref b] s) (F0 m 396 ls []) := by
  obtain ⟨hx, hb, hml, hown, hG, hX, hbl, hK, hN, hE, hl, hL⟩ := C0
  have hA : ∀ q : Nat, s.heap.size ≤ q → (fun q : Nat => s.heap.size ≤ q) q := fun _ h => h
  have hbA : ¬ (fun q : Nat => s.heap.size ≤ q) b := Nat.not_le.mpr hbl
  have hin1 : vp_in (nI i + 1) L := by rw [show nI i + 1 = nI (i + 1) from nI_add i 1]; exact vp_in_nI (by omega) (by omega)
  obtain ⟨k9, J1, bv, hSC, hSM, hth, hout, hI1⟩ := j_machine l dC dI cI cJ cZ cB hl a0 aZ aO aG aP aW aK ou m0 mH mL mB mP mR mA mW mU mV mM mT mQ mO mF mS mE mX mD J hI (xs (nI i + 1).toNatClampNeg)
  refine lv_aload_n hx hb d_L_law_396 rfl (lv_at hl9 3 rfl) ?_
  refine lv_aload_n hx hb d_L_law_397 rfl (lv_at hl9 4 rfl) ?_
  refine lv_iload hx hb d_L_law_398 (lv_at hl9 0 rfl) ?_
  refine lv_iconst (v := 1) hx hb d_L_law_400 (by decide) ?_
  refine lv_iadd hx hb d_L_law_401 ?_
  refine va_sld hx hb hX hbl hbA hS hin1 d_L_law_402 ?_
  refine lv_aload_n hx hb d_L_law_403 rfl (lv_at hl9 1 rfl) ?_
  have hPc := wp_l hP
  have hDc := wd_l hD
  have hFc := wf_l hD hS hA
  refine va_calli (vx_runSW (As := [.ref a0, .int (xs (nI i + 1).toNatClampNeg), .ref ou]) (rest := []) ⟨hx, hb, hml, hown, hG⟩ (hSC H.size) (vx_cwSW 3 hG g_L_97 rfl rfl rfl (by decide +kernel) ⟨Nat.le_of_ble_eq_true rfl, Nat.le_of_ble_eq_true rfl⟩) ⟨PCL.blind, PCL.of hPc hK hDc hE hN hS hFc⟩ rfl rfl hl9.1 rfl (lv_room (Nat.le_of_ble_eq_true rfl)) d_L_law_404 hc) hS (fun q _ h => hFc q h) hFc (fun r5 u t H1 locs ht hvm hw hB hz1 hk1 hS => ?_)
  have hw5 : r5 = k9 := hw
  rw [ht] at hB
  obtain ⟨hP, hD⟩ := wj_l hP hD hk1 hFc hB.1 hB.2
  clear hB hk1 hz1 hPc hDc hFc ht hvm
  refine lv_istore (lv' := [(5, .int r5), (4, .int (nI i)), (3, .ref ou), (2, .ref m0), (1, .ref a0), (0, .ref b)]) hx hb d_L_law_407 hl9 (by decide) rfl (fun ls hl9 => ?_)
  refine lv_aload_n hx hb d_L_law_409 rfl (lv_at hl9 3 rfl) ?_
  refine lv_aload_n hx hb d_L_law_410 rfl (lv_at hl9 5 rfl) ?_
  refine lv_iload hx hb d_L_law_411 (lv_at hl9 1 rfl) ?_
  refine lv_iconst (v := 1) hx hb d_L_law_413 (by decide) ?_
  refine lv_iadd hx hb d_L_law_414 ?_
  refine va_sld hx hb hX hbl hbA hS hin1 d_L_law_415 ?_
  have hPr := wp_r hP
  have hDr := wd_r hD
  have hFr := wf_r hD hS hA
  refine va_calli (va_runV (C := R_M) (As := [.int (xs (nI i + 1).toNatClampNeg)]) (rest := []) ⟨hx, hb, hml, hown, hG⟩ (hSM u H1.size) (cwV 1 hG g_L_100 rfl rfl rfl (by decide +kernel) ⟨Nat.le_of_ble_eq_true rfl, Nat.le_of_ble_eq_true rfl⟩) ⟨PC.blind, recv_R hK hPr, PC.of hPr hK hDr hE hS hFr⟩ rfl rfl hl9.1 rfl (lv_room (Nat.le_of_ble_eq_true rfl)) d_L_law_416 hc) hS (fun q _ h => hFr q h) hFr (fun r6 u9 t H2 locs ht hvm hwr6 hB hz1 hk1 hS => ?_)
  rw [ht] at hB
  obtain ⟨hP, hD⟩ := wj_r hP hD hk1 hFr hB.1 hB.2
  clear hB hk1 hz1 hPr hDr hFr ht hvm
  refine lv_istore (lv' := [(6, .int r6), (5, .int r5), (4, .int (nI i)), (3, .ref ou), (2, .ref m0), (1, .ref a0), (0, .ref b)]) hx hb d_L_law_419 hl9 (by decide) rfl (fun ls hl9 => ?_)
  refine lv_aload_n hx hb d_L_law_421 rfl (lv_at hl9 4 rfl) ?_
  have hPr := wp_r hP
  have hDr := wd_r hD
  have hFr := wf_r hD hS hA
  refine va_calli (va_runV (C := R_M) (As := []) (rest := []) ⟨hx, hb, hml, hown, hG⟩ (thrown_J l dC dI cI cJ cZ cB m0 mH mL mB mP mR mA mW mU mV mM mT mQ mO mF mS mE mX mD (J1 u) H2.size) (cwV 0 hG g_L_82 rfl rfl rfl (by decide +kernel) ⟨Nat.le_of_ble_eq_true rfl, Nat.le_of_ble_eq_true rfl⟩) ⟨PC.blind, recv_R hK hPr, PC.of hPr hK hDr hE hS hFr⟩ rfl rfl hl9.1 rfl (lv_room (Nat.le_of_ble_eq_true rfl)) d_L_law_422 hc) hS (fun q _ h => hFr q h) hFr (fun r7 u9 t H3 locs ht hvm hwr7 hB hz1 hk1 hS => ?_)
  rw [ht] at hB
  obtain ⟨hP, hD⟩ := wj_r hP hD hk1 hFr hB.1 hB.2
  clear hB hk1 hz1 hPr hDr hFr ht hvm
  have hr7 : r7 = r5 := ((hwr7 rfl).trans (hth u)).trans hw5.symm
  refine lv_iload hx hb d_L_law_425 (lv_at hl9 1 rfl) ?_
  refine lv_icmp_eq (tgt := 432) hx hb d_L_law_427 (by decide) (fun _ => ?_) (fun h => absurd hr7 h)
  refine lv_iload hx hb d_L_law_432 (lv_at hl9 1 rfl) ?_
  refine lv_if_ne (tgt := 449) hx hb d_L_law_434 (by decide) (fun _ => ?_) (fun c2 => ?_)
  · refine lv_goto (tgt := 1209) hx hb d_L_law_449 (by decide) ?_
    exact kk (J1 u) _ _ ls (hI1 u) hP hD hS (lv_sub hl9 [2, 3, 4, 5, 6] rfl)
  · obtain ⟨f7, hf7, hf0⟩ := out_get (cI := cI) (cJ := cJ) (cZ := cZ) (a0 := a0) (aZ := aZ) (aO := aO) (aG := aG) (aP := aP) (aW := aW) (aK := aK) (ou := ou) (w2 := wR cI cJ cB m0 mH mL mB mP mR mA mW mU mV mM mT mQ mO mF mS mE mX mD (J1 u)) (J1 u)
    have hk0 : k9 = 0 := hw5.symm.trans c2
    have h6 : r6 = bv := hwr6 hk0
    have hf0 : f7 0 = r6.toInt64 := by rw [hf0, hout u hk0, h6]
    refine lv_aload_n hx hb d_L_law_437 rfl (lv_at hl9 3 rfl) ?_
    refine lv_iconst (v := 0) hx hb d_L_law_438 (by decide) ?_
    refine va_lald hx hb hK hP 7 1 hf7 rfl (vp_in_nI (n := 0) (N := 1) (by decide) (by decide)) d_L_law_439 ?_
    refine lv_iload hx hb d_L_law_440 (lv_at hl9 0 rfl) ?_
    refine lv_i2l hx hb d_L_law_442 rfl ?_
    refine W.lcmp hx hb d_L_law_443 ?_
    refine lv_if_eq (tgt := 449) hx hb d_L_law_444 (by decide) (fun _ => ?_) (fun h => absurd ((lg_cmp_eq _ _).mpr (hf0)) h)
    refine lv_goto (tgt := 1209) hx hb d_L_law_449 (by decide) ?_
    exact kk (J1 u) _ _ ls (hI1 u) hP hD hS (lv_sub hl9 [2, 3, 4, 5, 6] rfl)
set_option maxHeartbeats 4000000 in
set_option maxRecDepth 100000 in
theorem law_start {p : Program} {l : Launch} {e : Env} {s : State} {m : MethodId} {below : List Frame} {meth : Method} {c : Code} {b L : Nat} {xs : Nat → Int32} {dC : Nat → ClassId} {dI : Nat → Nat → Nat} {cI cJ cZ cB : ClassId} (C0 : LC p l s m meth c b L xs dC dI cI cJ cZ cB) {a0 aZ aO aG aP aW aK ou : Nat} {m0 mH mL mB mP mR mA mW mU mV mM mT mQ mO mF mS mE mX mD : Nat} {i cells slots : Nat} (hi : i + 5 ≤ L) (hc : cells + 5 ≤ room_1.cells ∧ slots + 1465 ≤ room_1.slots) {J : JS} (hI : Inv J) {H : Heap} {locs : List Loc} {ls : Array Slot} (hP : va_P (dC, dI) vwCl (wC cI cJ cZ a0 aZ aO aG aP aW aK ou J ++ wR cI cJ cB m0 mH mL mB mP mR mA mW mU mV mM mT mQ mO mF mS mE mX mD J) H) (hD : va_D (fun q : Nat => s.heap.size ≤ q) (wC cI cJ cZ a0 aZ aO aG aP aW aK ou J ++ wR cI cJ cB m0 mH mL mB mP mR mA mW mU mV mM mT mQ mO mF mS mE mX mD J)) (hS : va_S (fun q : Nat => s.heap.size ≤ q) s.heap H locs) (hl9 : lv_has ls 8 [(4, .int (nI i)), (3, .ref ou), (2, .ref m0), (1, .ref a0), (0, .ref b)]) (kk : LK p l e s m below meth c b dC dI cI cJ cZ cB a0 aZ aO aG aP aW aK ou m0 mH mL mB mP mR mA mW mU mV mM mT mQ mO mF mS mE mX mD i (cells + 5) (slots + 1465)) : W p l e room_1 s m #[Value.ref b] below meth c H locs cells slots (lw_Z below #[Value.ref b] s) (F0 m 452 ls []) := by
  obtain ⟨hx, hb, hml, hown, hG, hX, hbl, hK, hN, hE, hl, hL⟩ := C0
  have hA : ∀ q : Nat, s.heap.size ≤ q → (fun q : Nat => s.heap.size ≤ q) q := fun _ h => h
  have hbA : ¬ (fun q : Nat => s.heap.size ≤ q) b := Nat.not_le.mpr hbl
  have hin1 : vp_in (nI i + 1) L := by rw [show nI i + 1 = nI (i + 1) from nI_add i 1]; exact vp_in_nI (by omega) (by omega)
  obtain ⟨k9, J1, bv, hSC, hSM, hth, hout, hI1⟩ := j_start l dC dI cI cJ cZ cB hl a0 aZ aO aG aP aW aK ou m0 mH mL mB mP mR mA mW mU mV mM mT mQ mO mF mS mE mX mD J hI (xs (nI i + 1).toNatClampNeg)
  refine lv_aload_n hx hb d_L_law_452 rfl (lv_at hl9 3 rfl) ?_
  refine lv_aload_n hx hb d_L_law_453 rfl (lv_at hl9 4 rfl) ?_
  refine lv_iload hx hb d_L_law_454 (lv_at hl9 0 rfl) ?_
  refine lv_iconst (v := 1) hx hb d_L_law_456 (by decide) ?_
  refine lv_iadd hx hb d_L_law_457 ?_
  refine va_sld hx hb hX hbl hbA hS hin1 d_L_law_458 ?_
  refine lv_aload_n hx hb d_L_law_459 rfl (lv_at hl9 1 rfl) ?_
  have hPc := wp_l hP
  have hDc := wd_l hD
  have hFc := wf_l hD hS hA
  refine va_calli (vx_runSW (As := [.ref a0, .int (xs (nI i + 1).toNatClampNeg), .ref ou]) (rest := []) ⟨hx, hb, hml, hown, hG⟩ (hSC H.size) (vx_cwSW 3 hG g_L_101 rfl rfl rfl (by decide +kernel) ⟨Nat.le_of_ble_eq_true rfl, Nat.le_of_ble_eq_true rfl⟩) ⟨PCL.blind, PCL.of hPc hK hDc hE hN hS hFc⟩ rfl rfl hl9.1 rfl (lv_room (Nat.le_of_ble_eq_true rfl)) d_L_law_460 hc) hS (fun q _ h => hFc q h) hFc (fun r5 u t H1 locs ht hvm hw hB hz1 hk1 hS => ?_)
  have hw5 : r5 = k9 := hw
  rw [ht] at hB
  obtain ⟨hP, hD⟩ := wj_l hP hD hk1 hFc hB.1 hB.2
  clear hB hk1 hz1 hPc hDc hFc ht hvm
  refine lv_istore (lv' := [(5, .int r5), (4, .int (nI i)), (3, .ref ou), (2, .ref m0), (1, .ref a0), (0, .ref b)]) hx hb d_L_law_463 hl9 (by decide) rfl (fun ls hl9 => ?_)
  refine lv_aload_n hx hb d_L_law_465 rfl (lv_at hl9 3 rfl) ?_
  refine lv_aload_n hx hb d_L_law_466 rfl (lv_at hl9 5 rfl) ?_
  refine lv_iload hx hb d_L_law_467 (lv_at hl9 1 rfl) ?_
  refine lv_iconst (v := 1) hx hb d_L_law_469 (by decide) ?_
  refine lv_iadd hx hb d_L_law_470 ?_
  refine va_sld hx hb hX hbl hbA hS hin1 d_L_law_471 ?_
  have hPr := wp_r hP
  have hDr := wd_r hD
  have hFr := wf_r hD hS hA
  refine va_calli (va_runV (C := R_M) (As := [.int (xs (nI i + 1).toNatClampNeg)]) (rest := []) ⟨hx, hb, hml, hown, hG⟩ (hSM u H1.size) (cwV 1 hG g_L_103 rfl rfl rfl (by decide +kernel) ⟨Nat.le_of_ble_eq_true rfl, Nat.le_of_ble_eq_true rfl⟩) ⟨PC.blind, recv_R hK hPr, PC.of hPr hK hDr hE hS hFr⟩ rfl rfl hl9.1 rfl (lv_room (Nat.le_of_ble_eq_true rfl)) d_L_law_472 hc) hS (fun q _ h => hFr q h) hFr (fun r6 u9 t H2 locs ht hvm hwr6 hB hz1 hk1 hS => ?_)
  rw [ht] at hB
  obtain ⟨hP, hD⟩ := wj_r hP hD hk1 hFr hB.1 hB.2
  clear hB hk1 hz1 hPr hDr hFr ht hvm
  refine lv_istore (lv' := [(6, .int r6), (5, .int r5), (4, .int (nI i)), (3, .ref ou), (2, .ref m0), (1, .ref a0), (0, .ref b)]) hx hb d_L_law_475 hl9 (by decide) rfl (fun ls hl9 => ?_)
  refine lv_aload_n hx hb d_L_law_477 rfl (lv_at hl9 4 rfl) ?_
  have hPr := wp_r hP
  have hDr := wd_r hD
  have hFr := wf_r hD hS hA
  refine va_calli (va_runV (C := R_M) (As := []) (rest := []) ⟨hx, hb, hml, hown, hG⟩ (thrown_J l dC dI cI cJ cZ cB m0 mH mL mB mP mR mA mW mU mV mM mT mQ mO mF mS mE mX mD (J1 u) H2.size) (cwV 0 hG g_L_82 rfl rfl rfl (by decide +kernel) ⟨Nat.le_of_ble_eq_true rfl, Nat.le_of_ble_eq_true rfl⟩) ⟨PC.blind, recv_R hK hPr, PC.of hPr hK hDr hE hS hFr⟩ rfl rfl hl9.1 rfl (lv_room (Nat.le_of_ble_eq_true rfl)) d_L_law_478 hc) hS (fun q _ h => hFr q h) hFr (fun r7 u9 t H3 locs ht hvm hwr7 hB hz1 hk1 hS => ?_)
  rw [ht] at hB
  obtain ⟨hP, hD⟩ := wj_r hP hD hk1 hFr hB.1 hB.2
  clear hB hk1 hz1 hPr hDr hFr ht hvm
  have hr7 : r7 = r5 := ((hwr7 rfl).trans (hth u)).trans hw5.symm
  refine lv_iload hx hb d_L_law_481 (lv_at hl9 1 rfl) ?_
  refine lv_icmp_eq (tgt := 488) hx hb d_L_law_483 (by decide) (fun _ => ?_) (fun h => absurd hr7 h)
  refine lv_iload hx hb d_L_law_488 (lv_at hl9 1 rfl) ?_
  refine lv_if_ne (tgt := 505) hx hb d_L_law_490 (by decide) (fun _ => ?_) (fun c2 => ?_)
  · refine lv_goto (tgt := 1209) hx hb d_L_law_505 (by decide) ?_
    exact kk (J1 u) _ _ ls (hI1 u) hP hD hS (lv_sub hl9 [2, 3, 4, 5, 6] rfl)
  · obtain ⟨f7, hf7, hf0⟩ := out_get (cI := cI) (cJ := cJ) (cZ := cZ) (a0 := a0) (aZ := aZ) (aO := aO) (aG := aG) (aP := aP) (aW := aW) (aK := aK) (ou := ou) (w2 := wR cI cJ cB m0 mH mL mB mP mR mA mW mU mV mM mT mQ mO mF mS mE mX mD (J1 u)) (J1 u)
    have hk0 : k9 = 0 := hw5.symm.trans c2
    have h6 : r6 = bv := hwr6 hk0
    have hf0 : f7 0 = r6.toInt64 := by rw [hf0, hout u hk0, h6]
    refine lv_aload_n hx hb d_L_law_493 rfl (lv_at hl9 3 rfl) ?_
    refine lv_iconst (v := 0) hx hb d_L_law_494 (by decide) ?_
    refine va_lald hx hb hK hP 7 1 hf7 rfl (vp_in_nI (n := 0) (N := 1) (by decide) (by decide)) d_L_law_495 ?_
    refine lv_iload hx hb d_L_law_496 (lv_at hl9 0 rfl) ?_
    refine lv_i2l hx hb d_L_law_498 rfl ?_
    refine W.lcmp hx hb d_L_law_499 ?_
    refine lv_if_eq (tgt := 505) hx hb d_L_law_500 (by decide) (fun _ => ?_) (fun h => absurd ((lg_cmp_eq _ _).mpr (hf0)) h)
    refine lv_goto (tgt := 1209) hx hb d_L_law_505 (by decide) ?_
    exact kk (J1 u) _ _ ls (hI1 u) hP hD hS (lv_sub hl9 [2, 3, 4, 5, 6] rfl)
