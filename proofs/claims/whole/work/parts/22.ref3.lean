theorem d_M_set_123 : decode b_M_set 123 = .ok (.lookupswitch 45 #[(0, 25), (1, 35)], 25) := by decide +kernel
theorem iz_1g {x : Int32} {nz : Nat} (h : ¬ (x < 0 ∨ nI nz ≤ x)) : (if ¬ (x < 0 ∨ nI nz ≤ x) then (1 : Int32) else 0) = 1 := if_pos h
/-- the remainders' chain comes to its end with g within n steps -/
def dvR : Nat → Int64 → Int64 → Int64 → Prop
  | 0, x, y, g => y = 0 ∧ x = g
  | n + 1, x, y, g => (y = 0 ∧ x = g) ∨ (¬ y = 0 ∧ dvR n y (x - x / y * y) g)
def dabs (x : Int64) : Int64 := if 0 ≤ x then x else -x
theorem g_M_95 : GoodIn GG (wsV R_M 95 R_M y_M_isZone w_M_isZone) := goodG (List.forall_mem_append.mpr ⟨List.forall_mem_cons.mpr ⟨k_536, List.forall_mem_cons.mpr ⟨k_538, List.forall_mem_cons.mpr ⟨ks_20, List.forall_mem_cons.mpr ⟨k_2, fun _ h => absurd h List.not_mem_nil⟩⟩⟩⟩, List.forall_mem_cons.mpr ⟨k_539, fun _ h => h⟩⟩)
set_option maxHeartbeats 4000000 in
set_option maxRecDepth 100000 in
theorem m_set0 (l : Launch) (dC : Nat → ClassId) (dI : Nat → Nat → Nat) (cI cJ cZ cB : ClassId) (m0 mH mL mB mP mR mA mW mU mV mM mT mQ mO mF mS mE mX mD : Nat) (th zn rw mc ga gb kn : Int32) (rB : Nat → Int32)  (nz k : Nat) (v : Int32) (sz : Nat) (hk : k < nz) (hn : nz ≤ 6) (hv : ¬ (v < (-10000) ∨ 10000 < v)) : Met l y_M_set w_M_set ({ frames := 1, cells := 0, slots := 0, locals := 22 }) (PC (dC, dI) (TY cI cJ cZ cB) [.ref m0, .int (nI k), .int 0, .int v] [(m0, .inr (3, [.int th, .int (nI nz), .ref mH, .ref mL, .ref mB, .ref mP, .ref mR, .ref mA, .ref mW, .ref mU, .ref mV, .int rw, .ref mM, .ref mT, .int mc, .ref mQ, .int ga, .int gb, .int kn, .ref mO, .ref mF, .ref mS, .ref mE, .ref mX, .ref mD])), (mB, .inl (cI, 6, .inl rB))] sz (va_A [(m0, .inr (3, [.int th, .int (nI nz), .ref mH, .ref mL, .ref mB, .ref mP, .ref mR, .ref mA, .ref mW, .ref mU, .ref mV, .int rw, .ref mM, .ref mT, .int mc, .ref mQ, .int ga, .int gb, .int kn, .ref mO, .ref mF, .ref mS, .ref mE, .ref mX, .ref mD])), (mB, .inl (cI, 6, .inl rB))] sz)) (va_Qi (fun (r : Int32) (_ : Unit) => r = rB k) (fun (_ : Unit) (t : State) => va_P (dC, dI) vwCl [(m0, .inr (3, [.int 0, .int (nI nz), .ref mH, .ref mL, .ref mB, .ref mP, .ref mR, .ref mA, .ref mW, .ref mU, .ref mV, .int rw, .ref mM, .ref mT, .int mc, .ref mQ, .int ga, .int gb, .int 0, .ref mO, .ref mF, .ref mS, .ref mE, .ref mX, .ref mD])), (mB, .inl (cI, 6, .inl (upd rB k v)))] t.heap) (va_A [(m0, .inr (3, [.int th, .int (nI nz), .ref mH, .ref mL, .ref mB, .ref mP, .ref mR, .ref mA, .ref mW, .ref mU, .ref mV, .int rw, .ref mM, .ref mT, .int mc, .ref mQ, .int ga, .int gb, .int kn, .ref mO, .ref mF, .ref mS, .ref mE, .ref mX, .ref mD])), (mB, .inl (cI, 6, .inl rB))] sz)) 0 0 (va_A [(m0, .inr (3, [.int th, .int (nI nz), .ref mH, .ref mL, .ref mB, .ref mP, .ref mR, .ref mA, .ref mW, .ref mU, .ref mV, .int rw, .ref mM, .ref mT, .int mc, .ref mQ, .int ga, .int gb, .int kn, .ref mO, .ref mF, .ref mS, .ref mE, .ref mX, .ref mD])), (mB, .inl (cI, 6, .inl rB))] sz) := by
  refine Met.ofW (cc := b_M_set) (maxL := 6) (ret := (some .int)) (by decide) rfl ?_
  intro p e s m args below meth c s₁ B hml hv
  obtain ⟨rfl, hsz, hP, hK, hD0, hE⟩ := hv
  have hx := B.exec
  have hb := B.bytes
  have hr := B.returns
  have hG : ∀ w ∈ GG, w.before _ s = true := fun w h => atoms_spec (ws := w_M_set) B.pre w (List.mem_cons_of_mem _ h)
  have hown : s.vm.findClass R_M = some m.cls := findClass_of_methodNamed B.named
  have hlocks := B.notSynchronized
  subst hsz
  have hD := hD0.self (sz := s.heap.size)
  generalize hAe : (va_A [(m0, .inr (3, [.int th, .int (nI nz), .ref mH, .ref mL, .ref mB, .ref mP, .ref mR, .ref mA, .ref mW, .ref mU, .ref mV, .int rw, .ref mM, .ref mT, .int mc, .ref mQ, .int ga, .int gb, .int kn, .ref mO, .ref mF, .ref mS, .ref mE, .ref mX, .ref mD])), (mB, .inl (cI, 6, .inl rB))] s.heap.size) = A at hD hE ⊢
  have hA : ∀ q : Nat, s.heap.size ≤ q → A q := fun q h => by rw [← hAe]; exact Or.inr h
  have hS : va_S A s.heap s.heap [] := va_S.rf
  obtain ⟨H, hH⟩ : ∃ z, z = s.heap := ⟨_, rfl⟩
  rw [← hH] at hP
  have hS : va_S A s.heap H [] := by rw [hH]; exact hS
  rw [← hH]
  have hl9 := lv_entry ([.ref m0, .int (nI k), .int 0, .int v]) (n := 6) (Nat.le_of_ble_eq_true rfl)
  rw [lg_entry_eq]
  generalize (lg_sl ([.ref m0, .int (nI k), .int 0, .int v]) ++ List.replicate (6 - (lg_sl ([.ref m0, .int (nI k), .int 0, .int v])).length) Slot.unset).toArray = ls at hl9 ⊢
  have hl9 : lv_has ls 6 [(0, .ref m0), (1, .int (nI k)), (2, .int 0), (3, .int v)] := hl9
  have hin : vp_in (nI k) 6 := vp_in_nI (by omega) (by decide)
  refine lv_aload_n hx hb d_M_set_0 rfl (lv_at hl9 0 rfl) ?_
  refine lv_iconst (v := 0) hx hb d_M_set_1 (by decide) ?_
  refine va_put (D := (dC, dI)) (ci := 3) (v := .int 0) (ty := .int) (C := R_M) (T := F_M) (N := 25) hx hb hG i_M t_M t_M_ok n_M hown hK hP hD hS 0 rfl rfl 0 (by decide) (hG _ k_440) (fun _ h9 => h9) rfl (by decide +kernel) rfl rfl (Nat.le_of_ble_eq_true rfl) d_M_set_2 (fun H locs hP hD hS => ?_)
  have hP : va_P (dC, dI) vwCl [(m0, .inr (3, [.int 0, .int (nI nz), .ref mH, .ref mL, .ref mB, .ref mP, .ref mR, .ref mA, .ref mW, .ref mU, .ref mV, .int rw, .ref mM, .ref mT, .int mc, .ref mQ, .int ga, .int gb, .int kn, .ref mO, .ref mF, .ref mS, .ref mE, .ref mX, .ref mD])), (mB, .inl (cI, 6, .inl rB))] H := hP
  have hD : va_D A [(m0, .inr (3, [.int 0, .int (nI nz), .ref mH, .ref mL, .ref mB, .ref mP, .ref mR, .ref mA, .ref mW, .ref mU, .ref mV, .int rw, .ref mM, .ref mT, .int mc, .ref mQ, .int ga, .int gb, .int kn, .ref mO, .ref mF, .ref mS, .ref mE, .ref mX, .ref mD])), (mB, .inl (cI, 6, .inl rB))] := hD
  refine lv_iload_n hx hb d_M_set_5 rfl (lv_at hl9 2 rfl) ?_
  refine lv_if_ne (tgt := 22) hx hb d_M_set_6 (by decide) (fun c1 => absurd c1 (by decide)) (fun c1 => ?_)
  refine lv_iload_n hx hb d_M_set_9 rfl (lv_at hl9 3 rfl) ?_
  refine lv_sipush (v := (-10000)) hx hb d_M_set_10 (by decide) ?_
  refine lv_sipush (v := 10000) hx hb d_M_set_13 (by decide) ?_
  have hPc := hP.sub (ws' := []) [] rfl
  have hDc := hD.sub (ws' := []) [] (by decide) rfl
  have hFc := va_A_nil hA hS.1
  refine va_calli (va_runS (As := [.int v, .int (-10000), .int 10000]) (rest := []) ⟨hx, hb, hml, hown, hG⟩ (m_within l dC dI cI cJ cZ cB v (-10000) 10000 H.size ) (cwS 3 hG g_M_83 rfl rfl rfl (by decide +kernel) ⟨Nat.le_of_ble_eq_true rfl, Nat.le_of_ble_eq_true rfl⟩) ⟨PC.blind, PC.of hPc hK hDc hE hS hFc⟩ rfl rfl hl9.1 rfl (lv_room (Nat.le_of_ble_eq_true rfl)) d_M_set_16 ⟨by first | exact Nat.le_of_ble_eq_true rfl | omega, by first | exact Nat.le_of_ble_eq_true rfl | omega⟩) hS (fun q _ h => hFc q h) hFc (fun r3 u t H2 locs ht hvm hw hB hz1 hk1 hS => ?_)
  have hP := wp_kept hP hk1
  have hw : r3 = if ¬ (v < (-10000) ∨ 10000 < v) then 1 else 0 := hw
  subst hw
  rw [wi_1 hv]
  refine lv_if_ne (tgt := 52) hx hb d_M_set_19 (by decide) (fun c4 => ?_) (fun c4 => absurd c4 (by decide))
  refine lv_iconst (v := 1) hx hb d_M_set_52 (by decide) ?_
  refine lv_goto (tgt := 57) hx hb d_M_set_53 (by decide) ?_
  refine lv_istore (lv' := [(4, .int 1), (0, .ref m0), (1, .int (nI k)), (2, .int 0), (3, .int v)]) hx hb d_M_set_57 hl9 (by decide) rfl (fun ls hl9 => ?_)
  refine lv_aload_n hx hb d_M_set_59 rfl (lv_at hl9 1 rfl) ?_
  refine lv_aload_n hx hb d_M_set_60 rfl (lv_at hl9 1 rfl) ?_
  refine lv_iload_n hx hb d_M_set_61 rfl (lv_at hl9 2 rfl) ?_
  have hPc := hP.sub (ws' := [(m0, .inr (3, [.int 0, .int (nI nz), .ref mH, .ref mL, .ref mB, .ref mP, .ref mR, .ref mA, .ref mW, .ref mU, .ref mV, .int rw, .ref mM, .ref mT, .int mc, .ref mQ, .int ga, .int gb, .int kn, .ref mO, .ref mF, .ref mS, .ref mE, .ref mX, .ref mD]))]) [0] rfl
  have hDc := hD.sub (ws' := [(m0, .inr (3, [.int 0, .int (nI nz), .ref mH, .ref mL, .ref mB, .ref mP, .ref mR, .ref mA, .ref mW, .ref mU, .ref mV, .int rw, .ref mM, .ref mT, .int mc, .ref mQ, .int ga, .int gb, .int kn, .ref mO, .ref mF, .ref mS, .ref mE, .ref mX, .ref mD]))]) [0] (by decide) rfl
  have hFc := va_A_nil hA hS.1
  refine va_calli (va_runV (C := R_M) (As := [.int (nI k)]) (rest := [.ref m0]) ⟨hx, hb, hml, hown, hG⟩ (m_isZone l dC dI cI cJ cZ cB m0 mH mL mB mP mR mA mW mU mV mM mT mQ mO mF mS mE mX mD 0 (nI nz) rw mc ga gb kn (nI k) H2.size ) (cwV 1 hG g_M_95 rfl rfl rfl (by decide +kernel) ⟨Nat.le_of_ble_eq_true rfl, Nat.le_of_ble_eq_true rfl⟩) ⟨PC.blind, va_recv hK hP (ci := 3) (q0 := 0) rfl rfl, PC.of hPc hK hDc hE hS hFc⟩ rfl rfl hl9.1 rfl (lv_room (Nat.le_of_ble_eq_true rfl)) d_M_set_62 ⟨by first | exact Nat.le_of_ble_eq_true rfl | omega, by first | exact Nat.le_of_ble_eq_true rfl | omega⟩) hS (fun q _ h => hFc q h) hFc (fun r6 u t H5 locs ht hvm hw hB hz1 hk1 hS => ?_)
  have hP := wp_kept hP hk1
  have hw : r6 = if ¬ ((nI k) < 0 ∨ (nI nz) ≤ (nI k)) then 1 else 0 := hw
  subst hw
  rw [iz_1 hk hn]
  refine lv_if_eq (tgt := 73) hx hb d_M_set_65 (by decide) (fun c7 => absurd c7 (by decide)) (fun c7 => ?_)
  refine lv_iload hx hb d_M_set_68 (lv_at hl9 0 rfl) ?_
  refine lv_if_ne (tgt := 77) hx hb d_M_set_70 (by decide) (fun c8 => ?_) (fun c8 => absurd c8 (by decide))
  refine lv_iconst (v := 0) hx hb d_M_set_77 (by decide) ?_
  refine lv_iconst (v := 1) hx hb d_M_set_78 (by decide) ?_
  have hPc := hP.sub (ws' := [(m0, .inr (3, [.int 0, .int (nI nz), .ref mH, .ref mL, .ref mB, .ref mP, .ref mR, .ref mA, .ref mW, .ref mU, .ref mV, .int rw, .ref mM, .ref mT, .int mc, .ref mQ, .int ga, .int gb, .int kn, .ref mO, .ref mF, .ref mS, .ref mE, .ref mX, .ref mD]))]) [0] rfl
  have hDc := hD.sub (ws' := [(m0, .inr (3, [.int 0, .int (nI nz), .ref mH, .ref mL, .ref mB, .ref mP, .ref mR, .ref mA, .ref mW, .ref mU, .ref mV, .int rw, .ref mM, .ref mT, .int mc, .ref mQ, .int ga, .int gb, .int kn, .ref mO, .ref mF, .ref mS, .ref mE, .ref mX, .ref mD]))]) [0] (by decide) rfl
  have hFc := va_free (wc := [(m0, .inr (3, [.int 0, .int (nI nz), .ref mH, .ref mL, .ref mB, .ref mP, .ref mR, .ref mA, .ref mW, .ref mU, .ref mV, .int rw, .ref mM, .ref mT, .int mc, .ref mQ, .int ga, .int gb, .int kn, .ref mO, .ref mF, .ref mS, .ref mE, .ref mX, .ref mD]))]) hD hS hA [0] rfl
  refine va_calli (va_runV (C := R_M) (As := [.int 0, .int 1]) (rest := []) ⟨hx, hb, hml, hown, hG⟩ (m_fails001 l dC dI cI cJ cZ cB m0 mH mL mB mP mR mA mW mU mV mM mT mQ mO mF mS mE mX mD (nI nz) rw mc ga gb kn H5.size ) (cwV 2 hG g_M_87 rfl rfl rfl (by decide +kernel) ⟨Nat.le_of_ble_eq_true rfl, Nat.le_of_ble_eq_true rfl⟩) ⟨PC.blind, va_recv hK hP (ci := 3) (q0 := 0) rfl rfl, PC.of hPc hK hDc hE hS hFc⟩ rfl rfl hl9.1 rfl (lv_room (Nat.le_of_ble_eq_true rfl)) d_M_set_79 ⟨by first | exact Nat.le_of_ble_eq_true rfl | omega, by first | exact Nat.le_of_ble_eq_true rfl | omega⟩) hS (fun q _ h => hFc q h) hFc (fun r10 u t H9 locs ht hvm hw hB hz1 hk1 hS => ?_)
  rw [ht] at hB
  obtain ⟨hP, hD⟩ := jset (wc := [(m0, .inr (3, [.int 0, .int (nI nz), .ref mH, .ref mL, .ref mB, .ref mP, .ref mR, .ref mA, .ref mW, .ref mU, .ref mV, .int rw, .ref mM, .ref mT, .int mc, .ref mQ, .int ga, .int gb, .int kn, .ref mO, .ref mF, .ref mS, .ref mE, .ref mX, .ref mD]))]) (w1 := [(m0, .inr (3, [.int 0, .int (nI nz), .ref mH, .ref mL, .ref mB, .ref mP, .ref mR, .ref mA, .ref mW, .ref mU, .ref mV, .int rw, .ref mM, .ref mT, .int mc, .ref mQ, .int ga, .int gb, .int kn, .ref mO, .ref mF, .ref mS, .ref mE, .ref mX, .ref mD]))]) [0] rfl rfl hP hD hk1 hB
  have hP : va_P (dC, dI) vwCl [(m0, .inr (3, [.int 0, .int (nI nz), .ref mH, .ref mL, .ref mB, .ref mP, .ref mR, .ref mA, .ref mW, .ref mU, .ref mV, .int rw, .ref mM, .ref mT, .int mc, .ref mQ, .int ga, .int gb, .int kn, .ref mO, .ref mF, .ref mS, .ref mE, .ref mX, .ref mD])), (mB, .inl (cI, 6, .inl rB))] H9 := hP
  have hD : va_D A [(m0, .inr (3, [.int 0, .int (nI nz), .ref mH, .ref mL, .ref mB, .ref mP, .ref mR, .ref mA, .ref mW, .ref mU, .ref mV, .int rw, .ref mM, .ref mT, .int mc, .ref mQ, .int ga, .int gb, .int kn, .ref mO, .ref mF, .ref mS, .ref mE, .ref mX, .ref mD])), (mB, .inl (cI, 6, .inl rB))] := hD
  have hw : r10 = 0 := hw
  subst hw
  refine lv_if_eq (tgt := 87) hx hb d_M_set_82 (by decide) (fun c11 => ?_) (fun c11 => absurd c11 (by decide))
  refine lv_iload_n hx hb d_M_set_87 rfl (lv_at hl9 3 rfl) ?_
  refine lv_if_ne (tgt := 100) hx hb d_M_set_88 (by decide) (fun c12 => absurd c12 (by decide)) (fun c12 => ?_)
  refine lv_aload_n hx hb d_M_set_91 rfl (lv_at hl9 1 rfl) ?_
  refine va_get (D := (dC, dI)) (ci := 3) (v := .ref mB) (C := R_M) (T := F_M) (N := 25) hx hb hG i_M hown hK hP 0 rfl rfl 4 (by decide) (hG _ k_444) (fun _ h9 => h9) rfl d_M_set_92 ?_
  refine lv_iload_n hx hb d_M_set_95 rfl (lv_at hl9 2 rfl) ?_
  refine va_iald hx hb hK hP 1 0 rfl rfl (hin) d_M_set_96 ?_
  rw [nI_clamp (n := k) (by omega)]
  refine lv_goto (tgt := 120) hx hb d_M_set_97 (by decide) ?_
  refine lv_istore (lv' := [(5, .int (rB k)), (4, .int 1), (0, .ref m0), (1, .int (nI k)), (2, .int 0), (3, .int v)]) hx hb d_M_set_120 hl9 (by decide) rfl (fun ls hl9 => ?_)
  refine lv_iload_n hx hb d_M_set_122 rfl (lv_at hl9 4 rfl) ?_
  refine lv_lookup (tgt := 148) (off := 25) hx hb d_M_set_123 (by decide) (by decide) (by decide) ?_
  refine lv_aload_n hx hb d_M_set_148 rfl (lv_at hl9 2 rfl) ?_
  refine va_get (D := (dC, dI)) (ci := 3) (v := .ref mB) (C := R_M) (T := F_M) (N := 25) hx hb hG i_M hown hK hP 0 rfl rfl 4 (by decide) (hG _ k_444) (fun _ h9 => h9) rfl d_M_set_149 ?_
  refine lv_iload_n hx hb d_M_set_152 rfl (lv_at hl9 3 rfl) ?_
  refine lv_iload_n hx hb d_M_set_153 rfl (lv_at hl9 5 rfl) ?_
  refine va_iast hx hb hK hP hD hS 1 0 rfl rfl (hin) d_M_set_154 (fun H locs hP hD hS => ?_)
  have hP : va_P (dC, dI) vwCl [(m0, .inr (3, [.int 0, .int (nI nz), .ref mH, .ref mL, .ref mB, .ref mP, .ref mR, .ref mA, .ref mW, .ref mU, .ref mV, .int rw, .ref mM, .ref mT, .int mc, .ref mQ, .int ga, .int gb, .int kn, .ref mO, .ref mF, .ref mS, .ref mE, .ref mX, .ref mD])), (mB, .inl (cI, 6, .inl (upd rB (nI k).toNatClampNeg v)))] H := hP
  have hD : va_D A [(m0, .inr (3, [.int 0, .int (nI nz), .ref mH, .ref mL, .ref mB, .ref mP, .ref mR, .ref mA, .ref mW, .ref mU, .ref mV, .int rw, .ref mM, .ref mT, .int mc, .ref mQ, .int ga, .int gb, .int kn, .ref mO, .ref mF, .ref mS, .ref mE, .ref mX, .ref mD])), (mB, .inl (cI, 6, .inl (upd rB (nI k).toNatClampNeg v)))] := hD
  rw [nI_clamp (n := k) (by omega)] at hP hD
  refine lv_goto (tgt := 175) hx hb d_M_set_155 (by decide) ?_
  refine lv_aload_n hx hb d_M_set_175 rfl (lv_at hl9 2 rfl) ?_
  refine lv_iconst (v := 0) hx hb d_M_set_176 (by decide) ?_
  refine va_put (D := (dC, dI)) (ci := 3) (v := .int 0) (ty := .boolean) (C := R_M) (T := F_M) (N := 25) hx hb hG i_M t_M t_M_ok n_M hown hK hP hD hS 0 rfl rfl 18 (by decide) (hG _ k_458) (fun _ h9 => h9) rfl (by decide +kernel) rfl rfl (Nat.le_of_ble_eq_true rfl) d_M_set_177 (fun H locs hP hD hS => ?_)
  have hP : va_P (dC, dI) vwCl [(m0, .inr (3, [.int 0, .int (nI nz), .ref mH, .ref mL, .ref mB, .ref mP, .ref mR, .ref mA, .ref mW, .ref mU, .ref mV, .int rw, .ref mM, .ref mT, .int mc, .ref mQ, .int ga, .int gb, .int 0, .ref mO, .ref mF, .ref mS, .ref mE, .ref mX, .ref mD])), (mB, .inl (cI, 6, .inl (upd rB k v)))] H := hP
  have hD : va_D A [(m0, .inr (3, [.int 0, .int (nI nz), .ref mH, .ref mL, .ref mB, .ref mP, .ref mR, .ref mA, .ref mW, .ref mU, .ref mV, .int rw, .ref mM, .ref mT, .int mc, .ref mQ, .int ga, .int gb, .int 0, .ref mO, .ref mF, .ref mS, .ref mE, .ref mX, .ref mD])), (mB, .inl (cI, 6, .inl (upd rB k v)))] := hD
  refine lv_iload hx hb d_M_set_180 (lv_at hl9 0 rfl) ?_
  exact W.iret (v := (rB k)) hx hb hr (fun t ht hW => ⟨⟨(rB k), (), rfl, rfl, by have h9 := hP; rw [← ht] at h9; exact h9⟩, hS.F ht⟩) hS.2.2 d_M_set_182
set_option maxHeartbeats 4000000 in
set_option maxRecDepth 100000 in
theorem m_set1 (l : Launch) (dC : Nat → ClassId) (dI : Nat → Nat → Nat) (cI cJ cZ cB : ClassId) (m0 mH mL mB mP mR mA mW mU mV mM mT mQ mO mF mS mE mX mD : Nat) (th zn rw mc ga gb kn : Int32) (rP : Nat → Int32)  (nz k : Nat) (v : Int32) (sz : Nat) (hk : k < nz) (hn : nz ≤ 6) (hv : ¬ (v < 0 ∨ 100000 < v)) : Met l y_M_set w_M_set ({ frames := 1, cells := 0, slots := 0, locals := 22 }) (PC (dC, dI) (TY cI cJ cZ cB) [.ref m0, .int (nI k), .int 1, .int v] [(m0, .inr (3, [.int th, .int (nI nz), .ref mH, .ref mL, .ref mB, .ref mP, .ref mR, .ref mA, .ref mW, .ref mU, .ref mV, .int rw, .ref mM, .ref mT, .int mc, .ref mQ, .int ga, .int gb, .int kn, .ref mO, .ref mF, .ref mS, .ref mE, .ref mX, .ref mD])), (mP, .inl (cI, 6, .inl rP))] sz (va_A [(m0, .inr (3, [.int th, .int (nI nz), .ref mH, .ref mL, .ref mB, .ref mP, .ref mR, .ref mA, .ref mW, .ref mU, .ref mV, .int rw, .ref mM, .ref mT, .int mc, .ref mQ, .int ga, .int gb, .int kn, .ref mO, .ref mF, .ref mS, .ref mE, .ref mX, .ref mD])), (mP, .inl (cI, 6, .inl rP))] sz)) (va_Qi (fun (r : Int32) (_ : Unit) => r = rP k) (fun (_ : Unit) (t : State) => va_P (dC, dI) vwCl [(m0, .inr (3, [.int 0, .int (nI nz), .ref mH, .ref mL, .ref mB, .ref mP, .ref mR, .ref mA, .ref mW, .ref mU, .ref mV, .int rw, .ref mM, .ref mT, .int mc, .ref mQ, .int ga, .int gb, .int 0, .ref mO, .ref mF, .ref mS, .ref mE, .ref mX, .ref mD])), (mP, .inl (cI, 6, .inl (upd rP k v)))] t.heap) (va_A [(m0, .inr (3, [.int th, .int (nI nz), .ref mH, .ref mL, .ref mB, .ref mP, .ref mR, .ref mA, .ref mW, .ref mU, .ref mV, .int rw, .ref mM, .ref mT, .int mc, .ref mQ, .int ga, .int gb, .int kn, .ref mO, .ref mF, .ref mS, .ref mE, .ref mX, .ref mD])), (mP, .inl (cI, 6, .inl rP))] sz)) 0 0 (va_A [(m0, .inr (3, [.int th, .int (nI nz), .ref mH, .ref mL, .ref mB, .ref mP, .ref mR, .ref mA, .ref mW, .ref mU, .ref mV, .int rw, .ref mM, .ref mT, .int mc, .ref mQ, .int ga, .int gb, .int kn, .ref mO, .ref mF, .ref mS, .ref mE, .ref mX, .ref mD])), (mP, .inl (cI, 6, .inl rP))] sz) := by
  refine Met.ofW (cc := b_M_set) (maxL := 6) (ret := (some .int)) (by decide) rfl ?_
  intro p e s m args below meth c s₁ B hml hv
  obtain ⟨rfl, hsz, hP, hK, hD0, hE⟩ := hv
  have hx := B.exec
  have hb := B.bytes
  have hr := B.returns
  have hG : ∀ w ∈ GG, w.before _ s = true := fun w h => atoms_spec (ws := w_M_set) B.pre w (List.mem_cons_of_mem _ h)
  have hown : s.vm.findClass R_M = some m.cls := findClass_of_methodNamed B.named
  have hlocks := B.notSynchronized
  subst hsz
  have hD := hD0.self (sz := s.heap.size)
  generalize hAe : (va_A [(m0, .inr (3, [.int th, .int (nI nz), .ref mH, .ref mL, .ref mB, .ref mP, .ref mR, .ref mA, .ref mW, .ref mU, .ref mV, .int rw, .ref mM, .ref mT, .int mc, .ref mQ, .int ga, .int gb, .int kn, .ref mO, .ref mF, .ref mS, .ref mE, .ref mX, .ref mD])), (mP, .inl (cI, 6, .inl rP))] s.heap.size) = A at hD hE ⊢
  have hA : ∀ q : Nat, s.heap.size ≤ q → A q := fun q h => by rw [← hAe]; exact Or.inr h
  have hS : va_S A s.heap s.heap [] := va_S.rf
  obtain ⟨H, hH⟩ : ∃ z, z = s.heap := ⟨_, rfl⟩
  rw [← hH] at hP
  have hS : va_S A s.heap H [] := by rw [hH]; exact hS
  rw [← hH]
  have hl9 := lv_entry ([.ref m0, .int (nI k), .int 1, .int v]) (n := 6) (Nat.le_of_ble_eq_true rfl)
  rw [lg_entry_eq]
  generalize (lg_sl ([.ref m0, .int (nI k), .int 1, .int v]) ++ List.replicate (6 - (lg_sl ([.ref m0, .int (nI k), .int 1, .int v])).length) Slot.unset).toArray = ls at hl9 ⊢
  have hl9 : lv_has ls 6 [(0, .ref m0), (1, .int (nI k)), (2, .int 1), (3, .int v)] := hl9
  have hin : vp_in (nI k) 6 := vp_in_nI (by omega) (by decide)
  refine lv_aload_n hx hb d_M_set_0 rfl (lv_at hl9 0 rfl) ?_
  refine lv_iconst (v := 0) hx hb d_M_set_1 (by decide) ?_
  refine va_put (D := (dC, dI)) (ci := 3) (v := .int 0) (ty := .int) (C := R_M) (T := F_M) (N := 25) hx hb hG i_M t_M t_M_ok n_M hown hK hP hD hS 0 rfl rfl 0 (by decide) (hG _ k_440) (fun _ h9 => h9) rfl (by decide +kernel) rfl rfl (Nat.le_of_ble_eq_true rfl) d_M_set_2 (fun H locs hP hD hS => ?_)
  have hP : va_P (dC, dI) vwCl [(m0, .inr (3, [.int 0, .int (nI nz), .ref mH, .ref mL, .ref mB, .ref mP, .ref mR, .ref mA, .ref mW, .ref mU, .ref mV, .int rw, .ref mM, .ref mT, .int mc, .ref mQ, .int ga, .int gb, .int kn, .ref mO, .ref mF, .ref mS, .ref mE, .ref mX, .ref mD])), (mP, .inl (cI, 6, .inl rP))] H := hP
  have hD : va_D A [(m0, .inr (3, [.int 0, .int (nI nz), .ref mH, .ref mL, .ref mB, .ref mP, .ref mR, .ref mA, .ref mW, .ref mU, .ref mV, .int rw, .ref mM, .ref mT, .int mc, .ref mQ, .int ga, .int gb, .int kn, .ref mO, .ref mF, .ref mS, .ref mE, .ref mX, .ref mD])), (mP, .inl (cI, 6, .inl rP))] := hD
  refine lv_iload_n hx hb d_M_set_5 rfl (lv_at hl9 2 rfl) ?_
  refine lv_if_ne (tgt := 22) hx hb d_M_set_6 (by decide) (fun c1 => ?_) (fun c1 => absurd c1 (by decide))
  refine lv_iload_n hx hb d_M_set_22 rfl (lv_at hl9 2 rfl) ?_
  refine lv_iconst (v := 1) hx hb d_M_set_23 (by decide) ?_
  refine lv_icmp_ne (tgt := 37) hx hb d_M_set_24 (by decide) (fun c2 => absurd c2 (by decide)) (fun c2 => ?_)
  refine lv_iload_n hx hb d_M_set_27 rfl (lv_at hl9 3 rfl) ?_
  refine lv_iconst (v := 0) hx hb d_M_set_28 (by decide) ?_
  refine lv_ldc (v := 100000) hx hb hown (hG _ k_439) d_M_set_29 ?_
  have hPc := hP.sub (ws' := []) [] rfl
  have hDc := hD.sub (ws' := []) [] (by decide) rfl
  have hFc := va_A_nil hA hS.1
  refine va_calli (va_runS (As := [.int v, .int 0, .int 100000]) (rest := []) ⟨hx, hb, hml, hown, hG⟩ (m_within l dC dI cI cJ cZ cB v 0 100000 H.size ) (cwS 3 hG g_M_83 rfl rfl rfl (by decide +kernel) ⟨Nat.le_of_ble_eq_true rfl, Nat.le_of_ble_eq_true rfl⟩) ⟨PC.blind, PC.of hPc hK hDc hE hS hFc⟩ rfl rfl hl9.1 rfl (lv_room (Nat.le_of_ble_eq_true rfl)) d_M_set_31 ⟨by first | exact Nat.le_of_ble_eq_true rfl | omega, by first | exact Nat.le_of_ble_eq_true rfl | omega⟩) hS (fun q _ h => hFc q h) hFc (fun r4 u t H3 locs ht hvm hw hB hz1 hk1 hS => ?_)
  have hP := wp_kept hP hk1
  have hw : r4 = if ¬ (v < 0 ∨ 100000 < v) then 1 else 0 := hw
  subst hw
  rw [wi_1 hv]
  refine lv_if_ne (tgt := 52) hx hb d_M_set_34 (by decide) (fun c5 => ?_) (fun c5 => absurd c5 (by decide))
  refine lv_iconst (v := 1) hx hb d_M_set_52 (by decide) ?_
  refine lv_goto (tgt := 57) hx hb d_M_set_53 (by decide) ?_
  refine lv_istore (lv' := [(4, .int 1), (0, .ref m0), (1, .int (nI k)), (2, .int 1), (3, .int v)]) hx hb d_M_set_57 hl9 (by decide) rfl (fun ls hl9 => ?_)
  refine lv_aload_n hx hb d_M_set_59 rfl (lv_at hl9 1 rfl) ?_
  refine lv_aload_n hx hb d_M_set_60 rfl (lv_at hl9 1 rfl) ?_
  refine lv_iload_n hx hb d_M_set_61 rfl (lv_at hl9 2 rfl) ?_
  have hPc := hP.sub (ws' := [(m0, .inr (3, [.int 0, .int (nI nz), .ref mH, .ref mL, .ref mB, .ref mP, .ref mR, .ref mA, .ref mW, .ref mU, .ref mV, .int rw, .ref mM, .ref mT, .int mc, .ref mQ, .int ga, .int gb, .int kn, .ref mO, .ref mF, .ref mS, .ref mE, .ref mX, .ref mD]))]) [0] rfl
  have hDc := hD.sub (ws' := [(m0, .inr (3, [.int 0, .int (nI nz), .ref mH, .ref mL, .ref mB, .ref mP, .ref mR, .ref mA, .ref mW, .ref mU, .ref mV, .int rw, .ref mM, .ref mT, .int mc, .ref mQ, .int ga, .int gb, .int kn, .ref mO, .ref mF, .ref mS, .ref mE, .ref mX, .ref mD]))]) [0] (by decide) rfl
  have hFc := va_A_nil hA hS.1
  refine va_calli (va_runV (C := R_M) (As := [.int (nI k)]) (rest := [.ref m0]) ⟨hx, hb, hml, hown, hG⟩ (m_isZone l dC dI cI cJ cZ cB m0 mH mL mB mP mR mA mW mU mV mM mT mQ mO mF mS mE mX mD 0 (nI nz) rw mc ga gb kn (nI k) H3.size ) (cwV 1 hG g_M_95 rfl rfl rfl (by decide +kernel) ⟨Nat.le_of_ble_eq_true rfl, Nat.le_of_ble_eq_true rfl⟩) ⟨PC.blind, va_recv hK hP (ci := 3) (q0 := 0) rfl rfl, PC.of hPc hK hDc hE hS hFc⟩ rfl rfl hl9.1 rfl (lv_room (Nat.le_of_ble_eq_true rfl)) d_M_set_62 ⟨by first | exact Nat.le_of_ble_eq_true rfl | omega, by first | exact Nat.le_of_ble_eq_true rfl | omega⟩) hS (fun q _ h => hFc q h) hFc (fun r7 u t H6 locs ht hvm hw hB hz1 hk1 hS => ?_)
  have hP := wp_kept hP hk1
  have hw : r7 = if ¬ ((nI k) < 0 ∨ (nI nz) ≤ (nI k)) then 1 else 0 := hw
  subst hw
  rw [iz_1 hk hn]
  refine lv_if_eq (tgt := 73) hx hb d_M_set_65 (by decide) (fun c8 => absurd c8 (by decide)) (fun c8 => ?_)
  refine lv_iload hx hb d_M_set_68 (lv_at hl9 0 rfl) ?_
  refine lv_if_ne (tgt := 77) hx hb d_M_set_70 (by decide) (fun c9 => ?_) (fun c9 => absurd c9 (by decide))
  refine lv_iconst (v := 0) hx hb d_M_set_77 (by decide) ?_
  refine lv_iconst (v := 1) hx hb d_M_set_78 (by decide) ?_
  have hPc := hP.sub (ws' := [(m0, .inr (3, [.int 0, .int (nI nz), .ref mH, .ref mL, .ref mB, .ref mP, .ref mR, .ref mA, .ref mW, .ref mU, .ref mV, .int rw, .ref mM, .ref mT, .int mc, .ref mQ, .int ga, .int gb, .int kn, .ref mO, .ref mF, .ref mS, .ref mE, .ref mX, .ref mD]))]) [0] rfl
  have hDc := hD.sub (ws' := [(m0, .inr (3, [.int 0, .int (nI nz), .ref mH, .ref mL, .ref mB, .ref mP, .ref mR, .ref mA, .ref mW, .ref mU, .ref mV, .int rw, .ref mM, .ref mT, .int mc, .ref mQ, .int ga, .int gb, .int kn, .ref mO, .ref mF, .ref mS, .ref mE, .ref mX, .ref mD]))]) [0] (by decide) rfl
  have hFc := va_free (wc := [(m0, .inr (3, [.int 0, .int (nI nz), .ref mH, .ref mL, .ref mB, .ref mP, .ref mR, .ref mA, .ref mW, .ref mU, .ref mV, .int rw, .ref mM, .ref mT, .int mc, .ref mQ, .int ga, .int gb, .int kn, .ref mO, .ref mF, .ref mS, .ref mE, .ref mX, .ref mD]))]) hD hS hA [0] rfl
  refine va_calli (va_runV (C := R_M) (As := [.int 0, .int 1]) (rest := []) ⟨hx, hb, hml, hown, hG⟩ (m_fails001 l dC dI cI cJ cZ cB m0 mH mL mB mP mR mA mW mU mV mM mT mQ mO mF mS mE mX mD (nI nz) rw mc ga gb kn H6.size ) (cwV 2 hG g_M_87 rfl rfl rfl (by decide +kernel) ⟨Nat.le_of_ble_eq_true rfl, Nat.le_of_ble_eq_true rfl⟩) ⟨PC.blind, va_recv hK hP (ci := 3) (q0 := 0) rfl rfl, PC.of hPc hK hDc hE hS hFc⟩ rfl rfl hl9.1 rfl (lv_room (Nat.le_of_ble_eq_true rfl)) d_M_set_79 ⟨by first | exact Nat.le_of_ble_eq_true rfl | omega, by first | exact Nat.le_of_ble_eq_true rfl | omega⟩) hS (fun q _ h => hFc q h) hFc (fun r11 u t H10 locs ht hvm hw hB hz1 hk1 hS => ?_)
  rw [ht] at hB
  obtain ⟨hP, hD⟩ := jset (wc := [(m0, .inr (3, [.int 0, .int (nI nz), .ref mH, .ref mL, .ref mB, .ref mP, .ref mR, .ref mA, .ref mW, .ref mU, .ref mV, .int rw, .ref mM, .ref mT, .int mc, .ref mQ, .int ga, .int gb, .int kn, .ref mO, .ref mF, .ref mS, .ref mE, .ref mX, .ref mD]))]) (w1 := [(m0, .inr (3, [.int 0, .int (nI nz), .ref mH, .ref mL, .ref mB, .ref mP, .ref mR, .ref mA, .ref mW, .ref mU, .ref mV, .int rw, .ref mM, .ref mT, .int mc, .ref mQ, .int ga, .int gb, .int kn, .ref mO, .ref mF, .ref mS, .ref mE, .ref mX, .ref mD]))]) [0] rfl rfl hP hD hk1 hB
  have hP : va_P (dC, dI) vwCl [(m0, .inr (3, [.int 0, .int (nI nz), .ref mH, .ref mL, .ref mB, .ref mP, .ref mR, .ref mA, .ref mW, .ref mU, .ref mV, .int rw, .ref mM, .ref mT, .int mc, .ref mQ, .int ga, .int gb, .int kn, .ref mO, .ref mF, .ref mS, .ref mE, .ref mX, .ref mD])), (mP, .inl (cI, 6, .inl rP))] H10 := hP
  have hD : va_D A [(m0, .inr (3, [.int 0, .int (nI nz), .ref mH, .ref mL, .ref mB, .ref mP, .ref mR, .ref mA, .ref mW, .ref mU, .ref mV, .int rw, .ref mM, .ref mT, .int mc, .ref mQ, .int ga, .int gb, .int kn, .ref mO, .ref mF, .ref mS, .ref mE, .ref mX, .ref mD])), (mP, .inl (cI, 6, .inl rP))] := hD
  have hw : r11 = 0 := hw
  subst hw
  refine lv_if_eq (tgt := 87) hx hb d_M_set_82 (by decide) (fun c12 => ?_) (fun c12 => absurd c12 (by decide))
  refine lv_iload_n hx hb d_M_set_87 rfl (lv_at hl9 3 rfl) ?_
  refine lv_if_ne (tgt := 100) hx hb d_M_set_88 (by decide) (fun c13 => ?_) (fun c13 => absurd c13 (by decide))
  refine lv_iload_n hx hb d_M_set_100 rfl (lv_at hl9 3 rfl) ?_
  refine lv_iconst (v := 1) hx hb d_M_set_101 (by decide) ?_
  refine lv_icmp_ne (tgt := 114) hx hb d_M_set_102 (by decide) (fun c14 => absurd c14 (by decide)) (fun c14 => ?_)
  refine lv_aload_n hx hb d_M_set_105 rfl (lv_at hl9 1 rfl) ?_
  refine va_get (D := (dC, dI)) (ci := 3) (v := .ref mP) (C := R_M) (T := F_M) (N := 25) hx hb hG i_M hown hK hP 0 rfl rfl 5 (by decide) (hG _ k_445) (fun _ h9 => h9) rfl d_M_set_106 ?_
  refine lv_iload_n hx hb d_M_set_109 rfl (lv_at hl9 2 rfl) ?_
  refine va_iald hx hb hK hP 1 0 rfl rfl (hin) d_M_set_110 ?_
  rw [nI_clamp (n := k) (by omega)]
  refine lv_goto (tgt := 120) hx hb d_M_set_111 (by decide) ?_
  refine lv_istore (lv' := [(5, .int (rP k)), (4, .int 1), (0, .ref m0), (1, .int (nI k)), (2, .int 1), (3, .int v)]) hx hb d_M_set_120 hl9 (by decide) rfl (fun ls hl9 => ?_)
  refine lv_iload_n hx hb d_M_set_122 rfl (lv_at hl9 4 rfl) ?_
  refine lv_lookup (tgt := 158) (off := 35) hx hb d_M_set_123 (by decide) (by decide) (by decide) ?_
  refine lv_aload_n hx hb d_M_set_158 rfl (lv_at hl9 2 rfl) ?_
  refine va_get (D := (dC, dI)) (ci := 3) (v := .ref mP) (C := R_M) (T := F_M) (N := 25) hx hb hG i_M hown hK hP 0 rfl rfl 5 (by decide) (hG _ k_445) (fun _ h9 => h9) rfl d_M_set_159 ?_
  refine lv_iload_n hx hb d_M_set_162 rfl (lv_at hl9 3 rfl) ?_
  refine lv_iload_n hx hb d_M_set_163 rfl (lv_at hl9 5 rfl) ?_
  refine va_iast hx hb hK hP hD hS 1 0 rfl rfl (hin) d_M_set_164 (fun H locs hP hD hS => ?_)
  have hP : va_P (dC, dI) vwCl [(m0, .inr (3, [.int 0, .int (nI nz), .ref mH, .ref mL, .ref mB, .ref mP, .ref mR, .ref mA, .ref mW, .ref mU, .ref mV, .int rw, .ref mM, .ref mT, .int mc, .ref mQ, .int ga, .int gb, .int kn, .ref mO, .ref mF, .ref mS, .ref mE, .ref mX, .ref mD])), (mP, .inl (cI, 6, .inl (upd rP (nI k).toNatClampNeg v)))] H := hP
  have hD : va_D A [(m0, .inr (3, [.int 0, .int (nI nz), .ref mH, .ref mL, .ref mB, .ref mP, .ref mR, .ref mA, .ref mW, .ref mU, .ref mV, .int rw, .ref mM, .ref mT, .int mc, .ref mQ, .int ga, .int gb, .int kn, .ref mO, .ref mF, .ref mS, .ref mE, .ref mX, .ref mD])), (mP, .inl (cI, 6, .inl (upd rP (nI k).toNatClampNeg v)))] := hD
  rw [nI_clamp (n := k) (by omega)] at hP hD
  refine lv_goto (tgt := 175) hx hb d_M_set_165 (by decide) ?_
  refine lv_aload_n hx hb d_M_set_175 rfl (lv_at hl9 2 rfl) ?_
  refine lv_iconst (v := 0) hx hb d_M_set_176 (by decide) ?_
  refine va_put (D := (dC, dI)) (ci := 3) (v := .int 0) (ty := .boolean) (C := R_M) (T := F_M) (N := 25) hx hb hG i_M t_M t_M_ok n_M hown hK hP hD hS 0 rfl rfl 18 (by decide) (hG _ k_458) (fun _ h9 => h9) rfl (by decide +kernel) rfl rfl (Nat.le_of_ble_eq_true rfl) d_M_set_177 (fun H locs hP hD hS => ?_)
  have hP : va_P (dC, dI) vwCl [(m0, .inr (3, [.int 0, .int (nI nz), .ref mH, .ref mL, .ref mB, .ref mP, .ref mR, .ref mA, .ref mW, .ref mU, .ref mV, .int rw, .ref mM, .ref mT, .int mc, .ref mQ, .int ga, .int gb, .int 0, .ref mO, .ref mF, .ref mS, .ref mE, .ref mX, .ref mD])), (mP, .inl (cI, 6, .inl (upd rP k v)))] H := hP
  have hD : va_D A [(m0, .inr (3, [.int 0, .int (nI nz), .ref mH, .ref mL, .ref mB, .ref mP, .ref mR, .ref mA, .ref mW, .ref mU, .ref mV, .int rw, .ref mM, .ref mT, .int mc, .ref mQ, .int ga, .int gb, .int 0, .ref mO, .ref mF, .ref mS, .ref mE, .ref mX, .ref mD])), (mP, .inl (cI, 6, .inl (upd rP k v)))] := hD
  refine lv_iload hx hb d_M_set_180 (lv_at hl9 0 rfl) ?_
  exact W.iret (v := (rP k)) hx hb hr (fun t ht hW => ⟨⟨(rP k), (), rfl, rfl, by have h9 := hP; rw [← ht] at h9; exact h9⟩, hS.F ht⟩) hS.2.2 d_M_set_182
set_option maxHeartbeats 4000000 in
set_option maxRecDepth 100000 in
theorem m_set2 (l : Launch) (dC : Nat → ClassId) (dI : Nat → Nat → Nat) (cI cJ cZ cB : ClassId) (m0 mH mL mB mP mR mA mW mU mV mM mT mQ mO mF mS mE mX mD : Nat) (th zn rw mc ga gb kn : Int32) (rR : Nat → Int32)  (nz k : Nat) (v : Int32) (sz : Nat) (hk : k < nz) (hn : nz ≤ 6) (hv : ¬ (v < 0 ∨ 9 < v)) : Met l y_M_set w_M_set ({ frames := 1, cells := 0, slots := 0, locals := 22 }) (PC (dC, dI) (TY cI cJ cZ cB) [.ref m0, .int (nI k), .int 2, .int v] [(m0, .inr (3, [.int th, .int (nI nz), .ref mH, .ref mL, .ref mB, .ref mP, .ref mR, .ref mA, .ref mW, .ref mU, .ref mV, .int rw, .ref mM, .ref mT, .int mc, .ref mQ, .int ga, .int gb, .int kn, .ref mO, .ref mF, .ref mS, .ref mE, .ref mX, .ref mD])), (mR, .inl (cI, 6, .inl rR))] sz (va_A [(m0, .inr (3, [.int th, .int (nI nz), .ref mH, .ref mL, .ref mB, .ref mP, .ref mR, .ref mA, .ref mW, .ref mU, .ref mV, .int rw, .ref mM, .ref mT, .int mc, .ref mQ, .int ga, .int gb, .int kn, .ref mO, .ref mF, .ref mS, .ref mE, .ref mX, .ref mD])), (mR, .inl (cI, 6, .inl rR))] sz)) (va_Qi (fun (r : Int32) (_ : Unit) => r = rR k) (fun (_ : Unit) (t : State) => va_P (dC, dI) vwCl [(m0, .inr (3, [.int 0, .int (nI nz), .ref mH, .ref mL, .ref mB, .ref mP, .ref mR, .ref mA, .ref mW, .ref mU, .ref mV, .int rw, .ref mM, .ref mT, .int mc, .ref mQ, .int ga, .int gb, .int 0, .ref mO, .ref mF, .ref mS, .ref mE, .ref mX, .ref mD])), (mR, .inl (cI, 6, .inl (upd rR k v)))] t.heap) (va_A [(m0, .inr (3, [.int th, .int (nI nz), .ref mH, .ref mL, .ref mB, .ref mP, .ref mR, .ref mA, .ref mW, .ref mU, .ref mV, .int rw, .ref mM, .ref mT, .int mc, .ref mQ, .int ga, .int gb, .int kn, .ref mO, .ref mF, .ref mS, .ref mE, .ref mX, .ref mD])), (mR, .inl (cI, 6, .inl rR))] sz)) 0 0 (va_A [(m0, .inr (3, [.int th, .int (nI nz), .ref mH, .ref mL, .ref mB, .ref mP, .ref mR, .ref mA, .ref mW, .ref mU, .ref mV, .int rw, .ref mM, .ref mT, .int mc, .ref mQ, .int ga, .int gb, .int kn, .ref mO, .ref mF, .ref mS, .ref mE, .ref mX, .ref mD])), (mR, .inl (cI, 6, .inl rR))] sz) := by
  refine Met.ofW (cc := b_M_set) (maxL := 6) (ret := (some .int)) (by decide) rfl ?_
  intro p e s m args below meth c s₁ B hml hv
  obtain ⟨rfl, hsz, hP, hK, hD0, hE⟩ := hv
  have hx := B.exec
  have hb := B.bytes
  have hr := B.returns
  have hG : ∀ w ∈ GG, w.before _ s = true := fun w h => atoms_spec (ws := w_M_set) B.pre w (List.mem_cons_of_mem _ h)
  have hown : s.vm.findClass R_M = some m.cls := findClass_of_methodNamed B.named
  have hlocks := B.notSynchronized
  subst hsz
  have hD := hD0.self (sz := s.heap.size)
  generalize hAe : (va_A [(m0, .inr (3, [.int th, .int (nI nz), .ref mH, .ref mL, .ref mB, .ref mP, .ref mR, .ref mA, .ref mW, .ref mU, .ref mV, .int rw, .ref mM, .ref mT, .int mc, .ref mQ, .int ga, .int gb, .int kn, .ref mO, .ref mF, .ref mS, .ref mE, .ref mX, .ref mD])), (mR, .inl (cI, 6, .inl rR))] s.heap.size) = A at hD hE ⊢
  have hA : ∀ q : Nat, s.heap.size ≤ q → A q := fun q h => by rw [← hAe]; exact Or.inr h
  have hS : va_S A s.heap s.heap [] := va_S.rf
  obtain ⟨H, hH⟩ : ∃ z, z = s.heap := ⟨_, rfl⟩
  rw [← hH] at hP
  have hS : va_S A s.heap H [] := by rw [hH]; exact hS
  rw [← hH]
  have hl9 := lv_entry ([.ref m0, .int (nI k), .int 2, .int v]) (n := 6) (Nat.le_of_ble_eq_true rfl)
  rw [lg_entry_eq]
  generalize (lg_sl ([.ref m0, .int (nI k), .int 2, .int v]) ++ List.replicate (6 - (lg_sl ([.ref m0, .int (nI k), .int 2, .int v])).length) Slot.unset).toArray = ls at hl9 ⊢
  have hl9 : lv_has ls 6 [(0, .ref m0), (1, .int (nI k)), (2, .int 2), (3, .int v)] := hl9
  have hin : vp_in (nI k) 6 := vp_in_nI (by omega) (by decide)
  refine lv_aload_n hx hb d_M_set_0 rfl (lv_at hl9 0 rfl) ?_
  refine lv_iconst (v := 0) hx hb d_M_set_1 (by decide) ?_
  refine va_put (D := (dC, dI)) (ci := 3) (v := .int 0) (ty := .int) (C := R_M) (T := F_M) (N := 25) hx hb hG i_M t_M t_M_ok n_M hown hK hP hD hS 0 rfl rfl 0 (by decide) (hG _ k_440) (fun _ h9 => h9) rfl (by decide +kernel) rfl rfl (Nat.le_of_ble_eq_true rfl) d_M_set_2 (fun H locs hP hD hS => ?_)
  have hP : va_P (dC, dI) vwCl [(m0, .inr (3, [.int 0, .int (nI nz), .ref mH, .ref mL, .ref mB, .ref mP, .ref mR, .ref mA, .ref mW, .ref mU, .ref mV, .int rw, .ref mM, .ref mT, .int mc, .ref mQ, .int ga, .int gb, .int kn, .ref mO, .ref mF, .ref mS, .ref mE, .ref mX, .ref mD])), (mR, .inl (cI, 6, .inl rR))] H := hP
  have hD : va_D A [(m0, .inr (3, [.int 0, .int (nI nz), .ref mH, .ref mL, .ref mB, .ref mP, .ref mR, .ref mA, .ref mW, .ref mU, .ref mV, .int rw, .ref mM, .ref mT, .int mc, .ref mQ, .int ga, .int gb, .int kn, .ref mO, .ref mF, .ref mS, .ref mE, .ref mX, .ref mD])), (mR, .inl (cI, 6, .inl rR))] := hD
  refine lv_iload_n hx hb d_M_set_5 rfl (lv_at hl9 2 rfl) ?_
  refine lv_if_ne (tgt := 22) hx hb d_M_set_6 (by decide) (fun c1 => ?_) (fun c1 => absurd c1 (by decide))
  refine lv_iload_n hx hb d_M_set_22 rfl (lv_at hl9 2 rfl) ?_
  refine lv_iconst (v := 1) hx hb d_M_set_23 (by decide) ?_
  refine lv_icmp_ne (tgt := 37) hx hb d_M_set_24 (by decide) (fun c2 => ?_) (fun c2 => absurd c2 (by decide))
  refine lv_iload_n hx hb d_M_set_37 rfl (lv_at hl9 2 rfl) ?_
  refine lv_iconst (v := 2) hx hb d_M_set_38 (by decide) ?_
  refine lv_icmp_ne (tgt := 56) hx hb d_M_set_39 (by decide) (fun c3 => absurd c3 (by decide)) (fun c3 => ?_)
  refine lv_iload_n hx hb d_M_set_42 rfl (lv_at hl9 3 rfl) ?_
  refine lv_iconst (v := 0) hx hb d_M_set_43 (by decide) ?_
  refine lv_bipush (v := 9) hx hb d_M_set_44 (by decide) ?_
  have hPc := hP.sub (ws' := []) [] rfl
  have hDc := hD.sub (ws' := []) [] (by decide) rfl
  have hFc := va_A_nil hA hS.1
  refine va_calli (va_runS (As := [.int v, .int 0, .int 9]) (rest := []) ⟨hx, hb, hml, hown, hG⟩ (m_within l dC dI cI cJ cZ cB v 0 9 H.size ) (cwS 3 hG g_M_83 rfl rfl rfl (by decide +kernel) ⟨Nat.le_of_ble_eq_true rfl, Nat.le_of_ble_eq_true rfl⟩) ⟨PC.blind, PC.of hPc hK hDc hE hS hFc⟩ rfl rfl hl9.1 rfl (lv_room (Nat.le_of_ble_eq_true rfl)) d_M_set_46 ⟨by first | exact Nat.le_of_ble_eq_true rfl | omega, by first | exact Nat.le_of_ble_eq_true rfl | omega⟩) hS (fun q _ h => hFc q h) hFc (fun r5 u t H4 locs ht hvm hw hB hz1 hk1 hS => ?_)
  have hP := wp_kept hP hk1
  have hw : r5 = if ¬ (v < 0 ∨ 9 < v) then 1 else 0 := hw
  subst hw
  rw [wi_1 hv]
  refine lv_if_eq (tgt := 56) hx hb d_M_set_49 (by decide) (fun c6 => absurd c6 (by decide)) (fun c6 => ?_)
  refine lv_iconst (v := 1) hx hb d_M_set_52 (by decide) ?_
  refine lv_goto (tgt := 57) hx hb d_M_set_53 (by decide) ?_
  refine lv_istore (lv' := [(4, .int 1), (0, .ref m0), (1, .int (nI k)), (2, .int 2), (3, .int v)]) hx hb d_M_set_57 hl9 (by decide) rfl (fun ls hl9 => ?_)
  refine lv_aload_n hx hb d_M_set_59 rfl (lv_at hl9 1 rfl) ?_
  refine lv_aload_n hx hb d_M_set_60 rfl (lv_at hl9 1 rfl) ?_
  refine lv_iload_n hx hb d_M_set_61 rfl (lv_at hl9 2 rfl) ?_
  have hPc := hP.sub (ws' := [(m0, .inr (3, [.int 0, .int (nI nz), .ref mH, .ref mL, .ref mB, .ref mP, .ref mR, .ref mA, .ref mW, .ref mU, .ref mV, .int rw, .ref mM, .ref mT, .int mc, .ref mQ, .int ga, .int gb, .int kn, .ref mO, .ref mF, .ref mS, .ref mE, .ref mX, .ref mD]))]) [0] rfl
  have hDc := hD.sub (ws' := [(m0, .inr (3, [.int 0, .int (nI nz), .ref mH, .ref mL, .ref mB, .ref mP, .ref mR, .ref mA, .ref mW, .ref mU, .ref mV, .int rw, .ref mM, .ref mT, .int mc, .ref mQ, .int ga, .int gb, .int kn, .ref mO, .ref mF, .ref mS, .ref mE, .ref mX, .ref mD]))]) [0] (by decide) rfl
  have hFc := va_A_nil hA hS.1
  refine va_calli (va_runV (C := R_M) (As := [.int (nI k)]) (rest := [.ref m0]) ⟨hx, hb, hml, hown, hG⟩ (m_isZone l dC dI cI cJ cZ cB m0 mH mL mB mP mR mA mW mU mV mM mT mQ mO mF mS mE mX mD 0 (nI nz) rw mc ga gb kn (nI k) H4.size ) (cwV 1 hG g_M_95 rfl rfl rfl (by decide +kernel) ⟨Nat.le_of_ble_eq_true rfl, Nat.le_of_ble_eq_true rfl⟩) ⟨PC.blind, va_recv hK hP (ci := 3) (q0 := 0) rfl rfl, PC.of hPc hK hDc hE hS hFc⟩ rfl rfl hl9.1 rfl (lv_room (Nat.le_of_ble_eq_true rfl)) d_M_set_62 ⟨by first | exact Nat.le_of_ble_eq_true rfl | omega, by first | exact Nat.le_of_ble_eq_true rfl | omega⟩) hS (fun q _ h => hFc q h) hFc (fun r8 u t H7 locs ht hvm hw hB hz1 hk1 hS => ?_)
  have hP := wp_kept hP hk1
  have hw : r8 = if ¬ ((nI k) < 0 ∨ (nI nz) ≤ (nI k)) then 1 else 0 := hw
  subst hw
  rw [iz_1 hk hn]
  refine lv_if_eq (tgt := 73) hx hb d_M_set_65 (by decide) (fun c9 => absurd c9 (by decide)) (fun c9 => ?_)
  refine lv_iload hx hb d_M_set_68 (lv_at hl9 0 rfl) ?_
  refine lv_if_ne (tgt := 77) hx hb d_M_set_70 (by decide) (fun c10 => ?_) (fun c10 => absurd c10 (by decide))
  refine lv_iconst (v := 0) hx hb d_M_set_77 (by decide) ?_
  refine lv_iconst (v := 1) hx hb d_M_set_78 (by decide) ?_
  have hPc := hP.sub (ws' := [(m0, .inr (3, [.int 0, .int (nI nz), .ref mH, .ref mL, .ref mB, .ref mP, .ref mR, .ref mA, .ref mW, .ref mU, .ref mV, .int rw, .ref mM, .ref mT, .int mc, .ref mQ, .int ga, .int gb, .int kn, .ref mO, .ref mF, .ref mS, .ref mE, .ref mX, .ref mD]))]) [0] rfl
  have hDc := hD.sub (ws' := [(m0, .inr (3, [.int 0, .int (nI nz), .ref mH, .ref mL, .ref mB, .ref mP, .ref mR, .ref mA, .ref mW, .ref mU, .ref mV, .int rw, .ref mM, .ref mT, .int mc, .ref mQ, .int ga, .int gb, .int kn, .ref mO, .ref mF, .ref mS, .ref mE, .ref mX, .ref mD]))]) [0] (by decide) rfl
  have hFc := va_free (wc := [(m0, .inr (3, [.int 0, .int (nI nz), .ref mH, .ref mL, .ref mB, .ref mP, .ref mR, .ref mA, .ref mW, .ref mU, .ref mV, .int rw, .ref mM, .ref mT, .int mc, .ref mQ, .int ga, .int gb, .int kn, .ref mO, .ref mF, .ref mS, .ref mE, .ref mX, .ref mD]))]) hD hS hA [0] rfl
  refine va_calli (va_runV (C := R_M) (As := [.int 0, .int 1]) (rest := []) ⟨hx, hb, hml, hown, hG⟩ (m_fails001 l dC dI cI cJ cZ cB m0 mH mL mB mP mR mA mW mU mV mM mT mQ mO mF mS mE mX mD (nI nz) rw mc ga gb kn H7.size ) (cwV 2 hG g_M_87 rfl rfl rfl (by decide +kernel) ⟨Nat.le_of_ble_eq_true rfl, Nat.le_of_ble_eq_true rfl⟩) ⟨PC.blind, va_recv hK hP (ci := 3) (q0 := 0) rfl rfl, PC.of hPc hK hDc hE hS hFc⟩ rfl rfl hl9.1 rfl (lv_room (Nat.le_of_ble_eq_true rfl)) d_M_set_79 ⟨by first | exact Nat.le_of_ble_eq_true rfl | omega, by first | exact Nat.le_of_ble_eq_true rfl | omega⟩) hS (fun q _ h => hFc q h) hFc (fun r12 u t H11 locs ht hvm hw hB hz1 hk1 hS => ?_)
  rw [ht] at hB
  obtain ⟨hP, hD⟩ := jset (wc := [(m0, .inr (3, [.int 0, .int (nI nz), .ref mH, .ref mL, .ref mB, .ref mP, .ref mR, .ref mA, .ref mW, .ref mU, .ref mV, .int rw, .ref mM, .ref mT, .int mc, .ref mQ, .int ga, .int gb, .int kn, .ref mO, .ref mF, .ref mS, .ref mE, .ref mX, .ref mD]))]) (w1 := [(m0, .inr (3, [.int 0, .int (nI nz), .ref mH, .ref mL, .ref mB, .ref mP, .ref mR, .ref mA, .ref mW, .ref mU, .ref mV, .int rw, .ref mM, .ref mT, .int mc, .ref mQ, .int ga, .int gb, .int kn, .ref mO, .ref mF, .ref mS, .ref mE, .ref mX, .ref mD]))]) [0] rfl rfl hP hD hk1 hB
  have hP : va_P (dC, dI) vwCl [(m0, .inr (3, [.int 0, .int (nI nz), .ref mH, .ref mL, .ref mB, .ref mP, .ref mR, .ref mA, .ref mW, .ref mU, .ref mV, .int rw, .ref mM, .ref mT, .int mc, .ref mQ, .int ga, .int gb, .int kn, .ref mO, .ref mF, .ref mS, .ref mE, .ref mX, .ref mD])), (mR, .inl (cI, 6, .inl rR))] H11 := hP
  have hD : va_D A [(m0, .inr (3, [.int 0, .int (nI nz), .ref mH, .ref mL, .ref mB, .ref mP, .ref mR, .ref mA, .ref mW, .ref mU, .ref mV, .int rw, .ref mM, .ref mT, .int mc, .ref mQ, .int ga, .int gb, .int kn, .ref mO, .ref mF, .ref mS, .ref mE, .ref mX, .ref mD])), (mR, .inl (cI, 6, .inl rR))] := hD
  have hw : r12 = 0 := hw
  subst hw
  refine lv_if_eq (tgt := 87) hx hb d_M_set_82 (by decide) (fun c13 => ?_) (fun c13 => absurd c13 (by decide))
  refine lv_iload_n hx hb d_M_set_87 rfl (lv_at hl9 3 rfl) ?_
  refine lv_if_ne (tgt := 100) hx hb d_M_set_88 (by decide) (fun c14 => ?_) (fun c14 => absurd c14 (by decide))
  refine lv_iload_n hx hb d_M_set_100 rfl (lv_at hl9 3 rfl) ?_
  refine lv_iconst (v := 1) hx hb d_M_set_101 (by decide) ?_
  refine lv_icmp_ne (tgt := 114) hx hb d_M_set_102 (by decide) (fun c15 => ?_) (fun c15 => absurd c15 (by decide))
  refine lv_aload_n hx hb d_M_set_114 rfl (lv_at hl9 1 rfl) ?_
  refine va_get (D := (dC, dI)) (ci := 3) (v := .ref mR) (C := R_M) (T := F_M) (N := 25) hx hb hG i_M hown hK hP 0 rfl rfl 6 (by decide) (hG _ k_446) (fun _ h9 => h9) rfl d_M_set_115 ?_
  refine lv_iload_n hx hb d_M_set_118 rfl (lv_at hl9 2 rfl) ?_
  refine va_iald hx hb hK hP 1 0 rfl rfl (hin) d_M_set_119 ?_
  rw [nI_clamp (n := k) (by omega)]
  refine lv_istore (lv' := [(5, .int (rR k)), (4, .int 1), (0, .ref m0), (1, .int (nI k)), (2, .int 2), (3, .int v)]) hx hb d_M_set_120 hl9 (by decide) rfl (fun ls hl9 => ?_)
  refine lv_iload_n hx hb d_M_set_122 rfl (lv_at hl9 4 rfl) ?_
  refine lv_lookup (tgt := 168) (off := 45) hx hb d_M_set_123 (by decide) (by decide) (by decide) ?_
  refine lv_aload_n hx hb d_M_set_168 rfl (lv_at hl9 2 rfl) ?_
  refine va_get (D := (dC, dI)) (ci := 3) (v := .ref mR) (C := R_M) (T := F_M) (N := 25) hx hb hG i_M hown hK hP 0 rfl rfl 6 (by decide) (hG _ k_446) (fun _ h9 => h9) rfl d_M_set_169 ?_
  refine lv_iload_n hx hb d_M_set_172 rfl (lv_at hl9 3 rfl) ?_
  refine lv_iload_n hx hb d_M_set_173 rfl (lv_at hl9 5 rfl) ?_
  refine va_iast hx hb hK hP hD hS 1 0 rfl rfl (hin) d_M_set_174 (fun H locs hP hD hS => ?_)
  have hP : va_P (dC, dI) vwCl [(m0, .inr (3, [.int 0, .int (nI nz), .ref mH, .ref mL, .ref mB, .ref mP, .ref mR, .ref mA, .ref mW, .ref mU, .ref mV, .int rw, .ref mM, .ref mT, .int mc, .ref mQ, .int ga, .int gb, .int kn, .ref mO, .ref mF, .ref mS, .ref mE, .ref mX, .ref mD])), (mR, .inl (cI, 6, .inl (upd rR (nI k).toNatClampNeg v)))] H := hP
  have hD : va_D A [(m0, .inr (3, [.int 0, .int (nI nz), .ref mH, .ref mL, .ref mB, .ref mP, .ref mR, .ref mA, .ref mW, .ref mU, .ref mV, .int rw, .ref mM, .ref mT, .int mc, .ref mQ, .int ga, .int gb, .int kn, .ref mO, .ref mF, .ref mS, .ref mE, .ref mX, .ref mD])), (mR, .inl (cI, 6, .inl (upd rR (nI k).toNatClampNeg v)))] := hD
  rw [nI_clamp (n := k) (by omega)] at hP hD
  refine lv_aload_n hx hb d_M_set_175 rfl (lv_at hl9 2 rfl) ?_
  refine lv_iconst (v := 0) hx hb d_M_set_176 (by decide) ?_
  refine va_put (D := (dC, dI)) (ci := 3) (v := .int 0) (ty := .boolean) (C := R_M) (T := F_M) (N := 25) hx hb hG i_M t_M t_M_ok n_M hown hK hP hD hS 0 rfl rfl 18 (by decide) (hG _ k_458) (fun _ h9 => h9) rfl (by decide +kernel) rfl rfl (Nat.le_of_ble_eq_true rfl) d_M_set_177 (fun H locs hP hD hS => ?_)
  have hP : va_P (dC, dI) vwCl [(m0, .inr (3, [.int 0, .int (nI nz), .ref mH, .ref mL, .ref mB, .ref mP, .ref mR, .ref mA, .ref mW, .ref mU, .ref mV, .int rw, .ref mM, .ref mT, .int mc, .ref mQ, .int ga, .int gb, .int 0, .ref mO, .ref mF, .ref mS, .ref mE, .ref mX, .ref mD])), (mR, .inl (cI, 6, .inl (upd rR k v)))] H := hP
  have hD : va_D A [(m0, .inr (3, [.int 0, .int (nI nz), .ref mH, .ref mL, .ref mB, .ref mP, .ref mR, .ref mA, .ref mW, .ref mU, .ref mV, .int rw, .ref mM, .ref mT, .int mc, .ref mQ, .int ga, .int gb, .int 0, .ref mO, .ref mF, .ref mS, .ref mE, .ref mX, .ref mD])), (mR, .inl (cI, 6, .inl (upd rR k v)))] := hD
  refine lv_iload hx hb d_M_set_180 (lv_at hl9 0 rfl) ?_
  exact W.iret (v := (rR k)) hx hb hr (fun t ht hW => ⟨⟨(rR k), (), rfl, rfl, by have h9 := hP; rw [← ht] at h9; exact h9⟩, hS.F ht⟩) hS.2.2 d_M_set_182
set_option maxHeartbeats 4000000 in
set_option maxRecDepth 100000 in
theorem m_setX (l : Launch) (dC : Nat → ClassId) (dI : Nat → Nat → Nat) (cI cJ cZ cB : ClassId) (m0 mH mL mB mP mR mA mW mU mV mM mT mQ mO mF mS mE mX mD : Nat) (th zn rw mc ga gb kn : Int32) (nz : Nat) (x what v : Int32) (sz : Nat) (hbad : (x < 0 ∨ nI nz ≤ x) ∨ ¬ okset what v) : Met l y_M_set w_M_set ({ frames := 1, cells := 0, slots := 0, locals := 22 }) (PC (dC, dI) (TY cI cJ cZ cB) [.ref m0, .int x, .int what, .int v] [(m0, .inr (3, [.int th, .int (nI nz), .ref mH, .ref mL, .ref mB, .ref mP, .ref mR, .ref mA, .ref mW, .ref mU, .ref mV, .int rw, .ref mM, .ref mT, .int mc, .ref mQ, .int ga, .int gb, .int kn, .ref mO, .ref mF, .ref mS, .ref mE, .ref mX, .ref mD]))] sz (va_A [(m0, .inr (3, [.int th, .int (nI nz), .ref mH, .ref mL, .ref mB, .ref mP, .ref mR, .ref mA, .ref mW, .ref mU, .ref mV, .int rw, .ref mM, .ref mT, .int mc, .ref mQ, .int ga, .int gb, .int kn, .ref mO, .ref mF, .ref mS, .ref mE, .ref mX, .ref mD]))] sz)) (va_Qi (fun (r : Int32) (_ : Unit) => True) (fun (_ : Unit) (t : State) => va_P (dC, dI) vwCl [(m0, .inr (3, [.int 1, .int (nI nz), .ref mH, .ref mL, .ref mB, .ref mP, .ref mR, .ref mA, .ref mW, .ref mU, .ref mV, .int rw, .ref mM, .ref mT, .int mc, .ref mQ, .int ga, .int gb, .int kn, .ref mO, .ref mF, .ref mS, .ref mE, .ref mX, .ref mD]))] t.heap) (va_A [(m0, .inr (3, [.int th, .int (nI nz), .ref mH, .ref mL, .ref mB, .ref mP, .ref mR, .ref mA, .ref mW, .ref mU, .ref mV, .int rw, .ref mM, .ref mT, .int mc, .ref mQ, .int ga, .int gb, .int kn, .ref mO, .ref mF, .ref mS, .ref mE, .ref mX, .ref mD]))] sz)) 0 0 (va_A [(m0, .inr (3, [.int th, .int (nI nz), .ref mH, .ref mL, .ref mB, .ref mP, .ref mR, .ref mA, .ref mW, .ref mU, .ref mV, .int rw, .ref mM, .ref mT, .int mc, .ref mQ, .int ga, .int gb, .int kn, .ref mO, .ref mF, .ref mS, .ref mE, .ref mX, .ref mD]))] sz) := by
  refine Met.ofW (cc := b_M_set) (maxL := 6) (ret := (some .int)) (by decide) rfl ?_
  intro p e s m args below meth c s₁ B hml hv
  obtain ⟨rfl, hsz, hP, hK, hD0, hE⟩ := hv
  have hx := B.exec
  have hb := B.bytes
  have hr := B.returns
  have hG : ∀ w ∈ GG, w.before _ s = true := fun w h => atoms_spec (ws := w_M_set) B.pre w (List.mem_cons_of_mem _ h)
  have hown : s.vm.findClass R_M = some m.cls := findClass_of_methodNamed B.named
  have hlocks := B.notSynchronized
  subst hsz
  have hD := hD0.self (sz := s.heap.size)
  generalize hAe : (va_A [(m0, .inr (3, [.int th, .int (nI nz), .ref mH, .ref mL, .ref mB, .ref mP, .ref mR, .ref mA, .ref mW, .ref mU, .ref mV, .int rw, .ref mM, .ref mT, .int mc, .ref mQ, .int ga, .int gb, .int kn, .ref mO, .ref mF, .ref mS, .ref mE, .ref mX, .ref mD]))] s.heap.size) = A at hD hE ⊢
  have hA : ∀ q : Nat, s.heap.size ≤ q → A q := fun q h => by rw [← hAe]; exact Or.inr h
  have hS : va_S A s.heap s.heap [] := va_S.rf
  obtain ⟨H, hH⟩ : ∃ z, z = s.heap := ⟨_, rfl⟩
  rw [← hH] at hP
  have hS : va_S A s.heap H [] := by rw [hH]; exact hS
  rw [← hH]
  have hl9 := lv_entry ([.ref m0, .int x, .int what, .int v]) (n := 6) (Nat.le_of_ble_eq_true rfl)
  rw [lg_entry_eq]
  generalize (lg_sl ([.ref m0, .int x, .int what, .int v]) ++ List.replicate (6 - (lg_sl ([.ref m0, .int x, .int what, .int v])).length) Slot.unset).toArray = ls at hl9 ⊢
  have hl9 : lv_has ls 6 [(0, .ref m0), (1, .int x), (2, .int what), (3, .int v)] := hl9
  refine lv_aload_n hx hb d_M_set_0 rfl (lv_at hl9 0 rfl) ?_
  refine lv_iconst (v := 0) hx hb d_M_set_1 (by decide) ?_
  refine va_put (D := (dC, dI)) (ci := 3) (v := .int 0) (ty := .int) (C := R_M) (T := F_M) (N := 25) hx hb hG i_M t_M t_M_ok n_M hown hK hP hD hS 0 rfl rfl 0 (by decide) (hG _ k_440) (fun _ h9 => h9) rfl (by decide +kernel) rfl rfl (Nat.le_of_ble_eq_true rfl) d_M_set_2 (fun H locs hP hD hS => ?_)
  have hP : va_P (dC, dI) vwCl [(m0, .inr (3, [.int 0, .int (nI nz), .ref mH, .ref mL, .ref mB, .ref mP, .ref mR, .ref mA, .ref mW, .ref mU, .ref mV, .int rw, .ref mM, .ref mT, .int mc, .ref mQ, .int ga, .int gb, .int kn, .ref mO, .ref mF, .ref mS, .ref mE, .ref mX, .ref mD]))] H := hP
  have hD : va_D A [(m0, .inr (3, [.int 0, .int (nI nz), .ref mH, .ref mL, .ref mB, .ref mP, .ref mR, .ref mA, .ref mW, .ref mU, .ref mV, .int rw, .ref mM, .ref mT, .int mc, .ref mQ, .int ga, .int gb, .int kn, .ref mO, .ref mF, .ref mS, .ref mE, .ref mX, .ref mD]))] := hD
  refine lv_iload_n hx hb d_M_set_5 rfl (lv_at hl9 2 rfl) ?_
  refine lv_if_ne (tgt := 22) hx hb d_M_set_6 (by decide) (fun c1 => ?_) (fun c1 => ?_)
  · refine lv_iload_n hx hb d_M_set_22 rfl (lv_at hl9 2 rfl) ?_
    refine lv_iconst (v := 1) hx hb d_M_set_23 (by decide) ?_
    refine lv_icmp_ne (tgt := 37) hx hb d_M_set_24 (by decide) (fun c2 => ?_) (fun c2 => ?_)
    · refine lv_iload_n hx hb d_M_set_37 rfl (lv_at hl9 2 rfl) ?_
      refine lv_iconst (v := 2) hx hb d_M_set_38 (by decide) ?_
      refine lv_icmp_ne (tgt := 56) hx hb d_M_set_39 (by decide) (fun c3 => ?_) (fun c3 => ?_)
      · refine lv_iconst (v := 0) hx hb d_M_set_56 (by decide) ?_
        refine lv_istore (lv' := [(4, .int 0), (0, .ref m0), (1, .int x), (2, .int what), (3, .int v)]) hx hb d_M_set_57 hl9 (by decide) rfl (fun ls hl9 => ?_)
        refine lv_aload_n hx hb d_M_set_59 rfl (lv_at hl9 1 rfl) ?_
        refine lv_aload_n hx hb d_M_set_60 rfl (lv_at hl9 1 rfl) ?_
        refine lv_iload_n hx hb d_M_set_61 rfl (lv_at hl9 2 rfl) ?_
        by_cases hz : x < 0 ∨ nI nz ≤ x
        · have hPc := hP.sub (ws' := [(m0, .inr (3, [.int 0, .int (nI nz), .ref mH, .ref mL, .ref mB, .ref mP, .ref mR, .ref mA, .ref mW, .ref mU, .ref mV, .int rw, .ref mM, .ref mT, .int mc, .ref mQ, .int ga, .int gb, .int kn, .ref mO, .ref mF, .ref mS, .ref mE, .ref mX, .ref mD]))]) [0] rfl
          have hDc := hD.sub (ws' := [(m0, .inr (3, [.int 0, .int (nI nz), .ref mH, .ref mL, .ref mB, .ref mP, .ref mR, .ref mA, .ref mW, .ref mU, .ref mV, .int rw, .ref mM, .ref mT, .int mc, .ref mQ, .int ga, .int gb, .int kn, .ref mO, .ref mF, .ref mS, .ref mE, .ref mX, .ref mD]))]) [0] (by decide) rfl
          have hFc := va_A_nil hA hS.1
          refine va_calli (va_runV (C := R_M) (As := [.int x]) (rest := [.ref m0]) ⟨hx, hb, hml, hown, hG⟩ (m_isZone l dC dI cI cJ cZ cB m0 mH mL mB mP mR mA mW mU mV mM mT mQ mO mF mS mE mX mD 0 (nI nz) rw mc ga gb kn x H.size ) (cwV 1 hG g_M_95 rfl rfl rfl (by decide +kernel) ⟨Nat.le_of_ble_eq_true rfl, Nat.le_of_ble_eq_true rfl⟩) ⟨PC.blind, va_recv hK hP (ci := 3) (q0 := 0) rfl rfl, PC.of hPc hK hDc hE hS hFc⟩ rfl rfl hl9.1 rfl (lv_room (Nat.le_of_ble_eq_true rfl)) d_M_set_62 ⟨by first | exact Nat.le_of_ble_eq_true rfl | omega, by first | exact Nat.le_of_ble_eq_true rfl | omega⟩) hS (fun q _ h => hFc q h) hFc (fun r2 u t H1 locs ht hvm hw hB hz1 hk1 hS => ?_)
          have hP := wp_kept hP hk1
          have hw : r2 = if ¬ (x < 0 ∨ (nI nz) ≤ x) then 1 else 0 := hw
          subst hw
          rw [iz_0 hz]
          refine lv_if_eq (tgt := 73) hx hb d_M_set_65 (by decide) (fun c3 => ?_) (fun c3 => absurd c3 (by decide))
          refine lv_iconst (v := 1) hx hb d_M_set_73 (by decide) ?_
          refine lv_goto (tgt := 78) hx hb d_M_set_74 (by decide) ?_
          refine lv_iconst (v := 1) hx hb d_M_set_78 (by decide) ?_
          have hPc := hP.sub (ws' := [(m0, .inr (3, [.int 0, .int (nI nz), .ref mH, .ref mL, .ref mB, .ref mP, .ref mR, .ref mA, .ref mW, .ref mU, .ref mV, .int rw, .ref mM, .ref mT, .int mc, .ref mQ, .int ga, .int gb, .int kn, .ref mO, .ref mF, .ref mS, .ref mE, .ref mX, .ref mD]))]) [0] rfl
          have hDc := hD.sub (ws' := [(m0, .inr (3, [.int 0, .int (nI nz), .ref mH, .ref mL, .ref mB, .ref mP, .ref mR, .ref mA, .ref mW, .ref mU, .ref mV, .int rw, .ref mM, .ref mT, .int mc, .ref mQ, .int ga, .int gb, .int kn, .ref mO, .ref mF, .ref mS, .ref mE, .ref mX, .ref mD]))]) [0] (by decide) rfl
          have hFc := va_free (wc := [(m0, .inr (3, [.int 0, .int (nI nz), .ref mH, .ref mL, .ref mB, .ref mP, .ref mR, .ref mA, .ref mW, .ref mU, .ref mV, .int rw, .ref mM, .ref mT, .int mc, .ref mQ, .int ga, .int gb, .int kn, .ref mO, .ref mF, .ref mS, .ref mE, .ref mX, .ref mD]))]) hD hS hA [0] rfl
          refine va_calli (va_runV (C := R_M) (As := [.int 1, .int 1]) (rest := []) ⟨hx, hb, hml, hown, hG⟩ (m_fails011 l dC dI cI cJ cZ cB m0 mH mL mB mP mR mA mW mU mV mM mT mQ mO mF mS mE mX mD (nI nz) rw mc ga gb kn H1.size ) (cwV 2 hG g_M_87 rfl rfl rfl (by decide +kernel) ⟨Nat.le_of_ble_eq_true rfl, Nat.le_of_ble_eq_true rfl⟩) ⟨PC.blind, va_recv hK hP (ci := 3) (q0 := 0) rfl rfl, PC.of hPc hK hDc hE hS hFc⟩ rfl rfl hl9.1 rfl (lv_room (Nat.le_of_ble_eq_true rfl)) d_M_set_79 ⟨by first | exact Nat.le_of_ble_eq_true rfl | omega, by first | exact Nat.le_of_ble_eq_true rfl | omega⟩) hS (fun q _ h => hFc q h) hFc (fun r5 u t H4 locs ht hvm hw hB hz1 hk1 hS => ?_)
          rw [ht] at hB
          obtain ⟨hP, hD⟩ := jset (wc := [(m0, .inr (3, [.int 0, .int (nI nz), .ref mH, .ref mL, .ref mB, .ref mP, .ref mR, .ref mA, .ref mW, .ref mU, .ref mV, .int rw, .ref mM, .ref mT, .int mc, .ref mQ, .int ga, .int gb, .int kn, .ref mO, .ref mF, .ref mS, .ref mE, .ref mX, .ref mD]))]) (w1 := [(m0, .inr (3, [.int 1, .int (nI nz), .ref mH, .ref mL, .ref mB, .ref mP, .ref mR, .ref mA, .ref mW, .ref mU, .ref mV, .int rw, .ref mM, .ref mT, .int mc, .ref mQ, .int ga, .int gb, .int kn, .ref mO, .ref mF, .ref mS, .ref mE, .ref mX, .ref mD]))]) [0] rfl rfl hP hD hk1 hB
          have hP : va_P (dC, dI) vwCl [(m0, .inr (3, [.int 1, .int (nI nz), .ref mH, .ref mL, .ref mB, .ref mP, .ref mR, .ref mA, .ref mW, .ref mU, .ref mV, .int rw, .ref mM, .ref mT, .int mc, .ref mQ, .int ga, .int gb, .int kn, .ref mO, .ref mF, .ref mS, .ref mE, .ref mX, .ref mD]))] H4 := hP
          have hD : va_D A [(m0, .inr (3, [.int 1, .int (nI nz), .ref mH, .ref mL, .ref mB, .ref mP, .ref mR, .ref mA, .ref mW, .ref mU, .ref mV, .int rw, .ref mM, .ref mT, .int mc, .ref mQ, .int ga, .int gb, .int kn, .ref mO, .ref mF, .ref mS, .ref mE, .ref mX, .ref mD]))] := hD
          have hw : r5 = 1 := hw
          subst hw
          refine lv_if_eq (tgt := 87) hx hb d_M_set_82 (by decide) (fun c6 => absurd c6 (by decide)) (fun c6 => ?_)
          refine lv_iconst (v := 0) hx hb d_M_set_85 (by decide) ?_
          exact W.iret (v := 0) hx hb hr (fun t ht hW => ⟨⟨0, (), rfl, trivial, by have h9 := hP; rw [← ht] at h9; exact h9⟩, hS.F ht⟩) hS.2.2 d_M_set_86
        · have hPc := hP.sub (ws' := [(m0, .inr (3, [.int 0, .int (nI nz), .ref mH, .ref mL, .ref mB, .ref mP, .ref mR, .ref mA, .ref mW, .ref mU, .ref mV, .int rw, .ref mM, .ref mT, .int mc, .ref mQ, .int ga, .int gb, .int kn, .ref mO, .ref mF, .ref mS, .ref mE, .ref mX, .ref mD]))]) [0] rfl
          have hDc := hD.sub (ws' := [(m0, .inr (3, [.int 0, .int (nI nz), .ref mH, .ref mL, .ref mB, .ref mP, .ref mR, .ref mA, .ref mW, .ref mU, .ref mV, .int rw, .ref mM, .ref mT, .int mc, .ref mQ, .int ga, .int gb, .int kn, .ref mO, .ref mF, .ref mS, .ref mE, .ref mX, .ref mD]))]) [0] (by decide) rfl
          have hFc := va_A_nil hA hS.1
          refine va_calli (va_runV (C := R_M) (As := [.int x]) (rest := [.ref m0]) ⟨hx, hb, hml, hown, hG⟩ (m_isZone l dC dI cI cJ cZ cB m0 mH mL mB mP mR mA mW mU mV mM mT mQ mO mF mS mE mX mD 0 (nI nz) rw mc ga gb kn x H.size ) (cwV 1 hG g_M_95 rfl rfl rfl (by decide +kernel) ⟨Nat.le_of_ble_eq_true rfl, Nat.le_of_ble_eq_true rfl⟩) ⟨PC.blind, va_recv hK hP (ci := 3) (q0 := 0) rfl rfl, PC.of hPc hK hDc hE hS hFc⟩ rfl rfl hl9.1 rfl (lv_room (Nat.le_of_ble_eq_true rfl)) d_M_set_62 ⟨by first | exact Nat.le_of_ble_eq_true rfl | omega, by first | exact Nat.le_of_ble_eq_true rfl | omega⟩) hS (fun q _ h => hFc q h) hFc (fun r8 u t H7 locs ht hvm hw hB hz1 hk1 hS => ?_)
          have hP := wp_kept hP hk1
          have hw : r8 = if ¬ (x < 0 ∨ (nI nz) ≤ x) then 1 else 0 := hw
          subst hw
          rw [iz_1g hz]
          refine lv_if_eq (tgt := 73) hx hb d_M_set_65 (by decide) (fun c9 => absurd c9 (by decide)) (fun c9 => ?_)
          refine lv_iload hx hb d_M_set_68 (lv_at hl9 0 rfl) ?_
          refine lv_if_ne (tgt := 77) hx hb d_M_set_70 (by decide) (fun c10 => absurd c10 (by decide)) (fun c10 => ?_)
          refine lv_iconst (v := 1) hx hb d_M_set_73 (by decide) ?_
          refine lv_goto (tgt := 78) hx hb d_M_set_74 (by decide) ?_
          refine lv_iconst (v := 1) hx hb d_M_set_78 (by decide) ?_
          have hPc := hP.sub (ws' := [(m0, .inr (3, [.int 0, .int (nI nz), .ref mH, .ref mL, .ref mB, .ref mP, .ref mR, .ref mA, .ref mW, .ref mU, .ref mV, .int rw, .ref mM, .ref mT, .int mc, .ref mQ, .int ga, .int gb, .int kn, .ref mO, .ref mF, .ref mS, .ref mE, .ref mX, .ref mD]))]) [0] rfl
          have hDc := hD.sub (ws' := [(m0, .inr (3, [.int 0, .int (nI nz), .ref mH, .ref mL, .ref mB, .ref mP, .ref mR, .ref mA, .ref mW, .ref mU, .ref mV, .int rw, .ref mM, .ref mT, .int mc, .ref mQ, .int ga, .int gb, .int kn, .ref mO, .ref mF, .ref mS, .ref mE, .ref mX, .ref mD]))]) [0] (by decide) rfl
          have hFc := va_free (wc := [(m0, .inr (3, [.int 0, .int (nI nz), .ref mH, .ref mL, .ref mB, .ref mP, .ref mR, .ref mA, .ref mW, .ref mU, .ref mV, .int rw, .ref mM, .ref mT, .int mc, .ref mQ, .int ga, .int gb, .int kn, .ref mO, .ref mF, .ref mS, .ref mE, .ref mX, .ref mD]))]) hD hS hA [0] rfl
          refine va_calli (va_runV (C := R_M) (As := [.int 1, .int 1]) (rest := []) ⟨hx, hb, hml, hown, hG⟩ (m_fails011 l dC dI cI cJ cZ cB m0 mH mL mB mP mR mA mW mU mV mM mT mQ mO mF mS mE mX mD (nI nz) rw mc ga gb kn H7.size ) (cwV 2 hG g_M_87 rfl rfl rfl (by decide +kernel) ⟨Nat.le_of_ble_eq_true rfl, Nat.le_of_ble_eq_true rfl⟩) ⟨PC.blind, va_recv hK hP (ci := 3) (q0 := 0) rfl rfl, PC.of hPc hK hDc hE hS hFc⟩ rfl rfl hl9.1 rfl (lv_room (Nat.le_of_ble_eq_true rfl)) d_M_set_79 ⟨by first | exact Nat.le_of_ble_eq_true rfl | omega, by first | exact Nat.le_of_ble_eq_true rfl | omega⟩) hS (fun q _ h => hFc q h) hFc (fun r12 u t H11 locs ht hvm hw hB hz1 hk1 hS => ?_)
          rw [ht] at hB
          obtain ⟨hP, hD⟩ := jset (wc := [(m0, .inr (3, [.int 0, .int (nI nz), .ref mH, .ref mL, .ref mB, .ref mP, .ref mR, .ref mA, .ref mW, .ref mU, .ref mV, .int rw, .ref mM, .ref mT, .int mc, .ref mQ, .int ga, .int gb, .int kn, .ref mO, .ref mF, .ref mS, .ref mE, .ref mX, .ref mD]))]) (w1 := [(m0, .inr (3, [.int 1, .int (nI nz), .ref mH, .ref mL, .ref mB, .ref mP, .ref mR, .ref mA, .ref mW, .ref mU, .ref mV, .int rw, .ref mM, .ref mT, .int mc, .ref mQ, .int ga, .int gb, .int kn, .ref mO, .ref mF, .ref mS, .ref mE, .ref mX, .ref mD]))]) [0] rfl rfl hP hD hk1 hB
          have hP : va_P (dC, dI) vwCl [(m0, .inr (3, [.int 1, .int (nI nz), .ref mH, .ref mL, .ref mB, .ref mP, .ref mR, .ref mA, .ref mW, .ref mU, .ref mV, .int rw, .ref mM, .ref mT, .int mc, .ref mQ, .int ga, .int gb, .int kn, .ref mO, .ref mF, .ref mS, .ref mE, .ref mX, .ref mD]))] H11 := hP
          have hD : va_D A [(m0, .inr (3, [.int 1, .int (nI nz), .ref mH, .ref mL, .ref mB, .ref mP, .ref mR, .ref mA, .ref mW, .ref mU, .ref mV, .int rw, .ref mM, .ref mT, .int mc, .ref mQ, .int ga, .int gb, .int kn, .ref mO, .ref mF, .ref mS, .ref mE, .ref mX, .ref mD]))] := hD
          have hw : r12 = 1 := hw
          subst hw
          refine lv_if_eq (tgt := 87) hx hb d_M_set_82 (by decide) (fun c13 => absurd c13 (by decide)) (fun c13 => ?_)
          refine lv_iconst (v := 0) hx hb d_M_set_85 (by decide) ?_
          exact W.iret (v := 0) hx hb hr (fun t ht hW => ⟨⟨0, (), rfl, trivial, by have h9 := hP; rw [← ht] at h9; exact h9⟩, hS.F ht⟩) hS.2.2 d_M_set_86
      · refine lv_iload_n hx hb d_M_set_42 rfl (lv_at hl9 3 rfl) ?_
        refine lv_iconst (v := 0) hx hb d_M_set_43 (by decide) ?_
        refine lv_bipush (v := 9) hx hb d_M_set_44 (by decide) ?_
        by_cases hv : v < 0 ∨ 9 < v
        · have hPc := hP.sub (ws' := []) [] rfl
          have hDc := hD.sub (ws' := []) [] (by decide) rfl
          have hFc := va_A_nil hA hS.1
          refine va_calli (va_runS (As := [.int v, .int 0, .int 9]) (rest := []) ⟨hx, hb, hml, hown, hG⟩ (m_within l dC dI cI cJ cZ cB v 0 9 H.size ) (cwS 3 hG g_M_83 rfl rfl rfl (by decide +kernel) ⟨Nat.le_of_ble_eq_true rfl, Nat.le_of_ble_eq_true rfl⟩) ⟨PC.blind, PC.of hPc hK hDc hE hS hFc⟩ rfl rfl hl9.1 rfl (lv_room (Nat.le_of_ble_eq_true rfl)) d_M_set_46 ⟨by first | exact Nat.le_of_ble_eq_true rfl | omega, by first | exact Nat.le_of_ble_eq_true rfl | omega⟩) hS (fun q _ h => hFc q h) hFc (fun r15 u t H14 locs ht hvm hw hB hz1 hk1 hS => ?_)
          have hP := wp_kept hP hk1
          have hw : r15 = if ¬ (v < 0 ∨ 9 < v) then 1 else 0 := hw
          subst hw
          rw [wi_0 hv]
          refine lv_if_eq (tgt := 56) hx hb d_M_set_49 (by decide) (fun c8 => ?_) (fun c8 => absurd c8 (by decide))
          refine lv_iconst (v := 0) hx hb d_M_set_56 (by decide) ?_
          refine lv_istore (lv' := [(4, .int 0), (0, .ref m0), (1, .int x), (2, .int what), (3, .int v)]) hx hb d_M_set_57 hl9 (by decide) rfl (fun ls hl9 => ?_)
          refine lv_aload_n hx hb d_M_set_59 rfl (lv_at hl9 1 rfl) ?_
          refine lv_aload_n hx hb d_M_set_60 rfl (lv_at hl9 1 rfl) ?_
          refine lv_iload_n hx hb d_M_set_61 rfl (lv_at hl9 2 rfl) ?_
          by_cases hz : x < 0 ∨ nI nz ≤ x
          · have hPc := hP.sub (ws' := [(m0, .inr (3, [.int 0, .int (nI nz), .ref mH, .ref mL, .ref mB, .ref mP, .ref mR, .ref mA, .ref mW, .ref mU, .ref mV, .int rw, .ref mM, .ref mT, .int mc, .ref mQ, .int ga, .int gb, .int kn, .ref mO, .ref mF, .ref mS, .ref mE, .ref mX, .ref mD]))]) [0] rfl
            have hDc := hD.sub (ws' := [(m0, .inr (3, [.int 0, .int (nI nz), .ref mH, .ref mL, .ref mB, .ref mP, .ref mR, .ref mA, .ref mW, .ref mU, .ref mV, .int rw, .ref mM, .ref mT, .int mc, .ref mQ, .int ga, .int gb, .int kn, .ref mO, .ref mF, .ref mS, .ref mE, .ref mX, .ref mD]))]) [0] (by decide) rfl
            have hFc := va_A_nil hA hS.1
            refine va_calli (va_runV (C := R_M) (As := [.int x]) (rest := [.ref m0]) ⟨hx, hb, hml, hown, hG⟩ (m_isZone l dC dI cI cJ cZ cB m0 mH mL mB mP mR mA mW mU mV mM mT mQ mO mF mS mE mX mD 0 (nI nz) rw mc ga gb kn x H14.size ) (cwV 1 hG g_M_95 rfl rfl rfl (by decide +kernel) ⟨Nat.le_of_ble_eq_true rfl, Nat.le_of_ble_eq_true rfl⟩) ⟨PC.blind, va_recv hK hP (ci := 3) (q0 := 0) rfl rfl, PC.of hPc hK hDc hE hS hFc⟩ rfl rfl hl9.1 rfl (lv_room (Nat.le_of_ble_eq_true rfl)) d_M_set_62 ⟨by first | exact Nat.le_of_ble_eq_true rfl | omega, by first | exact Nat.le_of_ble_eq_true rfl | omega⟩) hS (fun q _ h => hFc q h) hFc (fun r17 u t H16 locs ht hvm hw hB hz1 hk1 hS => ?_)
            have hP := wp_kept hP hk1
            have hw : r17 = if ¬ (x < 0 ∨ (nI nz) ≤ x) then 1 else 0 := hw
            subst hw
            rw [iz_0 hz]
            refine lv_if_eq (tgt := 73) hx hb d_M_set_65 (by decide) (fun c18 => ?_) (fun c18 => absurd c18 (by decide))
            refine lv_iconst (v := 1) hx hb d_M_set_73 (by decide) ?_
            refine lv_goto (tgt := 78) hx hb d_M_set_74 (by decide) ?_
            refine lv_iconst (v := 1) hx hb d_M_set_78 (by decide) ?_
            have hPc := hP.sub (ws' := [(m0, .inr (3, [.int 0, .int (nI nz), .ref mH, .ref mL, .ref mB, .ref mP, .ref mR, .ref mA, .ref mW, .ref mU, .ref mV, .int rw, .ref mM, .ref mT, .int mc, .ref mQ, .int ga, .int gb, .int kn, .ref mO, .ref mF, .ref mS, .ref mE, .ref mX, .ref mD]))]) [0] rfl
            have hDc := hD.sub (ws' := [(m0, .inr (3, [.int 0, .int (nI nz), .ref mH, .ref mL, .ref mB, .ref mP, .ref mR, .ref mA, .ref mW, .ref mU, .ref mV, .int rw, .ref mM, .ref mT, .int mc, .ref mQ, .int ga, .int gb, .int kn, .ref mO, .ref mF, .ref mS, .ref mE, .ref mX, .ref mD]))]) [0] (by decide) rfl
            have hFc := va_free (wc := [(m0, .inr (3, [.int 0, .int (nI nz), .ref mH, .ref mL, .ref mB, .ref mP, .ref mR, .ref mA, .ref mW, .ref mU, .ref mV, .int rw, .ref mM, .ref mT, .int mc, .ref mQ, .int ga, .int gb, .int kn, .ref mO, .ref mF, .ref mS, .ref mE, .ref mX, .ref mD]))]) hD hS hA [0] rfl
            refine va_calli (va_runV (C := R_M) (As := [.int 1, .int 1]) (rest := []) ⟨hx, hb, hml, hown, hG⟩ (m_fails011 l dC dI cI cJ cZ cB m0 mH mL mB mP mR mA mW mU mV mM mT mQ mO mF mS mE mX mD (nI nz) rw mc ga gb kn H16.size ) (cwV 2 hG g_M_87 rfl rfl rfl (by decide +kernel) ⟨Nat.le_of_ble_eq_true rfl, Nat.le_of_ble_eq_true rfl⟩) ⟨PC.blind, va_recv hK hP (ci := 3) (q0 := 0) rfl rfl, PC.of hPc hK hDc hE hS hFc⟩ rfl rfl hl9.1 rfl (lv_room (Nat.le_of_ble_eq_true rfl)) d_M_set_79 ⟨by first | exact Nat.le_of_ble_eq_true rfl | omega, by first | exact Nat.le_of_ble_eq_true rfl | omega⟩) hS (fun q _ h => hFc q h) hFc (fun r20 u t H19 locs ht hvm hw hB hz1 hk1 hS => ?_)
            rw [ht] at hB
            obtain ⟨hP, hD⟩ := jset (wc := [(m0, .inr (3, [.int 0, .int (nI nz), .ref mH, .ref mL, .ref mB, .ref mP, .ref mR, .ref mA, .ref mW, .ref mU, .ref mV, .int rw, .ref mM, .ref mT, .int mc, .ref mQ, .int ga, .int gb, .int kn, .ref mO, .ref mF, .ref mS, .ref mE, .ref mX, .ref mD]))]) (w1 := [(m0, .inr (3, [.int 1, .int (nI nz), .ref mH, .ref mL, .ref mB, .ref mP, .ref mR, .ref mA, .ref mW, .ref mU, .ref mV, .int rw, .ref mM, .ref mT, .int mc, .ref mQ, .int ga, .int gb, .int kn, .ref mO, .ref mF, .ref mS, .ref mE, .ref mX, .ref mD]))]) [0] rfl rfl hP hD hk1 hB
            have hP : va_P (dC, dI) vwCl [(m0, .inr (3, [.int 1, .int (nI nz), .ref mH, .ref mL, .ref mB, .ref mP, .ref mR, .ref mA, .ref mW, .ref mU, .ref mV, .int rw, .ref mM, .ref mT, .int mc, .ref mQ, .int ga, .int gb, .int kn, .ref mO, .ref mF, .ref mS, .ref mE, .ref mX, .ref mD]))] H19 := hP
            have hD : va_D A [(m0, .inr (3, [.int 1, .int (nI nz), .ref mH, .ref mL, .ref mB, .ref mP, .ref mR, .ref mA, .ref mW, .ref mU, .ref mV, .int rw, .ref mM, .ref mT, .int mc, .ref mQ, .int ga, .int gb, .int kn, .ref mO, .ref mF, .ref mS, .ref mE, .ref mX, .ref mD]))] := hD
            have hw : r20 = 1 := hw
            subst hw
            refine lv_if_eq (tgt := 87) hx hb d_M_set_82 (by decide) (fun c21 => absurd c21 (by decide)) (fun c21 => ?_)
            refine lv_iconst (v := 0) hx hb d_M_set_85 (by decide) ?_
            exact W.iret (v := 0) hx hb hr (fun t ht hW => ⟨⟨0, (), rfl, trivial, by have h9 := hP; rw [← ht] at h9; exact h9⟩, hS.F ht⟩) hS.2.2 d_M_set_86
          · have hPc := hP.sub (ws' := [(m0, .inr (3, [.int 0, .int (nI nz), .ref mH, .ref mL, .ref mB, .ref mP, .ref mR, .ref mA, .ref mW, .ref mU, .ref mV, .int rw, .ref mM, .ref mT, .int mc, .ref mQ, .int ga, .int gb, .int kn, .ref mO, .ref mF, .ref mS, .ref mE, .ref mX, .ref mD]))]) [0] rfl
            have hDc := hD.sub (ws' := [(m0, .inr (3, [.int 0, .int (nI nz), .ref mH, .ref mL, .ref mB, .ref mP, .ref mR, .ref mA, .ref mW, .ref mU, .ref mV, .int rw, .ref mM, .ref mT, .int mc, .ref mQ, .int ga, .int gb, .int kn, .ref mO, .ref mF, .ref mS, .ref mE, .ref mX, .ref mD]))]) [0] (by decide) rfl
            have hFc := va_A_nil hA hS.1
            refine va_calli (va_runV (C := R_M) (As := [.int x]) (rest := [.ref m0]) ⟨hx, hb, hml, hown, hG⟩ (m_isZone l dC dI cI cJ cZ cB m0 mH mL mB mP mR mA mW mU mV mM mT mQ mO mF mS mE mX mD 0 (nI nz) rw mc ga gb kn x H14.size ) (cwV 1 hG g_M_95 rfl rfl rfl (by decide +kernel) ⟨Nat.le_of_ble_eq_true rfl, Nat.le_of_ble_eq_true rfl⟩) ⟨PC.blind, va_recv hK hP (ci := 3) (q0 := 0) rfl rfl, PC.of hPc hK hDc hE hS hFc⟩ rfl rfl hl9.1 rfl (lv_room (Nat.le_of_ble_eq_true rfl)) d_M_set_62 ⟨by first | exact Nat.le_of_ble_eq_true rfl | omega, by first | exact Nat.le_of_ble_eq_true rfl | omega⟩) hS (fun q _ h => hFc q h) hFc (fun r23 u t H22 locs ht hvm hw hB hz1 hk1 hS => ?_)
            have hP := wp_kept hP hk1
            have hw : r23 = if ¬ (x < 0 ∨ (nI nz) ≤ x) then 1 else 0 := hw
            subst hw
            rw [iz_1g hz]
            refine lv_if_eq (tgt := 73) hx hb d_M_set_65 (by decide) (fun c24 => absurd c24 (by decide)) (fun c24 => ?_)
            refine lv_iload hx hb d_M_set_68 (lv_at hl9 0 rfl) ?_
            refine lv_if_ne (tgt := 77) hx hb d_M_set_70 (by decide) (fun c25 => absurd c25 (by decide)) (fun c25 => ?_)
            refine lv_iconst (v := 1) hx hb d_M_set_73 (by decide) ?_
            refine lv_goto (tgt := 78) hx hb d_M_set_74 (by decide) ?_
            refine lv_iconst (v := 1) hx hb d_M_set_78 (by decide) ?_
            have hPc := hP.sub (ws' := [(m0, .inr (3, [.int 0, .int (nI nz), .ref mH, .ref mL, .ref mB, .ref mP, .ref mR, .ref mA, .ref mW, .ref mU, .ref mV, .int rw, .ref mM, .ref mT, .int mc, .ref mQ, .int ga, .int gb, .int kn, .ref mO, .ref mF, .ref mS, .ref mE, .ref mX, .ref mD]))]) [0] rfl
            have hDc := hD.sub (ws' := [(m0, .inr (3, [.int 0, .int (nI nz), .ref mH, .ref mL, .ref mB, .ref mP, .ref mR, .ref mA, .ref mW, .ref mU, .ref mV, .int rw, .ref mM, .ref mT, .int mc, .ref mQ, .int ga, .int gb, .int kn, .ref mO, .ref mF, .ref mS, .ref mE, .ref mX, .ref mD]))]) [0] (by decide) rfl
            have hFc := va_free (wc := [(m0, .inr (3, [.int 0, .int (nI nz), .ref mH, .ref mL, .ref mB, .ref mP, .ref mR, .ref mA, .ref mW, .ref mU, .ref mV, .int rw, .ref mM, .ref mT, .int mc, .ref mQ, .int ga, .int gb, .int kn, .ref mO, .ref mF, .ref mS, .ref mE, .ref mX, .ref mD]))]) hD hS hA [0] rfl
            refine va_calli (va_runV (C := R_M) (As := [.int 1, .int 1]) (rest := []) ⟨hx, hb, hml, hown, hG⟩ (m_fails011 l dC dI cI cJ cZ cB m0 mH mL mB mP mR mA mW mU mV mM mT mQ mO mF mS mE mX mD (nI nz) rw mc ga gb kn H22.size ) (cwV 2 hG g_M_87 rfl rfl rfl (by decide +kernel) ⟨Nat.le_of_ble_eq_true rfl, Nat.le_of_ble_eq_true rfl⟩) ⟨PC.blind, va_recv hK hP (ci := 3) (q0 := 0) rfl rfl, PC.of hPc hK hDc hE hS hFc⟩ rfl rfl hl9.1 rfl (lv_room (Nat.le_of_ble_eq_true rfl)) d_M_set_79 ⟨by first | exact Nat.le_of_ble_eq_true rfl | omega, by first | exact Nat.le_of_ble_eq_true rfl | omega⟩) hS (fun q _ h => hFc q h) hFc (fun r27 u t H26 locs ht hvm hw hB hz1 hk1 hS => ?_)
            rw [ht] at hB
            obtain ⟨hP, hD⟩ := jset (wc := [(m0, .inr (3, [.int 0, .int (nI nz), .ref mH, .ref mL, .ref mB, .ref mP, .ref mR, .ref mA, .ref mW, .ref mU, .ref mV, .int rw, .ref mM, .ref mT, .int mc, .ref mQ, .int ga, .int gb, .int kn, .ref mO, .ref mF, .ref mS, .ref mE, .ref mX, .ref mD]))]) (w1 := [(m0, .inr (3, [.int 1, .int (nI nz), .ref mH, .ref mL, .ref mB, .ref mP, .ref mR, .ref mA, .ref mW, .ref mU, .ref mV, .int rw, .ref mM, .ref mT, .int mc, .ref mQ, .int ga, .int gb, .int kn, .ref mO, .ref mF, .ref mS, .ref mE, .ref mX, .ref mD]))]) [0] rfl rfl hP hD hk1 hB
            have hP : va_P (dC, dI) vwCl [(m0, .inr (3, [.int 1, .int (nI nz), .ref mH, .ref mL, .ref mB, .ref mP, .ref mR, .ref mA, .ref mW, .ref mU, .ref mV, .int rw, .ref mM, .ref mT, .int mc, .ref mQ, .int ga, .int gb, .int kn, .ref mO, .ref mF, .ref mS, .ref mE, .ref mX, .ref mD]))] H26 := hP
            have hD : va_D A [(m0, .inr (3, [.int 1, .int (nI nz), .ref mH, .ref mL, .ref mB, .ref mP, .ref mR, .ref mA, .ref mW, .ref mU, .ref mV, .int rw, .ref mM, .ref mT, .int mc, .ref mQ, .int ga, .int gb, .int kn, .ref mO, .ref mF, .ref mS, .ref mE, .ref mX, .ref mD]))] := hD
            have hw : r27 = 1 := hw
            subst hw
            refine lv_if_eq (tgt := 87) hx hb d_M_set_82 (by decide) (fun c28 => absurd c28 (by decide)) (fun c28 => ?_)
            refine lv_iconst (v := 0) hx hb d_M_set_85 (by decide) ?_
            exact W.iret (v := 0) hx hb hr (fun t ht hW => ⟨⟨0, (), rfl, trivial, by have h9 := hP; rw [← ht] at h9; exact h9⟩, hS.F ht⟩) hS.2.2 d_M_set_86
        · have hPc := hP.sub (ws' := []) [] rfl
          have hDc := hD.sub (ws' := []) [] (by decide) rfl
          have hFc := va_A_nil hA hS.1
          refine va_calli (va_runS (As := [.int v, .int 0, .int 9]) (rest := []) ⟨hx, hb, hml, hown, hG⟩ (m_within l dC dI cI cJ cZ cB v 0 9 H.size ) (cwS 3 hG g_M_83 rfl rfl rfl (by decide +kernel) ⟨Nat.le_of_ble_eq_true rfl, Nat.le_of_ble_eq_true rfl⟩) ⟨PC.blind, PC.of hPc hK hDc hE hS hFc⟩ rfl rfl hl9.1 rfl (lv_room (Nat.le_of_ble_eq_true rfl)) d_M_set_46 ⟨by first | exact Nat.le_of_ble_eq_true rfl | omega, by first | exact Nat.le_of_ble_eq_true rfl | omega⟩) hS (fun q _ h => hFc q h) hFc (fun r30 u t H29 locs ht hvm hw hB hz1 hk1 hS => ?_)
          have hP := wp_kept hP hk1
          have hw : r30 = if ¬ (v < 0 ∨ 9 < v) then 1 else 0 := hw
          subst hw
          rw [wi_1 hv]
          refine lv_if_eq (tgt := 56) hx hb d_M_set_49 (by decide) (fun c8 => absurd c8 (by decide)) (fun c8 => ?_)
          refine lv_iconst (v := 1) hx hb d_M_set_52 (by decide) ?_
          refine lv_goto (tgt := 57) hx hb d_M_set_53 (by decide) ?_
          refine lv_istore (lv' := [(4, .int 1), (0, .ref m0), (1, .int x), (2, .int what), (3, .int v)]) hx hb d_M_set_57 hl9 (by decide) rfl (fun ls hl9 => ?_)
          refine lv_aload_n hx hb d_M_set_59 rfl (lv_at hl9 1 rfl) ?_
          refine lv_aload_n hx hb d_M_set_60 rfl (lv_at hl9 1 rfl) ?_
          refine lv_iload_n hx hb d_M_set_61 rfl (lv_at hl9 2 rfl) ?_
          by_cases hz : x < 0 ∨ nI nz ≤ x
          · have hPc := hP.sub (ws' := [(m0, .inr (3, [.int 0, .int (nI nz), .ref mH, .ref mL, .ref mB, .ref mP, .ref mR, .ref mA, .ref mW, .ref mU, .ref mV, .int rw, .ref mM, .ref mT, .int mc, .ref mQ, .int ga, .int gb, .int kn, .ref mO, .ref mF, .ref mS, .ref mE, .ref mX, .ref mD]))]) [0] rfl
            have hDc := hD.sub (ws' := [(m0, .inr (3, [.int 0, .int (nI nz), .ref mH, .ref mL, .ref mB, .ref mP, .ref mR, .ref mA, .ref mW, .ref mU, .ref mV, .int rw, .ref mM, .ref mT, .int mc, .ref mQ, .int ga, .int gb, .int kn, .ref mO, .ref mF, .ref mS, .ref mE, .ref mX, .ref mD]))]) [0] (by decide) rfl
            have hFc := va_A_nil hA hS.1
            refine va_calli (va_runV (C := R_M) (As := [.int x]) (rest := [.ref m0]) ⟨hx, hb, hml, hown, hG⟩ (m_isZone l dC dI cI cJ cZ cB m0 mH mL mB mP mR mA mW mU mV mM mT mQ mO mF mS mE mX mD 0 (nI nz) rw mc ga gb kn x H29.size ) (cwV 1 hG g_M_95 rfl rfl rfl (by decide +kernel) ⟨Nat.le_of_ble_eq_true rfl, Nat.le_of_ble_eq_true rfl⟩) ⟨PC.blind, va_recv hK hP (ci := 3) (q0 := 0) rfl rfl, PC.of hPc hK hDc hE hS hFc⟩ rfl rfl hl9.1 rfl (lv_room (Nat.le_of_ble_eq_true rfl)) d_M_set_62 ⟨by first | exact Nat.le_of_ble_eq_true rfl | omega, by first | exact Nat.le_of_ble_eq_true rfl | omega⟩) hS (fun q _ h => hFc q h) hFc (fun r32 u t H31 locs ht hvm hw hB hz1 hk1 hS => ?_)
            have hP := wp_kept hP hk1
            have hw : r32 = if ¬ (x < 0 ∨ (nI nz) ≤ x) then 1 else 0 := hw
            subst hw
            rw [iz_0 hz]
            refine lv_if_eq (tgt := 73) hx hb d_M_set_65 (by decide) (fun c33 => ?_) (fun c33 => absurd c33 (by decide))
            refine lv_iconst (v := 1) hx hb d_M_set_73 (by decide) ?_
            refine lv_goto (tgt := 78) hx hb d_M_set_74 (by decide) ?_
            refine lv_iconst (v := 1) hx hb d_M_set_78 (by decide) ?_
            have hPc := hP.sub (ws' := [(m0, .inr (3, [.int 0, .int (nI nz), .ref mH, .ref mL, .ref mB, .ref mP, .ref mR, .ref mA, .ref mW, .ref mU, .ref mV, .int rw, .ref mM, .ref mT, .int mc, .ref mQ, .int ga, .int gb, .int kn, .ref mO, .ref mF, .ref mS, .ref mE, .ref mX, .ref mD]))]) [0] rfl
            have hDc := hD.sub (ws' := [(m0, .inr (3, [.int 0, .int (nI nz), .ref mH, .ref mL, .ref mB, .ref mP, .ref mR, .ref mA, .ref mW, .ref mU, .ref mV, .int rw, .ref mM, .ref mT, .int mc, .ref mQ, .int ga, .int gb, .int kn, .ref mO, .ref mF, .ref mS, .ref mE, .ref mX, .ref mD]))]) [0] (by decide) rfl
            have hFc := va_free (wc := [(m0, .inr (3, [.int 0, .int (nI nz), .ref mH, .ref mL, .ref mB, .ref mP, .ref mR, .ref mA, .ref mW, .ref mU, .ref mV, .int rw, .ref mM, .ref mT, .int mc, .ref mQ, .int ga, .int gb, .int kn, .ref mO, .ref mF, .ref mS, .ref mE, .ref mX, .ref mD]))]) hD hS hA [0] rfl
            refine va_calli (va_runV (C := R_M) (As := [.int 1, .int 1]) (rest := []) ⟨hx, hb, hml, hown, hG⟩ (m_fails011 l dC dI cI cJ cZ cB m0 mH mL mB mP mR mA mW mU mV mM mT mQ mO mF mS mE mX mD (nI nz) rw mc ga gb kn H31.size ) (cwV 2 hG g_M_87 rfl rfl rfl (by decide +kernel) ⟨Nat.le_of_ble_eq_true rfl, Nat.le_of_ble_eq_true rfl⟩) ⟨PC.blind, va_recv hK hP (ci := 3) (q0 := 0) rfl rfl, PC.of hPc hK hDc hE hS hFc⟩ rfl rfl hl9.1 rfl (lv_room (Nat.le_of_ble_eq_true rfl)) d_M_set_79 ⟨by first | exact Nat.le_of_ble_eq_true rfl | omega, by first | exact Nat.le_of_ble_eq_true rfl | omega⟩) hS (fun q _ h => hFc q h) hFc (fun r35 u t H34 locs ht hvm hw hB hz1 hk1 hS => ?_)
            rw [ht] at hB
            obtain ⟨hP, hD⟩ := jset (wc := [(m0, .inr (3, [.int 0, .int (nI nz), .ref mH, .ref mL, .ref mB, .ref mP, .ref mR, .ref mA, .ref mW, .ref mU, .ref mV, .int rw, .ref mM, .ref mT, .int mc, .ref mQ, .int ga, .int gb, .int kn, .ref mO, .ref mF, .ref mS, .ref mE, .ref mX, .ref mD]))]) (w1 := [(m0, .inr (3, [.int 1, .int (nI nz), .ref mH, .ref mL, .ref mB, .ref mP, .ref mR, .ref mA, .ref mW, .ref mU, .ref mV, .int rw, .ref mM, .ref mT, .int mc, .ref mQ, .int ga, .int gb, .int kn, .ref mO, .ref mF, .ref mS, .ref mE, .ref mX, .ref mD]))]) [0] rfl rfl hP hD hk1 hB
            have hP : va_P (dC, dI) vwCl [(m0, .inr (3, [.int 1, .int (nI nz), .ref mH, .ref mL, .ref mB, .ref mP, .ref mR, .ref mA, .ref mW, .ref mU, .ref mV, .int rw, .ref mM, .ref mT, .int mc, .ref mQ, .int ga, .int gb, .int kn, .ref mO, .ref mF, .ref mS, .ref mE, .ref mX, .ref mD]))] H34 := hP
            have hD : va_D A [(m0, .inr (3, [.int 1, .int (nI nz), .ref mH, .ref mL, .ref mB, .ref mP, .ref mR, .ref mA, .ref mW, .ref mU, .ref mV, .int rw, .ref mM, .ref mT, .int mc, .ref mQ, .int ga, .int gb, .int kn, .ref mO, .ref mF, .ref mS, .ref mE, .ref mX, .ref mD]))] := hD
            have hw : r35 = 1 := hw
            subst hw
            refine lv_if_eq (tgt := 87) hx hb d_M_set_82 (by decide) (fun c36 => absurd c36 (by decide)) (fun c36 => ?_)
            refine lv_iconst (v := 0) hx hb d_M_set_85 (by decide) ?_
            exact W.iret (v := 0) hx hb hr (fun t ht hW => ⟨⟨0, (), rfl, trivial, by have h9 := hP; rw [← ht] at h9; exact h9⟩, hS.F ht⟩) hS.2.2 d_M_set_86
          · exact absurd (Or.inr (Or.inr ⟨c3, hv⟩)) (hbad.resolve_left hz)
    · refine lv_iload_n hx hb d_M_set_27 rfl (lv_at hl9 3 rfl) ?_
      refine lv_iconst (v := 0) hx hb d_M_set_28 (by decide) ?_
      refine lv_ldc (v := 100000) hx hb hown (hG _ k_439) d_M_set_29 ?_
      by_cases hv : v < 0 ∨ 100000 < v
      · have hPc := hP.sub (ws' := []) [] rfl
        have hDc := hD.sub (ws' := []) [] (by decide) rfl
        have hFc := va_A_nil hA hS.1
        refine va_calli (va_runS (As := [.int v, .int 0, .int 100000]) (rest := []) ⟨hx, hb, hml, hown, hG⟩ (m_within l dC dI cI cJ cZ cB v 0 100000 H.size ) (cwS 3 hG g_M_83 rfl rfl rfl (by decide +kernel) ⟨Nat.le_of_ble_eq_true rfl, Nat.le_of_ble_eq_true rfl⟩) ⟨PC.blind, PC.of hPc hK hDc hE hS hFc⟩ rfl rfl hl9.1 rfl (lv_room (Nat.le_of_ble_eq_true rfl)) d_M_set_31 ⟨by first | exact Nat.le_of_ble_eq_true rfl | omega, by first | exact Nat.le_of_ble_eq_true rfl | omega⟩) hS (fun q _ h => hFc q h) hFc (fun r38 u t H37 locs ht hvm hw hB hz1 hk1 hS => ?_)
        have hP := wp_kept hP hk1
        have hw : r38 = if ¬ (v < 0 ∨ 100000 < v) then 1 else 0 := hw
        subst hw
        rw [wi_0 hv]
        refine lv_if_ne (tgt := 52) hx hb d_M_set_34 (by decide) (fun c8 => absurd c8 (by decide)) (fun c8 => ?_)
        refine lv_iload_n hx hb d_M_set_37 rfl (lv_at hl9 2 rfl) ?_
        refine lv_iconst (v := 2) hx hb d_M_set_38 (by decide) ?_
        refine lv_icmp_ne (tgt := 56) hx hb d_M_set_39 (by decide) (fun c3 => ?_) (fun c3 => ?_)
        · refine lv_iconst (v := 0) hx hb d_M_set_56 (by decide) ?_
          refine lv_istore (lv' := [(4, .int 0), (0, .ref m0), (1, .int x), (2, .int what), (3, .int v)]) hx hb d_M_set_57 hl9 (by decide) rfl (fun ls hl9 => ?_)
          refine lv_aload_n hx hb d_M_set_59 rfl (lv_at hl9 1 rfl) ?_
          refine lv_aload_n hx hb d_M_set_60 rfl (lv_at hl9 1 rfl) ?_
          refine lv_iload_n hx hb d_M_set_61 rfl (lv_at hl9 2 rfl) ?_
          by_cases hz : x < 0 ∨ nI nz ≤ x
          · have hPc := hP.sub (ws' := [(m0, .inr (3, [.int 0, .int (nI nz), .ref mH, .ref mL, .ref mB, .ref mP, .ref mR, .ref mA, .ref mW, .ref mU, .ref mV, .int rw, .ref mM, .ref mT, .int mc, .ref mQ, .int ga, .int gb, .int kn, .ref mO, .ref mF, .ref mS, .ref mE, .ref mX, .ref mD]))]) [0] rfl
            have hDc := hD.sub (ws' := [(m0, .inr (3, [.int 0, .int (nI nz), .ref mH, .ref mL, .ref mB, .ref mP, .ref mR, .ref mA, .ref mW, .ref mU, .ref mV, .int rw, .ref mM, .ref mT, .int mc, .ref mQ, .int ga, .int gb, .int kn, .ref mO, .ref mF, .ref mS, .ref mE, .ref mX, .ref mD]))]) [0] (by decide) rfl
            have hFc := va_A_nil hA hS.1
            refine va_calli (va_runV (C := R_M) (As := [.int x]) (rest := [.ref m0]) ⟨hx, hb, hml, hown, hG⟩ (m_isZone l dC dI cI cJ cZ cB m0 mH mL mB mP mR mA mW mU mV mM mT mQ mO mF mS mE mX mD 0 (nI nz) rw mc ga gb kn x H37.size ) (cwV 1 hG g_M_95 rfl rfl rfl (by decide +kernel) ⟨Nat.le_of_ble_eq_true rfl, Nat.le_of_ble_eq_true rfl⟩) ⟨PC.blind, va_recv hK hP (ci := 3) (q0 := 0) rfl rfl, PC.of hPc hK hDc hE hS hFc⟩ rfl rfl hl9.1 rfl (lv_room (Nat.le_of_ble_eq_true rfl)) d_M_set_62 ⟨by first | exact Nat.le_of_ble_eq_true rfl | omega, by first | exact Nat.le_of_ble_eq_true rfl | omega⟩) hS (fun q _ h => hFc q h) hFc (fun r40 u t H39 locs ht hvm hw hB hz1 hk1 hS => ?_)
            have hP := wp_kept hP hk1
            have hw : r40 = if ¬ (x < 0 ∨ (nI nz) ≤ x) then 1 else 0 := hw
            subst hw
            rw [iz_0 hz]
            refine lv_if_eq (tgt := 73) hx hb d_M_set_65 (by decide) (fun c41 => ?_) (fun c41 => absurd c41 (by decide))
            refine lv_iconst (v := 1) hx hb d_M_set_73 (by decide) ?_
            refine lv_goto (tgt := 78) hx hb d_M_set_74 (by decide) ?_
            refine lv_iconst (v := 1) hx hb d_M_set_78 (by decide) ?_
            have hPc := hP.sub (ws' := [(m0, .inr (3, [.int 0, .int (nI nz), .ref mH, .ref mL, .ref mB, .ref mP, .ref mR, .ref mA, .ref mW, .ref mU, .ref mV, .int rw, .ref mM, .ref mT, .int mc, .ref mQ, .int ga, .int gb, .int kn, .ref mO, .ref mF, .ref mS, .ref mE, .ref mX, .ref mD]))]) [0] rfl
            have hDc := hD.sub (ws' := [(m0, .inr (3, [.int 0, .int (nI nz), .ref mH, .ref mL, .ref mB, .ref mP, .ref mR, .ref mA, .ref mW, .ref mU, .ref mV, .int rw, .ref mM, .ref mT, .int mc, .ref mQ, .int ga, .int gb, .int kn, .ref mO, .ref mF, .ref mS, .ref mE, .ref mX, .ref mD]))]) [0] (by decide) rfl
            have hFc := va_free (wc := [(m0, .inr (3, [.int 0, .int (nI nz), .ref mH, .ref mL, .ref mB, .ref mP, .ref mR, .ref mA, .ref mW, .ref mU, .ref mV, .int rw, .ref mM, .ref mT, .int mc, .ref mQ, .int ga, .int gb, .int kn, .ref mO, .ref mF, .ref mS, .ref mE, .ref mX, .ref mD]))]) hD hS hA [0] rfl
            refine va_calli (va_runV (C := R_M) (As := [.int 1, .int 1]) (rest := []) ⟨hx, hb, hml, hown, hG⟩ (m_fails011 l dC dI cI cJ cZ cB m0 mH mL mB mP mR mA mW mU mV mM mT mQ mO mF mS mE mX mD (nI nz) rw mc ga gb kn H39.size ) (cwV 2 hG g_M_87 rfl rfl rfl (by decide +kernel) ⟨Nat.le_of_ble_eq_true rfl, Nat.le_of_ble_eq_true rfl⟩) ⟨PC.blind, va_recv hK hP (ci := 3) (q0 := 0) rfl rfl, PC.of hPc hK hDc hE hS hFc⟩ rfl rfl hl9.1 rfl (lv_room (Nat.le_of_ble_eq_true rfl)) d_M_set_79 ⟨by first | exact Nat.le_of_ble_eq_true rfl | omega, by first | exact Nat.le_of_ble_eq_true rfl | omega⟩) hS (fun q _ h => hFc q h) hFc (fun r43 u t H42 locs ht hvm hw hB hz1 hk1 hS => ?_)
            rw [ht] at hB
            obtain ⟨hP, hD⟩ := jset (wc := [(m0, .inr (3, [.int 0, .int (nI nz), .ref mH, .ref mL, .ref mB, .ref mP, .ref mR, .ref mA, .ref mW, .ref mU, .ref mV, .int rw, .ref mM, .ref mT, .int mc, .ref mQ, .int ga, .int gb, .int kn, .ref mO, .ref mF, .ref mS, .ref mE, .ref mX, .ref mD]))]) (w1 := [(m0, .inr (3, [.int 1, .int (nI nz), .ref mH, .ref mL, .ref mB, .ref mP, .ref mR, .ref mA, .ref mW, .ref mU, .ref mV, .int rw, .ref mM, .ref mT, .int mc, .ref mQ, .int ga, .int gb, .int kn, .ref mO, .ref mF, .ref mS, .ref mE, .ref mX, .ref mD]))]) [0] rfl rfl hP hD hk1 hB
            have hP : va_P (dC, dI) vwCl [(m0, .inr (3, [.int 1, .int (nI nz), .ref mH, .ref mL, .ref mB, .ref mP, .ref mR, .ref mA, .ref mW, .ref mU, .ref mV, .int rw, .ref mM, .ref mT, .int mc, .ref mQ, .int ga, .int gb, .int kn, .ref mO, .ref mF, .ref mS, .ref mE, .ref mX, .ref mD]))] H42 := hP
            have hD : va_D A [(m0, .inr (3, [.int 1, .int (nI nz), .ref mH, .ref mL, .ref mB, .ref mP, .ref mR, .ref mA, .ref mW, .ref mU, .ref mV, .int rw, .ref mM, .ref mT, .int mc, .ref mQ, .int ga, .int gb, .int kn, .ref mO, .ref mF, .ref mS, .ref mE, .ref mX, .ref mD]))] := hD
            have hw : r43 = 1 := hw
            subst hw
            refine lv_if_eq (tgt := 87) hx hb d_M_set_82 (by decide) (fun c44 => absurd c44 (by decide)) (fun c44 => ?_)
            refine lv_iconst (v := 0) hx hb d_M_set_85 (by decide) ?_
            exact W.iret (v := 0) hx hb hr (fun t ht hW => ⟨⟨0, (), rfl, trivial, by have h9 := hP; rw [← ht] at h9; exact h9⟩, hS.F ht⟩) hS.2.2 d_M_set_86
          · have hPc := hP.sub (ws' := [(m0, .inr (3, [.int 0, .int (nI nz), .ref mH, .ref mL, .ref mB, .ref mP, .ref mR, .ref mA, .ref mW, .ref mU, .ref mV, .int rw, .ref mM, .ref mT, .int mc, .ref mQ, .int ga, .int gb, .int kn, .ref mO, .ref mF, .ref mS, .ref mE, .ref mX, .ref mD]))]) [0] rfl
            have hDc := hD.sub (ws' := [(m0, .inr (3, [.int 0, .int (nI nz), .ref mH, .ref mL, .ref mB, .ref mP, .ref mR, .ref mA, .ref mW, .ref mU, .ref mV, .int rw, .ref mM, .ref mT, .int mc, .ref mQ, .int ga, .int gb, .int kn, .ref mO, .ref mF, .ref mS, .ref mE, .ref mX, .ref mD]))]) [0] (by decide) rfl
            have hFc := va_A_nil hA hS.1
            refine va_calli (va_runV (C := R_M) (As := [.int x]) (rest := [.ref m0]) ⟨hx, hb, hml, hown, hG⟩ (m_isZone l dC dI cI cJ cZ cB m0 mH mL mB mP mR mA mW mU mV mM mT mQ mO mF mS mE mX mD 0 (nI nz) rw mc ga gb kn x H37.size ) (cwV 1 hG g_M_95 rfl rfl rfl (by decide +kernel) ⟨Nat.le_of_ble_eq_true rfl, Nat.le_of_ble_eq_true rfl⟩) ⟨PC.blind, va_recv hK hP (ci := 3) (q0 := 0) rfl rfl, PC.of hPc hK hDc hE hS hFc⟩ rfl rfl hl9.1 rfl (lv_room (Nat.le_of_ble_eq_true rfl)) d_M_set_62 ⟨by first | exact Nat.le_of_ble_eq_true rfl | omega, by first | exact Nat.le_of_ble_eq_true rfl | omega⟩) hS (fun q _ h => hFc q h) hFc (fun r46 u t H45 locs ht hvm hw hB hz1 hk1 hS => ?_)
            have hP := wp_kept hP hk1
            have hw : r46 = if ¬ (x < 0 ∨ (nI nz) ≤ x) then 1 else 0 := hw
            subst hw
            rw [iz_1g hz]
            refine lv_if_eq (tgt := 73) hx hb d_M_set_65 (by decide) (fun c47 => absurd c47 (by decide)) (fun c47 => ?_)
            refine lv_iload hx hb d_M_set_68 (lv_at hl9 0 rfl) ?_
            refine lv_if_ne (tgt := 77) hx hb d_M_set_70 (by decide) (fun c48 => absurd c48 (by decide)) (fun c48 => ?_)
            refine lv_iconst (v := 1) hx hb d_M_set_73 (by decide) ?_
            refine lv_goto (tgt := 78) hx hb d_M_set_74 (by decide) ?_
            refine lv_iconst (v := 1) hx hb d_M_set_78 (by decide) ?_
            have hPc := hP.sub (ws' := [(m0, .inr (3, [.int 0, .int (nI nz), .ref mH, .ref mL, .ref mB, .ref mP, .ref mR, .ref mA, .ref mW, .ref mU, .ref mV, .int rw, .ref mM, .ref mT, .int mc, .ref mQ, .int ga, .int gb, .int kn, .ref mO, .ref mF, .ref mS, .ref mE, .ref mX, .ref mD]))]) [0] rfl
            have hDc := hD.sub (ws' := [(m0, .inr (3, [.int 0, .int (nI nz), .ref mH, .ref mL, .ref mB, .ref mP, .ref mR, .ref mA, .ref mW, .ref mU, .ref mV, .int rw, .ref mM, .ref mT, .int mc, .ref mQ, .int ga, .int gb, .int kn, .ref mO, .ref mF, .ref mS, .ref mE, .ref mX, .ref mD]))]) [0] (by decide) rfl
            have hFc := va_free (wc := [(m0, .inr (3, [.int 0, .int (nI nz), .ref mH, .ref mL, .ref mB, .ref mP, .ref mR, .ref mA, .ref mW, .ref mU, .ref mV, .int rw, .ref mM, .ref mT, .int mc, .ref mQ, .int ga, .int gb, .int kn, .ref mO, .ref mF, .ref mS, .ref mE, .ref mX, .ref mD]))]) hD hS hA [0] rfl
            refine va_calli (va_runV (C := R_M) (As := [.int 1, .int 1]) (rest := []) ⟨hx, hb, hml, hown, hG⟩ (m_fails011 l dC dI cI cJ cZ cB m0 mH mL mB mP mR mA mW mU mV mM mT mQ mO mF mS mE mX mD (nI nz) rw mc ga gb kn H45.size ) (cwV 2 hG g_M_87 rfl rfl rfl (by decide +kernel) ⟨Nat.le_of_ble_eq_true rfl, Nat.le_of_ble_eq_true rfl⟩) ⟨PC.blind, va_recv hK hP (ci := 3) (q0 := 0) rfl rfl, PC.of hPc hK hDc hE hS hFc⟩ rfl rfl hl9.1 rfl (lv_room (Nat.le_of_ble_eq_true rfl)) d_M_set_79 ⟨by first | exact Nat.le_of_ble_eq_true rfl | omega, by first | exact Nat.le_of_ble_eq_true rfl | omega⟩) hS (fun q _ h => hFc q h) hFc (fun r50 u t H49 locs ht hvm hw hB hz1 hk1 hS => ?_)
            rw [ht] at hB
            obtain ⟨hP, hD⟩ := jset (wc := [(m0, .inr (3, [.int 0, .int (nI nz), .ref mH, .ref mL, .ref mB, .ref mP, .ref mR, .ref mA, .ref mW, .ref mU, .ref mV, .int rw, .ref mM, .ref mT, .int mc, .ref mQ, .int ga, .int gb, .int kn, .ref mO, .ref mF, .ref mS, .ref mE, .ref mX, .ref mD]))]) (w1 := [(m0, .inr (3, [.int 1, .int (nI nz), .ref mH, .ref mL, .ref mB, .ref mP, .ref mR, .ref mA, .ref mW, .ref mU, .ref mV, .int rw, .ref mM, .ref mT, .int mc, .ref mQ, .int ga, .int gb, .int kn, .ref mO, .ref mF, .ref mS, .ref mE, .ref mX, .ref mD]))]) [0] rfl rfl hP hD hk1 hB
            have hP : va_P (dC, dI) vwCl [(m0, .inr (3, [.int 1, .int (nI nz), .ref mH, .ref mL, .ref mB, .ref mP, .ref mR, .ref mA, .ref mW, .ref mU, .ref mV, .int rw, .ref mM, .ref mT, .int mc, .ref mQ, .int ga, .int gb, .int kn, .ref mO, .ref mF, .ref mS, .ref mE, .ref mX, .ref mD]))] H49 := hP
            have hD : va_D A [(m0, .inr (3, [.int 1, .int (nI nz), .ref mH, .ref mL, .ref mB, .ref mP, .ref mR, .ref mA, .ref mW, .ref mU, .ref mV, .int rw, .ref mM, .ref mT, .int mc, .ref mQ, .int ga, .int gb, .int kn, .ref mO, .ref mF, .ref mS, .ref mE, .ref mX, .ref mD]))] := hD
            have hw : r50 = 1 := hw
            subst hw
            refine lv_if_eq (tgt := 87) hx hb d_M_set_82 (by decide) (fun c51 => absurd c51 (by decide)) (fun c51 => ?_)
            refine lv_iconst (v := 0) hx hb d_M_set_85 (by decide) ?_
            exact W.iret (v := 0) hx hb hr (fun t ht hW => ⟨⟨0, (), rfl, trivial, by have h9 := hP; rw [← ht] at h9; exact h9⟩, hS.F ht⟩) hS.2.2 d_M_set_86
        · refine lv_iload_n hx hb d_M_set_42 rfl (lv_at hl9 3 rfl) ?_
          refine lv_iconst (v := 0) hx hb d_M_set_43 (by decide) ?_
          refine lv_bipush (v := 9) hx hb d_M_set_44 (by decide) ?_
          by_cases hv : v < 0 ∨ 9 < v
          · have hPc := hP.sub (ws' := []) [] rfl
            have hDc := hD.sub (ws' := []) [] (by decide) rfl
            have hFc := va_A_nil hA hS.1
            refine va_calli (va_runS (As := [.int v, .int 0, .int 9]) (rest := []) ⟨hx, hb, hml, hown, hG⟩ (m_within l dC dI cI cJ cZ cB v 0 9 H37.size ) (cwS 3 hG g_M_83 rfl rfl rfl (by decide +kernel) ⟨Nat.le_of_ble_eq_true rfl, Nat.le_of_ble_eq_true rfl⟩) ⟨PC.blind, PC.of hPc hK hDc hE hS hFc⟩ rfl rfl hl9.1 rfl (lv_room (Nat.le_of_ble_eq_true rfl)) d_M_set_46 ⟨by first | exact Nat.le_of_ble_eq_true rfl | omega, by first | exact Nat.le_of_ble_eq_true rfl | omega⟩) hS (fun q _ h => hFc q h) hFc (fun r53 u t H52 locs ht hvm hw hB hz1 hk1 hS => ?_)
            have hP := wp_kept hP hk1
            have hw : r53 = if ¬ (v < 0 ∨ 9 < v) then 1 else 0 := hw
            subst hw
            rw [wi_0 hv]
            refine lv_if_eq (tgt := 56) hx hb d_M_set_49 (by decide) (fun c8 => ?_) (fun c8 => absurd c8 (by decide))
            refine lv_iconst (v := 0) hx hb d_M_set_56 (by decide) ?_
            refine lv_istore (lv' := [(4, .int 0), (0, .ref m0), (1, .int x), (2, .int what), (3, .int v)]) hx hb d_M_set_57 hl9 (by decide) rfl (fun ls hl9 => ?_)
            refine lv_aload_n hx hb d_M_set_59 rfl (lv_at hl9 1 rfl) ?_
            refine lv_aload_n hx hb d_M_set_60 rfl (lv_at hl9 1 rfl) ?_
            refine lv_iload_n hx hb d_M_set_61 rfl (lv_at hl9 2 rfl) ?_
            by_cases hz : x < 0 ∨ nI nz ≤ x
            · have hPc := hP.sub (ws' := [(m0, .inr (3, [.int 0, .int (nI nz), .ref mH, .ref mL, .ref mB, .ref mP, .ref mR, .ref mA, .ref mW, .ref mU, .ref mV, .int rw, .ref mM, .ref mT, .int mc, .ref mQ, .int ga, .int gb, .int kn, .ref mO, .ref mF, .ref mS, .ref mE, .ref mX, .ref mD]))]) [0] rfl
              have hDc := hD.sub (ws' := [(m0, .inr (3, [.int 0, .int (nI nz), .ref mH, .ref mL, .ref mB, .ref mP, .ref mR, .ref mA, .ref mW, .ref mU, .ref mV, .int rw, .ref mM, .ref mT, .int mc, .ref mQ, .int ga, .int gb, .int kn, .ref mO, .ref mF, .ref mS, .ref mE, .ref mX, .ref mD]))]) [0] (by decide) rfl
              have hFc := va_A_nil hA hS.1
              refine va_calli (va_runV (C := R_M) (As := [.int x]) (rest := [.ref m0]) ⟨hx, hb, hml, hown, hG⟩ (m_isZone l dC dI cI cJ cZ cB m0 mH mL mB mP mR mA mW mU mV mM mT mQ mO mF mS mE mX mD 0 (nI nz) rw mc ga gb kn x H52.size ) (cwV 1 hG g_M_95 rfl rfl rfl (by decide +kernel) ⟨Nat.le_of_ble_eq_true rfl, Nat.le_of_ble_eq_true rfl⟩) ⟨PC.blind, va_recv hK hP (ci := 3) (q0 := 0) rfl rfl, PC.of hPc hK hDc hE hS hFc⟩ rfl rfl hl9.1 rfl (lv_room (Nat.le_of_ble_eq_true rfl)) d_M_set_62 ⟨by first | exact Nat.le_of_ble_eq_true rfl | omega, by first | exact Nat.le_of_ble_eq_true rfl | omega⟩) hS (fun q _ h => hFc q h) hFc (fun r55 u t H54 locs ht hvm hw hB hz1 hk1 hS => ?_)
              have hP := wp_kept hP hk1
              have hw : r55 = if ¬ (x < 0 ∨ (nI nz) ≤ x) then 1 else 0 := hw
              subst hw
              rw [iz_0 hz]
              refine lv_if_eq (tgt := 73) hx hb d_M_set_65 (by decide) (fun c56 => ?_) (fun c56 => absurd c56 (by decide))
              refine lv_iconst (v := 1) hx hb d_M_set_73 (by decide) ?_
              refine lv_goto (tgt := 78) hx hb d_M_set_74 (by decide) ?_
              refine lv_iconst (v := 1) hx hb d_M_set_78 (by decide) ?_
              have hPc := hP.sub (ws' := [(m0, .inr (3, [.int 0, .int (nI nz), .ref mH, .ref mL, .ref mB, .ref mP, .ref mR, .ref mA, .ref mW, .ref mU, .ref mV, .int rw, .ref mM, .ref mT, .int mc, .ref mQ, .int ga, .int gb, .int kn, .ref mO, .ref mF, .ref mS, .ref mE, .ref mX, .ref mD]))]) [0] rfl
              have hDc := hD.sub (ws' := [(m0, .inr (3, [.int 0, .int (nI nz), .ref mH, .ref mL, .ref mB, .ref mP, .ref mR, .ref mA, .ref mW, .ref mU, .ref mV, .int rw, .ref mM, .ref mT, .int mc, .ref mQ, .int ga, .int gb, .int kn, .ref mO, .ref mF, .ref mS, .ref mE, .ref mX, .ref mD]))]) [0] (by decide) rfl
              have hFc := va_free (wc := [(m0, .inr (3, [.int 0, .int (nI nz), .ref mH, .ref mL, .ref mB, .ref mP, .ref mR, .ref mA, .ref mW, .ref mU, .ref mV, .int rw, .ref mM, .ref mT, .int mc, .ref mQ, .int ga, .int gb, .int kn, .ref mO, .ref mF, .ref mS, .ref mE, .ref mX, .ref mD]))]) hD hS hA [0] rfl
              refine va_calli (va_runV (C := R_M) (As := [.int 1, .int 1]) (rest := []) ⟨hx, hb, hml, hown, hG⟩ (m_fails011 l dC dI cI cJ cZ cB m0 mH mL mB mP mR mA mW mU mV mM mT mQ mO mF mS mE mX mD (nI nz) rw mc ga gb kn H54.size ) (cwV 2 hG g_M_87 rfl rfl rfl (by decide +kernel) ⟨Nat.le_of_ble_eq_true rfl, Nat.le_of_ble_eq_true rfl⟩) ⟨PC.blind, va_recv hK hP (ci := 3) (q0 := 0) rfl rfl, PC.of hPc hK hDc hE hS hFc⟩ rfl rfl hl9.1 rfl (lv_room (Nat.le_of_ble_eq_true rfl)) d_M_set_79 ⟨by first | exact Nat.le_of_ble_eq_true rfl | omega, by first | exact Nat.le_of_ble_eq_true rfl | omega⟩) hS (fun q _ h => hFc q h) hFc (fun r58 u t H57 locs ht hvm hw hB hz1 hk1 hS => ?_)
              rw [ht] at hB
              obtain ⟨hP, hD⟩ := jset (wc := [(m0, .inr (3, [.int 0, .int (nI nz), .ref mH, .ref mL, .ref mB, .ref mP, .ref mR, .ref mA, .ref mW, .ref mU, .ref mV, .int rw, .ref mM, .ref mT, .int mc, .ref mQ, .int ga, .int gb, .int kn, .ref mO, .ref mF, .ref mS, .ref mE, .ref mX, .ref mD]))]) (w1 := [(m0, .inr (3, [.int 1, .int (nI nz), .ref mH, .ref mL, .ref mB, .ref mP, .ref mR, .ref mA, .ref mW, .ref mU, .ref mV, .int rw, .ref mM, .ref mT, .int mc, .ref mQ, .int ga, .int gb, .int kn, .ref mO, .ref mF, .ref mS, .ref mE, .ref mX, .ref mD]))]) [0] rfl rfl hP hD hk1 hB
              have hP : va_P (dC, dI) vwCl [(m0, .inr (3, [.int 1, .int (nI nz), .ref mH, .ref mL, .ref mB, .ref mP, .ref mR, .ref mA, .ref mW, .ref mU, .ref mV, .int rw, .ref mM, .ref mT, .int mc, .ref mQ, .int ga, .int gb, .int kn, .ref mO, .ref mF, .ref mS, .ref mE, .ref mX, .ref mD]))] H57 := hP
              have hD : va_D A [(m0, .inr (3, [.int 1, .int (nI nz), .ref mH, .ref mL, .ref mB, .ref mP, .ref mR, .ref mA, .ref mW, .ref mU, .ref mV, .int rw, .ref mM, .ref mT, .int mc, .ref mQ, .int ga, .int gb, .int kn, .ref mO, .ref mF, .ref mS, .ref mE, .ref mX, .ref mD]))] := hD
              have hw : r58 = 1 := hw
              subst hw
              refine lv_if_eq (tgt := 87) hx hb d_M_set_82 (by decide) (fun c59 => absurd c59 (by decide)) (fun c59 => ?_)
              refine lv_iconst (v := 0) hx hb d_M_set_85 (by decide) ?_
              exact W.iret (v := 0) hx hb hr (fun t ht hW => ⟨⟨0, (), rfl, trivial, by have h9 := hP; rw [← ht] at h9; exact h9⟩, hS.F ht⟩) hS.2.2 d_M_set_86
            · have hPc := hP.sub (ws' := [(m0, .inr (3, [.int 0, .int (nI nz), .ref mH, .ref mL, .ref mB, .ref mP, .ref mR, .ref mA, .ref mW, .ref mU, .ref mV, .int rw, .ref mM, .ref mT, .int mc, .ref mQ, .int ga, .int gb, .int kn, .ref mO, .ref mF, .ref mS, .ref mE, .ref mX, .ref mD]))]) [0] rfl
              have hDc := hD.sub (ws' := [(m0, .inr (3, [.int 0, .int (nI nz), .ref mH, .ref mL, .ref mB, .ref mP, .ref mR, .ref mA, .ref mW, .ref mU, .ref mV, .int rw, .ref mM, .ref mT, .int mc, .ref mQ, .int ga, .int gb, .int kn, .ref mO, .ref mF, .ref mS, .ref mE, .ref mX, .ref mD]))]) [0] (by decide) rfl
              have hFc := va_A_nil hA hS.1
              refine va_calli (va_runV (C := R_M) (As := [.int x]) (rest := [.ref m0]) ⟨hx, hb, hml, hown, hG⟩ (m_isZone l dC dI cI cJ cZ cB m0 mH mL mB mP mR mA mW mU mV mM mT mQ mO mF mS mE mX mD 0 (nI nz) rw mc ga gb kn x H52.size ) (cwV 1 hG g_M_95 rfl rfl rfl (by decide +kernel) ⟨Nat.le_of_ble_eq_true rfl, Nat.le_of_ble_eq_true rfl⟩) ⟨PC.blind, va_recv hK hP (ci := 3) (q0 := 0) rfl rfl, PC.of hPc hK hDc hE hS hFc⟩ rfl rfl hl9.1 rfl (lv_room (Nat.le_of_ble_eq_true rfl)) d_M_set_62 ⟨by first | exact Nat.le_of_ble_eq_true rfl | omega, by first | exact Nat.le_of_ble_eq_true rfl | omega⟩) hS (fun q _ h => hFc q h) hFc (fun r61 u t H60 locs ht hvm hw hB hz1 hk1 hS => ?_)
              have hP := wp_kept hP hk1
              have hw : r61 = if ¬ (x < 0 ∨ (nI nz) ≤ x) then 1 else 0 := hw
              subst hw
              rw [iz_1g hz]
              refine lv_if_eq (tgt := 73) hx hb d_M_set_65 (by decide) (fun c62 => absurd c62 (by decide)) (fun c62 => ?_)
              refine lv_iload hx hb d_M_set_68 (lv_at hl9 0 rfl) ?_
              refine lv_if_ne (tgt := 77) hx hb d_M_set_70 (by decide) (fun c63 => absurd c63 (by decide)) (fun c63 => ?_)
              refine lv_iconst (v := 1) hx hb d_M_set_73 (by decide) ?_
              refine lv_goto (tgt := 78) hx hb d_M_set_74 (by decide) ?_
              refine lv_iconst (v := 1) hx hb d_M_set_78 (by decide) ?_
              have hPc := hP.sub (ws' := [(m0, .inr (3, [.int 0, .int (nI nz), .ref mH, .ref mL, .ref mB, .ref mP, .ref mR, .ref mA, .ref mW, .ref mU, .ref mV, .int rw, .ref mM, .ref mT, .int mc, .ref mQ, .int ga, .int gb, .int kn, .ref mO, .ref mF, .ref mS, .ref mE, .ref mX, .ref mD]))]) [0] rfl
              have hDc := hD.sub (ws' := [(m0, .inr (3, [.int 0, .int (nI nz), .ref mH, .ref mL, .ref mB, .ref mP, .ref mR, .ref mA, .ref mW, .ref mU, .ref mV, .int rw, .ref mM, .ref mT, .int mc, .ref mQ, .int ga, .int gb, .int kn, .ref mO, .ref mF, .ref mS, .ref mE, .ref mX, .ref mD]))]) [0] (by decide) rfl
              have hFc := va_free (wc := [(m0, .inr (3, [.int 0, .int (nI nz), .ref mH, .ref mL, .ref mB, .ref mP, .ref mR, .ref mA, .ref mW, .ref mU, .ref mV, .int rw, .ref mM, .ref mT, .int mc, .ref mQ, .int ga, .int gb, .int kn, .ref mO, .ref mF, .ref mS, .ref mE, .ref mX, .ref mD]))]) hD hS hA [0] rfl
              refine va_calli (va_runV (C := R_M) (As := [.int 1, .int 1]) (rest := []) ⟨hx, hb, hml, hown, hG⟩ (m_fails011 l dC dI cI cJ cZ cB m0 mH mL mB mP mR mA mW mU mV mM mT mQ mO mF mS mE mX mD (nI nz) rw mc ga gb kn H60.size ) (cwV 2 hG g_M_87 rfl rfl rfl (by decide +kernel) ⟨Nat.le_of_ble_eq_true rfl, Nat.le_of_ble_eq_true rfl⟩) ⟨PC.blind, va_recv hK hP (ci := 3) (q0 := 0) rfl rfl, PC.of hPc hK hDc hE hS hFc⟩ rfl rfl hl9.1 rfl (lv_room (Nat.le_of_ble_eq_true rfl)) d_M_set_79 ⟨by first | exact Nat.le_of_ble_eq_true rfl | omega, by first | exact Nat.le_of_ble_eq_true rfl | omega⟩) hS (fun q _ h => hFc q h) hFc (fun r65 u t H64 locs ht hvm hw hB hz1 hk1 hS => ?_)
              rw [ht] at hB
              obtain ⟨hP, hD⟩ := jset (wc := [(m0, .inr (3, [.int 0, .int (nI nz), .ref mH, .ref mL, .ref mB, .ref mP, .ref mR, .ref mA, .ref mW, .ref mU, .ref mV, .int rw, .ref mM, .ref mT, .int mc, .ref mQ, .int ga, .int gb, .int kn, .ref mO, .ref mF, .ref mS, .ref mE, .ref mX, .ref mD]))]) (w1 := [(m0, .inr (3, [.int 1, .int (nI nz), .ref mH, .ref mL, .ref mB, .ref mP, .ref mR, .ref mA, .ref mW, .ref mU, .ref mV, .int rw, .ref mM, .ref mT, .int mc, .ref mQ, .int ga, .int gb, .int kn, .ref mO, .ref mF, .ref mS, .ref mE, .ref mX, .ref mD]))]) [0] rfl rfl hP hD hk1 hB
              have hP : va_P (dC, dI) vwCl [(m0, .inr (3, [.int 1, .int (nI nz), .ref mH, .ref mL, .ref mB, .ref mP, .ref mR, .ref mA, .ref mW, .ref mU, .ref mV, .int rw, .ref mM, .ref mT, .int mc, .ref mQ, .int ga, .int gb, .int kn, .ref mO, .ref mF, .ref mS, .ref mE, .ref mX, .ref mD]))] H64 := hP
              have hD : va_D A [(m0, .inr (3, [.int 1, .int (nI nz), .ref mH, .ref mL, .ref mB, .ref mP, .ref mR, .ref mA, .ref mW, .ref mU, .ref mV, .int rw, .ref mM, .ref mT, .int mc, .ref mQ, .int ga, .int gb, .int kn, .ref mO, .ref mF, .ref mS, .ref mE, .ref mX, .ref mD]))] := hD
              have hw : r65 = 1 := hw
              subst hw
              refine lv_if_eq (tgt := 87) hx hb d_M_set_82 (by decide) (fun c66 => absurd c66 (by decide)) (fun c66 => ?_)
              refine lv_iconst (v := 0) hx hb d_M_set_85 (by decide) ?_
              exact W.iret (v := 0) hx hb hr (fun t ht hW => ⟨⟨0, (), rfl, trivial, by have h9 := hP; rw [← ht] at h9; exact h9⟩, hS.F ht⟩) hS.2.2 d_M_set_86
          · have hPc := hP.sub (ws' := []) [] rfl
            have hDc := hD.sub (ws' := []) [] (by decide) rfl
            have hFc := va_A_nil hA hS.1
            refine va_calli (va_runS (As := [.int v, .int 0, .int 9]) (rest := []) ⟨hx, hb, hml, hown, hG⟩ (m_within l dC dI cI cJ cZ cB v 0 9 H37.size ) (cwS 3 hG g_M_83 rfl rfl rfl (by decide +kernel) ⟨Nat.le_of_ble_eq_true rfl, Nat.le_of_ble_eq_true rfl⟩) ⟨PC.blind, PC.of hPc hK hDc hE hS hFc⟩ rfl rfl hl9.1 rfl (lv_room (Nat.le_of_ble_eq_true rfl)) d_M_set_46 ⟨by first | exact Nat.le_of_ble_eq_true rfl | omega, by first | exact Nat.le_of_ble_eq_true rfl | omega⟩) hS (fun q _ h => hFc q h) hFc (fun r68 u t H67 locs ht hvm hw hB hz1 hk1 hS => ?_)
            have hP := wp_kept hP hk1
            have hw : r68 = if ¬ (v < 0 ∨ 9 < v) then 1 else 0 := hw
            subst hw
            rw [wi_1 hv]
            refine lv_if_eq (tgt := 56) hx hb d_M_set_49 (by decide) (fun c8 => absurd c8 (by decide)) (fun c8 => ?_)
            refine lv_iconst (v := 1) hx hb d_M_set_52 (by decide) ?_
            refine lv_goto (tgt := 57) hx hb d_M_set_53 (by decide) ?_
            refine lv_istore (lv' := [(4, .int 1), (0, .ref m0), (1, .int x), (2, .int what), (3, .int v)]) hx hb d_M_set_57 hl9 (by decide) rfl (fun ls hl9 => ?_)
            refine lv_aload_n hx hb d_M_set_59 rfl (lv_at hl9 1 rfl) ?_
            refine lv_aload_n hx hb d_M_set_60 rfl (lv_at hl9 1 rfl) ?_
            refine lv_iload_n hx hb d_M_set_61 rfl (lv_at hl9 2 rfl) ?_
            by_cases hz : x < 0 ∨ nI nz ≤ x
            · have hPc := hP.sub (ws' := [(m0, .inr (3, [.int 0, .int (nI nz), .ref mH, .ref mL, .ref mB, .ref mP, .ref mR, .ref mA, .ref mW, .ref mU, .ref mV, .int rw, .ref mM, .ref mT, .int mc, .ref mQ, .int ga, .int gb, .int kn, .ref mO, .ref mF, .ref mS, .ref mE, .ref mX, .ref mD]))]) [0] rfl
              have hDc := hD.sub (ws' := [(m0, .inr (3, [.int 0, .int (nI nz), .ref mH, .ref mL, .ref mB, .ref mP, .ref mR, .ref mA, .ref mW, .ref mU, .ref mV, .int rw, .ref mM, .ref mT, .int mc, .ref mQ, .int ga, .int gb, .int kn, .ref mO, .ref mF, .ref mS, .ref mE, .ref mX, .ref mD]))]) [0] (by decide) rfl
              have hFc := va_A_nil hA hS.1
              refine va_calli (va_runV (C := R_M) (As := [.int x]) (rest := [.ref m0]) ⟨hx, hb, hml, hown, hG⟩ (m_isZone l dC dI cI cJ cZ cB m0 mH mL mB mP mR mA mW mU mV mM mT mQ mO mF mS mE mX mD 0 (nI nz) rw mc ga gb kn x H67.size ) (cwV 1 hG g_M_95 rfl rfl rfl (by decide +kernel) ⟨Nat.le_of_ble_eq_true rfl, Nat.le_of_ble_eq_true rfl⟩) ⟨PC.blind, va_recv hK hP (ci := 3) (q0 := 0) rfl rfl, PC.of hPc hK hDc hE hS hFc⟩ rfl rfl hl9.1 rfl (lv_room (Nat.le_of_ble_eq_true rfl)) d_M_set_62 ⟨by first | exact Nat.le_of_ble_eq_true rfl | omega, by first | exact Nat.le_of_ble_eq_true rfl | omega⟩) hS (fun q _ h => hFc q h) hFc (fun r70 u t H69 locs ht hvm hw hB hz1 hk1 hS => ?_)
              have hP := wp_kept hP hk1
              have hw : r70 = if ¬ (x < 0 ∨ (nI nz) ≤ x) then 1 else 0 := hw
              subst hw
              rw [iz_0 hz]
              refine lv_if_eq (tgt := 73) hx hb d_M_set_65 (by decide) (fun c71 => ?_) (fun c71 => absurd c71 (by decide))
              refine lv_iconst (v := 1) hx hb d_M_set_73 (by decide) ?_
              refine lv_goto (tgt := 78) hx hb d_M_set_74 (by decide) ?_
              refine lv_iconst (v := 1) hx hb d_M_set_78 (by decide) ?_
              have hPc := hP.sub (ws' := [(m0, .inr (3, [.int 0, .int (nI nz), .ref mH, .ref mL, .ref mB, .ref mP, .ref mR, .ref mA, .ref mW, .ref mU, .ref mV, .int rw, .ref mM, .ref mT, .int mc, .ref mQ, .int ga, .int gb, .int kn, .ref mO, .ref mF, .ref mS, .ref mE, .ref mX, .ref mD]))]) [0] rfl
              have hDc := hD.sub (ws' := [(m0, .inr (3, [.int 0, .int (nI nz), .ref mH, .ref mL, .ref mB, .ref mP, .ref mR, .ref mA, .ref mW, .ref mU, .ref mV, .int rw, .ref mM, .ref mT, .int mc, .ref mQ, .int ga, .int gb, .int kn, .ref mO, .ref mF, .ref mS, .ref mE, .ref mX, .ref mD]))]) [0] (by decide) rfl
              have hFc := va_free (wc := [(m0, .inr (3, [.int 0, .int (nI nz), .ref mH, .ref mL, .ref mB, .ref mP, .ref mR, .ref mA, .ref mW, .ref mU, .ref mV, .int rw, .ref mM, .ref mT, .int mc, .ref mQ, .int ga, .int gb, .int kn, .ref mO, .ref mF, .ref mS, .ref mE, .ref mX, .ref mD]))]) hD hS hA [0] rfl
              refine va_calli (va_runV (C := R_M) (As := [.int 1, .int 1]) (rest := []) ⟨hx, hb, hml, hown, hG⟩ (m_fails011 l dC dI cI cJ cZ cB m0 mH mL mB mP mR mA mW mU mV mM mT mQ mO mF mS mE mX mD (nI nz) rw mc ga gb kn H69.size ) (cwV 2 hG g_M_87 rfl rfl rfl (by decide +kernel) ⟨Nat.le_of_ble_eq_true rfl, Nat.le_of_ble_eq_true rfl⟩) ⟨PC.blind, va_recv hK hP (ci := 3) (q0 := 0) rfl rfl, PC.of hPc hK hDc hE hS hFc⟩ rfl rfl hl9.1 rfl (lv_room (Nat.le_of_ble_eq_true rfl)) d_M_set_79 ⟨by first | exact Nat.le_of_ble_eq_true rfl | omega, by first | exact Nat.le_of_ble_eq_true rfl | omega⟩) hS (fun q _ h => hFc q h) hFc (fun r73 u t H72 locs ht hvm hw hB hz1 hk1 hS => ?_)
              rw [ht] at hB
              obtain ⟨hP, hD⟩ := jset (wc := [(m0, .inr (3, [.int 0, .int (nI nz), .ref mH, .ref mL, .ref mB, .ref mP, .ref mR, .ref mA, .ref mW, .ref mU, .ref mV, .int rw, .ref mM, .ref mT, .int mc, .ref mQ, .int ga, .int gb, .int kn, .ref mO, .ref mF, .ref mS, .ref mE, .ref mX, .ref mD]))]) (w1 := [(m0, .inr (3, [.int 1, .int (nI nz), .ref mH, .ref mL, .ref mB, .ref mP, .ref mR, .ref mA, .ref mW, .ref mU, .ref mV, .int rw, .ref mM, .ref mT, .int mc, .ref mQ, .int ga, .int gb, .int kn, .ref mO, .ref mF, .ref mS, .ref mE, .ref mX, .ref mD]))]) [0] rfl rfl hP hD hk1 hB
              have hP : va_P (dC, dI) vwCl [(m0, .inr (3, [.int 1, .int (nI nz), .ref mH, .ref mL, .ref mB, .ref mP, .ref mR, .ref mA, .ref mW, .ref mU, .ref mV, .int rw, .ref mM, .ref mT, .int mc, .ref mQ, .int ga, .int gb, .int kn, .ref mO, .ref mF, .ref mS, .ref mE, .ref mX, .ref mD]))] H72 := hP
              have hD : va_D A [(m0, .inr (3, [.int 1, .int (nI nz), .ref mH, .ref mL, .ref mB, .ref mP, .ref mR, .ref mA, .ref mW, .ref mU, .ref mV, .int rw, .ref mM, .ref mT, .int mc, .ref mQ, .int ga, .int gb, .int kn, .ref mO, .ref mF, .ref mS, .ref mE, .ref mX, .ref mD]))] := hD
              have hw : r73 = 1 := hw
              subst hw
              refine lv_if_eq (tgt := 87) hx hb d_M_set_82 (by decide) (fun c74 => absurd c74 (by decide)) (fun c74 => ?_)
              refine lv_iconst (v := 0) hx hb d_M_set_85 (by decide) ?_
              exact W.iret (v := 0) hx hb hr (fun t ht hW => ⟨⟨0, (), rfl, trivial, by have h9 := hP; rw [← ht] at h9; exact h9⟩, hS.F ht⟩) hS.2.2 d_M_set_86
            · exact absurd (Or.inr (Or.inr ⟨c3, hv⟩)) (hbad.resolve_left hz)
      · have hPc := hP.sub (ws' := []) [] rfl
        have hDc := hD.sub (ws' := []) [] (by decide) rfl
        have hFc := va_A_nil hA hS.1
        refine va_calli (va_runS (As := [.int v, .int 0, .int 100000]) (rest := []) ⟨hx, hb, hml, hown, hG⟩ (m_within l dC dI cI cJ cZ cB v 0 100000 H.size ) (cwS 3 hG g_M_83 rfl rfl rfl (by decide +kernel) ⟨Nat.le_of_ble_eq_true rfl, Nat.le_of_ble_eq_true rfl⟩) ⟨PC.blind, PC.of hPc hK hDc hE hS hFc⟩ rfl rfl hl9.1 rfl (lv_room (Nat.le_of_ble_eq_true rfl)) d_M_set_31 ⟨by first | exact Nat.le_of_ble_eq_true rfl | omega, by first | exact Nat.le_of_ble_eq_true rfl | omega⟩) hS (fun q _ h => hFc q h) hFc (fun r76 u t H75 locs ht hvm hw hB hz1 hk1 hS => ?_)
        have hP := wp_kept hP hk1
        have hw : r76 = if ¬ (v < 0 ∨ 100000 < v) then 1 else 0 := hw
        subst hw
        rw [wi_1 hv]
        refine lv_if_ne (tgt := 52) hx hb d_M_set_34 (by decide) (fun c8 => ?_) (fun c8 => absurd c8 (by decide))
        refine lv_iconst (v := 1) hx hb d_M_set_52 (by decide) ?_
        refine lv_goto (tgt := 57) hx hb d_M_set_53 (by decide) ?_
        refine lv_istore (lv' := [(4, .int 1), (0, .ref m0), (1, .int x), (2, .int what), (3, .int v)]) hx hb d_M_set_57 hl9 (by decide) rfl (fun ls hl9 => ?_)
        refine lv_aload_n hx hb d_M_set_59 rfl (lv_at hl9 1 rfl) ?_
        refine lv_aload_n hx hb d_M_set_60 rfl (lv_at hl9 1 rfl) ?_
        refine lv_iload_n hx hb d_M_set_61 rfl (lv_at hl9 2 rfl) ?_
        by_cases hz : x < 0 ∨ nI nz ≤ x
        · have hPc := hP.sub (ws' := [(m0, .inr (3, [.int 0, .int (nI nz), .ref mH, .ref mL, .ref mB, .ref mP, .ref mR, .ref mA, .ref mW, .ref mU, .ref mV, .int rw, .ref mM, .ref mT, .int mc, .ref mQ, .int ga, .int gb, .int kn, .ref mO, .ref mF, .ref mS, .ref mE, .ref mX, .ref mD]))]) [0] rfl
          have hDc := hD.sub (ws' := [(m0, .inr (3, [.int 0, .int (nI nz), .ref mH, .ref mL, .ref mB, .ref mP, .ref mR, .ref mA, .ref mW, .ref mU, .ref mV, .int rw, .ref mM, .ref mT, .int mc, .ref mQ, .int ga, .int gb, .int kn, .ref mO, .ref mF, .ref mS, .ref mE, .ref mX, .ref mD]))]) [0] (by decide) rfl
          have hFc := va_A_nil hA hS.1
          refine va_calli (va_runV (C := R_M) (As := [.int x]) (rest := [.ref m0]) ⟨hx, hb, hml, hown, hG⟩ (m_isZone l dC dI cI cJ cZ cB m0 mH mL mB mP mR mA mW mU mV mM mT mQ mO mF mS mE mX mD 0 (nI nz) rw mc ga gb kn x H75.size ) (cwV 1 hG g_M_95 rfl rfl rfl (by decide +kernel) ⟨Nat.le_of_ble_eq_true rfl, Nat.le_of_ble_eq_true rfl⟩) ⟨PC.blind, va_recv hK hP (ci := 3) (q0 := 0) rfl rfl, PC.of hPc hK hDc hE hS hFc⟩ rfl rfl hl9.1 rfl (lv_room (Nat.le_of_ble_eq_true rfl)) d_M_set_62 ⟨by first | exact Nat.le_of_ble_eq_true rfl | omega, by first | exact Nat.le_of_ble_eq_true rfl | omega⟩) hS (fun q _ h => hFc q h) hFc (fun r78 u t H77 locs ht hvm hw hB hz1 hk1 hS => ?_)
          have hP := wp_kept hP hk1
          have hw : r78 = if ¬ (x < 0 ∨ (nI nz) ≤ x) then 1 else 0 := hw
          subst hw
          rw [iz_0 hz]
          refine lv_if_eq (tgt := 73) hx hb d_M_set_65 (by decide) (fun c79 => ?_) (fun c79 => absurd c79 (by decide))
          refine lv_iconst (v := 1) hx hb d_M_set_73 (by decide) ?_
          refine lv_goto (tgt := 78) hx hb d_M_set_74 (by decide) ?_
          refine lv_iconst (v := 1) hx hb d_M_set_78 (by decide) ?_
          have hPc := hP.sub (ws' := [(m0, .inr (3, [.int 0, .int (nI nz), .ref mH, .ref mL, .ref mB, .ref mP, .ref mR, .ref mA, .ref mW, .ref mU, .ref mV, .int rw, .ref mM, .ref mT, .int mc, .ref mQ, .int ga, .int gb, .int kn, .ref mO, .ref mF, .ref mS, .ref mE, .ref mX, .ref mD]))]) [0] rfl
          have hDc := hD.sub (ws' := [(m0, .inr (3, [.int 0, .int (nI nz), .ref mH, .ref mL, .ref mB, .ref mP, .ref mR, .ref mA, .ref mW, .ref mU, .ref mV, .int rw, .ref mM, .ref mT, .int mc, .ref mQ, .int ga, .int gb, .int kn, .ref mO, .ref mF, .ref mS, .ref mE, .ref mX, .ref mD]))]) [0] (by decide) rfl
          have hFc := va_free (wc := [(m0, .inr (3, [.int 0, .int (nI nz), .ref mH, .ref mL, .ref mB, .ref mP, .ref mR, .ref mA, .ref mW, .ref mU, .ref mV, .int rw, .ref mM, .ref mT, .int mc, .ref mQ, .int ga, .int gb, .int kn, .ref mO, .ref mF, .ref mS, .ref mE, .ref mX, .ref mD]))]) hD hS hA [0] rfl
          refine va_calli (va_runV (C := R_M) (As := [.int 1, .int 1]) (rest := []) ⟨hx, hb, hml, hown, hG⟩ (m_fails011 l dC dI cI cJ cZ cB m0 mH mL mB mP mR mA mW mU mV mM mT mQ mO mF mS mE mX mD (nI nz) rw mc ga gb kn H77.size ) (cwV 2 hG g_M_87 rfl rfl rfl (by decide +kernel) ⟨Nat.le_of_ble_eq_true rfl, Nat.le_of_ble_eq_true rfl⟩) ⟨PC.blind, va_recv hK hP (ci := 3) (q0 := 0) rfl rfl, PC.of hPc hK hDc hE hS hFc⟩ rfl rfl hl9.1 rfl (lv_room (Nat.le_of_ble_eq_true rfl)) d_M_set_79 ⟨by first | exact Nat.le_of_ble_eq_true rfl | omega, by first | exact Nat.le_of_ble_eq_true rfl | omega⟩) hS (fun q _ h => hFc q h) hFc (fun r81 u t H80 locs ht hvm hw hB hz1 hk1 hS => ?_)
          rw [ht] at hB
          obtain ⟨hP, hD⟩ := jset (wc := [(m0, .inr (3, [.int 0, .int (nI nz), .ref mH, .ref mL, .ref mB, .ref mP, .ref mR, .ref mA, .ref mW, .ref mU, .ref mV, .int rw, .ref mM, .ref mT, .int mc, .ref mQ, .int ga, .int gb, .int kn, .ref mO, .ref mF, .ref mS, .ref mE, .ref mX, .ref mD]))]) (w1 := [(m0, .inr (3, [.int 1, .int (nI nz), .ref mH, .ref mL, .ref mB, .ref mP, .ref mR, .ref mA, .ref mW, .ref mU, .ref mV, .int rw, .ref mM, .ref mT, .int mc, .ref mQ, .int ga, .int gb, .int kn, .ref mO, .ref mF, .ref mS, .ref mE, .ref mX, .ref mD]))]) [0] rfl rfl hP hD hk1 hB
          have hP : va_P (dC, dI) vwCl [(m0, .inr (3, [.int 1, .int (nI nz), .ref mH, .ref mL, .ref mB, .ref mP, .ref mR, .ref mA, .ref mW, .ref mU, .ref mV, .int rw, .ref mM, .ref mT, .int mc, .ref mQ, .int ga, .int gb, .int kn, .ref mO, .ref mF, .ref mS, .ref mE, .ref mX, .ref mD]))] H80 := hP
          have hD : va_D A [(m0, .inr (3, [.int 1, .int (nI nz), .ref mH, .ref mL, .ref mB, .ref mP, .ref mR, .ref mA, .ref mW, .ref mU, .ref mV, .int rw, .ref mM, .ref mT, .int mc, .ref mQ, .int ga, .int gb, .int kn, .ref mO, .ref mF, .ref mS, .ref mE, .ref mX, .ref mD]))] := hD
          have hw : r81 = 1 := hw
          subst hw
          refine lv_if_eq (tgt := 87) hx hb d_M_set_82 (by decide) (fun c82 => absurd c82 (by decide)) (fun c82 => ?_)
          refine lv_iconst (v := 0) hx hb d_M_set_85 (by decide) ?_
          exact W.iret (v := 0) hx hb hr (fun t ht hW => ⟨⟨0, (), rfl, trivial, by have h9 := hP; rw [← ht] at h9; exact h9⟩, hS.F ht⟩) hS.2.2 d_M_set_86
        · exact absurd (Or.inr (Or.inl ⟨c2, hv⟩)) (hbad.resolve_left hz)
  · refine lv_iload_n hx hb d_M_set_9 rfl (lv_at hl9 3 rfl) ?_
    refine lv_sipush (v := (-10000)) hx hb d_M_set_10 (by decide) ?_
    refine lv_sipush (v := 10000) hx hb d_M_set_13 (by decide) ?_
    by_cases hv0 : v < (-10000) ∨ 10000 < v
    · have hPc := hP.sub (ws' := []) [] rfl
      have hDc := hD.sub (ws' := []) [] (by decide) rfl
      have hFc := va_A_nil hA hS.1
      refine va_calli (va_runS (As := [.int v, .int (-10000), .int 10000]) (rest := []) ⟨hx, hb, hml, hown, hG⟩ (m_within l dC dI cI cJ cZ cB v (-10000) 10000 H.size ) (cwS 3 hG g_M_83 rfl rfl rfl (by decide +kernel) ⟨Nat.le_of_ble_eq_true rfl, Nat.le_of_ble_eq_true rfl⟩) ⟨PC.blind, PC.of hPc hK hDc hE hS hFc⟩ rfl rfl hl9.1 rfl (lv_room (Nat.le_of_ble_eq_true rfl)) d_M_set_16 ⟨by first | exact Nat.le_of_ble_eq_true rfl | omega, by first | exact Nat.le_of_ble_eq_true rfl | omega⟩) hS (fun q _ h => hFc q h) hFc (fun r84 u t H83 locs ht hvm hw hB hz1 hk1 hS => ?_)
      have hP := wp_kept hP hk1
      have hw : r84 = if ¬ (v < (-10000) ∨ 10000 < v) then 1 else 0 := hw
      subst hw
      rw [wi_0 hv0]
      refine lv_if_ne (tgt := 52) hx hb d_M_set_19 (by decide) (fun c8 => absurd c8 (by decide)) (fun c8 => ?_)
      refine lv_iload_n hx hb d_M_set_22 rfl (lv_at hl9 2 rfl) ?_
      refine lv_iconst (v := 1) hx hb d_M_set_23 (by decide) ?_
      refine lv_icmp_ne (tgt := 37) hx hb d_M_set_24 (by decide) (fun c2 => ?_) (fun c2 => ?_)
      · refine lv_iload_n hx hb d_M_set_37 rfl (lv_at hl9 2 rfl) ?_
        refine lv_iconst (v := 2) hx hb d_M_set_38 (by decide) ?_
        refine lv_icmp_ne (tgt := 56) hx hb d_M_set_39 (by decide) (fun c3 => ?_) (fun c3 => ?_)
        · refine lv_iconst (v := 0) hx hb d_M_set_56 (by decide) ?_
          refine lv_istore (lv' := [(4, .int 0), (0, .ref m0), (1, .int x), (2, .int what), (3, .int v)]) hx hb d_M_set_57 hl9 (by decide) rfl (fun ls hl9 => ?_)
          refine lv_aload_n hx hb d_M_set_59 rfl (lv_at hl9 1 rfl) ?_
          refine lv_aload_n hx hb d_M_set_60 rfl (lv_at hl9 1 rfl) ?_
          refine lv_iload_n hx hb d_M_set_61 rfl (lv_at hl9 2 rfl) ?_
          by_cases hz : x < 0 ∨ nI nz ≤ x
          · have hPc := hP.sub (ws' := [(m0, .inr (3, [.int 0, .int (nI nz), .ref mH, .ref mL, .ref mB, .ref mP, .ref mR, .ref mA, .ref mW, .ref mU, .ref mV, .int rw, .ref mM, .ref mT, .int mc, .ref mQ, .int ga, .int gb, .int kn, .ref mO, .ref mF, .ref mS, .ref mE, .ref mX, .ref mD]))]) [0] rfl
            have hDc := hD.sub (ws' := [(m0, .inr (3, [.int 0, .int (nI nz), .ref mH, .ref mL, .ref mB, .ref mP, .ref mR, .ref mA, .ref mW, .ref mU, .ref mV, .int rw, .ref mM, .ref mT, .int mc, .ref mQ, .int ga, .int gb, .int kn, .ref mO, .ref mF, .ref mS, .ref mE, .ref mX, .ref mD]))]) [0] (by decide) rfl
            have hFc := va_A_nil hA hS.1
            refine va_calli (va_runV (C := R_M) (As := [.int x]) (rest := [.ref m0]) ⟨hx, hb, hml, hown, hG⟩ (m_isZone l dC dI cI cJ cZ cB m0 mH mL mB mP mR mA mW mU mV mM mT mQ mO mF mS mE mX mD 0 (nI nz) rw mc ga gb kn x H83.size ) (cwV 1 hG g_M_95 rfl rfl rfl (by decide +kernel) ⟨Nat.le_of_ble_eq_true rfl, Nat.le_of_ble_eq_true rfl⟩) ⟨PC.blind, va_recv hK hP (ci := 3) (q0 := 0) rfl rfl, PC.of hPc hK hDc hE hS hFc⟩ rfl rfl hl9.1 rfl (lv_room (Nat.le_of_ble_eq_true rfl)) d_M_set_62 ⟨by first | exact Nat.le_of_ble_eq_true rfl | omega, by first | exact Nat.le_of_ble_eq_true rfl | omega⟩) hS (fun q _ h => hFc q h) hFc (fun r86 u t H85 locs ht hvm hw hB hz1 hk1 hS => ?_)
            have hP := wp_kept hP hk1
            have hw : r86 = if ¬ (x < 0 ∨ (nI nz) ≤ x) then 1 else 0 := hw
            subst hw
            rw [iz_0 hz]
            refine lv_if_eq (tgt := 73) hx hb d_M_set_65 (by decide) (fun c87 => ?_) (fun c87 => absurd c87 (by decide))
            refine lv_iconst (v := 1) hx hb d_M_set_73 (by decide) ?_
            refine lv_goto (tgt := 78) hx hb d_M_set_74 (by decide) ?_
            refine lv_iconst (v := 1) hx hb d_M_set_78 (by decide) ?_
            have hPc := hP.sub (ws' := [(m0, .inr (3, [.int 0, .int (nI nz), .ref mH, .ref mL, .ref mB, .ref mP, .ref mR, .ref mA, .ref mW, .ref mU, .ref mV, .int rw, .ref mM, .ref mT, .int mc, .ref mQ, .int ga, .int gb, .int kn, .ref mO, .ref mF, .ref mS, .ref mE, .ref mX, .ref mD]))]) [0] rfl
            have hDc := hD.sub (ws' := [(m0, .inr (3, [.int 0, .int (nI nz), .ref mH, .ref mL, .ref mB, .ref mP, .ref mR, .ref mA, .ref mW, .ref mU, .ref mV, .int rw, .ref mM, .ref mT, .int mc, .ref mQ, .int ga, .int gb, .int kn, .ref mO, .ref mF, .ref mS, .ref mE, .ref mX, .ref mD]))]) [0] (by decide) rfl
            have hFc := va_free (wc := [(m0, .inr (3, [.int 0, .int (nI nz), .ref mH, .ref mL, .ref mB, .ref mP, .ref mR, .ref mA, .ref mW, .ref mU, .ref mV, .int rw, .ref mM, .ref mT, .int mc, .ref mQ, .int ga, .int gb, .int kn, .ref mO, .ref mF, .ref mS, .ref mE, .ref mX, .ref mD]))]) hD hS hA [0] rfl
            refine va_calli (va_runV (C := R_M) (As := [.int 1, .int 1]) (rest := []) ⟨hx, hb, hml, hown, hG⟩ (m_fails011 l dC dI cI cJ cZ cB m0 mH mL mB mP mR mA mW mU mV mM mT mQ mO mF mS mE mX mD (nI nz) rw mc ga gb kn H85.size ) (cwV 2 hG g_M_87 rfl rfl rfl (by decide +kernel) ⟨Nat.le_of_ble_eq_true rfl, Nat.le_of_ble_eq_true rfl⟩) ⟨PC.blind, va_recv hK hP (ci := 3) (q0 := 0) rfl rfl, PC.of hPc hK hDc hE hS hFc⟩ rfl rfl hl9.1 rfl (lv_room (Nat.le_of_ble_eq_true rfl)) d_M_set_79 ⟨by first | exact Nat.le_of_ble_eq_true rfl | omega, by first | exact Nat.le_of_ble_eq_true rfl | omega⟩) hS (fun q _ h => hFc q h) hFc (fun r89 u t H88 locs ht hvm hw hB hz1 hk1 hS => ?_)
            rw [ht] at hB
            obtain ⟨hP, hD⟩ := jset (wc := [(m0, .inr (3, [.int 0, .int (nI nz), .ref mH, .ref mL, .ref mB, .ref mP, .ref mR, .ref mA, .ref mW, .ref mU, .ref mV, .int rw, .ref mM, .ref mT, .int mc, .ref mQ, .int ga, .int gb, .int kn, .ref mO, .ref mF, .ref mS, .ref mE, .ref mX, .ref mD]))]) (w1 := [(m0, .inr (3, [.int 1, .int (nI nz), .ref mH, .ref mL, .ref mB, .ref mP, .ref mR, .ref mA, .ref mW, .ref mU, .ref mV, .int rw, .ref mM, .ref mT, .int mc, .ref mQ, .int ga, .int gb, .int kn, .ref mO, .ref mF, .ref mS, .ref mE, .ref mX, .ref mD]))]) [0] rfl rfl hP hD hk1 hB
            have hP : va_P (dC, dI) vwCl [(m0, .inr (3, [.int 1, .int (nI nz), .ref mH, .ref mL, .ref mB, .ref mP, .ref mR, .ref mA, .ref mW, .ref mU, .ref mV, .int rw, .ref mM, .ref mT, .int mc, .ref mQ, .int ga, .int gb, .int kn, .ref mO, .ref mF, .ref mS, .ref mE, .ref mX, .ref mD]))] H88 := hP
            have hD : va_D A [(m0, .inr (3, [.int 1, .int (nI nz), .ref mH, .ref mL, .ref mB, .ref mP, .ref mR, .ref mA, .ref mW, .ref mU, .ref mV, .int rw, .ref mM, .ref mT, .int mc, .ref mQ, .int ga, .int gb, .int kn, .ref mO, .ref mF, .ref mS, .ref mE, .ref mX, .ref mD]))] := hD
            have hw : r89 = 1 := hw
            subst hw
            refine lv_if_eq (tgt := 87) hx hb d_M_set_82 (by decide) (fun c90 => absurd c90 (by decide)) (fun c90 => ?_)
            refine lv_iconst (v := 0) hx hb d_M_set_85 (by decide) ?_
            exact W.iret (v := 0) hx hb hr (fun t ht hW => ⟨⟨0, (), rfl, trivial, by have h9 := hP; rw [← ht] at h9; exact h9⟩, hS.F ht⟩) hS.2.2 d_M_set_86
          · have hPc := hP.sub (ws' := [(m0, .inr (3, [.int 0, .int (nI nz), .ref mH, .ref mL, .ref mB, .ref mP, .ref mR, .ref mA, .ref mW, .ref mU, .ref mV, .int rw, .ref mM, .ref mT, .int mc, .ref mQ, .int ga, .int gb, .int kn, .ref mO, .ref mF, .ref mS, .ref mE, .ref mX, .ref mD]))]) [0] rfl
            have hDc := hD.sub (ws' := [(m0, .inr (3, [.int 0, .int (nI nz), .ref mH, .ref mL, .ref mB, .ref mP, .ref mR, .ref mA, .ref mW, .ref mU, .ref mV, .int rw, .ref mM, .ref mT, .int mc, .ref mQ, .int ga, .int gb, .int kn, .ref mO, .ref mF, .ref mS, .ref mE, .ref mX, .ref mD]))]) [0] (by decide) rfl
            have hFc := va_A_nil hA hS.1
            refine va_calli (va_runV (C := R_M) (As := [.int x]) (rest := [.ref m0]) ⟨hx, hb, hml, hown, hG⟩ (m_isZone l dC dI cI cJ cZ cB m0 mH mL mB mP mR mA mW mU mV mM mT mQ mO mF mS mE mX mD 0 (nI nz) rw mc ga gb kn x H83.size ) (cwV 1 hG g_M_95 rfl rfl rfl (by decide +kernel) ⟨Nat.le_of_ble_eq_true rfl, Nat.le_of_ble_eq_true rfl⟩) ⟨PC.blind, va_recv hK hP (ci := 3) (q0 := 0) rfl rfl, PC.of hPc hK hDc hE hS hFc⟩ rfl rfl hl9.1 rfl (lv_room (Nat.le_of_ble_eq_true rfl)) d_M_set_62 ⟨by first | exact Nat.le_of_ble_eq_true rfl | omega, by first | exact Nat.le_of_ble_eq_true rfl | omega⟩) hS (fun q _ h => hFc q h) hFc (fun r92 u t H91 locs ht hvm hw hB hz1 hk1 hS => ?_)
            have hP := wp_kept hP hk1
            have hw : r92 = if ¬ (x < 0 ∨ (nI nz) ≤ x) then 1 else 0 := hw
            subst hw
            rw [iz_1g hz]
            refine lv_if_eq (tgt := 73) hx hb d_M_set_65 (by decide) (fun c93 => absurd c93 (by decide)) (fun c93 => ?_)
            refine lv_iload hx hb d_M_set_68 (lv_at hl9 0 rfl) ?_
            refine lv_if_ne (tgt := 77) hx hb d_M_set_70 (by decide) (fun c94 => absurd c94 (by decide)) (fun c94 => ?_)
            refine lv_iconst (v := 1) hx hb d_M_set_73 (by decide) ?_
            refine lv_goto (tgt := 78) hx hb d_M_set_74 (by decide) ?_
            refine lv_iconst (v := 1) hx hb d_M_set_78 (by decide) ?_
            have hPc := hP.sub (ws' := [(m0, .inr (3, [.int 0, .int (nI nz), .ref mH, .ref mL, .ref mB, .ref mP, .ref mR, .ref mA, .ref mW, .ref mU, .ref mV, .int rw, .ref mM, .ref mT, .int mc, .ref mQ, .int ga, .int gb, .int kn, .ref mO, .ref mF, .ref mS, .ref mE, .ref mX, .ref mD]))]) [0] rfl
            have hDc := hD.sub (ws' := [(m0, .inr (3, [.int 0, .int (nI nz), .ref mH, .ref mL, .ref mB, .ref mP, .ref mR, .ref mA, .ref mW, .ref mU, .ref mV, .int rw, .ref mM, .ref mT, .int mc, .ref mQ, .int ga, .int gb, .int kn, .ref mO, .ref mF, .ref mS, .ref mE, .ref mX, .ref mD]))]) [0] (by decide) rfl
            have hFc := va_free (wc := [(m0, .inr (3, [.int 0, .int (nI nz), .ref mH, .ref mL, .ref mB, .ref mP, .ref mR, .ref mA, .ref mW, .ref mU, .ref mV, .int rw, .ref mM, .ref mT, .int mc, .ref mQ, .int ga, .int gb, .int kn, .ref mO, .ref mF, .ref mS, .ref mE, .ref mX, .ref mD]))]) hD hS hA [0] rfl
            refine va_calli (va_runV (C := R_M) (As := [.int 1, .int 1]) (rest := []) ⟨hx, hb, hml, hown, hG⟩ (m_fails011 l dC dI cI cJ cZ cB m0 mH mL mB mP mR mA mW mU mV mM mT mQ mO mF mS mE mX mD (nI nz) rw mc ga gb kn H91.size ) (cwV 2 hG g_M_87 rfl rfl rfl (by decide +kernel) ⟨Nat.le_of_ble_eq_true rfl, Nat.le_of_ble_eq_true rfl⟩) ⟨PC.blind, va_recv hK hP (ci := 3) (q0 := 0) rfl rfl, PC.of hPc hK hDc hE hS hFc⟩ rfl rfl hl9.1 rfl (lv_room (Nat.le_of_ble_eq_true rfl)) d_M_set_79 ⟨by first | exact Nat.le_of_ble_eq_true rfl | omega, by first | exact Nat.le_of_ble_eq_true rfl | omega⟩) hS (fun q _ h => hFc q h) hFc (fun r96 u t H95 locs ht hvm hw hB hz1 hk1 hS => ?_)
            rw [ht] at hB
            obtain ⟨hP, hD⟩ := jset (wc := [(m0, .inr (3, [.int 0, .int (nI nz), .ref mH, .ref mL, .ref mB, .ref mP, .ref mR, .ref mA, .ref mW, .ref mU, .ref mV, .int rw, .ref mM, .ref mT, .int mc, .ref mQ, .int ga, .int gb, .int kn, .ref mO, .ref mF, .ref mS, .ref mE, .ref mX, .ref mD]))]) (w1 := [(m0, .inr (3, [.int 1, .int (nI nz), .ref mH, .ref mL, .ref mB, .ref mP, .ref mR, .ref mA, .ref mW, .ref mU, .ref mV, .int rw, .ref mM, .ref mT, .int mc, .ref mQ, .int ga, .int gb, .int kn, .ref mO, .ref mF, .ref mS, .ref mE, .ref mX, .ref mD]))]) [0] rfl rfl hP hD hk1 hB
            have hP : va_P (dC, dI) vwCl [(m0, .inr (3, [.int 1, .int (nI nz), .ref mH, .ref mL, .ref mB, .ref mP, .ref mR, .ref mA, .ref mW, .ref mU, .ref mV, .int rw, .ref mM, .ref mT, .int mc, .ref mQ, .int ga, .int gb, .int kn, .ref mO, .ref mF, .ref mS, .ref mE, .ref mX, .ref mD]))] H95 := hP
            have hD : va_D A [(m0, .inr (3, [.int 1, .int (nI nz), .ref mH, .ref mL, .ref mB, .ref mP, .ref mR, .ref mA, .ref mW, .ref mU, .ref mV, .int rw, .ref mM, .ref mT, .int mc, .ref mQ, .int ga, .int gb, .int kn, .ref mO, .ref mF, .ref mS, .ref mE, .ref mX, .ref mD]))] := hD
            have hw : r96 = 1 := hw
            subst hw
            refine lv_if_eq (tgt := 87) hx hb d_M_set_82 (by decide) (fun c97 => absurd c97 (by decide)) (fun c97 => ?_)
            refine lv_iconst (v := 0) hx hb d_M_set_85 (by decide) ?_
            exact W.iret (v := 0) hx hb hr (fun t ht hW => ⟨⟨0, (), rfl, trivial, by have h9 := hP; rw [← ht] at h9; exact h9⟩, hS.F ht⟩) hS.2.2 d_M_set_86
        · refine lv_iload_n hx hb d_M_set_42 rfl (lv_at hl9 3 rfl) ?_
          refine lv_iconst (v := 0) hx hb d_M_set_43 (by decide) ?_
          refine lv_bipush (v := 9) hx hb d_M_set_44 (by decide) ?_
          by_cases hv : v < 0 ∨ 9 < v
          · have hPc := hP.sub (ws' := []) [] rfl
            have hDc := hD.sub (ws' := []) [] (by decide) rfl
            have hFc := va_A_nil hA hS.1
            refine va_calli (va_runS (As := [.int v, .int 0, .int 9]) (rest := []) ⟨hx, hb, hml, hown, hG⟩ (m_within l dC dI cI cJ cZ cB v 0 9 H83.size ) (cwS 3 hG g_M_83 rfl rfl rfl (by decide +kernel) ⟨Nat.le_of_ble_eq_true rfl, Nat.le_of_ble_eq_true rfl⟩) ⟨PC.blind, PC.of hPc hK hDc hE hS hFc⟩ rfl rfl hl9.1 rfl (lv_room (Nat.le_of_ble_eq_true rfl)) d_M_set_46 ⟨by first | exact Nat.le_of_ble_eq_true rfl | omega, by first | exact Nat.le_of_ble_eq_true rfl | omega⟩) hS (fun q _ h => hFc q h) hFc (fun r99 u t H98 locs ht hvm hw hB hz1 hk1 hS => ?_)
            have hP := wp_kept hP hk1
            have hw : r99 = if ¬ (v < 0 ∨ 9 < v) then 1 else 0 := hw
            subst hw
            rw [wi_0 hv]
            refine lv_if_eq (tgt := 56) hx hb d_M_set_49 (by decide) (fun c8 => ?_) (fun c8 => absurd c8 (by decide))
            refine lv_iconst (v := 0) hx hb d_M_set_56 (by decide) ?_
            refine lv_istore (lv' := [(4, .int 0), (0, .ref m0), (1, .int x), (2, .int what), (3, .int v)]) hx hb d_M_set_57 hl9 (by decide) rfl (fun ls hl9 => ?_)
            refine lv_aload_n hx hb d_M_set_59 rfl (lv_at hl9 1 rfl) ?_
            refine lv_aload_n hx hb d_M_set_60 rfl (lv_at hl9 1 rfl) ?_
            refine lv_iload_n hx hb d_M_set_61 rfl (lv_at hl9 2 rfl) ?_
            by_cases hz : x < 0 ∨ nI nz ≤ x
            · have hPc := hP.sub (ws' := [(m0, .inr (3, [.int 0, .int (nI nz), .ref mH, .ref mL, .ref mB, .ref mP, .ref mR, .ref mA, .ref mW, .ref mU, .ref mV, .int rw, .ref mM, .ref mT, .int mc, .ref mQ, .int ga, .int gb, .int kn, .ref mO, .ref mF, .ref mS, .ref mE, .ref mX, .ref mD]))]) [0] rfl
              have hDc := hD.sub (ws' := [(m0, .inr (3, [.int 0, .int (nI nz), .ref mH, .ref mL, .ref mB, .ref mP, .ref mR, .ref mA, .ref mW, .ref mU, .ref mV, .int rw, .ref mM, .ref mT, .int mc, .ref mQ, .int ga, .int gb, .int kn, .ref mO, .ref mF, .ref mS, .ref mE, .ref mX, .ref mD]))]) [0] (by decide) rfl
              have hFc := va_A_nil hA hS.1
              refine va_calli (va_runV (C := R_M) (As := [.int x]) (rest := [.ref m0]) ⟨hx, hb, hml, hown, hG⟩ (m_isZone l dC dI cI cJ cZ cB m0 mH mL mB mP mR mA mW mU mV mM mT mQ mO mF mS mE mX mD 0 (nI nz) rw mc ga gb kn x H98.size ) (cwV 1 hG g_M_95 rfl rfl rfl (by decide +kernel) ⟨Nat.le_of_ble_eq_true rfl, Nat.le_of_ble_eq_true rfl⟩) ⟨PC.blind, va_recv hK hP (ci := 3) (q0 := 0) rfl rfl, PC.of hPc hK hDc hE hS hFc⟩ rfl rfl hl9.1 rfl (lv_room (Nat.le_of_ble_eq_true rfl)) d_M_set_62 ⟨by first | exact Nat.le_of_ble_eq_true rfl | omega, by first | exact Nat.le_of_ble_eq_true rfl | omega⟩) hS (fun q _ h => hFc q h) hFc (fun r101 u t H100 locs ht hvm hw hB hz1 hk1 hS => ?_)
              have hP := wp_kept hP hk1
              have hw : r101 = if ¬ (x < 0 ∨ (nI nz) ≤ x) then 1 else 0 := hw
              subst hw
              rw [iz_0 hz]
              refine lv_if_eq (tgt := 73) hx hb d_M_set_65 (by decide) (fun c102 => ?_) (fun c102 => absurd c102 (by decide))
              refine lv_iconst (v := 1) hx hb d_M_set_73 (by decide) ?_
              refine lv_goto (tgt := 78) hx hb d_M_set_74 (by decide) ?_
              refine lv_iconst (v := 1) hx hb d_M_set_78 (by decide) ?_
              have hPc := hP.sub (ws' := [(m0, .inr (3, [.int 0, .int (nI nz), .ref mH, .ref mL, .ref mB, .ref mP, .ref mR, .ref mA, .ref mW, .ref mU, .ref mV, .int rw, .ref mM, .ref mT, .int mc, .ref mQ, .int ga, .int gb, .int kn, .ref mO, .ref mF, .ref mS, .ref mE, .ref mX, .ref mD]))]) [0] rfl
              have hDc := hD.sub (ws' := [(m0, .inr (3, [.int 0, .int (nI nz), .ref mH, .ref mL, .ref mB, .ref mP, .ref mR, .ref mA, .ref mW, .ref mU, .ref mV, .int rw, .ref mM, .ref mT, .int mc, .ref mQ, .int ga, .int gb, .int kn, .ref mO, .ref mF, .ref mS, .ref mE, .ref mX, .ref mD]))]) [0] (by decide) rfl
              have hFc := va_free (wc := [(m0, .inr (3, [.int 0, .int (nI nz), .ref mH, .ref mL, .ref mB, .ref mP, .ref mR, .ref mA, .ref mW, .ref mU, .ref mV, .int rw, .ref mM, .ref mT, .int mc, .ref mQ, .int ga, .int gb, .int kn, .ref mO, .ref mF, .ref mS, .ref mE, .ref mX, .ref mD]))]) hD hS hA [0] rfl
              refine va_calli (va_runV (C := R_M) (As := [.int 1, .int 1]) (rest := []) ⟨hx, hb, hml, hown, hG⟩ (m_fails011 l dC dI cI cJ cZ cB m0 mH mL mB mP mR mA mW mU mV mM mT mQ mO mF mS mE mX mD (nI nz) rw mc ga gb kn H100.size ) (cwV 2 hG g_M_87 rfl rfl rfl (by decide +kernel) ⟨Nat.le_of_ble_eq_true rfl, Nat.le_of_ble_eq_true rfl⟩) ⟨PC.blind, va_recv hK hP (ci := 3) (q0 := 0) rfl rfl, PC.of hPc hK hDc hE hS hFc⟩ rfl rfl hl9.1 rfl (lv_room (Nat.le_of_ble_eq_true rfl)) d_M_set_79 ⟨by first | exact Nat.le_of_ble_eq_true rfl | omega, by first | exact Nat.le_of_ble_eq_true rfl | omega⟩) hS (fun q _ h => hFc q h) hFc (fun r104 u t H103 locs ht hvm hw hB hz1 hk1 hS => ?_)
              rw [ht] at hB
              obtain ⟨hP, hD⟩ := jset (wc := [(m0, .inr (3, [.int 0, .int (nI nz), .ref mH, .ref mL, .ref mB, .ref mP, .ref mR, .ref mA, .ref mW, .ref mU, .ref mV, .int rw, .ref mM, .ref mT, .int mc, .ref mQ, .int ga, .int gb, .int kn, .ref mO, .ref mF, .ref mS, .ref mE, .ref mX, .ref mD]))]) (w1 := [(m0, .inr (3, [.int 1, .int (nI nz), .ref mH, .ref mL, .ref mB, .ref mP, .ref mR, .ref mA, .ref mW, .ref mU, .ref mV, .int rw, .ref mM, .ref mT, .int mc, .ref mQ, .int ga, .int gb, .int kn, .ref mO, .ref mF, .ref mS, .ref mE, .ref mX, .ref mD]))]) [0] rfl rfl hP hD hk1 hB
              have hP : va_P (dC, dI) vwCl [(m0, .inr (3, [.int 1, .int (nI nz), .ref mH, .ref mL, .ref mB, .ref mP, .ref mR, .ref mA, .ref mW, .ref mU, .ref mV, .int rw, .ref mM, .ref mT, .int mc, .ref mQ, .int ga, .int gb, .int kn, .ref mO, .ref mF, .ref mS, .ref mE, .ref mX, .ref mD]))] H103 := hP
              have hD : va_D A [(m0, .inr (3, [.int 1, .int (nI nz), .ref mH, .ref mL, .ref mB, .ref mP, .ref mR, .ref mA, .ref mW, .ref mU, .ref mV, .int rw, .ref mM, .ref mT, .int mc, .ref mQ, .int ga, .int gb, .int kn, .ref mO, .ref mF, .ref mS, .ref mE, .ref mX, .ref mD]))] := hD
              have hw : r104 = 1 := hw
              subst hw
              refine lv_if_eq (tgt := 87) hx hb d_M_set_82 (by decide) (fun c105 => absurd c105 (by decide)) (fun c105 => ?_)
              refine lv_iconst (v := 0) hx hb d_M_set_85 (by decide) ?_
              exact W.iret (v := 0) hx hb hr (fun t ht hW => ⟨⟨0, (), rfl, trivial, by have h9 := hP; rw [← ht] at h9; exact h9⟩, hS.F ht⟩) hS.2.2 d_M_set_86
            · have hPc := hP.sub (ws' := [(m0, .inr (3, [.int 0, .int (nI nz), .ref mH, .ref mL, .ref mB, .ref mP, .ref mR, .ref mA, .ref mW, .ref mU, .ref mV, .int rw, .ref mM, .ref mT, .int mc, .ref mQ, .int ga, .int gb, .int kn, .ref mO, .ref mF, .ref mS, .ref mE, .ref mX, .ref mD]))]) [0] rfl
              have hDc := hD.sub (ws' := [(m0, .inr (3, [.int 0, .int (nI nz), .ref mH, .ref mL, .ref mB, .ref mP, .ref mR, .ref mA, .ref mW, .ref mU, .ref mV, .int rw, .ref mM, .ref mT, .int mc, .ref mQ, .int ga, .int gb, .int kn, .ref mO, .ref mF, .ref mS, .ref mE, .ref mX, .ref mD]))]) [0] (by decide) rfl
              have hFc := va_A_nil hA hS.1
              refine va_calli (va_runV (C := R_M) (As := [.int x]) (rest := [.ref m0]) ⟨hx, hb, hml, hown, hG⟩ (m_isZone l dC dI cI cJ cZ cB m0 mH mL mB mP mR mA mW mU mV mM mT mQ mO mF mS mE mX mD 0 (nI nz) rw mc ga gb kn x H98.size ) (cwV 1 hG g_M_95 rfl rfl rfl (by decide +kernel) ⟨Nat.le_of_ble_eq_true rfl, Nat.le_of_ble_eq_true rfl⟩) ⟨PC.blind, va_recv hK hP (ci := 3) (q0 := 0) rfl rfl, PC.of hPc hK hDc hE hS hFc⟩ rfl rfl hl9.1 rfl (lv_room (Nat.le_of_ble_eq_true rfl)) d_M_set_62 ⟨by first | exact Nat.le_of_ble_eq_true rfl | omega, by first | exact Nat.le_of_ble_eq_true rfl | omega⟩) hS (fun q _ h => hFc q h) hFc (fun r107 u t H106 locs ht hvm hw hB hz1 hk1 hS => ?_)
              have hP := wp_kept hP hk1
              have hw : r107 = if ¬ (x < 0 ∨ (nI nz) ≤ x) then 1 else 0 := hw
              subst hw
              rw [iz_1g hz]
              refine lv_if_eq (tgt := 73) hx hb d_M_set_65 (by decide) (fun c108 => absurd c108 (by decide)) (fun c108 => ?_)
              refine lv_iload hx hb d_M_set_68 (lv_at hl9 0 rfl) ?_
              refine lv_if_ne (tgt := 77) hx hb d_M_set_70 (by decide) (fun c109 => absurd c109 (by decide)) (fun c109 => ?_)
              refine lv_iconst (v := 1) hx hb d_M_set_73 (by decide) ?_
              refine lv_goto (tgt := 78) hx hb d_M_set_74 (by decide) ?_
              refine lv_iconst (v := 1) hx hb d_M_set_78 (by decide) ?_
              have hPc := hP.sub (ws' := [(m0, .inr (3, [.int 0, .int (nI nz), .ref mH, .ref mL, .ref mB, .ref mP, .ref mR, .ref mA, .ref mW, .ref mU, .ref mV, .int rw, .ref mM, .ref mT, .int mc, .ref mQ, .int ga, .int gb, .int kn, .ref mO, .ref mF, .ref mS, .ref mE, .ref mX, .ref mD]))]) [0] rfl
              have hDc := hD.sub (ws' := [(m0, .inr (3, [.int 0, .int (nI nz), .ref mH, .ref mL, .ref mB, .ref mP, .ref mR, .ref mA, .ref mW, .ref mU, .ref mV, .int rw, .ref mM, .ref mT, .int mc, .ref mQ, .int ga, .int gb, .int kn, .ref mO, .ref mF, .ref mS, .ref mE, .ref mX, .ref mD]))]) [0] (by decide) rfl
              have hFc := va_free (wc := [(m0, .inr (3, [.int 0, .int (nI nz), .ref mH, .ref mL, .ref mB, .ref mP, .ref mR, .ref mA, .ref mW, .ref mU, .ref mV, .int rw, .ref mM, .ref mT, .int mc, .ref mQ, .int ga, .int gb, .int kn, .ref mO, .ref mF, .ref mS, .ref mE, .ref mX, .ref mD]))]) hD hS hA [0] rfl
              refine va_calli (va_runV (C := R_M) (As := [.int 1, .int 1]) (rest := []) ⟨hx, hb, hml, hown, hG⟩ (m_fails011 l dC dI cI cJ cZ cB m0 mH mL mB mP mR mA mW mU mV mM mT mQ mO mF mS mE mX mD (nI nz) rw mc ga gb kn H106.size ) (cwV 2 hG g_M_87 rfl rfl rfl (by decide +kernel) ⟨Nat.le_of_ble_eq_true rfl, Nat.le_of_ble_eq_true rfl⟩) ⟨PC.blind, va_recv hK hP (ci := 3) (q0 := 0) rfl rfl, PC.of hPc hK hDc hE hS hFc⟩ rfl rfl hl9.1 rfl (lv_room (Nat.le_of_ble_eq_true rfl)) d_M_set_79 ⟨by first | exact Nat.le_of_ble_eq_true rfl | omega, by first | exact Nat.le_of_ble_eq_true rfl | omega⟩) hS (fun q _ h => hFc q h) hFc (fun r111 u t H110 locs ht hvm hw hB hz1 hk1 hS => ?_)
              rw [ht] at hB
              obtain ⟨hP, hD⟩ := jset (wc := [(m0, .inr (3, [.int 0, .int (nI nz), .ref mH, .ref mL, .ref mB, .ref mP, .ref mR, .ref mA, .ref mW, .ref mU, .ref mV, .int rw, .ref mM, .ref mT, .int mc, .ref mQ, .int ga, .int gb, .int kn, .ref mO, .ref mF, .ref mS, .ref mE, .ref mX, .ref mD]))]) (w1 := [(m0, .inr (3, [.int 1, .int (nI nz), .ref mH, .ref mL, .ref mB, .ref mP, .ref mR, .ref mA, .ref mW, .ref mU, .ref mV, .int rw, .ref mM, .ref mT, .int mc, .ref mQ, .int ga, .int gb, .int kn, .ref mO, .ref mF, .ref mS, .ref mE, .ref mX, .ref mD]))]) [0] rfl rfl hP hD hk1 hB
              have hP : va_P (dC, dI) vwCl [(m0, .inr (3, [.int 1, .int (nI nz), .ref mH, .ref mL, .ref mB, .ref mP, .ref mR, .ref mA, .ref mW, .ref mU, .ref mV, .int rw, .ref mM, .ref mT, .int mc, .ref mQ, .int ga, .int gb, .int kn, .ref mO, .ref mF, .ref mS, .ref mE, .ref mX, .ref mD]))] H110 := hP
              have hD : va_D A [(m0, .inr (3, [.int 1, .int (nI nz), .ref mH, .ref mL, .ref mB, .ref mP, .ref mR, .ref mA, .ref mW, .ref mU, .ref mV, .int rw, .ref mM, .ref mT, .int mc, .ref mQ, .int ga, .int gb, .int kn, .ref mO, .ref mF, .ref mS, .ref mE, .ref mX, .ref mD]))] := hD
              have hw : r111 = 1 := hw
              subst hw
              refine lv_if_eq (tgt := 87) hx hb d_M_set_82 (by decide) (fun c112 => absurd c112 (by decide)) (fun c112 => ?_)
              refine lv_iconst (v := 0) hx hb d_M_set_85 (by decide) ?_
              exact W.iret (v := 0) hx hb hr (fun t ht hW => ⟨⟨0, (), rfl, trivial, by have h9 := hP; rw [← ht] at h9; exact h9⟩, hS.F ht⟩) hS.2.2 d_M_set_86
          · have hPc := hP.sub (ws' := []) [] rfl
            have hDc := hD.sub (ws' := []) [] (by decide) rfl
            have hFc := va_A_nil hA hS.1
            refine va_calli (va_runS (As := [.int v, .int 0, .int 9]) (rest := []) ⟨hx, hb, hml, hown, hG⟩ (m_within l dC dI cI cJ cZ cB v 0 9 H83.size ) (cwS 3 hG g_M_83 rfl rfl rfl (by decide +kernel) ⟨Nat.le_of_ble_eq_true rfl, Nat.le_of_ble_eq_true rfl⟩) ⟨PC.blind, PC.of hPc hK hDc hE hS hFc⟩ rfl rfl hl9.1 rfl (lv_room (Nat.le_of_ble_eq_true rfl)) d_M_set_46 ⟨by first | exact Nat.le_of_ble_eq_true rfl | omega, by first | exact Nat.le_of_ble_eq_true rfl | omega⟩) hS (fun q _ h => hFc q h) hFc (fun r114 u t H113 locs ht hvm hw hB hz1 hk1 hS => ?_)
            have hP := wp_kept hP hk1
            have hw : r114 = if ¬ (v < 0 ∨ 9 < v) then 1 else 0 := hw
            subst hw
            rw [wi_1 hv]
            refine lv_if_eq (tgt := 56) hx hb d_M_set_49 (by decide) (fun c8 => absurd c8 (by decide)) (fun c8 => ?_)
            refine lv_iconst (v := 1) hx hb d_M_set_52 (by decide) ?_
            refine lv_goto (tgt := 57) hx hb d_M_set_53 (by decide) ?_
            refine lv_istore (lv' := [(4, .int 1), (0, .ref m0), (1, .int x), (2, .int what), (3, .int v)]) hx hb d_M_set_57 hl9 (by decide) rfl (fun ls hl9 => ?_)
            refine lv_aload_n hx hb d_M_set_59 rfl (lv_at hl9 1 rfl) ?_
            refine lv_aload_n hx hb d_M_set_60 rfl (lv_at hl9 1 rfl) ?_
            refine lv_iload_n hx hb d_M_set_61 rfl (lv_at hl9 2 rfl) ?_
            by_cases hz : x < 0 ∨ nI nz ≤ x
            · have hPc := hP.sub (ws' := [(m0, .inr (3, [.int 0, .int (nI nz), .ref mH, .ref mL, .ref mB, .ref mP, .ref mR, .ref mA, .ref mW, .ref mU, .ref mV, .int rw, .ref mM, .ref mT, .int mc, .ref mQ, .int ga, .int gb, .int kn, .ref mO, .ref mF, .ref mS, .ref mE, .ref mX, .ref mD]))]) [0] rfl
              have hDc := hD.sub (ws' := [(m0, .inr (3, [.int 0, .int (nI nz), .ref mH, .ref mL, .ref mB, .ref mP, .ref mR, .ref mA, .ref mW, .ref mU, .ref mV, .int rw, .ref mM, .ref mT, .int mc, .ref mQ, .int ga, .int gb, .int kn, .ref mO, .ref mF, .ref mS, .ref mE, .ref mX, .ref mD]))]) [0] (by decide) rfl
              have hFc := va_A_nil hA hS.1
              refine va_calli (va_runV (C := R_M) (As := [.int x]) (rest := [.ref m0]) ⟨hx, hb, hml, hown, hG⟩ (m_isZone l dC dI cI cJ cZ cB m0 mH mL mB mP mR mA mW mU mV mM mT mQ mO mF mS mE mX mD 0 (nI nz) rw mc ga gb kn x H113.size ) (cwV 1 hG g_M_95 rfl rfl rfl (by decide +kernel) ⟨Nat.le_of_ble_eq_true rfl, Nat.le_of_ble_eq_true rfl⟩) ⟨PC.blind, va_recv hK hP (ci := 3) (q0 := 0) rfl rfl, PC.of hPc hK hDc hE hS hFc⟩ rfl rfl hl9.1 rfl (lv_room (Nat.le_of_ble_eq_true rfl)) d_M_set_62 ⟨by first | exact Nat.le_of_ble_eq_true rfl | omega, by first | exact Nat.le_of_ble_eq_true rfl | omega⟩) hS (fun q _ h => hFc q h) hFc (fun r116 u t H115 locs ht hvm hw hB hz1 hk1 hS => ?_)
              have hP := wp_kept hP hk1
              have hw : r116 = if ¬ (x < 0 ∨ (nI nz) ≤ x) then 1 else 0 := hw
              subst hw
              rw [iz_0 hz]
              refine lv_if_eq (tgt := 73) hx hb d_M_set_65 (by decide) (fun c117 => ?_) (fun c117 => absurd c117 (by decide))
              refine lv_iconst (v := 1) hx hb d_M_set_73 (by decide) ?_
              refine lv_goto (tgt := 78) hx hb d_M_set_74 (by decide) ?_
              refine lv_iconst (v := 1) hx hb d_M_set_78 (by decide) ?_
              have hPc := hP.sub (ws' := [(m0, .inr (3, [.int 0, .int (nI nz), .ref mH, .ref mL, .ref mB, .ref mP, .ref mR, .ref mA, .ref mW, .ref mU, .ref mV, .int rw, .ref mM, .ref mT, .int mc, .ref mQ, .int ga, .int gb, .int kn, .ref mO, .ref mF, .ref mS, .ref mE, .ref mX, .ref mD]))]) [0] rfl
              have hDc := hD.sub (ws' := [(m0, .inr (3, [.int 0, .int (nI nz), .ref mH, .ref mL, .ref mB, .ref mP, .ref mR, .ref mA, .ref mW, .ref mU, .ref mV, .int rw, .ref mM, .ref mT, .int mc, .ref mQ, .int ga, .int gb, .int kn, .ref mO, .ref mF, .ref mS, .ref mE, .ref mX, .ref mD]))]) [0] (by decide) rfl
              have hFc := va_free (wc := [(m0, .inr (3, [.int 0, .int (nI nz), .ref mH, .ref mL, .ref mB, .ref mP, .ref mR, .ref mA, .ref mW, .ref mU, .ref mV, .int rw, .ref mM, .ref mT, .int mc, .ref mQ, .int ga, .int gb, .int kn, .ref mO, .ref mF, .ref mS, .ref mE, .ref mX, .ref mD]))]) hD hS hA [0] rfl
              refine va_calli (va_runV (C := R_M) (As := [.int 1, .int 1]) (rest := []) ⟨hx, hb, hml, hown, hG⟩ (m_fails011 l dC dI cI cJ cZ cB m0 mH mL mB mP mR mA mW mU mV mM mT mQ mO mF mS mE mX mD (nI nz) rw mc ga gb kn H115.size ) (cwV 2 hG g_M_87 rfl rfl rfl (by decide +kernel) ⟨Nat.le_of_ble_eq_true rfl, Nat.le_of_ble_eq_true rfl⟩) ⟨PC.blind, va_recv hK hP (ci := 3) (q0 := 0) rfl rfl, PC.of hPc hK hDc hE hS hFc⟩ rfl rfl hl9.1 rfl (lv_room (Nat.le_of_ble_eq_true rfl)) d_M_set_79 ⟨by first | exact Nat.le_of_ble_eq_true rfl | omega, by first | exact Nat.le_of_ble_eq_true rfl | omega⟩) hS (fun q _ h => hFc q h) hFc (fun r119 u t H118 locs ht hvm hw hB hz1 hk1 hS => ?_)
              rw [ht] at hB
              obtain ⟨hP, hD⟩ := jset (wc := [(m0, .inr (3, [.int 0, .int (nI nz), .ref mH, .ref mL, .ref mB, .ref mP, .ref mR, .ref mA, .ref mW, .ref mU, .ref mV, .int rw, .ref mM, .ref mT, .int mc, .ref mQ, .int ga, .int gb, .int kn, .ref mO, .ref mF, .ref mS, .ref mE, .ref mX, .ref mD]))]) (w1 := [(m0, .inr (3, [.int 1, .int (nI nz), .ref mH, .ref mL, .ref mB, .ref mP, .ref mR, .ref mA, .ref mW, .ref mU, .ref mV, .int rw, .ref mM, .ref mT, .int mc, .ref mQ, .int ga, .int gb, .int kn, .ref mO, .ref mF, .ref mS, .ref mE, .ref mX, .ref mD]))]) [0] rfl rfl hP hD hk1 hB
              have hP : va_P (dC, dI) vwCl [(m0, .inr (3, [.int 1, .int (nI nz), .ref mH, .ref mL, .ref mB, .ref mP, .ref mR, .ref mA, .ref mW, .ref mU, .ref mV, .int rw, .ref mM, .ref mT, .int mc, .ref mQ, .int ga, .int gb, .int kn, .ref mO, .ref mF, .ref mS, .ref mE, .ref mX, .ref mD]))] H118 := hP
              have hD : va_D A [(m0, .inr (3, [.int 1, .int (nI nz), .ref mH, .ref mL, .ref mB, .ref mP, .ref mR, .ref mA, .ref mW, .ref mU, .ref mV, .int rw, .ref mM, .ref mT, .int mc, .ref mQ, .int ga, .int gb, .int kn, .ref mO, .ref mF, .ref mS, .ref mE, .ref mX, .ref mD]))] := hD
              have hw : r119 = 1 := hw
              subst hw
              refine lv_if_eq (tgt := 87) hx hb d_M_set_82 (by decide) (fun c120 => absurd c120 (by decide)) (fun c120 => ?_)
              refine lv_iconst (v := 0) hx hb d_M_set_85 (by decide) ?_
              exact W.iret (v := 0) hx hb hr (fun t ht hW => ⟨⟨0, (), rfl, trivial, by have h9 := hP; rw [← ht] at h9; exact h9⟩, hS.F ht⟩) hS.2.2 d_M_set_86
            · exact absurd (Or.inr (Or.inr ⟨c3, hv⟩)) (hbad.resolve_left hz)
      · refine lv_iload_n hx hb d_M_set_27 rfl (lv_at hl9 3 rfl) ?_
        refine lv_iconst (v := 0) hx hb d_M_set_28 (by decide) ?_
        refine lv_ldc (v := 100000) hx hb hown (hG _ k_439) d_M_set_29 ?_
        by_cases hv : v < 0 ∨ 100000 < v
        · have hPc := hP.sub (ws' := []) [] rfl
          have hDc := hD.sub (ws' := []) [] (by decide) rfl
          have hFc := va_A_nil hA hS.1
          refine va_calli (va_runS (As := [.int v, .int 0, .int 100000]) (rest := []) ⟨hx, hb, hml, hown, hG⟩ (m_within l dC dI cI cJ cZ cB v 0 100000 H83.size ) (cwS 3 hG g_M_83 rfl rfl rfl (by decide +kernel) ⟨Nat.le_of_ble_eq_true rfl, Nat.le_of_ble_eq_true rfl⟩) ⟨PC.blind, PC.of hPc hK hDc hE hS hFc⟩ rfl rfl hl9.1 rfl (lv_room (Nat.le_of_ble_eq_true rfl)) d_M_set_31 ⟨by first | exact Nat.le_of_ble_eq_true rfl | omega, by first | exact Nat.le_of_ble_eq_true rfl | omega⟩) hS (fun q _ h => hFc q h) hFc (fun r122 u t H121 locs ht hvm hw hB hz1 hk1 hS => ?_)
          have hP := wp_kept hP hk1
          have hw : r122 = if ¬ (v < 0 ∨ 100000 < v) then 1 else 0 := hw
          subst hw
          rw [wi_0 hv]
          refine lv_if_ne (tgt := 52) hx hb d_M_set_34 (by decide) (fun c8 => absurd c8 (by decide)) (fun c8 => ?_)
          refine lv_iload_n hx hb d_M_set_37 rfl (lv_at hl9 2 rfl) ?_
          refine lv_iconst (v := 2) hx hb d_M_set_38 (by decide) ?_
          refine lv_icmp_ne (tgt := 56) hx hb d_M_set_39 (by decide) (fun c3 => ?_) (fun c3 => ?_)
          · refine lv_iconst (v := 0) hx hb d_M_set_56 (by decide) ?_
            refine lv_istore (lv' := [(4, .int 0), (0, .ref m0), (1, .int x), (2, .int what), (3, .int v)]) hx hb d_M_set_57 hl9 (by decide) rfl (fun ls hl9 => ?_)
            refine lv_aload_n hx hb d_M_set_59 rfl (lv_at hl9 1 rfl) ?_
            refine lv_aload_n hx hb d_M_set_60 rfl (lv_at hl9 1 rfl) ?_
            refine lv_iload_n hx hb d_M_set_61 rfl (lv_at hl9 2 rfl) ?_
            by_cases hz : x < 0 ∨ nI nz ≤ x
            · have hPc := hP.sub (ws' := [(m0, .inr (3, [.int 0, .int (nI nz), .ref mH, .ref mL, .ref mB, .ref mP, .ref mR, .ref mA, .ref mW, .ref mU, .ref mV, .int rw, .ref mM, .ref mT, .int mc, .ref mQ, .int ga, .int gb, .int kn, .ref mO, .ref mF, .ref mS, .ref mE, .ref mX, .ref mD]))]) [0] rfl
              have hDc := hD.sub (ws' := [(m0, .inr (3, [.int 0, .int (nI nz), .ref mH, .ref mL, .ref mB, .ref mP, .ref mR, .ref mA, .ref mW, .ref mU, .ref mV, .int rw, .ref mM, .ref mT, .int mc, .ref mQ, .int ga, .int gb, .int kn, .ref mO, .ref mF, .ref mS, .ref mE, .ref mX, .ref mD]))]) [0] (by decide) rfl
              have hFc := va_A_nil hA hS.1
              refine va_calli (va_runV (C := R_M) (As := [.int x]) (rest := [.ref m0]) ⟨hx, hb, hml, hown, hG⟩ (m_isZone l dC dI cI cJ cZ cB m0 mH mL mB mP mR mA mW mU mV mM mT mQ mO mF mS mE mX mD 0 (nI nz) rw mc ga gb kn x H121.size ) (cwV 1 hG g_M_95 rfl rfl rfl (by decide +kernel) ⟨Nat.le_of_ble_eq_true rfl, Nat.le_of_ble_eq_true rfl⟩) ⟨PC.blind, va_recv hK hP (ci := 3) (q0 := 0) rfl rfl, PC.of hPc hK hDc hE hS hFc⟩ rfl rfl hl9.1 rfl (lv_room (Nat.le_of_ble_eq_true rfl)) d_M_set_62 ⟨by first | exact Nat.le_of_ble_eq_true rfl | omega, by first | exact Nat.le_of_ble_eq_true rfl | omega⟩) hS (fun q _ h => hFc q h) hFc (fun r124 u t H123 locs ht hvm hw hB hz1 hk1 hS => ?_)
              have hP := wp_kept hP hk1
              have hw : r124 = if ¬ (x < 0 ∨ (nI nz) ≤ x) then 1 else 0 := hw
              subst hw
              rw [iz_0 hz]
              refine lv_if_eq (tgt := 73) hx hb d_M_set_65 (by decide) (fun c125 => ?_) (fun c125 => absurd c125 (by decide))
              refine lv_iconst (v := 1) hx hb d_M_set_73 (by decide) ?_
              refine lv_goto (tgt := 78) hx hb d_M_set_74 (by decide) ?_
              refine lv_iconst (v := 1) hx hb d_M_set_78 (by decide) ?_
              have hPc := hP.sub (ws' := [(m0, .inr (3, [.int 0, .int (nI nz), .ref mH, .ref mL, .ref mB, .ref mP, .ref mR, .ref mA, .ref mW, .ref mU, .ref mV, .int rw, .ref mM, .ref mT, .int mc, .ref mQ, .int ga, .int gb, .int kn, .ref mO, .ref mF, .ref mS, .ref mE, .ref mX, .ref mD]))]) [0] rfl
              have hDc := hD.sub (ws' := [(m0, .inr (3, [.int 0, .int (nI nz), .ref mH, .ref mL, .ref mB, .ref mP, .ref mR, .ref mA, .ref mW, .ref mU, .ref mV, .int rw, .ref mM, .ref mT, .int mc, .ref mQ, .int ga, .int gb, .int kn, .ref mO, .ref mF, .ref mS, .ref mE, .ref mX, .ref mD]))]) [0] (by decide) rfl
              have hFc := va_free (wc := [(m0, .inr (3, [.int 0, .int (nI nz), .ref mH, .ref mL, .ref mB, .ref mP, .ref mR, .ref mA, .ref mW, .ref mU, .ref mV, .int rw, .ref mM, .ref mT, .int mc, .ref mQ, .int ga, .int gb, .int kn, .ref mO, .ref mF, .ref mS, .ref mE, .ref mX, .ref mD]))]) hD hS hA [0] rfl
              refine va_calli (va_runV (C := R_M) (As := [.int 1, .int 1]) (rest := []) ⟨hx, hb, hml, hown, hG⟩ (m_fails011 l dC dI cI cJ cZ cB m0 mH mL mB mP mR mA mW mU mV mM mT mQ mO mF mS mE mX mD (nI nz) rw mc ga gb kn H123.size ) (cwV 2 hG g_M_87 rfl rfl rfl (by decide +kernel) ⟨Nat.le_of_ble_eq_true rfl, Nat.le_of_ble_eq_true rfl⟩) ⟨PC.blind, va_recv hK hP (ci := 3) (q0 := 0) rfl rfl, PC.of hPc hK hDc hE hS hFc⟩ rfl rfl hl9.1 rfl (lv_room (Nat.le_of_ble_eq_true rfl)) d_M_set_79 ⟨by first | exact Nat.le_of_ble_eq_true rfl | omega, by first | exact Nat.le_of_ble_eq_true rfl | omega⟩) hS (fun q _ h => hFc q h) hFc (fun r127 u t H126 locs ht hvm hw hB hz1 hk1 hS => ?_)
              rw [ht] at hB
              obtain ⟨hP, hD⟩ := jset (wc := [(m0, .inr (3, [.int 0, .int (nI nz), .ref mH, .ref mL, .ref mB, .ref mP, .ref mR, .ref mA, .ref mW, .ref mU, .ref mV, .int rw, .ref mM, .ref mT, .int mc, .ref mQ, .int ga, .int gb, .int kn, .ref mO, .ref mF, .ref mS, .ref mE, .ref mX, .ref mD]))]) (w1 := [(m0, .inr (3, [.int 1, .int (nI nz), .ref mH, .ref mL, .ref mB, .ref mP, .ref mR, .ref mA, .ref mW, .ref mU, .ref mV, .int rw, .ref mM, .ref mT, .int mc, .ref mQ, .int ga, .int gb, .int kn, .ref mO, .ref mF, .ref mS, .ref mE, .ref mX, .ref mD]))]) [0] rfl rfl hP hD hk1 hB
              have hP : va_P (dC, dI) vwCl [(m0, .inr (3, [.int 1, .int (nI nz), .ref mH, .ref mL, .ref mB, .ref mP, .ref mR, .ref mA, .ref mW, .ref mU, .ref mV, .int rw, .ref mM, .ref mT, .int mc, .ref mQ, .int ga, .int gb, .int kn, .ref mO, .ref mF, .ref mS, .ref mE, .ref mX, .ref mD]))] H126 := hP
              have hD : va_D A [(m0, .inr (3, [.int 1, .int (nI nz), .ref mH, .ref mL, .ref mB, .ref mP, .ref mR, .ref mA, .ref mW, .ref mU, .ref mV, .int rw, .ref mM, .ref mT, .int mc, .ref mQ, .int ga, .int gb, .int kn, .ref mO, .ref mF, .ref mS, .ref mE, .ref mX, .ref mD]))] := hD
              have hw : r127 = 1 := hw
              subst hw
              refine lv_if_eq (tgt := 87) hx hb d_M_set_82 (by decide) (fun c128 => absurd c128 (by decide)) (fun c128 => ?_)
              refine lv_iconst (v := 0) hx hb d_M_set_85 (by decide) ?_
              exact W.iret (v := 0) hx hb hr (fun t ht hW => ⟨⟨0, (), rfl, trivial, by have h9 := hP; rw [← ht] at h9; exact h9⟩, hS.F ht⟩) hS.2.2 d_M_set_86
            · have hPc := hP.sub (ws' := [(m0, .inr (3, [.int 0, .int (nI nz), .ref mH, .ref mL, .ref mB, .ref mP, .ref mR, .ref mA, .ref mW, .ref mU, .ref mV, .int rw, .ref mM, .ref mT, .int mc, .ref mQ, .int ga, .int gb, .int kn, .ref mO, .ref mF, .ref mS, .ref mE, .ref mX, .ref mD]))]) [0] rfl
              have hDc := hD.sub (ws' := [(m0, .inr (3, [.int 0, .int (nI nz), .ref mH, .ref mL, .ref mB, .ref mP, .ref mR, .ref mA, .ref mW, .ref mU, .ref mV, .int rw, .ref mM, .ref mT, .int mc, .ref mQ, .int ga, .int gb, .int kn, .ref mO, .ref mF, .ref mS, .ref mE, .ref mX, .ref mD]))]) [0] (by decide) rfl
              have hFc := va_A_nil hA hS.1
              refine va_calli (va_runV (C := R_M) (As := [.int x]) (rest := [.ref m0]) ⟨hx, hb, hml, hown, hG⟩ (m_isZone l dC dI cI cJ cZ cB m0 mH mL mB mP mR mA mW mU mV mM mT mQ mO mF mS mE mX mD 0 (nI nz) rw mc ga gb kn x H121.size ) (cwV 1 hG g_M_95 rfl rfl rfl (by decide +kernel) ⟨Nat.le_of_ble_eq_true rfl, Nat.le_of_ble_eq_true rfl⟩) ⟨PC.blind, va_recv hK hP (ci := 3) (q0 := 0) rfl rfl, PC.of hPc hK hDc hE hS hFc⟩ rfl rfl hl9.1 rfl (lv_room (Nat.le_of_ble_eq_true rfl)) d_M_set_62 ⟨by first | exact Nat.le_of_ble_eq_true rfl | omega, by first | exact Nat.le_of_ble_eq_true rfl | omega⟩) hS (fun q _ h => hFc q h) hFc (fun r130 u t H129 locs ht hvm hw hB hz1 hk1 hS => ?_)
              have hP := wp_kept hP hk1
              have hw : r130 = if ¬ (x < 0 ∨ (nI nz) ≤ x) then 1 else 0 := hw
              subst hw
              rw [iz_1g hz]
              refine lv_if_eq (tgt := 73) hx hb d_M_set_65 (by decide) (fun c131 => absurd c131 (by decide)) (fun c131 => ?_)
              refine lv_iload hx hb d_M_set_68 (lv_at hl9 0 rfl) ?_
              refine lv_if_ne (tgt := 77) hx hb d_M_set_70 (by decide) (fun c132 => absurd c132 (by decide)) (fun c132 => ?_)
              refine lv_iconst (v := 1) hx hb d_M_set_73 (by decide) ?_
              refine lv_goto (tgt := 78) hx hb d_M_set_74 (by decide) ?_
              refine lv_iconst (v := 1) hx hb d_M_set_78 (by decide) ?_
              have hPc := hP.sub (ws' := [(m0, .inr (3, [.int 0, .int (nI nz), .ref mH, .ref mL, .ref mB, .ref mP, .ref mR, .ref mA, .ref mW, .ref mU, .ref mV, .int rw, .ref mM, .ref mT, .int mc, .ref mQ, .int ga, .int gb, .int kn, .ref mO, .ref mF, .ref mS, .ref mE, .ref mX, .ref mD]))]) [0] rfl
              have hDc := hD.sub (ws' := [(m0, .inr (3, [.int 0, .int (nI nz), .ref mH, .ref mL, .ref mB, .ref mP, .ref mR, .ref mA, .ref mW, .ref mU, .ref mV, .int rw, .ref mM, .ref mT, .int mc, .ref mQ, .int ga, .int gb, .int kn, .ref mO, .ref mF, .ref mS, .ref mE, .ref mX, .ref mD]))]) [0] (by decide) rfl
              have hFc := va_free (wc := [(m0, .inr (3, [.int 0, .int (nI nz), .ref mH, .ref mL, .ref mB, .ref mP, .ref mR, .ref mA, .ref mW, .ref mU, .ref mV, .int rw, .ref mM, .ref mT, .int mc, .ref mQ, .int ga, .int gb, .int kn, .ref mO, .ref mF, .ref mS, .ref mE, .ref mX, .ref mD]))]) hD hS hA [0] rfl
              refine va_calli (va_runV (C := R_M) (As := [.int 1, .int 1]) (rest := []) ⟨hx, hb, hml, hown, hG⟩ (m_fails011 l dC dI cI cJ cZ cB m0 mH mL mB mP mR mA mW mU mV mM mT mQ mO mF mS mE mX mD (nI nz) rw mc ga gb kn H129.size ) (cwV 2 hG g_M_87 rfl rfl rfl (by decide +kernel) ⟨Nat.le_of_ble_eq_true rfl, Nat.le_of_ble_eq_true rfl⟩) ⟨PC.blind, va_recv hK hP (ci := 3) (q0 := 0) rfl rfl, PC.of hPc hK hDc hE hS hFc⟩ rfl rfl hl9.1 rfl (lv_room (Nat.le_of_ble_eq_true rfl)) d_M_set_79 ⟨by first | exact Nat.le_of_ble_eq_true rfl | omega, by first | exact Nat.le_of_ble_eq_true rfl | omega⟩) hS (fun q _ h => hFc q h) hFc (fun r134 u t H133 locs ht hvm hw hB hz1 hk1 hS => ?_)
              rw [ht] at hB
              obtain ⟨hP, hD⟩ := jset (wc := [(m0, .inr (3, [.int 0, .int (nI nz), .ref mH, .ref mL, .ref mB, .ref mP, .ref mR, .ref mA, .ref mW, .ref mU, .ref mV, .int rw, .ref mM, .ref mT, .int mc, .ref mQ, .int ga, .int gb, .int kn, .ref mO, .ref mF, .ref mS, .ref mE, .ref mX, .ref mD]))]) (w1 := [(m0, .inr (3, [.int 1, .int (nI nz), .ref mH, .ref mL, .ref mB, .ref mP, .ref mR, .ref mA, .ref mW, .ref mU, .ref mV, .int rw, .ref mM, .ref mT, .int mc, .ref mQ, .int ga, .int gb, .int kn, .ref mO, .ref mF, .ref mS, .ref mE, .ref mX, .ref mD]))]) [0] rfl rfl hP hD hk1 hB
              have hP : va_P (dC, dI) vwCl [(m0, .inr (3, [.int 1, .int (nI nz), .ref mH, .ref mL, .ref mB, .ref mP, .ref mR, .ref mA, .ref mW, .ref mU, .ref mV, .int rw, .ref mM, .ref mT, .int mc, .ref mQ, .int ga, .int gb, .int kn, .ref mO, .ref mF, .ref mS, .ref mE, .ref mX, .ref mD]))] H133 := hP
              have hD : va_D A [(m0, .inr (3, [.int 1, .int (nI nz), .ref mH, .ref mL, .ref mB, .ref mP, .ref mR, .ref mA, .ref mW, .ref mU, .ref mV, .int rw, .ref mM, .ref mT, .int mc, .ref mQ, .int ga, .int gb, .int kn, .ref mO, .ref mF, .ref mS, .ref mE, .ref mX, .ref mD]))] := hD
              have hw : r134 = 1 := hw
              subst hw
              refine lv_if_eq (tgt := 87) hx hb d_M_set_82 (by decide) (fun c135 => absurd c135 (by decide)) (fun c135 => ?_)
              refine lv_iconst (v := 0) hx hb d_M_set_85 (by decide) ?_
              exact W.iret (v := 0) hx hb hr (fun t ht hW => ⟨⟨0, (), rfl, trivial, by have h9 := hP; rw [← ht] at h9; exact h9⟩, hS.F ht⟩) hS.2.2 d_M_set_86
          · refine lv_iload_n hx hb d_M_set_42 rfl (lv_at hl9 3 rfl) ?_
            refine lv_iconst (v := 0) hx hb d_M_set_43 (by decide) ?_
            refine lv_bipush (v := 9) hx hb d_M_set_44 (by decide) ?_
            by_cases hv : v < 0 ∨ 9 < v
            · have hPc := hP.sub (ws' := []) [] rfl
              have hDc := hD.sub (ws' := []) [] (by decide) rfl
              have hFc := va_A_nil hA hS.1
              refine va_calli (va_runS (As := [.int v, .int 0, .int 9]) (rest := []) ⟨hx, hb, hml, hown, hG⟩ (m_within l dC dI cI cJ cZ cB v 0 9 H121.size ) (cwS 3 hG g_M_83 rfl rfl rfl (by decide +kernel) ⟨Nat.le_of_ble_eq_true rfl, Nat.le_of_ble_eq_true rfl⟩) ⟨PC.blind, PC.of hPc hK hDc hE hS hFc⟩ rfl rfl hl9.1 rfl (lv_room (Nat.le_of_ble_eq_true rfl)) d_M_set_46 ⟨by first | exact Nat.le_of_ble_eq_true rfl | omega, by first | exact Nat.le_of_ble_eq_true rfl | omega⟩) hS (fun q _ h => hFc q h) hFc (fun r137 u t H136 locs ht hvm hw hB hz1 hk1 hS => ?_)
              have hP := wp_kept hP hk1
              have hw : r137 = if ¬ (v < 0 ∨ 9 < v) then 1 else 0 := hw
              subst hw
              rw [wi_0 hv]
              refine lv_if_eq (tgt := 56) hx hb d_M_set_49 (by decide) (fun c8 => ?_) (fun c8 => absurd c8 (by decide))
              refine lv_iconst (v := 0) hx hb d_M_set_56 (by decide) ?_
              refine lv_istore (lv' := [(4, .int 0), (0, .ref m0), (1, .int x), (2, .int what), (3, .int v)]) hx hb d_M_set_57 hl9 (by decide) rfl (fun ls hl9 => ?_)
              refine lv_aload_n hx hb d_M_set_59 rfl (lv_at hl9 1 rfl) ?_
              refine lv_aload_n hx hb d_M_set_60 rfl (lv_at hl9 1 rfl) ?_
              refine lv_iload_n hx hb d_M_set_61 rfl (lv_at hl9 2 rfl) ?_
              by_cases hz : x < 0 ∨ nI nz ≤ x
              · have hPc := hP.sub (ws' := [(m0, .inr (3, [.int 0, .int (nI nz), .ref mH, .ref mL, .ref mB, .ref mP, .ref mR, .ref mA, .ref mW, .ref mU, .ref mV, .int rw, .ref mM, .ref mT, .int mc, .ref mQ, .int ga, .int gb, .int kn, .ref mO, .ref mF, .ref mS, .ref mE, .ref mX, .ref mD]))]) [0] rfl
                have hDc := hD.sub (ws' := [(m0, .inr (3, [.int 0, .int (nI nz), .ref mH, .ref mL, .ref mB, .ref mP, .ref mR, .ref mA, .ref mW, .ref mU, .ref mV, .int rw, .ref mM, .ref mT, .int mc, .ref mQ, .int ga, .int gb, .int kn, .ref mO, .ref mF, .ref mS, .ref mE, .ref mX, .ref mD]))]) [0] (by decide) rfl
                have hFc := va_A_nil hA hS.1
                refine va_calli (va_runV (C := R_M) (As := [.int x]) (rest := [.ref m0]) ⟨hx, hb, hml, hown, hG⟩ (m_isZone l dC dI cI cJ cZ cB m0 mH mL mB mP mR mA mW mU mV mM mT mQ mO mF mS mE mX mD 0 (nI nz) rw mc ga gb kn x H136.size ) (cwV 1 hG g_M_95 rfl rfl rfl (by decide +kernel) ⟨Nat.le_of_ble_eq_true rfl, Nat.le_of_ble_eq_true rfl⟩) ⟨PC.blind, va_recv hK hP (ci := 3) (q0 := 0) rfl rfl, PC.of hPc hK hDc hE hS hFc⟩ rfl rfl hl9.1 rfl (lv_room (Nat.le_of_ble_eq_true rfl)) d_M_set_62 ⟨by first | exact Nat.le_of_ble_eq_true rfl | omega, by first | exact Nat.le_of_ble_eq_true rfl | omega⟩) hS (fun q _ h => hFc q h) hFc (fun r139 u t H138 locs ht hvm hw hB hz1 hk1 hS => ?_)
                have hP := wp_kept hP hk1
                have hw : r139 = if ¬ (x < 0 ∨ (nI nz) ≤ x) then 1 else 0 := hw
                subst hw
                rw [iz_0 hz]
                refine lv_if_eq (tgt := 73) hx hb d_M_set_65 (by decide) (fun c140 => ?_) (fun c140 => absurd c140 (by decide))
                refine lv_iconst (v := 1) hx hb d_M_set_73 (by decide) ?_
                refine lv_goto (tgt := 78) hx hb d_M_set_74 (by decide) ?_
                refine lv_iconst (v := 1) hx hb d_M_set_78 (by decide) ?_
                have hPc := hP.sub (ws' := [(m0, .inr (3, [.int 0, .int (nI nz), .ref mH, .ref mL, .ref mB, .ref mP, .ref mR, .ref mA, .ref mW, .ref mU, .ref mV, .int rw, .ref mM, .ref mT, .int mc, .ref mQ, .int ga, .int gb, .int kn, .ref mO, .ref mF, .ref mS, .ref mE, .ref mX, .ref mD]))]) [0] rfl
                have hDc := hD.sub (ws' := [(m0, .inr (3, [.int 0, .int (nI nz), .ref mH, .ref mL, .ref mB, .ref mP, .ref mR, .ref mA, .ref mW, .ref mU, .ref mV, .int rw, .ref mM, .ref mT, .int mc, .ref mQ, .int ga, .int gb, .int kn, .ref mO, .ref mF, .ref mS, .ref mE, .ref mX, .ref mD]))]) [0] (by decide) rfl
                have hFc := va_free (wc := [(m0, .inr (3, [.int 0, .int (nI nz), .ref mH, .ref mL, .ref mB, .ref mP, .ref mR, .ref mA, .ref mW, .ref mU, .ref mV, .int rw, .ref mM, .ref mT, .int mc, .ref mQ, .int ga, .int gb, .int kn, .ref mO, .ref mF, .ref mS, .ref mE, .ref mX, .ref mD]))]) hD hS hA [0] rfl
                refine va_calli (va_runV (C := R_M) (As := [.int 1, .int 1]) (rest := []) ⟨hx, hb, hml, hown, hG⟩ (m_fails011 l dC dI cI cJ cZ cB m0 mH mL mB mP mR mA mW mU mV mM mT mQ mO mF mS mE mX mD (nI nz) rw mc ga gb kn H138.size ) (cwV 2 hG g_M_87 rfl rfl rfl (by decide +kernel) ⟨Nat.le_of_ble_eq_true rfl, Nat.le_of_ble_eq_true rfl⟩) ⟨PC.blind, va_recv hK hP (ci := 3) (q0 := 0) rfl rfl, PC.of hPc hK hDc hE hS hFc⟩ rfl rfl hl9.1 rfl (lv_room (Nat.le_of_ble_eq_true rfl)) d_M_set_79 ⟨by first | exact Nat.le_of_ble_eq_true rfl | omega, by first | exact Nat.le_of_ble_eq_true rfl | omega⟩) hS (fun q _ h => hFc q h) hFc (fun r142 u t H141 locs ht hvm hw hB hz1 hk1 hS => ?_)
                rw [ht] at hB
                obtain ⟨hP, hD⟩ := jset (wc := [(m0, .inr (3, [.int 0, .int (nI nz), .ref mH, .ref mL, .ref mB, .ref mP, .ref mR, .ref mA, .ref mW, .ref mU, .ref mV, .int rw, .ref mM, .ref mT, .int mc, .ref mQ, .int ga, .int gb, .int kn, .ref mO, .ref mF, .ref mS, .ref mE, .ref mX, .ref mD]))]) (w1 := [(m0, .inr (3, [.int 1, .int (nI nz), .ref mH, .ref mL, .ref mB, .ref mP, .ref mR, .ref mA, .ref mW, .ref mU, .ref mV, .int rw, .ref mM, .ref mT, .int mc, .ref mQ, .int ga, .int gb, .int kn, .ref mO, .ref mF, .ref mS, .ref mE, .ref mX, .ref mD]))]) [0] rfl rfl hP hD hk1 hB
                have hP : va_P (dC, dI) vwCl [(m0, .inr (3, [.int 1, .int (nI nz), .ref mH, .ref mL, .ref mB, .ref mP, .ref mR, .ref mA, .ref mW, .ref mU, .ref mV, .int rw, .ref mM, .ref mT, .int mc, .ref mQ, .int ga, .int gb, .int kn, .ref mO, .ref mF, .ref mS, .ref mE, .ref mX, .ref mD]))] H141 := hP
                have hD : va_D A [(m0, .inr (3, [.int 1, .int (nI nz), .ref mH, .ref mL, .ref mB, .ref mP, .ref mR, .ref mA, .ref mW, .ref mU, .ref mV, .int rw, .ref mM, .ref mT, .int mc, .ref mQ, .int ga, .int gb, .int kn, .ref mO, .ref mF, .ref mS, .ref mE, .ref mX, .ref mD]))] := hD
                have hw : r142 = 1 := hw
                subst hw
                refine lv_if_eq (tgt := 87) hx hb d_M_set_82 (by decide) (fun c143 => absurd c143 (by decide)) (fun c143 => ?_)
                refine lv_iconst (v := 0) hx hb d_M_set_85 (by decide) ?_
                exact W.iret (v := 0) hx hb hr (fun t ht hW => ⟨⟨0, (), rfl, trivial, by have h9 := hP; rw [← ht] at h9; exact h9⟩, hS.F ht⟩) hS.2.2 d_M_set_86
              · have hPc := hP.sub (ws' := [(m0, .inr (3, [.int 0, .int (nI nz), .ref mH, .ref mL, .ref mB, .ref mP, .ref mR, .ref mA, .ref mW, .ref mU, .ref mV, .int rw, .ref mM, .ref mT, .int mc, .ref mQ, .int ga, .int gb, .int kn, .ref mO, .ref mF, .ref mS, .ref mE, .ref mX, .ref mD]))]) [0] rfl
                have hDc := hD.sub (ws' := [(m0, .inr (3, [.int 0, .int (nI nz), .ref mH, .ref mL, .ref mB, .ref mP, .ref mR, .ref mA, .ref mW, .ref mU, .ref mV, .int rw, .ref mM, .ref mT, .int mc, .ref mQ, .int ga, .int gb, .int kn, .ref mO, .ref mF, .ref mS, .ref mE, .ref mX, .ref mD]))]) [0] (by decide) rfl
                have hFc := va_A_nil hA hS.1
                refine va_calli (va_runV (C := R_M) (As := [.int x]) (rest := [.ref m0]) ⟨hx, hb, hml, hown, hG⟩ (m_isZone l dC dI cI cJ cZ cB m0 mH mL mB mP mR mA mW mU mV mM mT mQ mO mF mS mE mX mD 0 (nI nz) rw mc ga gb kn x H136.size ) (cwV 1 hG g_M_95 rfl rfl rfl (by decide +kernel) ⟨Nat.le_of_ble_eq_true rfl, Nat.le_of_ble_eq_true rfl⟩) ⟨PC.blind, va_recv hK hP (ci := 3) (q0 := 0) rfl rfl, PC.of hPc hK hDc hE hS hFc⟩ rfl rfl hl9.1 rfl (lv_room (Nat.le_of_ble_eq_true rfl)) d_M_set_62 ⟨by first | exact Nat.le_of_ble_eq_true rfl | omega, by first | exact Nat.le_of_ble_eq_true rfl | omega⟩) hS (fun q _ h => hFc q h) hFc (fun r145 u t H144 locs ht hvm hw hB hz1 hk1 hS => ?_)
                have hP := wp_kept hP hk1
                have hw : r145 = if ¬ (x < 0 ∨ (nI nz) ≤ x) then 1 else 0 := hw
                subst hw
                rw [iz_1g hz]
                refine lv_if_eq (tgt := 73) hx hb d_M_set_65 (by decide) (fun c146 => absurd c146 (by decide)) (fun c146 => ?_)
                refine lv_iload hx hb d_M_set_68 (lv_at hl9 0 rfl) ?_
                refine lv_if_ne (tgt := 77) hx hb d_M_set_70 (by decide) (fun c147 => absurd c147 (by decide)) (fun c147 => ?_)
                refine lv_iconst (v := 1) hx hb d_M_set_73 (by decide) ?_
                refine lv_goto (tgt := 78) hx hb d_M_set_74 (by decide) ?_
                refine lv_iconst (v := 1) hx hb d_M_set_78 (by decide) ?_
                have hPc := hP.sub (ws' := [(m0, .inr (3, [.int 0, .int (nI nz), .ref mH, .ref mL, .ref mB, .ref mP, .ref mR, .ref mA, .ref mW, .ref mU, .ref mV, .int rw, .ref mM, .ref mT, .int mc, .ref mQ, .int ga, .int gb, .int kn, .ref mO, .ref mF, .ref mS, .ref mE, .ref mX, .ref mD]))]) [0] rfl
                have hDc := hD.sub (ws' := [(m0, .inr (3, [.int 0, .int (nI nz), .ref mH, .ref mL, .ref mB, .ref mP, .ref mR, .ref mA, .ref mW, .ref mU, .ref mV, .int rw, .ref mM, .ref mT, .int mc, .ref mQ, .int ga, .int gb, .int kn, .ref mO, .ref mF, .ref mS, .ref mE, .ref mX, .ref mD]))]) [0] (by decide) rfl
                have hFc := va_free (wc := [(m0, .inr (3, [.int 0, .int (nI nz), .ref mH, .ref mL, .ref mB, .ref mP, .ref mR, .ref mA, .ref mW, .ref mU, .ref mV, .int rw, .ref mM, .ref mT, .int mc, .ref mQ, .int ga, .int gb, .int kn, .ref mO, .ref mF, .ref mS, .ref mE, .ref mX, .ref mD]))]) hD hS hA [0] rfl
                refine va_calli (va_runV (C := R_M) (As := [.int 1, .int 1]) (rest := []) ⟨hx, hb, hml, hown, hG⟩ (m_fails011 l dC dI cI cJ cZ cB m0 mH mL mB mP mR mA mW mU mV mM mT mQ mO mF mS mE mX mD (nI nz) rw mc ga gb kn H144.size ) (cwV 2 hG g_M_87 rfl rfl rfl (by decide +kernel) ⟨Nat.le_of_ble_eq_true rfl, Nat.le_of_ble_eq_true rfl⟩) ⟨PC.blind, va_recv hK hP (ci := 3) (q0 := 0) rfl rfl, PC.of hPc hK hDc hE hS hFc⟩ rfl rfl hl9.1 rfl (lv_room (Nat.le_of_ble_eq_true rfl)) d_M_set_79 ⟨by first | exact Nat.le_of_ble_eq_true rfl | omega, by first | exact Nat.le_of_ble_eq_true rfl | omega⟩) hS (fun q _ h => hFc q h) hFc (fun r149 u t H148 locs ht hvm hw hB hz1 hk1 hS => ?_)
                rw [ht] at hB
                obtain ⟨hP, hD⟩ := jset (wc := [(m0, .inr (3, [.int 0, .int (nI nz), .ref mH, .ref mL, .ref mB, .ref mP, .ref mR, .ref mA, .ref mW, .ref mU, .ref mV, .int rw, .ref mM, .ref mT, .int mc, .ref mQ, .int ga, .int gb, .int kn, .ref mO, .ref mF, .ref mS, .ref mE, .ref mX, .ref mD]))]) (w1 := [(m0, .inr (3, [.int 1, .int (nI nz), .ref mH, .ref mL, .ref mB, .ref mP, .ref mR, .ref mA, .ref mW, .ref mU, .ref mV, .int rw, .ref mM, .ref mT, .int mc, .ref mQ, .int ga, .int gb, .int kn, .ref mO, .ref mF, .ref mS, .ref mE, .ref mX, .ref mD]))]) [0] rfl rfl hP hD hk1 hB
                have hP : va_P (dC, dI) vwCl [(m0, .inr (3, [.int 1, .int (nI nz), .ref mH, .ref mL, .ref mB, .ref mP, .ref mR, .ref mA, .ref mW, .ref mU, .ref mV, .int rw, .ref mM, .ref mT, .int mc, .ref mQ, .int ga, .int gb, .int kn, .ref mO, .ref mF, .ref mS, .ref mE, .ref mX, .ref mD]))] H148 := hP
                have hD : va_D A [(m0, .inr (3, [.int 1, .int (nI nz), .ref mH, .ref mL, .ref mB, .ref mP, .ref mR, .ref mA, .ref mW, .ref mU, .ref mV, .int rw, .ref mM, .ref mT, .int mc, .ref mQ, .int ga, .int gb, .int kn, .ref mO, .ref mF, .ref mS, .ref mE, .ref mX, .ref mD]))] := hD
                have hw : r149 = 1 := hw
                subst hw
                refine lv_if_eq (tgt := 87) hx hb d_M_set_82 (by decide) (fun c150 => absurd c150 (by decide)) (fun c150 => ?_)
                refine lv_iconst (v := 0) hx hb d_M_set_85 (by decide) ?_
                exact W.iret (v := 0) hx hb hr (fun t ht hW => ⟨⟨0, (), rfl, trivial, by have h9 := hP; rw [← ht] at h9; exact h9⟩, hS.F ht⟩) hS.2.2 d_M_set_86
            · have hPc := hP.sub (ws' := []) [] rfl
              have hDc := hD.sub (ws' := []) [] (by decide) rfl
              have hFc := va_A_nil hA hS.1
              refine va_calli (va_runS (As := [.int v, .int 0, .int 9]) (rest := []) ⟨hx, hb, hml, hown, hG⟩ (m_within l dC dI cI cJ cZ cB v 0 9 H121.size ) (cwS 3 hG g_M_83 rfl rfl rfl (by decide +kernel) ⟨Nat.le_of_ble_eq_true rfl, Nat.le_of_ble_eq_true rfl⟩) ⟨PC.blind, PC.of hPc hK hDc hE hS hFc⟩ rfl rfl hl9.1 rfl (lv_room (Nat.le_of_ble_eq_true rfl)) d_M_set_46 ⟨by first | exact Nat.le_of_ble_eq_true rfl | omega, by first | exact Nat.le_of_ble_eq_true rfl | omega⟩) hS (fun q _ h => hFc q h) hFc (fun r152 u t H151 locs ht hvm hw hB hz1 hk1 hS => ?_)
              have hP := wp_kept hP hk1
              have hw : r152 = if ¬ (v < 0 ∨ 9 < v) then 1 else 0 := hw
              subst hw
              rw [wi_1 hv]
              refine lv_if_eq (tgt := 56) hx hb d_M_set_49 (by decide) (fun c8 => absurd c8 (by decide)) (fun c8 => ?_)
              refine lv_iconst (v := 1) hx hb d_M_set_52 (by decide) ?_
              refine lv_goto (tgt := 57) hx hb d_M_set_53 (by decide) ?_
              refine lv_istore (lv' := [(4, .int 1), (0, .ref m0), (1, .int x), (2, .int what), (3, .int v)]) hx hb d_M_set_57 hl9 (by decide) rfl (fun ls hl9 => ?_)
              refine lv_aload_n hx hb d_M_set_59 rfl (lv_at hl9 1 rfl) ?_
              refine lv_aload_n hx hb d_M_set_60 rfl (lv_at hl9 1 rfl) ?_
              refine lv_iload_n hx hb d_M_set_61 rfl (lv_at hl9 2 rfl) ?_
              by_cases hz : x < 0 ∨ nI nz ≤ x
              · have hPc := hP.sub (ws' := [(m0, .inr (3, [.int 0, .int (nI nz), .ref mH, .ref mL, .ref mB, .ref mP, .ref mR, .ref mA, .ref mW, .ref mU, .ref mV, .int rw, .ref mM, .ref mT, .int mc, .ref mQ, .int ga, .int gb, .int kn, .ref mO, .ref mF, .ref mS, .ref mE, .ref mX, .ref mD]))]) [0] rfl
                have hDc := hD.sub (ws' := [(m0, .inr (3, [.int 0, .int (nI nz), .ref mH, .ref mL, .ref mB, .ref mP, .ref mR, .ref mA, .ref mW, .ref mU, .ref mV, .int rw, .ref mM, .ref mT, .int mc, .ref mQ, .int ga, .int gb, .int kn, .ref mO, .ref mF, .ref mS, .ref mE, .ref mX, .ref mD]))]) [0] (by decide) rfl
                have hFc := va_A_nil hA hS.1
                refine va_calli (va_runV (C := R_M) (As := [.int x]) (rest := [.ref m0]) ⟨hx, hb, hml, hown, hG⟩ (m_isZone l dC dI cI cJ cZ cB m0 mH mL mB mP mR mA mW mU mV mM mT mQ mO mF mS mE mX mD 0 (nI nz) rw mc ga gb kn x H151.size ) (cwV 1 hG g_M_95 rfl rfl rfl (by decide +kernel) ⟨Nat.le_of_ble_eq_true rfl, Nat.le_of_ble_eq_true rfl⟩) ⟨PC.blind, va_recv hK hP (ci := 3) (q0 := 0) rfl rfl, PC.of hPc hK hDc hE hS hFc⟩ rfl rfl hl9.1 rfl (lv_room (Nat.le_of_ble_eq_true rfl)) d_M_set_62 ⟨by first | exact Nat.le_of_ble_eq_true rfl | omega, by first | exact Nat.le_of_ble_eq_true rfl | omega⟩) hS (fun q _ h => hFc q h) hFc (fun r154 u t H153 locs ht hvm hw hB hz1 hk1 hS => ?_)
                have hP := wp_kept hP hk1
                have hw : r154 = if ¬ (x < 0 ∨ (nI nz) ≤ x) then 1 else 0 := hw
                subst hw
                rw [iz_0 hz]
                refine lv_if_eq (tgt := 73) hx hb d_M_set_65 (by decide) (fun c155 => ?_) (fun c155 => absurd c155 (by decide))
                refine lv_iconst (v := 1) hx hb d_M_set_73 (by decide) ?_
                refine lv_goto (tgt := 78) hx hb d_M_set_74 (by decide) ?_
                refine lv_iconst (v := 1) hx hb d_M_set_78 (by decide) ?_
                have hPc := hP.sub (ws' := [(m0, .inr (3, [.int 0, .int (nI nz), .ref mH, .ref mL, .ref mB, .ref mP, .ref mR, .ref mA, .ref mW, .ref mU, .ref mV, .int rw, .ref mM, .ref mT, .int mc, .ref mQ, .int ga, .int gb, .int kn, .ref mO, .ref mF, .ref mS, .ref mE, .ref mX, .ref mD]))]) [0] rfl
                have hDc := hD.sub (ws' := [(m0, .inr (3, [.int 0, .int (nI nz), .ref mH, .ref mL, .ref mB, .ref mP, .ref mR, .ref mA, .ref mW, .ref mU, .ref mV, .int rw, .ref mM, .ref mT, .int mc, .ref mQ, .int ga, .int gb, .int kn, .ref mO, .ref mF, .ref mS, .ref mE, .ref mX, .ref mD]))]) [0] (by decide) rfl
                have hFc := va_free (wc := [(m0, .inr (3, [.int 0, .int (nI nz), .ref mH, .ref mL, .ref mB, .ref mP, .ref mR, .ref mA, .ref mW, .ref mU, .ref mV, .int rw, .ref mM, .ref mT, .int mc, .ref mQ, .int ga, .int gb, .int kn, .ref mO, .ref mF, .ref mS, .ref mE, .ref mX, .ref mD]))]) hD hS hA [0] rfl
                refine va_calli (va_runV (C := R_M) (As := [.int 1, .int 1]) (rest := []) ⟨hx, hb, hml, hown, hG⟩ (m_fails011 l dC dI cI cJ cZ cB m0 mH mL mB mP mR mA mW mU mV mM mT mQ mO mF mS mE mX mD (nI nz) rw mc ga gb kn H153.size ) (cwV 2 hG g_M_87 rfl rfl rfl (by decide +kernel) ⟨Nat.le_of_ble_eq_true rfl, Nat.le_of_ble_eq_true rfl⟩) ⟨PC.blind, va_recv hK hP (ci := 3) (q0 := 0) rfl rfl, PC.of hPc hK hDc hE hS hFc⟩ rfl rfl hl9.1 rfl (lv_room (Nat.le_of_ble_eq_true rfl)) d_M_set_79 ⟨by first | exact Nat.le_of_ble_eq_true rfl | omega, by first | exact Nat.le_of_ble_eq_true rfl | omega⟩) hS (fun q _ h => hFc q h) hFc (fun r157 u t H156 locs ht hvm hw hB hz1 hk1 hS => ?_)
                rw [ht] at hB
                obtain ⟨hP, hD⟩ := jset (wc := [(m0, .inr (3, [.int 0, .int (nI nz), .ref mH, .ref mL, .ref mB, .ref mP, .ref mR, .ref mA, .ref mW, .ref mU, .ref mV, .int rw, .ref mM, .ref mT, .int mc, .ref mQ, .int ga, .int gb, .int kn, .ref mO, .ref mF, .ref mS, .ref mE, .ref mX, .ref mD]))]) (w1 := [(m0, .inr (3, [.int 1, .int (nI nz), .ref mH, .ref mL, .ref mB, .ref mP, .ref mR, .ref mA, .ref mW, .ref mU, .ref mV, .int rw, .ref mM, .ref mT, .int mc, .ref mQ, .int ga, .int gb, .int kn, .ref mO, .ref mF, .ref mS, .ref mE, .ref mX, .ref mD]))]) [0] rfl rfl hP hD hk1 hB
                have hP : va_P (dC, dI) vwCl [(m0, .inr (3, [.int 1, .int (nI nz), .ref mH, .ref mL, .ref mB, .ref mP, .ref mR, .ref mA, .ref mW, .ref mU, .ref mV, .int rw, .ref mM, .ref mT, .int mc, .ref mQ, .int ga, .int gb, .int kn, .ref mO, .ref mF, .ref mS, .ref mE, .ref mX, .ref mD]))] H156 := hP
                have hD : va_D A [(m0, .inr (3, [.int 1, .int (nI nz), .ref mH, .ref mL, .ref mB, .ref mP, .ref mR, .ref mA, .ref mW, .ref mU, .ref mV, .int rw, .ref mM, .ref mT, .int mc, .ref mQ, .int ga, .int gb, .int kn, .ref mO, .ref mF, .ref mS, .ref mE, .ref mX, .ref mD]))] := hD
                have hw : r157 = 1 := hw
                subst hw
                refine lv_if_eq (tgt := 87) hx hb d_M_set_82 (by decide) (fun c158 => absurd c158 (by decide)) (fun c158 => ?_)
                refine lv_iconst (v := 0) hx hb d_M_set_85 (by decide) ?_
                exact W.iret (v := 0) hx hb hr (fun t ht hW => ⟨⟨0, (), rfl, trivial, by have h9 := hP; rw [← ht] at h9; exact h9⟩, hS.F ht⟩) hS.2.2 d_M_set_86
              · exact absurd (Or.inr (Or.inr ⟨c3, hv⟩)) (hbad.resolve_left hz)
        · have hPc := hP.sub (ws' := []) [] rfl
          have hDc := hD.sub (ws' := []) [] (by decide) rfl
          have hFc := va_A_nil hA hS.1
          refine va_calli (va_runS (As := [.int v, .int 0, .int 100000]) (rest := []) ⟨hx, hb, hml, hown, hG⟩ (m_within l dC dI cI cJ cZ cB v 0 100000 H83.size ) (cwS 3 hG g_M_83 rfl rfl rfl (by decide +kernel) ⟨Nat.le_of_ble_eq_true rfl, Nat.le_of_ble_eq_true rfl⟩) ⟨PC.blind, PC.of hPc hK hDc hE hS hFc⟩ rfl rfl hl9.1 rfl (lv_room (Nat.le_of_ble_eq_true rfl)) d_M_set_31 ⟨by first | exact Nat.le_of_ble_eq_true rfl | omega, by first | exact Nat.le_of_ble_eq_true rfl | omega⟩) hS (fun q _ h => hFc q h) hFc (fun r160 u t H159 locs ht hvm hw hB hz1 hk1 hS => ?_)
          have hP := wp_kept hP hk1
          have hw : r160 = if ¬ (v < 0 ∨ 100000 < v) then 1 else 0 := hw
          subst hw
          rw [wi_1 hv]
          refine lv_if_ne (tgt := 52) hx hb d_M_set_34 (by decide) (fun c8 => ?_) (fun c8 => absurd c8 (by decide))
          refine lv_iconst (v := 1) hx hb d_M_set_52 (by decide) ?_
          refine lv_goto (tgt := 57) hx hb d_M_set_53 (by decide) ?_
          refine lv_istore (lv' := [(4, .int 1), (0, .ref m0), (1, .int x), (2, .int what), (3, .int v)]) hx hb d_M_set_57 hl9 (by decide) rfl (fun ls hl9 => ?_)
          refine lv_aload_n hx hb d_M_set_59 rfl (lv_at hl9 1 rfl) ?_
          refine lv_aload_n hx hb d_M_set_60 rfl (lv_at hl9 1 rfl) ?_
          refine lv_iload_n hx hb d_M_set_61 rfl (lv_at hl9 2 rfl) ?_
          by_cases hz : x < 0 ∨ nI nz ≤ x
          · have hPc := hP.sub (ws' := [(m0, .inr (3, [.int 0, .int (nI nz), .ref mH, .ref mL, .ref mB, .ref mP, .ref mR, .ref mA, .ref mW, .ref mU, .ref mV, .int rw, .ref mM, .ref mT, .int mc, .ref mQ, .int ga, .int gb, .int kn, .ref mO, .ref mF, .ref mS, .ref mE, .ref mX, .ref mD]))]) [0] rfl
            have hDc := hD.sub (ws' := [(m0, .inr (3, [.int 0, .int (nI nz), .ref mH, .ref mL, .ref mB, .ref mP, .ref mR, .ref mA, .ref mW, .ref mU, .ref mV, .int rw, .ref mM, .ref mT, .int mc, .ref mQ, .int ga, .int gb, .int kn, .ref mO, .ref mF, .ref mS, .ref mE, .ref mX, .ref mD]))]) [0] (by decide) rfl
            have hFc := va_A_nil hA hS.1
            refine va_calli (va_runV (C := R_M) (As := [.int x]) (rest := [.ref m0]) ⟨hx, hb, hml, hown, hG⟩ (m_isZone l dC dI cI cJ cZ cB m0 mH mL mB mP mR mA mW mU mV mM mT mQ mO mF mS mE mX mD 0 (nI nz) rw mc ga gb kn x H159.size ) (cwV 1 hG g_M_95 rfl rfl rfl (by decide +kernel) ⟨Nat.le_of_ble_eq_true rfl, Nat.le_of_ble_eq_true rfl⟩) ⟨PC.blind, va_recv hK hP (ci := 3) (q0 := 0) rfl rfl, PC.of hPc hK hDc hE hS hFc⟩ rfl rfl hl9.1 rfl (lv_room (Nat.le_of_ble_eq_true rfl)) d_M_set_62 ⟨by first | exact Nat.le_of_ble_eq_true rfl | omega, by first | exact Nat.le_of_ble_eq_true rfl | omega⟩) hS (fun q _ h => hFc q h) hFc (fun r162 u t H161 locs ht hvm hw hB hz1 hk1 hS => ?_)
            have hP := wp_kept hP hk1
            have hw : r162 = if ¬ (x < 0 ∨ (nI nz) ≤ x) then 1 else 0 := hw
            subst hw
            rw [iz_0 hz]
            refine lv_if_eq (tgt := 73) hx hb d_M_set_65 (by decide) (fun c163 => ?_) (fun c163 => absurd c163 (by decide))
            refine lv_iconst (v := 1) hx hb d_M_set_73 (by decide) ?_
            refine lv_goto (tgt := 78) hx hb d_M_set_74 (by decide) ?_
            refine lv_iconst (v := 1) hx hb d_M_set_78 (by decide) ?_
            have hPc := hP.sub (ws' := [(m0, .inr (3, [.int 0, .int (nI nz), .ref mH, .ref mL, .ref mB, .ref mP, .ref mR, .ref mA, .ref mW, .ref mU, .ref mV, .int rw, .ref mM, .ref mT, .int mc, .ref mQ, .int ga, .int gb, .int kn, .ref mO, .ref mF, .ref mS, .ref mE, .ref mX, .ref mD]))]) [0] rfl
            have hDc := hD.sub (ws' := [(m0, .inr (3, [.int 0, .int (nI nz), .ref mH, .ref mL, .ref mB, .ref mP, .ref mR, .ref mA, .ref mW, .ref mU, .ref mV, .int rw, .ref mM, .ref mT, .int mc, .ref mQ, .int ga, .int gb, .int kn, .ref mO, .ref mF, .ref mS, .ref mE, .ref mX, .ref mD]))]) [0] (by decide) rfl
            have hFc := va_free (wc := [(m0, .inr (3, [.int 0, .int (nI nz), .ref mH, .ref mL, .ref mB, .ref mP, .ref mR, .ref mA, .ref mW, .ref mU, .ref mV, .int rw, .ref mM, .ref mT, .int mc, .ref mQ, .int ga, .int gb, .int kn, .ref mO, .ref mF, .ref mS, .ref mE, .ref mX, .ref mD]))]) hD hS hA [0] rfl
            refine va_calli (va_runV (C := R_M) (As := [.int 1, .int 1]) (rest := []) ⟨hx, hb, hml, hown, hG⟩ (m_fails011 l dC dI cI cJ cZ cB m0 mH mL mB mP mR mA mW mU mV mM mT mQ mO mF mS mE mX mD (nI nz) rw mc ga gb kn H161.size ) (cwV 2 hG g_M_87 rfl rfl rfl (by decide +kernel) ⟨Nat.le_of_ble_eq_true rfl, Nat.le_of_ble_eq_true rfl⟩) ⟨PC.blind, va_recv hK hP (ci := 3) (q0 := 0) rfl rfl, PC.of hPc hK hDc hE hS hFc⟩ rfl rfl hl9.1 rfl (lv_room (Nat.le_of_ble_eq_true rfl)) d_M_set_79 ⟨by first | exact Nat.le_of_ble_eq_true rfl | omega, by first | exact Nat.le_of_ble_eq_true rfl | omega⟩) hS (fun q _ h => hFc q h) hFc (fun r165 u t H164 locs ht hvm hw hB hz1 hk1 hS => ?_)
            rw [ht] at hB
            obtain ⟨hP, hD⟩ := jset (wc := [(m0, .inr (3, [.int 0, .int (nI nz), .ref mH, .ref mL, .ref mB, .ref mP, .ref mR, .ref mA, .ref mW, .ref mU, .ref mV, .int rw, .ref mM, .ref mT, .int mc, .ref mQ, .int ga, .int gb, .int kn, .ref mO, .ref mF, .ref mS, .ref mE, .ref mX, .ref mD]))]) (w1 := [(m0, .inr (3, [.int 1, .int (nI nz), .ref mH, .ref mL, .ref mB, .ref mP, .ref mR, .ref mA, .ref mW, .ref mU, .ref mV, .int rw, .ref mM, .ref mT, .int mc, .ref mQ, .int ga, .int gb, .int kn, .ref mO, .ref mF, .ref mS, .ref mE, .ref mX, .ref mD]))]) [0] rfl rfl hP hD hk1 hB
            have hP : va_P (dC, dI) vwCl [(m0, .inr (3, [.int 1, .int (nI nz), .ref mH, .ref mL, .ref mB, .ref mP, .ref mR, .ref mA, .ref mW, .ref mU, .ref mV, .int rw, .ref mM, .ref mT, .int mc, .ref mQ, .int ga, .int gb, .int kn, .ref mO, .ref mF, .ref mS, .ref mE, .ref mX, .ref mD]))] H164 := hP
            have hD : va_D A [(m0, .inr (3, [.int 1, .int (nI nz), .ref mH, .ref mL, .ref mB, .ref mP, .ref mR, .ref mA, .ref mW, .ref mU, .ref mV, .int rw, .ref mM, .ref mT, .int mc, .ref mQ, .int ga, .int gb, .int kn, .ref mO, .ref mF, .ref mS, .ref mE, .ref mX, .ref mD]))] := hD
            have hw : r165 = 1 := hw
            subst hw
            refine lv_if_eq (tgt := 87) hx hb d_M_set_82 (by decide) (fun c166 => absurd c166 (by decide)) (fun c166 => ?_)
            refine lv_iconst (v := 0) hx hb d_M_set_85 (by decide) ?_
            exact W.iret (v := 0) hx hb hr (fun t ht hW => ⟨⟨0, (), rfl, trivial, by have h9 := hP; rw [← ht] at h9; exact h9⟩, hS.F ht⟩) hS.2.2 d_M_set_86
          · exact absurd (Or.inr (Or.inl ⟨c2, hv⟩)) (hbad.resolve_left hz)
    · have hPc := hP.sub (ws' := []) [] rfl
      have hDc := hD.sub (ws' := []) [] (by decide) rfl
      have hFc := va_A_nil hA hS.1
      refine va_calli (va_runS (As := [.int v, .int (-10000), .int 10000]) (rest := []) ⟨hx, hb, hml, hown, hG⟩ (m_within l dC dI cI cJ cZ cB v (-10000) 10000 H.size ) (cwS 3 hG g_M_83 rfl rfl rfl (by decide +kernel) ⟨Nat.le_of_ble_eq_true rfl, Nat.le_of_ble_eq_true rfl⟩) ⟨PC.blind, PC.of hPc hK hDc hE hS hFc⟩ rfl rfl hl9.1 rfl (lv_room (Nat.le_of_ble_eq_true rfl)) d_M_set_16 ⟨by first | exact Nat.le_of_ble_eq_true rfl | omega, by first | exact Nat.le_of_ble_eq_true rfl | omega⟩) hS (fun q _ h => hFc q h) hFc (fun r168 u t H167 locs ht hvm hw hB hz1 hk1 hS => ?_)
      have hP := wp_kept hP hk1
      have hw : r168 = if ¬ (v < (-10000) ∨ 10000 < v) then 1 else 0 := hw
      subst hw
      rw [wi_1 hv0]
      refine lv_if_ne (tgt := 52) hx hb d_M_set_19 (by decide) (fun c8 => ?_) (fun c8 => absurd c8 (by decide))
      refine lv_iconst (v := 1) hx hb d_M_set_52 (by decide) ?_
      refine lv_goto (tgt := 57) hx hb d_M_set_53 (by decide) ?_
      refine lv_istore (lv' := [(4, .int 1), (0, .ref m0), (1, .int x), (2, .int what), (3, .int v)]) hx hb d_M_set_57 hl9 (by decide) rfl (fun ls hl9 => ?_)
      refine lv_aload_n hx hb d_M_set_59 rfl (lv_at hl9 1 rfl) ?_
      refine lv_aload_n hx hb d_M_set_60 rfl (lv_at hl9 1 rfl) ?_
      refine lv_iload_n hx hb d_M_set_61 rfl (lv_at hl9 2 rfl) ?_
      by_cases hz : x < 0 ∨ nI nz ≤ x
      · have hPc := hP.sub (ws' := [(m0, .inr (3, [.int 0, .int (nI nz), .ref mH, .ref mL, .ref mB, .ref mP, .ref mR, .ref mA, .ref mW, .ref mU, .ref mV, .int rw, .ref mM, .ref mT, .int mc, .ref mQ, .int ga, .int gb, .int kn, .ref mO, .ref mF, .ref mS, .ref mE, .ref mX, .ref mD]))]) [0] rfl
        have hDc := hD.sub (ws' := [(m0, .inr (3, [.int 0, .int (nI nz), .ref mH, .ref mL, .ref mB, .ref mP, .ref mR, .ref mA, .ref mW, .ref mU, .ref mV, .int rw, .ref mM, .ref mT, .int mc, .ref mQ, .int ga, .int gb, .int kn, .ref mO, .ref mF, .ref mS, .ref mE, .ref mX, .ref mD]))]) [0] (by decide) rfl
        have hFc := va_A_nil hA hS.1
        refine va_calli (va_runV (C := R_M) (As := [.int x]) (rest := [.ref m0]) ⟨hx, hb, hml, hown, hG⟩ (m_isZone l dC dI cI cJ cZ cB m0 mH mL mB mP mR mA mW mU mV mM mT mQ mO mF mS mE mX mD 0 (nI nz) rw mc ga gb kn x H167.size ) (cwV 1 hG g_M_95 rfl rfl rfl (by decide +kernel) ⟨Nat.le_of_ble_eq_true rfl, Nat.le_of_ble_eq_true rfl⟩) ⟨PC.blind, va_recv hK hP (ci := 3) (q0 := 0) rfl rfl, PC.of hPc hK hDc hE hS hFc⟩ rfl rfl hl9.1 rfl (lv_room (Nat.le_of_ble_eq_true rfl)) d_M_set_62 ⟨by first | exact Nat.le_of_ble_eq_true rfl | omega, by first | exact Nat.le_of_ble_eq_true rfl | omega⟩) hS (fun q _ h => hFc q h) hFc (fun r170 u t H169 locs ht hvm hw hB hz1 hk1 hS => ?_)
        have hP := wp_kept hP hk1
        have hw : r170 = if ¬ (x < 0 ∨ (nI nz) ≤ x) then 1 else 0 := hw
        subst hw
        rw [iz_0 hz]
        refine lv_if_eq (tgt := 73) hx hb d_M_set_65 (by decide) (fun c171 => ?_) (fun c171 => absurd c171 (by decide))
        refine lv_iconst (v := 1) hx hb d_M_set_73 (by decide) ?_
        refine lv_goto (tgt := 78) hx hb d_M_set_74 (by decide) ?_
        refine lv_iconst (v := 1) hx hb d_M_set_78 (by decide) ?_
        have hPc := hP.sub (ws' := [(m0, .inr (3, [.int 0, .int (nI nz), .ref mH, .ref mL, .ref mB, .ref mP, .ref mR, .ref mA, .ref mW, .ref mU, .ref mV, .int rw, .ref mM, .ref mT, .int mc, .ref mQ, .int ga, .int gb, .int kn, .ref mO, .ref mF, .ref mS, .ref mE, .ref mX, .ref mD]))]) [0] rfl
        have hDc := hD.sub (ws' := [(m0, .inr (3, [.int 0, .int (nI nz), .ref mH, .ref mL, .ref mB, .ref mP, .ref mR, .ref mA, .ref mW, .ref mU, .ref mV, .int rw, .ref mM, .ref mT, .int mc, .ref mQ, .int ga, .int gb, .int kn, .ref mO, .ref mF, .ref mS, .ref mE, .ref mX, .ref mD]))]) [0] (by decide) rfl
        have hFc := va_free (wc := [(m0, .inr (3, [.int 0, .int (nI nz), .ref mH, .ref mL, .ref mB, .ref mP, .ref mR, .ref mA, .ref mW, .ref mU, .ref mV, .int rw, .ref mM, .ref mT, .int mc, .ref mQ, .int ga, .int gb, .int kn, .ref mO, .ref mF, .ref mS, .ref mE, .ref mX, .ref mD]))]) hD hS hA [0] rfl
        refine va_calli (va_runV (C := R_M) (As := [.int 1, .int 1]) (rest := []) ⟨hx, hb, hml, hown, hG⟩ (m_fails011 l dC dI cI cJ cZ cB m0 mH mL mB mP mR mA mW mU mV mM mT mQ mO mF mS mE mX mD (nI nz) rw mc ga gb kn H169.size ) (cwV 2 hG g_M_87 rfl rfl rfl (by decide +kernel) ⟨Nat.le_of_ble_eq_true rfl, Nat.le_of_ble_eq_true rfl⟩) ⟨PC.blind, va_recv hK hP (ci := 3) (q0 := 0) rfl rfl, PC.of hPc hK hDc hE hS hFc⟩ rfl rfl hl9.1 rfl (lv_room (Nat.le_of_ble_eq_true rfl)) d_M_set_79 ⟨by first | exact Nat.le_of_ble_eq_true rfl | omega, by first | exact Nat.le_of_ble_eq_true rfl | omega⟩) hS (fun q _ h => hFc q h) hFc (fun r173 u t H172 locs ht hvm hw hB hz1 hk1 hS => ?_)
        rw [ht] at hB
        obtain ⟨hP, hD⟩ := jset (wc := [(m0, .inr (3, [.int 0, .int (nI nz), .ref mH, .ref mL, .ref mB, .ref mP, .ref mR, .ref mA, .ref mW, .ref mU, .ref mV, .int rw, .ref mM, .ref mT, .int mc, .ref mQ, .int ga, .int gb, .int kn, .ref mO, .ref mF, .ref mS, .ref mE, .ref mX, .ref mD]))]) (w1 := [(m0, .inr (3, [.int 1, .int (nI nz), .ref mH, .ref mL, .ref mB, .ref mP, .ref mR, .ref mA, .ref mW, .ref mU, .ref mV, .int rw, .ref mM, .ref mT, .int mc, .ref mQ, .int ga, .int gb, .int kn, .ref mO, .ref mF, .ref mS, .ref mE, .ref mX, .ref mD]))]) [0] rfl rfl hP hD hk1 hB
        have hP : va_P (dC, dI) vwCl [(m0, .inr (3, [.int 1, .int (nI nz), .ref mH, .ref mL, .ref mB, .ref mP, .ref mR, .ref mA, .ref mW, .ref mU, .ref mV, .int rw, .ref mM, .ref mT, .int mc, .ref mQ, .int ga, .int gb, .int kn, .ref mO, .ref mF, .ref mS, .ref mE, .ref mX, .ref mD]))] H172 := hP
        have hD : va_D A [(m0, .inr (3, [.int 1, .int (nI nz), .ref mH, .ref mL, .ref mB, .ref mP, .ref mR, .ref mA, .ref mW, .ref mU, .ref mV, .int rw, .ref mM, .ref mT, .int mc, .ref mQ, .int ga, .int gb, .int kn, .ref mO, .ref mF, .ref mS, .ref mE, .ref mX, .ref mD]))] := hD
        have hw : r173 = 1 := hw
        subst hw
        refine lv_if_eq (tgt := 87) hx hb d_M_set_82 (by decide) (fun c174 => absurd c174 (by decide)) (fun c174 => ?_)
        refine lv_iconst (v := 0) hx hb d_M_set_85 (by decide) ?_
        exact W.iret (v := 0) hx hb hr (fun t ht hW => ⟨⟨0, (), rfl, trivial, by have h9 := hP; rw [← ht] at h9; exact h9⟩, hS.F ht⟩) hS.2.2 d_M_set_86
      · exact absurd (Or.inl ⟨c1, hv0⟩) (hbad.resolve_left hz)
set_option maxHeartbeats 4000000 in
set_option maxRecDepth 100000 in
theorem m_want (l : Launch) (dC : Nat → ClassId) (dI : Nat → Nat → Nat) (cI cJ cZ cB : ClassId) (m0 mH mL mB mP mR mA mW mU mV mM mT mQ mO mF mS mE mX mD : Nat) (th zn rw mc ga gb kn : Int32) (rA rW : Nat → Int32)  (nz k : Nat) (x y : Int32) (sz : Nat) (hk : k < nz) (hn : nz ≤ 6) (h1 : ¬ (x < (-1) ∨ 1439 < x)) (h2 : ¬ (y < (-10000) ∨ 10000 < y)) : Met l y_M_want w_M_want ({ frames := 1, cells := 0, slots := 0, locals := 22 }) (PC (dC, dI) (TY cI cJ cZ cB) [.ref m0, .int (nI k), .int x, .int y] [(m0, .inr (3, [.int th, .int (nI nz), .ref mH, .ref mL, .ref mB, .ref mP, .ref mR, .ref mA, .ref mW, .ref mU, .ref mV, .int rw, .ref mM, .ref mT, .int mc, .ref mQ, .int ga, .int gb, .int kn, .ref mO, .ref mF, .ref mS, .ref mE, .ref mX, .ref mD])), (mA, .inl (cI, 6, .inl rA)), (mW, .inl (cI, 6, .inl rW))] sz (va_A [(m0, .inr (3, [.int th, .int (nI nz), .ref mH, .ref mL, .ref mB, .ref mP, .ref mR, .ref mA, .ref mW, .ref mU, .ref mV, .int rw, .ref mM, .ref mT, .int mc, .ref mQ, .int ga, .int gb, .int kn, .ref mO, .ref mF, .ref mS, .ref mE, .ref mX, .ref mD])), (mA, .inl (cI, 6, .inl rA)), (mW, .inl (cI, 6, .inl rW))] sz)) (va_Qv (fun (_ : Unit) => True) (fun (_ : Unit) (t : State) => va_P (dC, dI) vwCl [(m0, .inr (3, [.int 0, .int (nI nz), .ref mH, .ref mL, .ref mB, .ref mP, .ref mR, .ref mA, .ref mW, .ref mU, .ref mV, .int rw, .ref mM, .ref mT, .int mc, .ref mQ, .int ga, .int gb, .int 0, .ref mO, .ref mF, .ref mS, .ref mE, .ref mX, .ref mD])), (mA, .inl (cI, 6, .inl (upd rA k x))), (mW, .inl (cI, 6, .inl (upd rW k y)))] t.heap) (va_A [(m0, .inr (3, [.int th, .int (nI nz), .ref mH, .ref mL, .ref mB, .ref mP, .ref mR, .ref mA, .ref mW, .ref mU, .ref mV, .int rw, .ref mM, .ref mT, .int mc, .ref mQ, .int ga, .int gb, .int kn, .ref mO, .ref mF, .ref mS, .ref mE, .ref mX, .ref mD])), (mA, .inl (cI, 6, .inl rA)), (mW, .inl (cI, 6, .inl rW))] sz)) 0 0 (va_A [(m0, .inr (3, [.int th, .int (nI nz), .ref mH, .ref mL, .ref mB, .ref mP, .ref mR, .ref mA, .ref mW, .ref mU, .ref mV, .int rw, .ref mM, .ref mT, .int mc, .ref mQ, .int ga, .int gb, .int kn, .ref mO, .ref mF, .ref mS, .ref mE, .ref mX, .ref mD])), (mA, .inl (cI, 6, .inl rA)), (mW, .inl (cI, 6, .inl rW))] sz) := by
  refine Met.ofW (cc := b_M_want) (maxL := 4) (ret := none) (by decide) rfl ?_
  intro p e s m args below meth c s₁ B hml hv
  obtain ⟨rfl, hsz, hP, hK, hD0, hE⟩ := hv
  have hx := B.exec
  have hb := B.bytes
  have hr := B.returns
  have hG : ∀ w ∈ GG, w.before _ s = true := fun w h => atoms_spec (ws := w_M_want) B.pre w (List.mem_cons_of_mem _ h)
  have hown : s.vm.findClass R_M = some m.cls := findClass_of_methodNamed B.named
  have hlocks := B.notSynchronized
  subst hsz
  have hD := hD0.self (sz := s.heap.size)
  generalize hAe : (va_A [(m0, .inr (3, [.int th, .int (nI nz), .ref mH, .ref mL, .ref mB, .ref mP, .ref mR, .ref mA, .ref mW, .ref mU, .ref mV, .int rw, .ref mM, .ref mT, .int mc, .ref mQ, .int ga, .int gb, .int kn, .ref mO, .ref mF, .ref mS, .ref mE, .ref mX, .ref mD])), (mA, .inl (cI, 6, .inl rA)), (mW, .inl (cI, 6, .inl rW))] s.heap.size) = A at hD hE ⊢
  have hA : ∀ q : Nat, s.heap.size ≤ q → A q := fun q h => by rw [← hAe]; exact Or.inr h
  have hS : va_S A s.heap s.heap [] := va_S.rf
  obtain ⟨H, hH⟩ : ∃ z, z = s.heap := ⟨_, rfl⟩
  rw [← hH] at hP
  have hS : va_S A s.heap H [] := by rw [hH]; exact hS
  rw [← hH]
  have hl9 := lv_entry ([.ref m0, .int (nI k), .int x, .int y]) (n := 4) (Nat.le_of_ble_eq_true rfl)
  rw [lg_entry_eq]
  generalize (lg_sl ([.ref m0, .int (nI k), .int x, .int y]) ++ List.replicate (4 - (lg_sl ([.ref m0, .int (nI k), .int x, .int y])).length) Slot.unset).toArray = ls at hl9 ⊢
  have hl9 : lv_has ls 4 [(0, .ref m0), (1, .int (nI k)), (2, .int x), (3, .int y)] := hl9
  have hin : vp_in (nI k) 6 := vp_in_nI (by omega) (by decide)
  refine lv_aload_n hx hb d_M_want_0 rfl (lv_at hl9 0 rfl) ?_
  refine lv_iconst (v := 0) hx hb d_M_want_1 (by decide) ?_
  refine va_put (D := (dC, dI)) (ci := 3) (v := .int 0) (ty := .int) (C := R_M) (T := F_M) (N := 25) hx hb hG i_M t_M t_M_ok n_M hown hK hP hD hS 0 rfl rfl 0 (by decide) (hG _ k_440) (fun _ h9 => h9) rfl (by decide +kernel) rfl rfl (Nat.le_of_ble_eq_true rfl) d_M_want_2 (fun H locs hP hD hS => ?_)
  have hP : va_P (dC, dI) vwCl [(m0, .inr (3, [.int 0, .int (nI nz), .ref mH, .ref mL, .ref mB, .ref mP, .ref mR, .ref mA, .ref mW, .ref mU, .ref mV, .int rw, .ref mM, .ref mT, .int mc, .ref mQ, .int ga, .int gb, .int kn, .ref mO, .ref mF, .ref mS, .ref mE, .ref mX, .ref mD])), (mA, .inl (cI, 6, .inl rA)), (mW, .inl (cI, 6, .inl rW))] H := hP
  have hD : va_D A [(m0, .inr (3, [.int 0, .int (nI nz), .ref mH, .ref mL, .ref mB, .ref mP, .ref mR, .ref mA, .ref mW, .ref mU, .ref mV, .int rw, .ref mM, .ref mT, .int mc, .ref mQ, .int ga, .int gb, .int kn, .ref mO, .ref mF, .ref mS, .ref mE, .ref mX, .ref mD])), (mA, .inl (cI, 6, .inl rA)), (mW, .inl (cI, 6, .inl rW))] := hD
  refine lv_aload_n hx hb d_M_want_5 rfl (lv_at hl9 0 rfl) ?_
  refine lv_aload_n hx hb d_M_want_6 rfl (lv_at hl9 0 rfl) ?_
  refine lv_iload_n hx hb d_M_want_7 rfl (lv_at hl9 1 rfl) ?_
  have hPc := hP.sub (ws' := [(m0, .inr (3, [.int 0, .int (nI nz), .ref mH, .ref mL, .ref mB, .ref mP, .ref mR, .ref mA, .ref mW, .ref mU, .ref mV, .int rw, .ref mM, .ref mT, .int mc, .ref mQ, .int ga, .int gb, .int kn, .ref mO, .ref mF, .ref mS, .ref mE, .ref mX, .ref mD]))]) [0] rfl
  have hDc := hD.sub (ws' := [(m0, .inr (3, [.int 0, .int (nI nz), .ref mH, .ref mL, .ref mB, .ref mP, .ref mR, .ref mA, .ref mW, .ref mU, .ref mV, .int rw, .ref mM, .ref mT, .int mc, .ref mQ, .int ga, .int gb, .int kn, .ref mO, .ref mF, .ref mS, .ref mE, .ref mX, .ref mD]))]) [0] (by decide) rfl
  have hFc := va_A_nil hA hS.1
  refine va_calli (va_runV (C := R_M) (As := [.int (nI k)]) (rest := [.ref m0]) ⟨hx, hb, hml, hown, hG⟩ (m_isZone l dC dI cI cJ cZ cB m0 mH mL mB mP mR mA mW mU mV mM mT mQ mO mF mS mE mX mD 0 (nI nz) rw mc ga gb kn (nI k) H.size ) (cwV 1 hG g_M_95 rfl rfl rfl (by decide +kernel) ⟨Nat.le_of_ble_eq_true rfl, Nat.le_of_ble_eq_true rfl⟩) ⟨PC.blind, va_recv hK hP (ci := 3) (q0 := 0) rfl rfl, PC.of hPc hK hDc hE hS hFc⟩ rfl rfl hl9.1 rfl (lv_room (Nat.le_of_ble_eq_true rfl)) d_M_want_8 ⟨by first | exact Nat.le_of_ble_eq_true rfl | omega, by first | exact Nat.le_of_ble_eq_true rfl | omega⟩) hS (fun q _ h => hFc q h) hFc (fun r2 u t H1 locs ht hvm hw hB hz1 hk1 hS => ?_)
  have hP := wp_kept hP hk1
  have hw : r2 = if ¬ ((nI k) < 0 ∨ (nI nz) ≤ (nI k)) then 1 else 0 := hw
  subst hw
  rw [iz_1 hk hn]
  refine lv_if_eq (tgt := 38) hx hb d_M_want_11 (by decide) (fun c3 => absurd c3 (by decide)) (fun c3 => ?_)
  refine lv_iload_n hx hb d_M_want_14 rfl (lv_at hl9 2 rfl) ?_
  refine lv_iconst (v := (-1)) hx hb d_M_want_15 (by decide) ?_
  refine lv_sipush (v := 1439) hx hb d_M_want_16 (by decide) ?_
  have hPc := hP.sub (ws' := []) [] rfl
  have hDc := hD.sub (ws' := []) [] (by decide) rfl
  have hFc := va_A_nil hA hS.1
  refine va_calli (va_runS (As := [.int x, .int (-1), .int 1439]) (rest := [.ref m0]) ⟨hx, hb, hml, hown, hG⟩ (m_within l dC dI cI cJ cZ cB x (-1) 1439 H1.size ) (cwS 3 hG g_M_83 rfl rfl rfl (by decide +kernel) ⟨Nat.le_of_ble_eq_true rfl, Nat.le_of_ble_eq_true rfl⟩) ⟨PC.blind, PC.of hPc hK hDc hE hS hFc⟩ rfl rfl hl9.1 rfl (lv_room (Nat.le_of_ble_eq_true rfl)) d_M_want_19 ⟨by first | exact Nat.le_of_ble_eq_true rfl | omega, by first | exact Nat.le_of_ble_eq_true rfl | omega⟩) hS (fun q _ h => hFc q h) hFc (fun r5 u t H4 locs ht hvm hw hB hz1 hk1 hS => ?_)
  have hP := wp_kept hP hk1
  have hw : r5 = if ¬ (x < (-1) ∨ 1439 < x) then 1 else 0 := hw
  subst hw
  rw [wi_1 h1]
  refine lv_if_eq (tgt := 38) hx hb d_M_want_22 (by decide) (fun c6 => absurd c6 (by decide)) (fun c6 => ?_)
  refine lv_iload_n hx hb d_M_want_25 rfl (lv_at hl9 3 rfl) ?_
  refine lv_sipush (v := (-10000)) hx hb d_M_want_26 (by decide) ?_
  refine lv_sipush (v := 10000) hx hb d_M_want_29 (by decide) ?_
  have hPc := hP.sub (ws' := []) [] rfl
  have hDc := hD.sub (ws' := []) [] (by decide) rfl
  have hFc := va_A_nil hA hS.1
  refine va_calli (va_runS (As := [.int y, .int (-10000), .int 10000]) (rest := [.ref m0]) ⟨hx, hb, hml, hown, hG⟩ (m_within l dC dI cI cJ cZ cB y (-10000) 10000 H4.size ) (cwS 3 hG g_M_83 rfl rfl rfl (by decide +kernel) ⟨Nat.le_of_ble_eq_true rfl, Nat.le_of_ble_eq_true rfl⟩) ⟨PC.blind, PC.of hPc hK hDc hE hS hFc⟩ rfl rfl hl9.1 rfl (lv_room (Nat.le_of_ble_eq_true rfl)) d_M_want_32 ⟨by first | exact Nat.le_of_ble_eq_true rfl | omega, by first | exact Nat.le_of_ble_eq_true rfl | omega⟩) hS (fun q _ h => hFc q h) hFc (fun r8 u t H7 locs ht hvm hw hB hz1 hk1 hS => ?_)
  have hP := wp_kept hP hk1
  have hw : r8 = if ¬ (y < (-10000) ∨ 10000 < y) then 1 else 0 := hw
  subst hw
  rw [wi_1 h2]
  refine lv_if_ne (tgt := 42) hx hb d_M_want_35 (by decide) (fun c9 => ?_) (fun c9 => absurd c9 (by decide))
  refine lv_iconst (v := 0) hx hb d_M_want_42 (by decide) ?_
  refine lv_iconst (v := 1) hx hb d_M_want_43 (by decide) ?_
  have hPc := hP.sub (ws' := [(m0, .inr (3, [.int 0, .int (nI nz), .ref mH, .ref mL, .ref mB, .ref mP, .ref mR, .ref mA, .ref mW, .ref mU, .ref mV, .int rw, .ref mM, .ref mT, .int mc, .ref mQ, .int ga, .int gb, .int kn, .ref mO, .ref mF, .ref mS, .ref mE, .ref mX, .ref mD]))]) [0] rfl
  have hDc := hD.sub (ws' := [(m0, .inr (3, [.int 0, .int (nI nz), .ref mH, .ref mL, .ref mB, .ref mP, .ref mR, .ref mA, .ref mW, .ref mU, .ref mV, .int rw, .ref mM, .ref mT, .int mc, .ref mQ, .int ga, .int gb, .int kn, .ref mO, .ref mF, .ref mS, .ref mE, .ref mX, .ref mD]))]) [0] (by decide) rfl
  have hFc := va_free (wc := [(m0, .inr (3, [.int 0, .int (nI nz), .ref mH, .ref mL, .ref mB, .ref mP, .ref mR, .ref mA, .ref mW, .ref mU, .ref mV, .int rw, .ref mM, .ref mT, .int mc, .ref mQ, .int ga, .int gb, .int kn, .ref mO, .ref mF, .ref mS, .ref mE, .ref mX, .ref mD]))]) hD hS hA [0] rfl
  refine va_calli (va_runV (C := R_M) (As := [.int 0, .int 1]) (rest := []) ⟨hx, hb, hml, hown, hG⟩ (m_fails001 l dC dI cI cJ cZ cB m0 mH mL mB mP mR mA mW mU mV mM mT mQ mO mF mS mE mX mD (nI nz) rw mc ga gb kn H7.size ) (cwV 2 hG g_M_87 rfl rfl rfl (by decide +kernel) ⟨Nat.le_of_ble_eq_true rfl, Nat.le_of_ble_eq_true rfl⟩) ⟨PC.blind, va_recv hK hP (ci := 3) (q0 := 0) rfl rfl, PC.of hPc hK hDc hE hS hFc⟩ rfl rfl hl9.1 rfl (lv_room (Nat.le_of_ble_eq_true rfl)) d_M_want_44 ⟨by first | exact Nat.le_of_ble_eq_true rfl | omega, by first | exact Nat.le_of_ble_eq_true rfl | omega⟩) hS (fun q _ h => hFc q h) hFc (fun r11 u t H10 locs ht hvm hw hB hz1 hk1 hS => ?_)
  rw [ht] at hB
  obtain ⟨hP, hD⟩ := jset (wc := [(m0, .inr (3, [.int 0, .int (nI nz), .ref mH, .ref mL, .ref mB, .ref mP, .ref mR, .ref mA, .ref mW, .ref mU, .ref mV, .int rw, .ref mM, .ref mT, .int mc, .ref mQ, .int ga, .int gb, .int kn, .ref mO, .ref mF, .ref mS, .ref mE, .ref mX, .ref mD]))]) (w1 := [(m0, .inr (3, [.int 0, .int (nI nz), .ref mH, .ref mL, .ref mB, .ref mP, .ref mR, .ref mA, .ref mW, .ref mU, .ref mV, .int rw, .ref mM, .ref mT, .int mc, .ref mQ, .int ga, .int gb, .int kn, .ref mO, .ref mF, .ref mS, .ref mE, .ref mX, .ref mD]))]) [0] rfl rfl hP hD hk1 hB
  have hP : va_P (dC, dI) vwCl [(m0, .inr (3, [.int 0, .int (nI nz), .ref mH, .ref mL, .ref mB, .ref mP, .ref mR, .ref mA, .ref mW, .ref mU, .ref mV, .int rw, .ref mM, .ref mT, .int mc, .ref mQ, .int ga, .int gb, .int kn, .ref mO, .ref mF, .ref mS, .ref mE, .ref mX, .ref mD])), (mA, .inl (cI, 6, .inl rA)), (mW, .inl (cI, 6, .inl rW))] H10 := hP
  have hD : va_D A [(m0, .inr (3, [.int 0, .int (nI nz), .ref mH, .ref mL, .ref mB, .ref mP, .ref mR, .ref mA, .ref mW, .ref mU, .ref mV, .int rw, .ref mM, .ref mT, .int mc, .ref mQ, .int ga, .int gb, .int kn, .ref mO, .ref mF, .ref mS, .ref mE, .ref mX, .ref mD])), (mA, .inl (cI, 6, .inl rA)), (mW, .inl (cI, 6, .inl rW))] := hD
  have hw : r11 = 0 := hw
  subst hw
  refine lv_if_eq (tgt := 51) hx hb d_M_want_47 (by decide) (fun c12 => ?_) (fun c12 => absurd c12 (by decide))
  refine lv_aload_n hx hb d_M_want_51 rfl (lv_at hl9 0 rfl) ?_
  refine va_get (D := (dC, dI)) (ci := 3) (v := .ref mA) (C := R_M) (T := F_M) (N := 25) hx hb hG i_M hown hK hP 0 rfl rfl 7 (by decide) (hG _ k_447) (fun _ h9 => h9) rfl d_M_want_52 ?_
  refine lv_iload_n hx hb d_M_want_55 rfl (lv_at hl9 1 rfl) ?_
  refine lv_iload_n hx hb d_M_want_56 rfl (lv_at hl9 2 rfl) ?_
  refine va_iast hx hb hK hP hD hS 1 0 rfl rfl (hin) d_M_want_57 (fun H locs hP hD hS => ?_)
  have hP : va_P (dC, dI) vwCl [(m0, .inr (3, [.int 0, .int (nI nz), .ref mH, .ref mL, .ref mB, .ref mP, .ref mR, .ref mA, .ref mW, .ref mU, .ref mV, .int rw, .ref mM, .ref mT, .int mc, .ref mQ, .int ga, .int gb, .int kn, .ref mO, .ref mF, .ref mS, .ref mE, .ref mX, .ref mD])), (mA, .inl (cI, 6, .inl (upd rA (nI k).toNatClampNeg x))), (mW, .inl (cI, 6, .inl rW))] H := hP
  have hD : va_D A [(m0, .inr (3, [.int 0, .int (nI nz), .ref mH, .ref mL, .ref mB, .ref mP, .ref mR, .ref mA, .ref mW, .ref mU, .ref mV, .int rw, .ref mM, .ref mT, .int mc, .ref mQ, .int ga, .int gb, .int kn, .ref mO, .ref mF, .ref mS, .ref mE, .ref mX, .ref mD])), (mA, .inl (cI, 6, .inl (upd rA (nI k).toNatClampNeg x))), (mW, .inl (cI, 6, .inl rW))] := hD
  rw [nI_clamp (n := k) (by omega)] at hP hD
  refine lv_aload_n hx hb d_M_want_58 rfl (lv_at hl9 0 rfl) ?_
  refine va_get (D := (dC, dI)) (ci := 3) (v := .ref mW) (C := R_M) (T := F_M) (N := 25) hx hb hG i_M hown hK hP 0 rfl rfl 8 (by decide) (hG _ k_448) (fun _ h9 => h9) rfl d_M_want_59 ?_
  refine lv_iload_n hx hb d_M_want_62 rfl (lv_at hl9 1 rfl) ?_
  refine lv_iload_n hx hb d_M_want_63 rfl (lv_at hl9 3 rfl) ?_
  refine va_iast hx hb hK hP hD hS 2 0 rfl rfl (hin) d_M_want_64 (fun H locs hP hD hS => ?_)
  have hP : va_P (dC, dI) vwCl [(m0, .inr (3, [.int 0, .int (nI nz), .ref mH, .ref mL, .ref mB, .ref mP, .ref mR, .ref mA, .ref mW, .ref mU, .ref mV, .int rw, .ref mM, .ref mT, .int mc, .ref mQ, .int ga, .int gb, .int kn, .ref mO, .ref mF, .ref mS, .ref mE, .ref mX, .ref mD])), (mA, .inl (cI, 6, .inl (upd rA k x))), (mW, .inl (cI, 6, .inl (upd rW (nI k).toNatClampNeg y)))] H := hP
  have hD : va_D A [(m0, .inr (3, [.int 0, .int (nI nz), .ref mH, .ref mL, .ref mB, .ref mP, .ref mR, .ref mA, .ref mW, .ref mU, .ref mV, .int rw, .ref mM, .ref mT, .int mc, .ref mQ, .int ga, .int gb, .int kn, .ref mO, .ref mF, .ref mS, .ref mE, .ref mX, .ref mD])), (mA, .inl (cI, 6, .inl (upd rA k x))), (mW, .inl (cI, 6, .inl (upd rW (nI k).toNatClampNeg y)))] := hD
  rw [nI_clamp (n := k) (by omega)] at hP hD
  refine lv_aload_n hx hb d_M_want_65 rfl (lv_at hl9 0 rfl) ?_
  refine lv_iconst (v := 0) hx hb d_M_want_66 (by decide) ?_
  refine va_put (D := (dC, dI)) (ci := 3) (v := .int 0) (ty := .boolean) (C := R_M) (T := F_M) (N := 25) hx hb hG i_M t_M t_M_ok n_M hown hK hP hD hS 0 rfl rfl 18 (by decide) (hG _ k_458) (fun _ h9 => h9) rfl (by decide +kernel) rfl rfl (Nat.le_of_ble_eq_true rfl) d_M_want_67 (fun H locs hP hD hS => ?_)
  have hP : va_P (dC, dI) vwCl [(m0, .inr (3, [.int 0, .int (nI nz), .ref mH, .ref mL, .ref mB, .ref mP, .ref mR, .ref mA, .ref mW, .ref mU, .ref mV, .int rw, .ref mM, .ref mT, .int mc, .ref mQ, .int ga, .int gb, .int 0, .ref mO, .ref mF, .ref mS, .ref mE, .ref mX, .ref mD])), (mA, .inl (cI, 6, .inl (upd rA k x))), (mW, .inl (cI, 6, .inl (upd rW k y)))] H := hP
  have hD : va_D A [(m0, .inr (3, [.int 0, .int (nI nz), .ref mH, .ref mL, .ref mB, .ref mP, .ref mR, .ref mA, .ref mW, .ref mU, .ref mV, .int rw, .ref mM, .ref mT, .int mc, .ref mQ, .int ga, .int gb, .int 0, .ref mO, .ref mF, .ref mS, .ref mE, .ref mX, .ref mD])), (mA, .inl (cI, 6, .inl (upd rA k x))), (mW, .inl (cI, 6, .inl (upd rW k y)))] := hD
  exact W.vret hx hb hr (fun t ht hW => ⟨⟨(), rfl, trivial, by have h9 := hP; rw [← ht] at h9; exact h9⟩, hS.F ht⟩) hS.2.2 d_M_want_70
set_option maxHeartbeats 4000000 in
set_option maxRecDepth 100000 in
theorem m_wantX (l : Launch) (dC : Nat → ClassId) (dI : Nat → Nat → Nat) (cI cJ cZ cB : ClassId) (m0 mH mL mB mP mR mA mW mU mV mM mT mQ mO mF mS mE mX mD : Nat) (th zn rw mc ga gb kn : Int32) (nz : Nat) (x y z : Int32) (sz : Nat) (hbad : (x < 0 ∨ nI nz ≤ x) ∨ ((y < (-1) ∨ 1439 < y) ∨ (z < (-10000) ∨ 10000 < z))) : Met l y_M_want w_M_want ({ frames := 1, cells := 0, slots := 0, locals := 22 }) (PC (dC, dI) (TY cI cJ cZ cB) [.ref m0, .int x, .int y, .int z] [(m0, .inr (3, [.int th, .int (nI nz), .ref mH, .ref mL, .ref mB, .ref mP, .ref mR, .ref mA, .ref mW, .ref mU, .ref mV, .int rw, .ref mM, .ref mT, .int mc, .ref mQ, .int ga, .int gb, .int kn, .ref mO, .ref mF, .ref mS, .ref mE, .ref mX, .ref mD]))] sz (va_A [(m0, .inr (3, [.int th, .int (nI nz), .ref mH, .ref mL, .ref mB, .ref mP, .ref mR, .ref mA, .ref mW, .ref mU, .ref mV, .int rw, .ref mM, .ref mT, .int mc, .ref mQ, .int ga, .int gb, .int kn, .ref mO, .ref mF, .ref mS, .ref mE, .ref mX, .ref mD]))] sz)) (va_Qv (fun (_ : Unit) => True) (fun (_ : Unit) (t : State) => va_P (dC, dI) vwCl [(m0, .inr (3, [.int 1, .int (nI nz), .ref mH, .ref mL, .ref mB, .ref mP, .ref mR, .ref mA, .ref mW, .ref mU, .ref mV, .int rw, .ref mM, .ref mT, .int mc, .ref mQ, .int ga, .int gb, .int kn, .ref mO, .ref mF, .ref mS, .ref mE, .ref mX, .ref mD]))] t.heap) (va_A [(m0, .inr (3, [.int th, .int (nI nz), .ref mH, .ref mL, .ref mB, .ref mP, .ref mR, .ref mA, .ref mW, .ref mU, .ref mV, .int rw, .ref mM, .ref mT, .int mc, .ref mQ, .int ga, .int gb, .int kn, .ref mO, .ref mF, .ref mS, .ref mE, .ref mX, .ref mD]))] sz)) 0 0 (va_A [(m0, .inr (3, [.int th, .int (nI nz), .ref mH, .ref mL, .ref mB, .ref mP, .ref mR, .ref mA, .ref mW, .ref mU, .ref mV, .int rw, .ref mM, .ref mT, .int mc, .ref mQ, .int ga, .int gb, .int kn, .ref mO, .ref mF, .ref mS, .ref mE, .ref mX, .ref mD]))] sz) := by
  refine Met.ofW (cc := b_M_want) (maxL := 4) (ret := none) (by decide) rfl ?_
  intro p e s m args below meth c s₁ B hml hv
  obtain ⟨rfl, hsz, hP, hK, hD0, hE⟩ := hv
  have hx := B.exec
  have hb := B.bytes
  have hr := B.returns
  have hG : ∀ w ∈ GG, w.before _ s = true := fun w h => atoms_spec (ws := w_M_want) B.pre w (List.mem_cons_of_mem _ h)
  have hown : s.vm.findClass R_M = some m.cls := findClass_of_methodNamed B.named
  have hlocks := B.notSynchronized
  subst hsz
  have hD := hD0.self (sz := s.heap.size)
  generalize hAe : (va_A [(m0, .inr (3, [.int th, .int (nI nz), .ref mH, .ref mL, .ref mB, .ref mP, .ref mR, .ref mA, .ref mW, .ref mU, .ref mV, .int rw, .ref mM, .ref mT, .int mc, .ref mQ, .int ga, .int gb, .int kn, .ref mO, .ref mF, .ref mS, .ref mE, .ref mX, .ref mD]))] s.heap.size) = A at hD hE ⊢
  have hA : ∀ q : Nat, s.heap.size ≤ q → A q := fun q h => by rw [← hAe]; exact Or.inr h
  have hS : va_S A s.heap s.heap [] := va_S.rf
  obtain ⟨H, hH⟩ : ∃ z, z = s.heap := ⟨_, rfl⟩
  rw [← hH] at hP
  have hS : va_S A s.heap H [] := by rw [hH]; exact hS
  rw [← hH]
  have hl9 := lv_entry ([.ref m0, .int x, .int y, .int z]) (n := 4) (Nat.le_of_ble_eq_true rfl)
  rw [lg_entry_eq]
  generalize (lg_sl ([.ref m0, .int x, .int y, .int z]) ++ List.replicate (4 - (lg_sl ([.ref m0, .int x, .int y, .int z])).length) Slot.unset).toArray = ls at hl9 ⊢
  have hl9 : lv_has ls 4 [(0, .ref m0), (1, .int x), (2, .int y), (3, .int z)] := hl9
  by_cases h0 : (x < 0 ∨ nI nz ≤ x)
  · refine lv_aload_n hx hb d_M_want_0 rfl (lv_at hl9 0 rfl) ?_
    refine lv_iconst (v := 0) hx hb d_M_want_1 (by decide) ?_
    refine va_put (D := (dC, dI)) (ci := 3) (v := .int 0) (ty := .int) (C := R_M) (T := F_M) (N := 25) hx hb hG i_M t_M t_M_ok n_M hown hK hP hD hS 0 rfl rfl 0 (by decide) (hG _ k_440) (fun _ h9 => h9) rfl (by decide +kernel) rfl rfl (Nat.le_of_ble_eq_true rfl) d_M_want_2 (fun H locs hP hD hS => ?_)
    have hP : va_P (dC, dI) vwCl [(m0, .inr (3, [.int 0, .int (nI nz), .ref mH, .ref mL, .ref mB, .ref mP, .ref mR, .ref mA, .ref mW, .ref mU, .ref mV, .int rw, .ref mM, .ref mT, .int mc, .ref mQ, .int ga, .int gb, .int kn, .ref mO, .ref mF, .ref mS, .ref mE, .ref mX, .ref mD]))] H := hP
    have hD : va_D A [(m0, .inr (3, [.int 0, .int (nI nz), .ref mH, .ref mL, .ref mB, .ref mP, .ref mR, .ref mA, .ref mW, .ref mU, .ref mV, .int rw, .ref mM, .ref mT, .int mc, .ref mQ, .int ga, .int gb, .int kn, .ref mO, .ref mF, .ref mS, .ref mE, .ref mX, .ref mD]))] := hD
    refine lv_aload_n hx hb d_M_want_5 rfl (lv_at hl9 0 rfl) ?_
    refine lv_aload_n hx hb d_M_want_6 rfl (lv_at hl9 0 rfl) ?_
    refine lv_iload_n hx hb d_M_want_7 rfl (lv_at hl9 1 rfl) ?_
    have hPc := hP.sub (ws' := [(m0, .inr (3, [.int 0, .int (nI nz), .ref mH, .ref mL, .ref mB, .ref mP, .ref mR, .ref mA, .ref mW, .ref mU, .ref mV, .int rw, .ref mM, .ref mT, .int mc, .ref mQ, .int ga, .int gb, .int kn, .ref mO, .ref mF, .ref mS, .ref mE, .ref mX, .ref mD]))]) [0] rfl
    have hDc := hD.sub (ws' := [(m0, .inr (3, [.int 0, .int (nI nz), .ref mH, .ref mL, .ref mB, .ref mP, .ref mR, .ref mA, .ref mW, .ref mU, .ref mV, .int rw, .ref mM, .ref mT, .int mc, .ref mQ, .int ga, .int gb, .int kn, .ref mO, .ref mF, .ref mS, .ref mE, .ref mX, .ref mD]))]) [0] (by decide) rfl
    have hFc := va_A_nil hA hS.1
    refine va_calli (va_runV (C := R_M) (As := [.int x]) (rest := [.ref m0]) ⟨hx, hb, hml, hown, hG⟩ (m_isZone l dC dI cI cJ cZ cB m0 mH mL mB mP mR mA mW mU mV mM mT mQ mO mF mS mE mX mD 0 (nI nz) rw mc ga gb kn x H.size ) (cwV 1 hG g_M_95 rfl rfl rfl (by decide +kernel) ⟨Nat.le_of_ble_eq_true rfl, Nat.le_of_ble_eq_true rfl⟩) ⟨PC.blind, va_recv hK hP (ci := 3) (q0 := 0) rfl rfl, PC.of hPc hK hDc hE hS hFc⟩ rfl rfl hl9.1 rfl (lv_room (Nat.le_of_ble_eq_true rfl)) d_M_want_8 ⟨by first | exact Nat.le_of_ble_eq_true rfl | omega, by first | exact Nat.le_of_ble_eq_true rfl | omega⟩) hS (fun q _ h => hFc q h) hFc (fun r2 u t H1 locs ht hvm hw hB hz1 hk1 hS => ?_)
    have hP := wp_kept hP hk1
    have hw : r2 = if ¬ (x < 0 ∨ (nI nz) ≤ x) then 1 else 0 := hw
    subst hw
    rw [iz_0 h0]
    refine lv_if_eq (tgt := 38) hx hb d_M_want_11 (by decide) (fun c3 => ?_) (fun c3 => absurd c3 (by decide))
    refine lv_iconst (v := 1) hx hb d_M_want_38 (by decide) ?_
    refine lv_goto (tgt := 43) hx hb d_M_want_39 (by decide) ?_
    refine lv_iconst (v := 1) hx hb d_M_want_43 (by decide) ?_
    have hPc := hP.sub (ws' := [(m0, .inr (3, [.int 0, .int (nI nz), .ref mH, .ref mL, .ref mB, .ref mP, .ref mR, .ref mA, .ref mW, .ref mU, .ref mV, .int rw, .ref mM, .ref mT, .int mc, .ref mQ, .int ga, .int gb, .int kn, .ref mO, .ref mF, .ref mS, .ref mE, .ref mX, .ref mD]))]) [0] rfl
    have hDc := hD.sub (ws' := [(m0, .inr (3, [.int 0, .int (nI nz), .ref mH, .ref mL, .ref mB, .ref mP, .ref mR, .ref mA, .ref mW, .ref mU, .ref mV, .int rw, .ref mM, .ref mT, .int mc, .ref mQ, .int ga, .int gb, .int kn, .ref mO, .ref mF, .ref mS, .ref mE, .ref mX, .ref mD]))]) [0] (by decide) rfl
    have hFc := va_free (wc := [(m0, .inr (3, [.int 0, .int (nI nz), .ref mH, .ref mL, .ref mB, .ref mP, .ref mR, .ref mA, .ref mW, .ref mU, .ref mV, .int rw, .ref mM, .ref mT, .int mc, .ref mQ, .int ga, .int gb, .int kn, .ref mO, .ref mF, .ref mS, .ref mE, .ref mX, .ref mD]))]) hD hS hA [0] rfl
    refine va_calli (va_runV (C := R_M) (As := [.int 1, .int 1]) (rest := []) ⟨hx, hb, hml, hown, hG⟩ (m_fails011 l dC dI cI cJ cZ cB m0 mH mL mB mP mR mA mW mU mV mM mT mQ mO mF mS mE mX mD (nI nz) rw mc ga gb kn H1.size ) (cwV 2 hG g_M_87 rfl rfl rfl (by decide +kernel) ⟨Nat.le_of_ble_eq_true rfl, Nat.le_of_ble_eq_true rfl⟩) ⟨PC.blind, va_recv hK hP (ci := 3) (q0 := 0) rfl rfl, PC.of hPc hK hDc hE hS hFc⟩ rfl rfl hl9.1 rfl (lv_room (Nat.le_of_ble_eq_true rfl)) d_M_want_44 ⟨by first | exact Nat.le_of_ble_eq_true rfl | omega, by first | exact Nat.le_of_ble_eq_true rfl | omega⟩) hS (fun q _ h => hFc q h) hFc (fun r5 u t H4 locs ht hvm hw hB hz1 hk1 hS => ?_)
    rw [ht] at hB
    obtain ⟨hP, hD⟩ := jset (wc := [(m0, .inr (3, [.int 0, .int (nI nz), .ref mH, .ref mL, .ref mB, .ref mP, .ref mR, .ref mA, .ref mW, .ref mU, .ref mV, .int rw, .ref mM, .ref mT, .int mc, .ref mQ, .int ga, .int gb, .int kn, .ref mO, .ref mF, .ref mS, .ref mE, .ref mX, .ref mD]))]) (w1 := [(m0, .inr (3, [.int 1, .int (nI nz), .ref mH, .ref mL, .ref mB, .ref mP, .ref mR, .ref mA, .ref mW, .ref mU, .ref mV, .int rw, .ref mM, .ref mT, .int mc, .ref mQ, .int ga, .int gb, .int kn, .ref mO, .ref mF, .ref mS, .ref mE, .ref mX, .ref mD]))]) [0] rfl rfl hP hD hk1 hB
    have hP : va_P (dC, dI) vwCl [(m0, .inr (3, [.int 1, .int (nI nz), .ref mH, .ref mL, .ref mB, .ref mP, .ref mR, .ref mA, .ref mW, .ref mU, .ref mV, .int rw, .ref mM, .ref mT, .int mc, .ref mQ, .int ga, .int gb, .int kn, .ref mO, .ref mF, .ref mS, .ref mE, .ref mX, .ref mD]))] H4 := hP
    have hD : va_D A [(m0, .inr (3, [.int 1, .int (nI nz), .ref mH, .ref mL, .ref mB, .ref mP, .ref mR, .ref mA, .ref mW, .ref mU, .ref mV, .int rw, .ref mM, .ref mT, .int mc, .ref mQ, .int ga, .int gb, .int kn, .ref mO, .ref mF, .ref mS, .ref mE, .ref mX, .ref mD]))] := hD
    have hw : r5 = 1 := hw
    subst hw
    refine lv_if_eq (tgt := 51) hx hb d_M_want_47 (by decide) (fun c6 => absurd c6 (by decide)) (fun c6 => ?_)
    exact W.vret hx hb hr (fun t ht hW => ⟨⟨(), rfl, trivial, by have h9 := hP; rw [← ht] at h9; exact h9⟩, hS.F ht⟩) hS.2.2 d_M_want_50
  · by_cases h1 : (y < (-1) ∨ 1439 < y)
    · refine lv_aload_n hx hb d_M_want_0 rfl (lv_at hl9 0 rfl) ?_
      refine lv_iconst (v := 0) hx hb d_M_want_1 (by decide) ?_
      refine va_put (D := (dC, dI)) (ci := 3) (v := .int 0) (ty := .int) (C := R_M) (T := F_M) (N := 25) hx hb hG i_M t_M t_M_ok n_M hown hK hP hD hS 0 rfl rfl 0 (by decide) (hG _ k_440) (fun _ h9 => h9) rfl (by decide +kernel) rfl rfl (Nat.le_of_ble_eq_true rfl) d_M_want_2 (fun H locs hP hD hS => ?_)
      have hP : va_P (dC, dI) vwCl [(m0, .inr (3, [.int 0, .int (nI nz), .ref mH, .ref mL, .ref mB, .ref mP, .ref mR, .ref mA, .ref mW, .ref mU, .ref mV, .int rw, .ref mM, .ref mT, .int mc, .ref mQ, .int ga, .int gb, .int kn, .ref mO, .ref mF, .ref mS, .ref mE, .ref mX, .ref mD]))] H := hP
      have hD : va_D A [(m0, .inr (3, [.int 0, .int (nI nz), .ref mH, .ref mL, .ref mB, .ref mP, .ref mR, .ref mA, .ref mW, .ref mU, .ref mV, .int rw, .ref mM, .ref mT, .int mc, .ref mQ, .int ga, .int gb, .int kn, .ref mO, .ref mF, .ref mS, .ref mE, .ref mX, .ref mD]))] := hD
      refine lv_aload_n hx hb d_M_want_5 rfl (lv_at hl9 0 rfl) ?_
      refine lv_aload_n hx hb d_M_want_6 rfl (lv_at hl9 0 rfl) ?_
      refine lv_iload_n hx hb d_M_want_7 rfl (lv_at hl9 1 rfl) ?_
      have hPc := hP.sub (ws' := [(m0, .inr (3, [.int 0, .int (nI nz), .ref mH, .ref mL, .ref mB, .ref mP, .ref mR, .ref mA, .ref mW, .ref mU, .ref mV, .int rw, .ref mM, .ref mT, .int mc, .ref mQ, .int ga, .int gb, .int kn, .ref mO, .ref mF, .ref mS, .ref mE, .ref mX, .ref mD]))]) [0] rfl
      have hDc := hD.sub (ws' := [(m0, .inr (3, [.int 0, .int (nI nz), .ref mH, .ref mL, .ref mB, .ref mP, .ref mR, .ref mA, .ref mW, .ref mU, .ref mV, .int rw, .ref mM, .ref mT, .int mc, .ref mQ, .int ga, .int gb, .int kn, .ref mO, .ref mF, .ref mS, .ref mE, .ref mX, .ref mD]))]) [0] (by decide) rfl
      have hFc := va_A_nil hA hS.1
      refine va_calli (va_runV (C := R_M) (As := [.int x]) (rest := [.ref m0]) ⟨hx, hb, hml, hown, hG⟩ (m_isZone l dC dI cI cJ cZ cB m0 mH mL mB mP mR mA mW mU mV mM mT mQ mO mF mS mE mX mD 0 (nI nz) rw mc ga gb kn x H.size ) (cwV 1 hG g_M_95 rfl rfl rfl (by decide +kernel) ⟨Nat.le_of_ble_eq_true rfl, Nat.le_of_ble_eq_true rfl⟩) ⟨PC.blind, va_recv hK hP (ci := 3) (q0 := 0) rfl rfl, PC.of hPc hK hDc hE hS hFc⟩ rfl rfl hl9.1 rfl (lv_room (Nat.le_of_ble_eq_true rfl)) d_M_want_8 ⟨by first | exact Nat.le_of_ble_eq_true rfl | omega, by first | exact Nat.le_of_ble_eq_true rfl | omega⟩) hS (fun q _ h => hFc q h) hFc (fun r8 u t H7 locs ht hvm hw hB hz1 hk1 hS => ?_)
      have hP := wp_kept hP hk1
      have hw : r8 = if ¬ (x < 0 ∨ (nI nz) ≤ x) then 1 else 0 := hw
      subst hw
      rw [iz_1g h0]
      refine lv_if_eq (tgt := 38) hx hb d_M_want_11 (by decide) (fun c9 => absurd c9 (by decide)) (fun c9 => ?_)
      refine lv_iload_n hx hb d_M_want_14 rfl (lv_at hl9 2 rfl) ?_
      refine lv_iconst (v := (-1)) hx hb d_M_want_15 (by decide) ?_
      refine lv_sipush (v := 1439) hx hb d_M_want_16 (by decide) ?_
      have hPc := hP.sub (ws' := []) [] rfl
      have hDc := hD.sub (ws' := []) [] (by decide) rfl
      have hFc := va_A_nil hA hS.1
      refine va_calli (va_runS (As := [.int y, .int (-1), .int 1439]) (rest := [.ref m0]) ⟨hx, hb, hml, hown, hG⟩ (m_within l dC dI cI cJ cZ cB y (-1) 1439 H7.size ) (cwS 3 hG g_M_83 rfl rfl rfl (by decide +kernel) ⟨Nat.le_of_ble_eq_true rfl, Nat.le_of_ble_eq_true rfl⟩) ⟨PC.blind, PC.of hPc hK hDc hE hS hFc⟩ rfl rfl hl9.1 rfl (lv_room (Nat.le_of_ble_eq_true rfl)) d_M_want_19 ⟨by first | exact Nat.le_of_ble_eq_true rfl | omega, by first | exact Nat.le_of_ble_eq_true rfl | omega⟩) hS (fun q _ h => hFc q h) hFc (fun r11 u t H10 locs ht hvm hw hB hz1 hk1 hS => ?_)
      have hP := wp_kept hP hk1
      have hw : r11 = if ¬ (y < (-1) ∨ 1439 < y) then 1 else 0 := hw
      subst hw
      rw [wi_0 h1]
      refine lv_if_eq (tgt := 38) hx hb d_M_want_22 (by decide) (fun c12 => ?_) (fun c12 => absurd c12 (by decide))
      refine lv_iconst (v := 1) hx hb d_M_want_38 (by decide) ?_
      refine lv_goto (tgt := 43) hx hb d_M_want_39 (by decide) ?_
      refine lv_iconst (v := 1) hx hb d_M_want_43 (by decide) ?_
      have hPc := hP.sub (ws' := [(m0, .inr (3, [.int 0, .int (nI nz), .ref mH, .ref mL, .ref mB, .ref mP, .ref mR, .ref mA, .ref mW, .ref mU, .ref mV, .int rw, .ref mM, .ref mT, .int mc, .ref mQ, .int ga, .int gb, .int kn, .ref mO, .ref mF, .ref mS, .ref mE, .ref mX, .ref mD]))]) [0] rfl
      have hDc := hD.sub (ws' := [(m0, .inr (3, [.int 0, .int (nI nz), .ref mH, .ref mL, .ref mB, .ref mP, .ref mR, .ref mA, .ref mW, .ref mU, .ref mV, .int rw, .ref mM, .ref mT, .int mc, .ref mQ, .int ga, .int gb, .int kn, .ref mO, .ref mF, .ref mS, .ref mE, .ref mX, .ref mD]))]) [0] (by decide) rfl
      have hFc := va_free (wc := [(m0, .inr (3, [.int 0, .int (nI nz), .ref mH, .ref mL, .ref mB, .ref mP, .ref mR, .ref mA, .ref mW, .ref mU, .ref mV, .int rw, .ref mM, .ref mT, .int mc, .ref mQ, .int ga, .int gb, .int kn, .ref mO, .ref mF, .ref mS, .ref mE, .ref mX, .ref mD]))]) hD hS hA [0] rfl
      refine va_calli (va_runV (C := R_M) (As := [.int 1, .int 1]) (rest := []) ⟨hx, hb, hml, hown, hG⟩ (m_fails011 l dC dI cI cJ cZ cB m0 mH mL mB mP mR mA mW mU mV mM mT mQ mO mF mS mE mX mD (nI nz) rw mc ga gb kn H10.size ) (cwV 2 hG g_M_87 rfl rfl rfl (by decide +kernel) ⟨Nat.le_of_ble_eq_true rfl, Nat.le_of_ble_eq_true rfl⟩) ⟨PC.blind, va_recv hK hP (ci := 3) (q0 := 0) rfl rfl, PC.of hPc hK hDc hE hS hFc⟩ rfl rfl hl9.1 rfl (lv_room (Nat.le_of_ble_eq_true rfl)) d_M_want_44 ⟨by first | exact Nat.le_of_ble_eq_true rfl | omega, by first | exact Nat.le_of_ble_eq_true rfl | omega⟩) hS (fun q _ h => hFc q h) hFc (fun r14 u t H13 locs ht hvm hw hB hz1 hk1 hS => ?_)
      rw [ht] at hB
      obtain ⟨hP, hD⟩ := jset (wc := [(m0, .inr (3, [.int 0, .int (nI nz), .ref mH, .ref mL, .ref mB, .ref mP, .ref mR, .ref mA, .ref mW, .ref mU, .ref mV, .int rw, .ref mM, .ref mT, .int mc, .ref mQ, .int ga, .int gb, .int kn, .ref mO, .ref mF, .ref mS, .ref mE, .ref mX, .ref mD]))]) (w1 := [(m0, .inr (3, [.int 1, .int (nI nz), .ref mH, .ref mL, .ref mB, .ref mP, .ref mR, .ref mA, .ref mW, .ref mU, .ref mV, .int rw, .ref mM, .ref mT, .int mc, .ref mQ, .int ga, .int gb, .int kn, .ref mO, .ref mF, .ref mS, .ref mE, .ref mX, .ref mD]))]) [0] rfl rfl hP hD hk1 hB
      have hP : va_P (dC, dI) vwCl [(m0, .inr (3, [.int 1, .int (nI nz), .ref mH, .ref mL, .ref mB, .ref mP, .ref mR, .ref mA, .ref mW, .ref mU, .ref mV, .int rw, .ref mM, .ref mT, .int mc, .ref mQ, .int ga, .int gb, .int kn, .ref mO, .ref mF, .ref mS, .ref mE, .ref mX, .ref mD]))] H13 := hP
      have hD : va_D A [(m0, .inr (3, [.int 1, .int (nI nz), .ref mH, .ref mL, .ref mB, .ref mP, .ref mR, .ref mA, .ref mW, .ref mU, .ref mV, .int rw, .ref mM, .ref mT, .int mc, .ref mQ, .int ga, .int gb, .int kn, .ref mO, .ref mF, .ref mS, .ref mE, .ref mX, .ref mD]))] := hD
      have hw : r14 = 1 := hw
      subst hw
      refine lv_if_eq (tgt := 51) hx hb d_M_want_47 (by decide) (fun c15 => absurd c15 (by decide)) (fun c15 => ?_)
      exact W.vret hx hb hr (fun t ht hW => ⟨⟨(), rfl, trivial, by have h9 := hP; rw [← ht] at h9; exact h9⟩, hS.F ht⟩) hS.2.2 d_M_want_50
    · by_cases h2 : (z < (-10000) ∨ 10000 < z)
      · refine lv_aload_n hx hb d_M_want_0 rfl (lv_at hl9 0 rfl) ?_
        refine lv_iconst (v := 0) hx hb d_M_want_1 (by decide) ?_
        refine va_put (D := (dC, dI)) (ci := 3) (v := .int 0) (ty := .int) (C := R_M) (T := F_M) (N := 25) hx hb hG i_M t_M t_M_ok n_M hown hK hP hD hS 0 rfl rfl 0 (by decide) (hG _ k_440) (fun _ h9 => h9) rfl (by decide +kernel) rfl rfl (Nat.le_of_ble_eq_true rfl) d_M_want_2 (fun H locs hP hD hS => ?_)
        have hP : va_P (dC, dI) vwCl [(m0, .inr (3, [.int 0, .int (nI nz), .ref mH, .ref mL, .ref mB, .ref mP, .ref mR, .ref mA, .ref mW, .ref mU, .ref mV, .int rw, .ref mM, .ref mT, .int mc, .ref mQ, .int ga, .int gb, .int kn, .ref mO, .ref mF, .ref mS, .ref mE, .ref mX, .ref mD]))] H := hP
        have hD : va_D A [(m0, .inr (3, [.int 0, .int (nI nz), .ref mH, .ref mL, .ref mB, .ref mP, .ref mR, .ref mA, .ref mW, .ref mU, .ref mV, .int rw, .ref mM, .ref mT, .int mc, .ref mQ, .int ga, .int gb, .int kn, .ref mO, .ref mF, .ref mS, .ref mE, .ref mX, .ref mD]))] := hD
        refine lv_aload_n hx hb d_M_want_5 rfl (lv_at hl9 0 rfl) ?_
        refine lv_aload_n hx hb d_M_want_6 rfl (lv_at hl9 0 rfl) ?_
        refine lv_iload_n hx hb d_M_want_7 rfl (lv_at hl9 1 rfl) ?_
        have hPc := hP.sub (ws' := [(m0, .inr (3, [.int 0, .int (nI nz), .ref mH, .ref mL, .ref mB, .ref mP, .ref mR, .ref mA, .ref mW, .ref mU, .ref mV, .int rw, .ref mM, .ref mT, .int mc, .ref mQ, .int ga, .int gb, .int kn, .ref mO, .ref mF, .ref mS, .ref mE, .ref mX, .ref mD]))]) [0] rfl
        have hDc := hD.sub (ws' := [(m0, .inr (3, [.int 0, .int (nI nz), .ref mH, .ref mL, .ref mB, .ref mP, .ref mR, .ref mA, .ref mW, .ref mU, .ref mV, .int rw, .ref mM, .ref mT, .int mc, .ref mQ, .int ga, .int gb, .int kn, .ref mO, .ref mF, .ref mS, .ref mE, .ref mX, .ref mD]))]) [0] (by decide) rfl
        have hFc := va_A_nil hA hS.1
        refine va_calli (va_runV (C := R_M) (As := [.int x]) (rest := [.ref m0]) ⟨hx, hb, hml, hown, hG⟩ (m_isZone l dC dI cI cJ cZ cB m0 mH mL mB mP mR mA mW mU mV mM mT mQ mO mF mS mE mX mD 0 (nI nz) rw mc ga gb kn x H.size ) (cwV 1 hG g_M_95 rfl rfl rfl (by decide +kernel) ⟨Nat.le_of_ble_eq_true rfl, Nat.le_of_ble_eq_true rfl⟩) ⟨PC.blind, va_recv hK hP (ci := 3) (q0 := 0) rfl rfl, PC.of hPc hK hDc hE hS hFc⟩ rfl rfl hl9.1 rfl (lv_room (Nat.le_of_ble_eq_true rfl)) d_M_want_8 ⟨by first | exact Nat.le_of_ble_eq_true rfl | omega, by first | exact Nat.le_of_ble_eq_true rfl | omega⟩) hS (fun q _ h => hFc q h) hFc (fun r17 u t H16 locs ht hvm hw hB hz1 hk1 hS => ?_)
        have hP := wp_kept hP hk1
        have hw : r17 = if ¬ (x < 0 ∨ (nI nz) ≤ x) then 1 else 0 := hw
        subst hw
        rw [iz_1g h0]
        refine lv_if_eq (tgt := 38) hx hb d_M_want_11 (by decide) (fun c18 => absurd c18 (by decide)) (fun c18 => ?_)
        refine lv_iload_n hx hb d_M_want_14 rfl (lv_at hl9 2 rfl) ?_
        refine lv_iconst (v := (-1)) hx hb d_M_want_15 (by decide) ?_
        refine lv_sipush (v := 1439) hx hb d_M_want_16 (by decide) ?_
        have hPc := hP.sub (ws' := []) [] rfl
        have hDc := hD.sub (ws' := []) [] (by decide) rfl
        have hFc := va_A_nil hA hS.1
        refine va_calli (va_runS (As := [.int y, .int (-1), .int 1439]) (rest := [.ref m0]) ⟨hx, hb, hml, hown, hG⟩ (m_within l dC dI cI cJ cZ cB y (-1) 1439 H16.size ) (cwS 3 hG g_M_83 rfl rfl rfl (by decide +kernel) ⟨Nat.le_of_ble_eq_true rfl, Nat.le_of_ble_eq_true rfl⟩) ⟨PC.blind, PC.of hPc hK hDc hE hS hFc⟩ rfl rfl hl9.1 rfl (lv_room (Nat.le_of_ble_eq_true rfl)) d_M_want_19 ⟨by first | exact Nat.le_of_ble_eq_true rfl | omega, by first | exact Nat.le_of_ble_eq_true rfl | omega⟩) hS (fun q _ h => hFc q h) hFc (fun r20 u t H19 locs ht hvm hw hB hz1 hk1 hS => ?_)
        have hP := wp_kept hP hk1
        have hw : r20 = if ¬ (y < (-1) ∨ 1439 < y) then 1 else 0 := hw
        subst hw
        rw [wi_1 h1]
        refine lv_if_eq (tgt := 38) hx hb d_M_want_22 (by decide) (fun c21 => absurd c21 (by decide)) (fun c21 => ?_)
        refine lv_iload_n hx hb d_M_want_25 rfl (lv_at hl9 3 rfl) ?_
        refine lv_sipush (v := (-10000)) hx hb d_M_want_26 (by decide) ?_
        refine lv_sipush (v := 10000) hx hb d_M_want_29 (by decide) ?_
        have hPc := hP.sub (ws' := []) [] rfl
        have hDc := hD.sub (ws' := []) [] (by decide) rfl
        have hFc := va_A_nil hA hS.1
        refine va_calli (va_runS (As := [.int z, .int (-10000), .int 10000]) (rest := [.ref m0]) ⟨hx, hb, hml, hown, hG⟩ (m_within l dC dI cI cJ cZ cB z (-10000) 10000 H19.size ) (cwS 3 hG g_M_83 rfl rfl rfl (by decide +kernel) ⟨Nat.le_of_ble_eq_true rfl, Nat.le_of_ble_eq_true rfl⟩) ⟨PC.blind, PC.of hPc hK hDc hE hS hFc⟩ rfl rfl hl9.1 rfl (lv_room (Nat.le_of_ble_eq_true rfl)) d_M_want_32 ⟨by first | exact Nat.le_of_ble_eq_true rfl | omega, by first | exact Nat.le_of_ble_eq_true rfl | omega⟩) hS (fun q _ h => hFc q h) hFc (fun r23 u t H22 locs ht hvm hw hB hz1 hk1 hS => ?_)
        have hP := wp_kept hP hk1
        have hw : r23 = if ¬ (z < (-10000) ∨ 10000 < z) then 1 else 0 := hw
        subst hw
        rw [wi_0 h2]
        refine lv_if_ne (tgt := 42) hx hb d_M_want_35 (by decide) (fun c24 => absurd c24 (by decide)) (fun c24 => ?_)
        refine lv_iconst (v := 1) hx hb d_M_want_38 (by decide) ?_
        refine lv_goto (tgt := 43) hx hb d_M_want_39 (by decide) ?_
        refine lv_iconst (v := 1) hx hb d_M_want_43 (by decide) ?_
        have hPc := hP.sub (ws' := [(m0, .inr (3, [.int 0, .int (nI nz), .ref mH, .ref mL, .ref mB, .ref mP, .ref mR, .ref mA, .ref mW, .ref mU, .ref mV, .int rw, .ref mM, .ref mT, .int mc, .ref mQ, .int ga, .int gb, .int kn, .ref mO, .ref mF, .ref mS, .ref mE, .ref mX, .ref mD]))]) [0] rfl
        have hDc := hD.sub (ws' := [(m0, .inr (3, [.int 0, .int (nI nz), .ref mH, .ref mL, .ref mB, .ref mP, .ref mR, .ref mA, .ref mW, .ref mU, .ref mV, .int rw, .ref mM, .ref mT, .int mc, .ref mQ, .int ga, .int gb, .int kn, .ref mO, .ref mF, .ref mS, .ref mE, .ref mX, .ref mD]))]) [0] (by decide) rfl
        have hFc := va_free (wc := [(m0, .inr (3, [.int 0, .int (nI nz), .ref mH, .ref mL, .ref mB, .ref mP, .ref mR, .ref mA, .ref mW, .ref mU, .ref mV, .int rw, .ref mM, .ref mT, .int mc, .ref mQ, .int ga, .int gb, .int kn, .ref mO, .ref mF, .ref mS, .ref mE, .ref mX, .ref mD]))]) hD hS hA [0] rfl
        refine va_calli (va_runV (C := R_M) (As := [.int 1, .int 1]) (rest := []) ⟨hx, hb, hml, hown, hG⟩ (m_fails011 l dC dI cI cJ cZ cB m0 mH mL mB mP mR mA mW mU mV mM mT mQ mO mF mS mE mX mD (nI nz) rw mc ga gb kn H22.size ) (cwV 2 hG g_M_87 rfl rfl rfl (by decide +kernel) ⟨Nat.le_of_ble_eq_true rfl, Nat.le_of_ble_eq_true rfl⟩) ⟨PC.blind, va_recv hK hP (ci := 3) (q0 := 0) rfl rfl, PC.of hPc hK hDc hE hS hFc⟩ rfl rfl hl9.1 rfl (lv_room (Nat.le_of_ble_eq_true rfl)) d_M_want_44 ⟨by first | exact Nat.le_of_ble_eq_true rfl | omega, by first | exact Nat.le_of_ble_eq_true rfl | omega⟩) hS (fun q _ h => hFc q h) hFc (fun r26 u t H25 locs ht hvm hw hB hz1 hk1 hS => ?_)
        rw [ht] at hB
        obtain ⟨hP, hD⟩ := jset (wc := [(m0, .inr (3, [.int 0, .int (nI nz), .ref mH, .ref mL, .ref mB, .ref mP, .ref mR, .ref mA, .ref mW, .ref mU, .ref mV, .int rw, .ref mM, .ref mT, .int mc, .ref mQ, .int ga, .int gb, .int kn, .ref mO, .ref mF, .ref mS, .ref mE, .ref mX, .ref mD]))]) (w1 := [(m0, .inr (3, [.int 1, .int (nI nz), .ref mH, .ref mL, .ref mB, .ref mP, .ref mR, .ref mA, .ref mW, .ref mU, .ref mV, .int rw, .ref mM, .ref mT, .int mc, .ref mQ, .int ga, .int gb, .int kn, .ref mO, .ref mF, .ref mS, .ref mE, .ref mX, .ref mD]))]) [0] rfl rfl hP hD hk1 hB
        have hP : va_P (dC, dI) vwCl [(m0, .inr (3, [.int 1, .int (nI nz), .ref mH, .ref mL, .ref mB, .ref mP, .ref mR, .ref mA, .ref mW, .ref mU, .ref mV, .int rw, .ref mM, .ref mT, .int mc, .ref mQ, .int ga, .int gb, .int kn, .ref mO, .ref mF, .ref mS, .ref mE, .ref mX, .ref mD]))] H25 := hP
        have hD : va_D A [(m0, .inr (3, [.int 1, .int (nI nz), .ref mH, .ref mL, .ref mB, .ref mP, .ref mR, .ref mA, .ref mW, .ref mU, .ref mV, .int rw, .ref mM, .ref mT, .int mc, .ref mQ, .int ga, .int gb, .int kn, .ref mO, .ref mF, .ref mS, .ref mE, .ref mX, .ref mD]))] := hD
        have hw : r26 = 1 := hw
        subst hw
        refine lv_if_eq (tgt := 51) hx hb d_M_want_47 (by decide) (fun c27 => absurd c27 (by decide)) (fun c27 => ?_)
        exact W.vret hx hb hr (fun t ht hW => ⟨⟨(), rfl, trivial, by have h9 := hP; rw [← ht] at h9; exact h9⟩, hS.F ht⟩) hS.2.2 d_M_want_50
      · exact absurd hbad (fun h => h.elim h0 (fun h => h.elim h1 h2))
set_option maxHeartbeats 4000000 in
set_option maxRecDepth 100000 in
theorem m_lesson0 (l : Launch) (dC : Nat → ClassId) (dI : Nat → Nat → Nat) (cI cJ cZ cB : ClassId) (m0 mH mL mB mP mR mA mW mU mV mM mT mQ mO mF mS mE mX mD : Nat) (th zn rw mc ga gb kn : Int32) (rU : Nat → Int64) (nz k : Nat) (sz : Nat) (hk : k < nz) (hn : nz ≤ 6) : Met l y_M_lesson w_M_lesson ({ frames := 1, cells := 0, slots := 0, locals := 22 }) (PC (dC, dI) (TY cI cJ cZ cB) [.ref m0, .int (nI k), .int 0] [(m0, .inr (3, [.int th, .int (nI nz), .ref mH, .ref mL, .ref mB, .ref mP, .ref mR, .ref mA, .ref mW, .ref mU, .ref mV, .int rw, .ref mM, .ref mT, .int mc, .ref mQ, .int ga, .int gb, .int kn, .ref mO, .ref mF, .ref mS, .ref mE, .ref mX, .ref mD])), (mU, .inl (cJ, 6, .inr (.inl rU)))] sz (va_A [(m0, .inr (3, [.int th, .int (nI nz), .ref mH, .ref mL, .ref mB, .ref mP, .ref mR, .ref mA, .ref mW, .ref mU, .ref mV, .int rw, .ref mM, .ref mT, .int mc, .ref mQ, .int ga, .int gb, .int kn, .ref mO, .ref mF, .ref mS, .ref mE, .ref mX, .ref mD])), (mU, .inl (cJ, 6, .inr (.inl rU)))] sz)) (va_Ql (fun (r : Int64) (_ : Unit) => r = rU k) (fun (_ : Unit) (t : State) => va_P (dC, dI) vwCl [(m0, .inr (3, [.int 0, .int (nI nz), .ref mH, .ref mL, .ref mB, .ref mP, .ref mR, .ref mA, .ref mW, .ref mU, .ref mV, .int rw, .ref mM, .ref mT, .int mc, .ref mQ, .int ga, .int gb, .int kn, .ref mO, .ref mF, .ref mS, .ref mE, .ref mX, .ref mD])), (mU, .inl (cJ, 6, .inr (.inl rU)))] t.heap) (va_A [(m0, .inr (3, [.int th, .int (nI nz), .ref mH, .ref mL, .ref mB, .ref mP, .ref mR, .ref mA, .ref mW, .ref mU, .ref mV, .int rw, .ref mM, .ref mT, .int mc, .ref mQ, .int ga, .int gb, .int kn, .ref mO, .ref mF, .ref mS, .ref mE, .ref mX, .ref mD])), (mU, .inl (cJ, 6, .inr (.inl rU)))] sz)) 0 0 (va_A [(m0, .inr (3, [.int th, .int (nI nz), .ref mH, .ref mL, .ref mB, .ref mP, .ref mR, .ref mA, .ref mW, .ref mU, .ref mV, .int rw, .ref mM, .ref mT, .int mc, .ref mQ, .int ga, .int gb, .int kn, .ref mO, .ref mF, .ref mS, .ref mE, .ref mX, .ref mD])), (mU, .inl (cJ, 6, .inr (.inl rU)))] sz) := by
  refine Met.ofW (cc := b_M_lesson) (maxL := 3) (ret := (some .long)) (by decide) rfl ?_
  intro p e s m args below meth c s₁ B hml hv
  obtain ⟨rfl, hsz, hP, hK, hD0, hE⟩ := hv
  have hx := B.exec
  have hb := B.bytes
  have hr := B.returns
  have hG : ∀ w ∈ GG, w.before _ s = true := fun w h => atoms_spec (ws := w_M_lesson) B.pre w (List.mem_cons_of_mem _ h)
  have hown : s.vm.findClass R_M = some m.cls := findClass_of_methodNamed B.named
  have hlocks := B.notSynchronized
  subst hsz
  have hD := hD0.self (sz := s.heap.size)
  generalize hAe : (va_A [(m0, .inr (3, [.int th, .int (nI nz), .ref mH, .ref mL, .ref mB, .ref mP, .ref mR, .ref mA, .ref mW, .ref mU, .ref mV, .int rw, .ref mM, .ref mT, .int mc, .ref mQ, .int ga, .int gb, .int kn, .ref mO, .ref mF, .ref mS, .ref mE, .ref mX, .ref mD])), (mU, .inl (cJ, 6, .inr (.inl rU)))] s.heap.size) = A at hD hE ⊢
  have hA : ∀ q : Nat, s.heap.size ≤ q → A q := fun q h => by rw [← hAe]; exact Or.inr h
  have hS : va_S A s.heap s.heap [] := va_S.rf
  obtain ⟨H, hH⟩ : ∃ z, z = s.heap := ⟨_, rfl⟩
  rw [← hH] at hP
  have hS : va_S A s.heap H [] := by rw [hH]; exact hS
  rw [← hH]
  have hl9 := lv_entry ([.ref m0, .int (nI k), .int 0]) (n := 3) (Nat.le_of_ble_eq_true rfl)
  rw [lg_entry_eq]
  generalize (lg_sl ([.ref m0, .int (nI k), .int 0]) ++ List.replicate (3 - (lg_sl ([.ref m0, .int (nI k), .int 0])).length) Slot.unset).toArray = ls at hl9 ⊢
  have hl9 : lv_has ls 3 [(0, .ref m0), (1, .int (nI k)), (2, .int 0)] := hl9
  have hin : vp_in (nI k) 6 := vp_in_nI (by omega) (by decide)
  refine lv_aload_n hx hb d_M_lesson_0 rfl (lv_at hl9 0 rfl) ?_
  refine lv_iconst (v := 0) hx hb d_M_lesson_1 (by decide) ?_
  refine va_put (D := (dC, dI)) (ci := 3) (v := .int 0) (ty := .int) (C := R_M) (T := F_M) (N := 25) hx hb hG i_M t_M t_M_ok n_M hown hK hP hD hS 0 rfl rfl 0 (by decide) (hG _ k_440) (fun _ h9 => h9) rfl (by decide +kernel) rfl rfl (Nat.le_of_ble_eq_true rfl) d_M_lesson_2 (fun H locs hP hD hS => ?_)
  have hP : va_P (dC, dI) vwCl [(m0, .inr (3, [.int 0, .int (nI nz), .ref mH, .ref mL, .ref mB, .ref mP, .ref mR, .ref mA, .ref mW, .ref mU, .ref mV, .int rw, .ref mM, .ref mT, .int mc, .ref mQ, .int ga, .int gb, .int kn, .ref mO, .ref mF, .ref mS, .ref mE, .ref mX, .ref mD])), (mU, .inl (cJ, 6, .inr (.inl rU)))] H := hP
  have hD : va_D A [(m0, .inr (3, [.int 0, .int (nI nz), .ref mH, .ref mL, .ref mB, .ref mP, .ref mR, .ref mA, .ref mW, .ref mU, .ref mV, .int rw, .ref mM, .ref mT, .int mc, .ref mQ, .int ga, .int gb, .int kn, .ref mO, .ref mF, .ref mS, .ref mE, .ref mX, .ref mD])), (mU, .inl (cJ, 6, .inr (.inl rU)))] := hD
  refine lv_aload_n hx hb d_M_lesson_5 rfl (lv_at hl9 0 rfl) ?_
  refine lv_aload_n hx hb d_M_lesson_6 rfl (lv_at hl9 0 rfl) ?_
  refine lv_iload_n hx hb d_M_lesson_7 rfl (lv_at hl9 1 rfl) ?_
  have hPc := hP.sub (ws' := [(m0, .inr (3, [.int 0, .int (nI nz), .ref mH, .ref mL, .ref mB, .ref mP, .ref mR, .ref mA, .ref mW, .ref mU, .ref mV, .int rw, .ref mM, .ref mT, .int mc, .ref mQ, .int ga, .int gb, .int kn, .ref mO, .ref mF, .ref mS, .ref mE, .ref mX, .ref mD]))]) [0] rfl
  have hDc := hD.sub (ws' := [(m0, .inr (3, [.int 0, .int (nI nz), .ref mH, .ref mL, .ref mB, .ref mP, .ref mR, .ref mA, .ref mW, .ref mU, .ref mV, .int rw, .ref mM, .ref mT, .int mc, .ref mQ, .int ga, .int gb, .int kn, .ref mO, .ref mF, .ref mS, .ref mE, .ref mX, .ref mD]))]) [0] (by decide) rfl
  have hFc := va_A_nil hA hS.1
  refine va_calli (va_runV (C := R_M) (As := [.int (nI k)]) (rest := [.ref m0]) ⟨hx, hb, hml, hown, hG⟩ (m_isZone l dC dI cI cJ cZ cB m0 mH mL mB mP mR mA mW mU mV mM mT mQ mO mF mS mE mX mD 0 (nI nz) rw mc ga gb kn (nI k) H.size ) (cwV 1 hG g_M_95 rfl rfl rfl (by decide +kernel) ⟨Nat.le_of_ble_eq_true rfl, Nat.le_of_ble_eq_true rfl⟩) ⟨PC.blind, va_recv hK hP (ci := 3) (q0 := 0) rfl rfl, PC.of hPc hK hDc hE hS hFc⟩ rfl rfl hl9.1 rfl (lv_room (Nat.le_of_ble_eq_true rfl)) d_M_lesson_8 ⟨by first | exact Nat.le_of_ble_eq_true rfl | omega, by first | exact Nat.le_of_ble_eq_true rfl | omega⟩) hS (fun q _ h => hFc q h) hFc (fun r2 u t H1 locs ht hvm hw hB hz1 hk1 hS => ?_)
  have hP := wp_kept hP hk1
  have hw : r2 = if ¬ ((nI k) < 0 ∨ (nI nz) ≤ (nI k)) then 1 else 0 := hw
  subst hw
  rw [iz_1 hk hn]
  refine lv_if_eq (tgt := 23) hx hb d_M_lesson_11 (by decide) (fun c3 => absurd c3 (by decide)) (fun c3 => ?_)
  refine lv_iload_n hx hb d_M_lesson_14 rfl (lv_at hl9 2 rfl) ?_
  refine lv_iconst (v := 0) hx hb d_M_lesson_15 (by decide) ?_
  refine lv_iconst (v := 1) hx hb d_M_lesson_16 (by decide) ?_
  have hPc := hP.sub (ws' := []) [] rfl
  have hDc := hD.sub (ws' := []) [] (by decide) rfl
  have hFc := va_A_nil hA hS.1
  refine va_calli (va_runS (As := [.int 0, .int 0, .int 1]) (rest := [.ref m0]) ⟨hx, hb, hml, hown, hG⟩ (m_within l dC dI cI cJ cZ cB 0 0 1 H1.size ) (cwS 3 hG g_M_83 rfl rfl rfl (by decide +kernel) ⟨Nat.le_of_ble_eq_true rfl, Nat.le_of_ble_eq_true rfl⟩) ⟨PC.blind, PC.of hPc hK hDc hE hS hFc⟩ rfl rfl hl9.1 rfl (lv_room (Nat.le_of_ble_eq_true rfl)) d_M_lesson_17 ⟨by first | exact Nat.le_of_ble_eq_true rfl | omega, by first | exact Nat.le_of_ble_eq_true rfl | omega⟩) hS (fun q _ h => hFc q h) hFc (fun r5 u t H4 locs ht hvm hw hB hz1 hk1 hS => ?_)
  have hP := wp_kept hP hk1
  have hw : r5 = if ¬ (0 < 0 ∨ 1 < 0) then 1 else 0 := hw
  subst hw
  rw [show (if ¬ (0 < 0 ∨ 1 < 0) then (1 : Int32) else 0) = 1 from by decide]
  refine lv_if_ne (tgt := 27) hx hb d_M_lesson_20 (by decide) (fun c6 => ?_) (fun c6 => absurd c6 (by decide))
  refine lv_iconst (v := 0) hx hb d_M_lesson_27 (by decide) ?_
  refine lv_iconst (v := 1) hx hb d_M_lesson_28 (by decide) ?_
  have hPc := hP.sub (ws' := [(m0, .inr (3, [.int 0, .int (nI nz), .ref mH, .ref mL, .ref mB, .ref mP, .ref mR, .ref mA, .ref mW, .ref mU, .ref mV, .int rw, .ref mM, .ref mT, .int mc, .ref mQ, .int ga, .int gb, .int kn, .ref mO, .ref mF, .ref mS, .ref mE, .ref mX, .ref mD]))]) [0] rfl
  have hDc := hD.sub (ws' := [(m0, .inr (3, [.int 0, .int (nI nz), .ref mH, .ref mL, .ref mB, .ref mP, .ref mR, .ref mA, .ref mW, .ref mU, .ref mV, .int rw, .ref mM, .ref mT, .int mc, .ref mQ, .int ga, .int gb, .int kn, .ref mO, .ref mF, .ref mS, .ref mE, .ref mX, .ref mD]))]) [0] (by decide) rfl
  have hFc := va_free (wc := [(m0, .inr (3, [.int 0, .int (nI nz), .ref mH, .ref mL, .ref mB, .ref mP, .ref mR, .ref mA, .ref mW, .ref mU, .ref mV, .int rw, .ref mM, .ref mT, .int mc, .ref mQ, .int ga, .int gb, .int kn, .ref mO, .ref mF, .ref mS, .ref mE, .ref mX, .ref mD]))]) hD hS hA [0] rfl
  refine va_calli (va_runV (C := R_M) (As := [.int 0, .int 1]) (rest := []) ⟨hx, hb, hml, hown, hG⟩ (m_fails001 l dC dI cI cJ cZ cB m0 mH mL mB mP mR mA mW mU mV mM mT mQ mO mF mS mE mX mD (nI nz) rw mc ga gb kn H4.size ) (cwV 2 hG g_M_87 rfl rfl rfl (by decide +kernel) ⟨Nat.le_of_ble_eq_true rfl, Nat.le_of_ble_eq_true rfl⟩) ⟨PC.blind, va_recv hK hP (ci := 3) (q0 := 0) rfl rfl, PC.of hPc hK hDc hE hS hFc⟩ rfl rfl hl9.1 rfl (lv_room (Nat.le_of_ble_eq_true rfl)) d_M_lesson_29 ⟨by first | exact Nat.le_of_ble_eq_true rfl | omega, by first | exact Nat.le_of_ble_eq_true rfl | omega⟩) hS (fun q _ h => hFc q h) hFc (fun r8 u t H7 locs ht hvm hw hB hz1 hk1 hS => ?_)
  rw [ht] at hB
  obtain ⟨hP, hD⟩ := jset (wc := [(m0, .inr (3, [.int 0, .int (nI nz), .ref mH, .ref mL, .ref mB, .ref mP, .ref mR, .ref mA, .ref mW, .ref mU, .ref mV, .int rw, .ref mM, .ref mT, .int mc, .ref mQ, .int ga, .int gb, .int kn, .ref mO, .ref mF, .ref mS, .ref mE, .ref mX, .ref mD]))]) (w1 := [(m0, .inr (3, [.int 0, .int (nI nz), .ref mH, .ref mL, .ref mB, .ref mP, .ref mR, .ref mA, .ref mW, .ref mU, .ref mV, .int rw, .ref mM, .ref mT, .int mc, .ref mQ, .int ga, .int gb, .int kn, .ref mO, .ref mF, .ref mS, .ref mE, .ref mX, .ref mD]))]) [0] rfl rfl hP hD hk1 hB
  have hP : va_P (dC, dI) vwCl [(m0, .inr (3, [.int 0, .int (nI nz), .ref mH, .ref mL, .ref mB, .ref mP, .ref mR, .ref mA, .ref mW, .ref mU, .ref mV, .int rw, .ref mM, .ref mT, .int mc, .ref mQ, .int ga, .int gb, .int kn, .ref mO, .ref mF, .ref mS, .ref mE, .ref mX, .ref mD])), (mU, .inl (cJ, 6, .inr (.inl rU)))] H7 := hP
  have hD : va_D A [(m0, .inr (3, [.int 0, .int (nI nz), .ref mH, .ref mL, .ref mB, .ref mP, .ref mR, .ref mA, .ref mW, .ref mU, .ref mV, .int rw, .ref mM, .ref mT, .int mc, .ref mQ, .int ga, .int gb, .int kn, .ref mO, .ref mF, .ref mS, .ref mE, .ref mX, .ref mD])), (mU, .inl (cJ, 6, .inr (.inl rU)))] := hD
  have hw : r8 = 0 := hw
  subst hw
  refine lv_if_eq (tgt := 37) hx hb d_M_lesson_32 (by decide) (fun c9 => ?_) (fun c9 => absurd c9 (by decide))
  refine lv_iload_n hx hb d_M_lesson_37 rfl (lv_at hl9 2 rfl) ?_
  refine lv_if_ne (tgt := 50) hx hb d_M_lesson_38 (by decide) (fun c10 => absurd c10 (by decide)) (fun c10 => ?_)
  refine lv_aload_n hx hb d_M_lesson_41 rfl (lv_at hl9 0 rfl) ?_
  refine va_get (D := (dC, dI)) (ci := 3) (v := .ref mU) (C := R_M) (T := F_M) (N := 25) hx hb hG i_M hown hK hP 0 rfl rfl 9 (by decide) (hG _ k_449) (fun _ h9 => h9) rfl d_M_lesson_42 ?_
  refine lv_iload_n hx hb d_M_lesson_45 rfl (lv_at hl9 1 rfl) ?_
  refine va_lald hx hb hK hP 1 1 rfl rfl (hin) d_M_lesson_46 ?_
  rw [nI_clamp (n := k) (by omega)]
  refine lv_goto (tgt := 56) hx hb d_M_lesson_47 (by decide) ?_
  exact W.lret (v := (rU k)) hx hb hr (fun t ht hW => ⟨⟨(rU k), (), rfl, rfl, by have h9 := hP; rw [← ht] at h9; exact h9⟩, hS.F ht⟩) hS.2.2 d_M_lesson_56
set_option maxHeartbeats 4000000 in
set_option maxRecDepth 100000 in
theorem m_lesson1 (l : Launch) (dC : Nat → ClassId) (dI : Nat → Nat → Nat) (cI cJ cZ cB : ClassId) (m0 mH mL mB mP mR mA mW mU mV mM mT mQ mO mF mS mE mX mD : Nat) (th zn rw mc ga gb kn : Int32) (rV : Nat → Int64) (nz k : Nat) (sz : Nat) (hk : k < nz) (hn : nz ≤ 6) : Met l y_M_lesson w_M_lesson ({ frames := 1, cells := 0, slots := 0, locals := 22 }) (PC (dC, dI) (TY cI cJ cZ cB) [.ref m0, .int (nI k), .int 1] [(m0, .inr (3, [.int th, .int (nI nz), .ref mH, .ref mL, .ref mB, .ref mP, .ref mR, .ref mA, .ref mW, .ref mU, .ref mV, .int rw, .ref mM, .ref mT, .int mc, .ref mQ, .int ga, .int gb, .int kn, .ref mO, .ref mF, .ref mS, .ref mE, .ref mX, .ref mD])), (mV, .inl (cJ, 6, .inr (.inl rV)))] sz (va_A [(m0, .inr (3, [.int th, .int (nI nz), .ref mH, .ref mL, .ref mB, .ref mP, .ref mR, .ref mA, .ref mW, .ref mU, .ref mV, .int rw, .ref mM, .ref mT, .int mc, .ref mQ, .int ga, .int gb, .int kn, .ref mO, .ref mF, .ref mS, .ref mE, .ref mX, .ref mD])), (mV, .inl (cJ, 6, .inr (.inl rV)))] sz)) (va_Ql (fun (r : Int64) (_ : Unit) => r = rV k) (fun (_ : Unit) (t : State) => va_P (dC, dI) vwCl [(m0, .inr (3, [.int 0, .int (nI nz), .ref mH, .ref mL, .ref mB, .ref mP, .ref mR, .ref mA, .ref mW, .ref mU, .ref mV, .int rw, .ref mM, .ref mT, .int mc, .ref mQ, .int ga, .int gb, .int kn, .ref mO, .ref mF, .ref mS, .ref mE, .ref mX, .ref mD])), (mV, .inl (cJ, 6, .inr (.inl rV)))] t.heap) (va_A [(m0, .inr (3, [.int th, .int (nI nz), .ref mH, .ref mL, .ref mB, .ref mP, .ref mR, .ref mA, .ref mW, .ref mU, .ref mV, .int rw, .ref mM, .ref mT, .int mc, .ref mQ, .int ga, .int gb, .int kn, .ref mO, .ref mF, .ref mS, .ref mE, .ref mX, .ref mD])), (mV, .inl (cJ, 6, .inr (.inl rV)))] sz)) 0 0 (va_A [(m0, .inr (3, [.int th, .int (nI nz), .ref mH, .ref mL, .ref mB, .ref mP, .ref mR, .ref mA, .ref mW, .ref mU, .ref mV, .int rw, .ref mM, .ref mT, .int mc, .ref mQ, .int ga, .int gb, .int kn, .ref mO, .ref mF, .ref mS, .ref mE, .ref mX, .ref mD])), (mV, .inl (cJ, 6, .inr (.inl rV)))] sz) := by
  refine Met.ofW (cc := b_M_lesson) (maxL := 3) (ret := (some .long)) (by decide) rfl ?_
  intro p e s m args below meth c s₁ B hml hv
  obtain ⟨rfl, hsz, hP, hK, hD0, hE⟩ := hv
  have hx := B.exec
  have hb := B.bytes
  have hr := B.returns
  have hG : ∀ w ∈ GG, w.before _ s = true := fun w h => atoms_spec (ws := w_M_lesson) B.pre w (List.mem_cons_of_mem _ h)
  have hown : s.vm.findClass R_M = some m.cls := findClass_of_methodNamed B.named
  have hlocks := B.notSynchronized
  subst hsz
  have hD := hD0.self (sz := s.heap.size)
  generalize hAe : (va_A [(m0, .inr (3, [.int th, .int (nI nz), .ref mH, .ref mL, .ref mB, .ref mP, .ref mR, .ref mA, .ref mW, .ref mU, .ref mV, .int rw, .ref mM, .ref mT, .int mc, .ref mQ, .int ga, .int gb, .int kn, .ref mO, .ref mF, .ref mS, .ref mE, .ref mX, .ref mD])), (mV, .inl (cJ, 6, .inr (.inl rV)))] s.heap.size) = A at hD hE ⊢
  have hA : ∀ q : Nat, s.heap.size ≤ q → A q := fun q h => by rw [← hAe]; exact Or.inr h
  have hS : va_S A s.heap s.heap [] := va_S.rf
  obtain ⟨H, hH⟩ : ∃ z, z = s.heap := ⟨_, rfl⟩
  rw [← hH] at hP
  have hS : va_S A s.heap H [] := by rw [hH]; exact hS
  rw [← hH]
  have hl9 := lv_entry ([.ref m0, .int (nI k), .int 1]) (n := 3) (Nat.le_of_ble_eq_true rfl)
  rw [lg_entry_eq]
  generalize (lg_sl ([.ref m0, .int (nI k), .int 1]) ++ List.replicate (3 - (lg_sl ([.ref m0, .int (nI k), .int 1])).length) Slot.unset).toArray = ls at hl9 ⊢
  have hl9 : lv_has ls 3 [(0, .ref m0), (1, .int (nI k)), (2, .int 1)] := hl9
  have hin : vp_in (nI k) 6 := vp_in_nI (by omega) (by decide)
  refine lv_aload_n hx hb d_M_lesson_0 rfl (lv_at hl9 0 rfl) ?_
  refine lv_iconst (v := 0) hx hb d_M_lesson_1 (by decide) ?_
  refine va_put (D := (dC, dI)) (ci := 3) (v := .int 0) (ty := .int) (C := R_M) (T := F_M) (N := 25) hx hb hG i_M t_M t_M_ok n_M hown hK hP hD hS 0 rfl rfl 0 (by decide) (hG _ k_440) (fun _ h9 => h9) rfl (by decide +kernel) rfl rfl (Nat.le_of_ble_eq_true rfl) d_M_lesson_2 (fun H locs hP hD hS => ?_)
  have hP : va_P (dC, dI) vwCl [(m0, .inr (3, [.int 0, .int (nI nz), .ref mH, .ref mL, .ref mB, .ref mP, .ref mR, .ref mA, .ref mW, .ref mU, .ref mV, .int rw, .ref mM, .ref mT, .int mc, .ref mQ, .int ga, .int gb, .int kn, .ref mO, .ref mF, .ref mS, .ref mE, .ref mX, .ref mD])), (mV, .inl (cJ, 6, .inr (.inl rV)))] H := hP
  have hD : va_D A [(m0, .inr (3, [.int 0, .int (nI nz), .ref mH, .ref mL, .ref mB, .ref mP, .ref mR, .ref mA, .ref mW, .ref mU, .ref mV, .int rw, .ref mM, .ref mT, .int mc, .ref mQ, .int ga, .int gb, .int kn, .ref mO, .ref mF, .ref mS, .ref mE, .ref mX, .ref mD])), (mV, .inl (cJ, 6, .inr (.inl rV)))] := hD
  refine lv_aload_n hx hb d_M_lesson_5 rfl (lv_at hl9 0 rfl) ?_
  refine lv_aload_n hx hb d_M_lesson_6 rfl (lv_at hl9 0 rfl) ?_
  refine lv_iload_n hx hb d_M_lesson_7 rfl (lv_at hl9 1 rfl) ?_
  have hPc := hP.sub (ws' := [(m0, .inr (3, [.int 0, .int (nI nz), .ref mH, .ref mL, .ref mB, .ref mP, .ref mR, .ref mA, .ref mW, .ref mU, .ref mV, .int rw, .ref mM, .ref mT, .int mc, .ref mQ, .int ga, .int gb, .int kn, .ref mO, .ref mF, .ref mS, .ref mE, .ref mX, .ref mD]))]) [0] rfl
  have hDc := hD.sub (ws' := [(m0, .inr (3, [.int 0, .int (nI nz), .ref mH, .ref mL, .ref mB, .ref mP, .ref mR, .ref mA, .ref mW, .ref mU, .ref mV, .int rw, .ref mM, .ref mT, .int mc, .ref mQ, .int ga, .int gb, .int kn, .ref mO, .ref mF, .ref mS, .ref mE, .ref mX, .ref mD]))]) [0] (by decide) rfl
  have hFc := va_A_nil hA hS.1
  refine va_calli (va_runV (C := R_M) (As := [.int (nI k)]) (rest := [.ref m0]) ⟨hx, hb, hml, hown, hG⟩ (m_isZone l dC dI cI cJ cZ cB m0 mH mL mB mP mR mA mW mU mV mM mT mQ mO mF mS mE mX mD 0 (nI nz) rw mc ga gb kn (nI k) H.size ) (cwV 1 hG g_M_95 rfl rfl rfl (by decide +kernel) ⟨Nat.le_of_ble_eq_true rfl, Nat.le_of_ble_eq_true rfl⟩) ⟨PC.blind, va_recv hK hP (ci := 3) (q0 := 0) rfl rfl, PC.of hPc hK hDc hE hS hFc⟩ rfl rfl hl9.1 rfl (lv_room (Nat.le_of_ble_eq_true rfl)) d_M_lesson_8 ⟨by first | exact Nat.le_of_ble_eq_true rfl | omega, by first | exact Nat.le_of_ble_eq_true rfl | omega⟩) hS (fun q _ h => hFc q h) hFc (fun r2 u t H1 locs ht hvm hw hB hz1 hk1 hS => ?_)
  have hP := wp_kept hP hk1
  have hw : r2 = if ¬ ((nI k) < 0 ∨ (nI nz) ≤ (nI k)) then 1 else 0 := hw
  subst hw
  rw [iz_1 hk hn]
  refine lv_if_eq (tgt := 23) hx hb d_M_lesson_11 (by decide) (fun c3 => absurd c3 (by decide)) (fun c3 => ?_)
  refine lv_iload_n hx hb d_M_lesson_14 rfl (lv_at hl9 2 rfl) ?_
  refine lv_iconst (v := 0) hx hb d_M_lesson_15 (by decide) ?_
  refine lv_iconst (v := 1) hx hb d_M_lesson_16 (by decide) ?_
  have hPc := hP.sub (ws' := []) [] rfl
  have hDc := hD.sub (ws' := []) [] (by decide) rfl
  have hFc := va_A_nil hA hS.1
  refine va_calli (va_runS (As := [.int 1, .int 0, .int 1]) (rest := [.ref m0]) ⟨hx, hb, hml, hown, hG⟩ (m_within l dC dI cI cJ cZ cB 1 0 1 H1.size ) (cwS 3 hG g_M_83 rfl rfl rfl (by decide +kernel) ⟨Nat.le_of_ble_eq_true rfl, Nat.le_of_ble_eq_true rfl⟩) ⟨PC.blind, PC.of hPc hK hDc hE hS hFc⟩ rfl rfl hl9.1 rfl (lv_room (Nat.le_of_ble_eq_true rfl)) d_M_lesson_17 ⟨by first | exact Nat.le_of_ble_eq_true rfl | omega, by first | exact Nat.le_of_ble_eq_true rfl | omega⟩) hS (fun q _ h => hFc q h) hFc (fun r5 u t H4 locs ht hvm hw hB hz1 hk1 hS => ?_)
  have hP := wp_kept hP hk1
  have hw : r5 = if ¬ (1 < 0 ∨ 1 < 1) then 1 else 0 := hw
  subst hw
  rw [show (if ¬ (1 < 0 ∨ 1 < 1) then (1 : Int32) else 0) = 1 from by decide]
  refine lv_if_ne (tgt := 27) hx hb d_M_lesson_20 (by decide) (fun c6 => ?_) (fun c6 => absurd c6 (by decide))
  refine lv_iconst (v := 0) hx hb d_M_lesson_27 (by decide) ?_
  refine lv_iconst (v := 1) hx hb d_M_lesson_28 (by decide) ?_
  have hPc := hP.sub (ws' := [(m0, .inr (3, [.int 0, .int (nI nz), .ref mH, .ref mL, .ref mB, .ref mP, .ref mR, .ref mA, .ref mW, .ref mU, .ref mV, .int rw, .ref mM, .ref mT, .int mc, .ref mQ, .int ga, .int gb, .int kn, .ref mO, .ref mF, .ref mS, .ref mE, .ref mX, .ref mD]))]) [0] rfl
  have hDc := hD.sub (ws' := [(m0, .inr (3, [.int 0, .int (nI nz), .ref mH, .ref mL, .ref mB, .ref mP, .ref mR, .ref mA, .ref mW, .ref mU, .ref mV, .int rw, .ref mM, .ref mT, .int mc, .ref mQ, .int ga, .int gb, .int kn, .ref mO, .ref mF, .ref mS, .ref mE, .ref mX, .ref mD]))]) [0] (by decide) rfl
  have hFc := va_free (wc := [(m0, .inr (3, [.int 0, .int (nI nz), .ref mH, .ref mL, .ref mB, .ref mP, .ref mR, .ref mA, .ref mW, .ref mU, .ref mV, .int rw, .ref mM, .ref mT, .int mc, .ref mQ, .int ga, .int gb, .int kn, .ref mO, .ref mF, .ref mS, .ref mE, .ref mX, .ref mD]))]) hD hS hA [0] rfl
  refine va_calli (va_runV (C := R_M) (As := [.int 0, .int 1]) (rest := []) ⟨hx, hb, hml, hown, hG⟩ (m_fails001 l dC dI cI cJ cZ cB m0 mH mL mB mP mR mA mW mU mV mM mT mQ mO mF mS mE mX mD (nI nz) rw mc ga gb kn H4.size ) (cwV 2 hG g_M_87 rfl rfl rfl (by decide +kernel) ⟨Nat.le_of_ble_eq_true rfl, Nat.le_of_ble_eq_true rfl⟩) ⟨PC.blind, va_recv hK hP (ci := 3) (q0 := 0) rfl rfl, PC.of hPc hK hDc hE hS hFc⟩ rfl rfl hl9.1 rfl (lv_room (Nat.le_of_ble_eq_true rfl)) d_M_lesson_29 ⟨by first | exact Nat.le_of_ble_eq_true rfl | omega, by first | exact Nat.le_of_ble_eq_true rfl | omega⟩) hS (fun q _ h => hFc q h) hFc (fun r8 u t H7 locs ht hvm hw hB hz1 hk1 hS => ?_)
  rw [ht] at hB
  obtain ⟨hP, hD⟩ := jset (wc := [(m0, .inr (3, [.int 0, .int (nI nz), .ref mH, .ref mL, .ref mB, .ref mP, .ref mR, .ref mA, .ref mW, .ref mU, .ref mV, .int rw, .ref mM, .ref mT, .int mc, .ref mQ, .int ga, .int gb, .int kn, .ref mO, .ref mF, .ref mS, .ref mE, .ref mX, .ref mD]))]) (w1 := [(m0, .inr (3, [.int 0, .int (nI nz), .ref mH, .ref mL, .ref mB, .ref mP, .ref mR, .ref mA, .ref mW, .ref mU, .ref mV, .int rw, .ref mM, .ref mT, .int mc, .ref mQ, .int ga, .int gb, .int kn, .ref mO, .ref mF, .ref mS, .ref mE, .ref mX, .ref mD]))]) [0] rfl rfl hP hD hk1 hB
  have hP : va_P (dC, dI) vwCl [(m0, .inr (3, [.int 0, .int (nI nz), .ref mH, .ref mL, .ref mB, .ref mP, .ref mR, .ref mA, .ref mW, .ref mU, .ref mV, .int rw, .ref mM, .ref mT, .int mc, .ref mQ, .int ga, .int gb, .int kn, .ref mO, .ref mF, .ref mS, .ref mE, .ref mX, .ref mD])), (mV, .inl (cJ, 6, .inr (.inl rV)))] H7 := hP
  have hD : va_D A [(m0, .inr (3, [.int 0, .int (nI nz), .ref mH, .ref mL, .ref mB, .ref mP, .ref mR, .ref mA, .ref mW, .ref mU, .ref mV, .int rw, .ref mM, .ref mT, .int mc, .ref mQ, .int ga, .int gb, .int kn, .ref mO, .ref mF, .ref mS, .ref mE, .ref mX, .ref mD])), (mV, .inl (cJ, 6, .inr (.inl rV)))] := hD
  have hw : r8 = 0 := hw
  subst hw
  refine lv_if_eq (tgt := 37) hx hb d_M_lesson_32 (by decide) (fun c9 => ?_) (fun c9 => absurd c9 (by decide))
  refine lv_iload_n hx hb d_M_lesson_37 rfl (lv_at hl9 2 rfl) ?_
  refine lv_if_ne (tgt := 50) hx hb d_M_lesson_38 (by decide) (fun c10 => ?_) (fun c10 => absurd c10 (by decide))
  refine lv_aload_n hx hb d_M_lesson_50 rfl (lv_at hl9 0 rfl) ?_
  refine va_get (D := (dC, dI)) (ci := 3) (v := .ref mV) (C := R_M) (T := F_M) (N := 25) hx hb hG i_M hown hK hP 0 rfl rfl 10 (by decide) (hG _ k_450) (fun _ h9 => h9) rfl d_M_lesson_51 ?_
  refine lv_iload_n hx hb d_M_lesson_54 rfl (lv_at hl9 1 rfl) ?_
  refine va_lald hx hb hK hP 1 1 rfl rfl (hin) d_M_lesson_55 ?_
  rw [nI_clamp (n := k) (by omega)]
  exact W.lret (v := (rV k)) hx hb hr (fun t ht hW => ⟨⟨(rV k), (), rfl, rfl, by have h9 := hP; rw [← ht] at h9; exact h9⟩, hS.F ht⟩) hS.2.2 d_M_lesson_56
set_option maxHeartbeats 4000000 in
set_option maxRecDepth 100000 in
theorem m_lessonX (l : Launch) (dC : Nat → ClassId) (dI : Nat → Nat → Nat) (cI cJ cZ cB : ClassId) (m0 mH mL mB mP mR mA mW mU mV mM mT mQ mO mF mS mE mX mD : Nat) (th zn rw mc ga gb kn : Int32) (nz : Nat) (x y : Int32) (sz : Nat) (hbad : (x < 0 ∨ nI nz ≤ x) ∨ (y < 0 ∨ 1 < y)) : Met l y_M_lesson w_M_lesson ({ frames := 1, cells := 0, slots := 0, locals := 22 }) (PC (dC, dI) (TY cI cJ cZ cB) [.ref m0, .int x, .int y] [(m0, .inr (3, [.int th, .int (nI nz), .ref mH, .ref mL, .ref mB, .ref mP, .ref mR, .ref mA, .ref mW, .ref mU, .ref mV, .int rw, .ref mM, .ref mT, .int mc, .ref mQ, .int ga, .int gb, .int kn, .ref mO, .ref mF, .ref mS, .ref mE, .ref mX, .ref mD]))] sz (va_A [(m0, .inr (3, [.int th, .int (nI nz), .ref mH, .ref mL, .ref mB, .ref mP, .ref mR, .ref mA, .ref mW, .ref mU, .ref mV, .int rw, .ref mM, .ref mT, .int mc, .ref mQ, .int ga, .int gb, .int kn, .ref mO, .ref mF, .ref mS, .ref mE, .ref mX, .ref mD]))] sz)) (va_Ql (fun (r : Int64) (_ : Unit) => True) (fun (_ : Unit) (t : State) => va_P (dC, dI) vwCl [(m0, .inr (3, [.int 1, .int (nI nz), .ref mH, .ref mL, .ref mB, .ref mP, .ref mR, .ref mA, .ref mW, .ref mU, .ref mV, .int rw, .ref mM, .ref mT, .int mc, .ref mQ, .int ga, .int gb, .int kn, .ref mO, .ref mF, .ref mS, .ref mE, .ref mX, .ref mD]))] t.heap) (va_A [(m0, .inr (3, [.int th, .int (nI nz), .ref mH, .ref mL, .ref mB, .ref mP, .ref mR, .ref mA, .ref mW, .ref mU, .ref mV, .int rw, .ref mM, .ref mT, .int mc, .ref mQ, .int ga, .int gb, .int kn, .ref mO, .ref mF, .ref mS, .ref mE, .ref mX, .ref mD]))] sz)) 0 0 (va_A [(m0, .inr (3, [.int th, .int (nI nz), .ref mH, .ref mL, .ref mB, .ref mP, .ref mR, .ref mA, .ref mW, .ref mU, .ref mV, .int rw, .ref mM, .ref mT, .int mc, .ref mQ, .int ga, .int gb, .int kn, .ref mO, .ref mF, .ref mS, .ref mE, .ref mX, .ref mD]))] sz) := by
  refine Met.ofW (cc := b_M_lesson) (maxL := 3) (ret := (some .long)) (by decide) rfl ?_
  intro p e s m args below meth c s₁ B hml hv
  obtain ⟨rfl, hsz, hP, hK, hD0, hE⟩ := hv
  have hx := B.exec
  have hb := B.bytes
  have hr := B.returns
  have hG : ∀ w ∈ GG, w.before _ s = true := fun w h => atoms_spec (ws := w_M_lesson) B.pre w (List.mem_cons_of_mem _ h)
  have hown : s.vm.findClass R_M = some m.cls := findClass_of_methodNamed B.named
  have hlocks := B.notSynchronized
  subst hsz
  have hD := hD0.self (sz := s.heap.size)
  generalize hAe : (va_A [(m0, .inr (3, [.int th, .int (nI nz), .ref mH, .ref mL, .ref mB, .ref mP, .ref mR, .ref mA, .ref mW, .ref mU, .ref mV, .int rw, .ref mM, .ref mT, .int mc, .ref mQ, .int ga, .int gb, .int kn, .ref mO, .ref mF, .ref mS, .ref mE, .ref mX, .ref mD]))] s.heap.size) = A at hD hE ⊢
  have hA : ∀ q : Nat, s.heap.size ≤ q → A q := fun q h => by rw [← hAe]; exact Or.inr h
  have hS : va_S A s.heap s.heap [] := va_S.rf
  obtain ⟨H, hH⟩ : ∃ z, z = s.heap := ⟨_, rfl⟩
  rw [← hH] at hP
  have hS : va_S A s.heap H [] := by rw [hH]; exact hS
  rw [← hH]
  have hl9 := lv_entry ([.ref m0, .int x, .int y]) (n := 3) (Nat.le_of_ble_eq_true rfl)
  rw [lg_entry_eq]
  generalize (lg_sl ([.ref m0, .int x, .int y]) ++ List.replicate (3 - (lg_sl ([.ref m0, .int x, .int y])).length) Slot.unset).toArray = ls at hl9 ⊢
  have hl9 : lv_has ls 3 [(0, .ref m0), (1, .int x), (2, .int y)] := hl9
  by_cases h0 : (x < 0 ∨ nI nz ≤ x)
  · refine lv_aload_n hx hb d_M_lesson_0 rfl (lv_at hl9 0 rfl) ?_
    refine lv_iconst (v := 0) hx hb d_M_lesson_1 (by decide) ?_
    refine va_put (D := (dC, dI)) (ci := 3) (v := .int 0) (ty := .int) (C := R_M) (T := F_M) (N := 25) hx hb hG i_M t_M t_M_ok n_M hown hK hP hD hS 0 rfl rfl 0 (by decide) (hG _ k_440) (fun _ h9 => h9) rfl (by decide +kernel) rfl rfl (Nat.le_of_ble_eq_true rfl) d_M_lesson_2 (fun H locs hP hD hS => ?_)
    have hP : va_P (dC, dI) vwCl [(m0, .inr (3, [.int 0, .int (nI nz), .ref mH, .ref mL, .ref mB, .ref mP, .ref mR, .ref mA, .ref mW, .ref mU, .ref mV, .int rw, .ref mM, .ref mT, .int mc, .ref mQ, .int ga, .int gb, .int kn, .ref mO, .ref mF, .ref mS, .ref mE, .ref mX, .ref mD]))] H := hP
    have hD : va_D A [(m0, .inr (3, [.int 0, .int (nI nz), .ref mH, .ref mL, .ref mB, .ref mP, .ref mR, .ref mA, .ref mW, .ref mU, .ref mV, .int rw, .ref mM, .ref mT, .int mc, .ref mQ, .int ga, .int gb, .int kn, .ref mO, .ref mF, .ref mS, .ref mE, .ref mX, .ref mD]))] := hD
    refine lv_aload_n hx hb d_M_lesson_5 rfl (lv_at hl9 0 rfl) ?_
    refine lv_aload_n hx hb d_M_lesson_6 rfl (lv_at hl9 0 rfl) ?_
    refine lv_iload_n hx hb d_M_lesson_7 rfl (lv_at hl9 1 rfl) ?_
    have hPc := hP.sub (ws' := [(m0, .inr (3, [.int 0, .int (nI nz), .ref mH, .ref mL, .ref mB, .ref mP, .ref mR, .ref mA, .ref mW, .ref mU, .ref mV, .int rw, .ref mM, .ref mT, .int mc, .ref mQ, .int ga, .int gb, .int kn, .ref mO, .ref mF, .ref mS, .ref mE, .ref mX, .ref mD]))]) [0] rfl
    have hDc := hD.sub (ws' := [(m0, .inr (3, [.int 0, .int (nI nz), .ref mH, .ref mL, .ref mB, .ref mP, .ref mR, .ref mA, .ref mW, .ref mU, .ref mV, .int rw, .ref mM, .ref mT, .int mc, .ref mQ, .int ga, .int gb, .int kn, .ref mO, .ref mF, .ref mS, .ref mE, .ref mX, .ref mD]))]) [0] (by decide) rfl
    have hFc := va_A_nil hA hS.1
    refine va_calli (va_runV (C := R_M) (As := [.int x]) (rest := [.ref m0]) ⟨hx, hb, hml, hown, hG⟩ (m_isZone l dC dI cI cJ cZ cB m0 mH mL mB mP mR mA mW mU mV mM mT mQ mO mF mS mE mX mD 0 (nI nz) rw mc ga gb kn x H.size ) (cwV 1 hG g_M_95 rfl rfl rfl (by decide +kernel) ⟨Nat.le_of_ble_eq_true rfl, Nat.le_of_ble_eq_true rfl⟩) ⟨PC.blind, va_recv hK hP (ci := 3) (q0 := 0) rfl rfl, PC.of hPc hK hDc hE hS hFc⟩ rfl rfl hl9.1 rfl (lv_room (Nat.le_of_ble_eq_true rfl)) d_M_lesson_8 ⟨by first | exact Nat.le_of_ble_eq_true rfl | omega, by first | exact Nat.le_of_ble_eq_true rfl | omega⟩) hS (fun q _ h => hFc q h) hFc (fun r2 u t H1 locs ht hvm hw hB hz1 hk1 hS => ?_)
    have hP := wp_kept hP hk1
    have hw : r2 = if ¬ (x < 0 ∨ (nI nz) ≤ x) then 1 else 0 := hw
    subst hw
    rw [iz_0 h0]
    refine lv_if_eq (tgt := 23) hx hb d_M_lesson_11 (by decide) (fun c3 => ?_) (fun c3 => absurd c3 (by decide))
    refine lv_iconst (v := 1) hx hb d_M_lesson_23 (by decide) ?_
    refine lv_goto (tgt := 28) hx hb d_M_lesson_24 (by decide) ?_
    refine lv_iconst (v := 1) hx hb d_M_lesson_28 (by decide) ?_
    have hPc := hP.sub (ws' := [(m0, .inr (3, [.int 0, .int (nI nz), .ref mH, .ref mL, .ref mB, .ref mP, .ref mR, .ref mA, .ref mW, .ref mU, .ref mV, .int rw, .ref mM, .ref mT, .int mc, .ref mQ, .int ga, .int gb, .int kn, .ref mO, .ref mF, .ref mS, .ref mE, .ref mX, .ref mD]))]) [0] rfl
    have hDc := hD.sub (ws' := [(m0, .inr (3, [.int 0, .int (nI nz), .ref mH, .ref mL, .ref mB, .ref mP, .ref mR, .ref mA, .ref mW, .ref mU, .ref mV, .int rw, .ref mM, .ref mT, .int mc, .ref mQ, .int ga, .int gb, .int kn, .ref mO, .ref mF, .ref mS, .ref mE, .ref mX, .ref mD]))]) [0] (by decide) rfl
    have hFc := va_free (wc := [(m0, .inr (3, [.int 0, .int (nI nz), .ref mH, .ref mL, .ref mB, .ref mP, .ref mR, .ref mA, .ref mW, .ref mU, .ref mV, .int rw, .ref mM, .ref mT, .int mc, .ref mQ, .int ga, .int gb, .int kn, .ref mO, .ref mF, .ref mS, .ref mE, .ref mX, .ref mD]))]) hD hS hA [0] rfl
    refine va_calli (va_runV (C := R_M) (As := [.int 1, .int 1]) (rest := []) ⟨hx, hb, hml, hown, hG⟩ (m_fails011 l dC dI cI cJ cZ cB m0 mH mL mB mP mR mA mW mU mV mM mT mQ mO mF mS mE mX mD (nI nz) rw mc ga gb kn H1.size ) (cwV 2 hG g_M_87 rfl rfl rfl (by decide +kernel) ⟨Nat.le_of_ble_eq_true rfl, Nat.le_of_ble_eq_true rfl⟩) ⟨PC.blind, va_recv hK hP (ci := 3) (q0 := 0) rfl rfl, PC.of hPc hK hDc hE hS hFc⟩ rfl rfl hl9.1 rfl (lv_room (Nat.le_of_ble_eq_true rfl)) d_M_lesson_29 ⟨by first | exact Nat.le_of_ble_eq_true rfl | omega, by first | exact Nat.le_of_ble_eq_true rfl | omega⟩) hS (fun q _ h => hFc q h) hFc (fun r5 u t H4 locs ht hvm hw hB hz1 hk1 hS => ?_)
    rw [ht] at hB
    obtain ⟨hP, hD⟩ := jset (wc := [(m0, .inr (3, [.int 0, .int (nI nz), .ref mH, .ref mL, .ref mB, .ref mP, .ref mR, .ref mA, .ref mW, .ref mU, .ref mV, .int rw, .ref mM, .ref mT, .int mc, .ref mQ, .int ga, .int gb, .int kn, .ref mO, .ref mF, .ref mS, .ref mE, .ref mX, .ref mD]))]) (w1 := [(m0, .inr (3, [.int 1, .int (nI nz), .ref mH, .ref mL, .ref mB, .ref mP, .ref mR, .ref mA, .ref mW, .ref mU, .ref mV, .int rw, .ref mM, .ref mT, .int mc, .ref mQ, .int ga, .int gb, .int kn, .ref mO, .ref mF, .ref mS, .ref mE, .ref mX, .ref mD]))]) [0] rfl rfl hP hD hk1 hB
    have hP : va_P (dC, dI) vwCl [(m0, .inr (3, [.int 1, .int (nI nz), .ref mH, .ref mL, .ref mB, .ref mP, .ref mR, .ref mA, .ref mW, .ref mU, .ref mV, .int rw, .ref mM, .ref mT, .int mc, .ref mQ, .int ga, .int gb, .int kn, .ref mO, .ref mF, .ref mS, .ref mE, .ref mX, .ref mD]))] H4 := hP
    have hD : va_D A [(m0, .inr (3, [.int 1, .int (nI nz), .ref mH, .ref mL, .ref mB, .ref mP, .ref mR, .ref mA, .ref mW, .ref mU, .ref mV, .int rw, .ref mM, .ref mT, .int mc, .ref mQ, .int ga, .int gb, .int kn, .ref mO, .ref mF, .ref mS, .ref mE, .ref mX, .ref mD]))] := hD
    have hw : r5 = 1 := hw
    subst hw
    refine lv_if_eq (tgt := 37) hx hb d_M_lesson_32 (by decide) (fun c6 => absurd c6 (by decide)) (fun c6 => ?_)
    refine lv_lconst (v := 0) hx hb d_M_lesson_35 (by decide) ?_
    exact W.lret (v := 0) hx hb hr (fun t ht hW => ⟨⟨0, (), rfl, trivial, by have h9 := hP; rw [← ht] at h9; exact h9⟩, hS.F ht⟩) hS.2.2 d_M_lesson_36
  · by_cases h1 : (y < 0 ∨ 1 < y)
    · refine lv_aload_n hx hb d_M_lesson_0 rfl (lv_at hl9 0 rfl) ?_
      refine lv_iconst (v := 0) hx hb d_M_lesson_1 (by decide) ?_
      refine va_put (D := (dC, dI)) (ci := 3) (v := .int 0) (ty := .int) (C := R_M) (T := F_M) (N := 25) hx hb hG i_M t_M t_M_ok n_M hown hK hP hD hS 0 rfl rfl 0 (by decide) (hG _ k_440) (fun _ h9 => h9) rfl (by decide +kernel) rfl rfl (Nat.le_of_ble_eq_true rfl) d_M_lesson_2 (fun H locs hP hD hS => ?_)
      have hP : va_P (dC, dI) vwCl [(m0, .inr (3, [.int 0, .int (nI nz), .ref mH, .ref mL, .ref mB, .ref mP, .ref mR, .ref mA, .ref mW, .ref mU, .ref mV, .int rw, .ref mM, .ref mT, .int mc, .ref mQ, .int ga, .int gb, .int kn, .ref mO, .ref mF, .ref mS, .ref mE, .ref mX, .ref mD]))] H := hP
      have hD : va_D A [(m0, .inr (3, [.int 0, .int (nI nz), .ref mH, .ref mL, .ref mB, .ref mP, .ref mR, .ref mA, .ref mW, .ref mU, .ref mV, .int rw, .ref mM, .ref mT, .int mc, .ref mQ, .int ga, .int gb, .int kn, .ref mO, .ref mF, .ref mS, .ref mE, .ref mX, .ref mD]))] := hD
      refine lv_aload_n hx hb d_M_lesson_5 rfl (lv_at hl9 0 rfl) ?_
      refine lv_aload_n hx hb d_M_lesson_6 rfl (lv_at hl9 0 rfl) ?_
      refine lv_iload_n hx hb d_M_lesson_7 rfl (lv_at hl9 1 rfl) ?_
      have hPc := hP.sub (ws' := [(m0, .inr (3, [.int 0, .int (nI nz), .ref mH, .ref mL, .ref mB, .ref mP, .ref mR, .ref mA, .ref mW, .ref mU, .ref mV, .int rw, .ref mM, .ref mT, .int mc, .ref mQ, .int ga, .int gb, .int kn, .ref mO, .ref mF, .ref mS, .ref mE, .ref mX, .ref mD]))]) [0] rfl
      have hDc := hD.sub (ws' := [(m0, .inr (3, [.int 0, .int (nI nz), .ref mH, .ref mL, .ref mB, .ref mP, .ref mR, .ref mA, .ref mW, .ref mU, .ref mV, .int rw, .ref mM, .ref mT, .int mc, .ref mQ, .int ga, .int gb, .int kn, .ref mO, .ref mF, .ref mS, .ref mE, .ref mX, .ref mD]))]) [0] (by decide) rfl
      have hFc := va_A_nil hA hS.1
      refine va_calli (va_runV (C := R_M) (As := [.int x]) (rest := [.ref m0]) ⟨hx, hb, hml, hown, hG⟩ (m_isZone l dC dI cI cJ cZ cB m0 mH mL mB mP mR mA mW mU mV mM mT mQ mO mF mS mE mX mD 0 (nI nz) rw mc ga gb kn x H.size ) (cwV 1 hG g_M_95 rfl rfl rfl (by decide +kernel) ⟨Nat.le_of_ble_eq_true rfl, Nat.le_of_ble_eq_true rfl⟩) ⟨PC.blind, va_recv hK hP (ci := 3) (q0 := 0) rfl rfl, PC.of hPc hK hDc hE hS hFc⟩ rfl rfl hl9.1 rfl (lv_room (Nat.le_of_ble_eq_true rfl)) d_M_lesson_8 ⟨by first | exact Nat.le_of_ble_eq_true rfl | omega, by first | exact Nat.le_of_ble_eq_true rfl | omega⟩) hS (fun q _ h => hFc q h) hFc (fun r8 u t H7 locs ht hvm hw hB hz1 hk1 hS => ?_)
      have hP := wp_kept hP hk1
      have hw : r8 = if ¬ (x < 0 ∨ (nI nz) ≤ x) then 1 else 0 := hw
      subst hw
      rw [iz_1g h0]
      refine lv_if_eq (tgt := 23) hx hb d_M_lesson_11 (by decide) (fun c9 => absurd c9 (by decide)) (fun c9 => ?_)
      refine lv_iload_n hx hb d_M_lesson_14 rfl (lv_at hl9 2 rfl) ?_
      refine lv_iconst (v := 0) hx hb d_M_lesson_15 (by decide) ?_
      refine lv_iconst (v := 1) hx hb d_M_lesson_16 (by decide) ?_
      have hPc := hP.sub (ws' := []) [] rfl
      have hDc := hD.sub (ws' := []) [] (by decide) rfl
      have hFc := va_A_nil hA hS.1
      refine va_calli (va_runS (As := [.int y, .int 0, .int 1]) (rest := [.ref m0]) ⟨hx, hb, hml, hown, hG⟩ (m_within l dC dI cI cJ cZ cB y 0 1 H7.size ) (cwS 3 hG g_M_83 rfl rfl rfl (by decide +kernel) ⟨Nat.le_of_ble_eq_true rfl, Nat.le_of_ble_eq_true rfl⟩) ⟨PC.blind, PC.of hPc hK hDc hE hS hFc⟩ rfl rfl hl9.1 rfl (lv_room (Nat.le_of_ble_eq_true rfl)) d_M_lesson_17 ⟨by first | exact Nat.le_of_ble_eq_true rfl | omega, by first | exact Nat.le_of_ble_eq_true rfl | omega⟩) hS (fun q _ h => hFc q h) hFc (fun r11 u t H10 locs ht hvm hw hB hz1 hk1 hS => ?_)
      have hP := wp_kept hP hk1
      have hw : r11 = if ¬ (y < 0 ∨ 1 < y) then 1 else 0 := hw
      subst hw
      rw [wi_0 h1]
      refine lv_if_ne (tgt := 27) hx hb d_M_lesson_20 (by decide) (fun c12 => absurd c12 (by decide)) (fun c12 => ?_)
      refine lv_iconst (v := 1) hx hb d_M_lesson_23 (by decide) ?_
      refine lv_goto (tgt := 28) hx hb d_M_lesson_24 (by decide) ?_
      refine lv_iconst (v := 1) hx hb d_M_lesson_28 (by decide) ?_
      have hPc := hP.sub (ws' := [(m0, .inr (3, [.int 0, .int (nI nz), .ref mH, .ref mL, .ref mB, .ref mP, .ref mR, .ref mA, .ref mW, .ref mU, .ref mV, .int rw, .ref mM, .ref mT, .int mc, .ref mQ, .int ga, .int gb, .int kn, .ref mO, .ref mF, .ref mS, .ref mE, .ref mX, .ref mD]))]) [0] rfl
      have hDc := hD.sub (ws' := [(m0, .inr (3, [.int 0, .int (nI nz), .ref mH, .ref mL, .ref mB, .ref mP, .ref mR, .ref mA, .ref mW, .ref mU, .ref mV, .int rw, .ref mM, .ref mT, .int mc, .ref mQ, .int ga, .int gb, .int kn, .ref mO, .ref mF, .ref mS, .ref mE, .ref mX, .ref mD]))]) [0] (by decide) rfl
      have hFc := va_free (wc := [(m0, .inr (3, [.int 0, .int (nI nz), .ref mH, .ref mL, .ref mB, .ref mP, .ref mR, .ref mA, .ref mW, .ref mU, .ref mV, .int rw, .ref mM, .ref mT, .int mc, .ref mQ, .int ga, .int gb, .int kn, .ref mO, .ref mF, .ref mS, .ref mE, .ref mX, .ref mD]))]) hD hS hA [0] rfl
      refine va_calli (va_runV (C := R_M) (As := [.int 1, .int 1]) (rest := []) ⟨hx, hb, hml, hown, hG⟩ (m_fails011 l dC dI cI cJ cZ cB m0 mH mL mB mP mR mA mW mU mV mM mT mQ mO mF mS mE mX mD (nI nz) rw mc ga gb kn H10.size ) (cwV 2 hG g_M_87 rfl rfl rfl (by decide +kernel) ⟨Nat.le_of_ble_eq_true rfl, Nat.le_of_ble_eq_true rfl⟩) ⟨PC.blind, va_recv hK hP (ci := 3) (q0 := 0) rfl rfl, PC.of hPc hK hDc hE hS hFc⟩ rfl rfl hl9.1 rfl (lv_room (Nat.le_of_ble_eq_true rfl)) d_M_lesson_29 ⟨by first | exact Nat.le_of_ble_eq_true rfl | omega, by first | exact Nat.le_of_ble_eq_true rfl | omega⟩) hS (fun q _ h => hFc q h) hFc (fun r14 u t H13 locs ht hvm hw hB hz1 hk1 hS => ?_)
      rw [ht] at hB
      obtain ⟨hP, hD⟩ := jset (wc := [(m0, .inr (3, [.int 0, .int (nI nz), .ref mH, .ref mL, .ref mB, .ref mP, .ref mR, .ref mA, .ref mW, .ref mU, .ref mV, .int rw, .ref mM, .ref mT, .int mc, .ref mQ, .int ga, .int gb, .int kn, .ref mO, .ref mF, .ref mS, .ref mE, .ref mX, .ref mD]))]) (w1 := [(m0, .inr (3, [.int 1, .int (nI nz), .ref mH, .ref mL, .ref mB, .ref mP, .ref mR, .ref mA, .ref mW, .ref mU, .ref mV, .int rw, .ref mM, .ref mT, .int mc, .ref mQ, .int ga, .int gb, .int kn, .ref mO, .ref mF, .ref mS, .ref mE, .ref mX, .ref mD]))]) [0] rfl rfl hP hD hk1 hB
      have hP : va_P (dC, dI) vwCl [(m0, .inr (3, [.int 1, .int (nI nz), .ref mH, .ref mL, .ref mB, .ref mP, .ref mR, .ref mA, .ref mW, .ref mU, .ref mV, .int rw, .ref mM, .ref mT, .int mc, .ref mQ, .int ga, .int gb, .int kn, .ref mO, .ref mF, .ref mS, .ref mE, .ref mX, .ref mD]))] H13 := hP
      have hD : va_D A [(m0, .inr (3, [.int 1, .int (nI nz), .ref mH, .ref mL, .ref mB, .ref mP, .ref mR, .ref mA, .ref mW, .ref mU, .ref mV, .int rw, .ref mM, .ref mT, .int mc, .ref mQ, .int ga, .int gb, .int kn, .ref mO, .ref mF, .ref mS, .ref mE, .ref mX, .ref mD]))] := hD
      have hw : r14 = 1 := hw
      subst hw
      refine lv_if_eq (tgt := 37) hx hb d_M_lesson_32 (by decide) (fun c15 => absurd c15 (by decide)) (fun c15 => ?_)
      refine lv_lconst (v := 0) hx hb d_M_lesson_35 (by decide) ?_
      exact W.lret (v := 0) hx hb hr (fun t ht hW => ⟨⟨0, (), rfl, trivial, by have h9 := hP; rw [← ht] at h9; exact h9⟩, hS.F ht⟩) hS.2.2 d_M_lesson_36
    · exact absurd hbad (fun h => h.elim h0 h1)
set_option maxHeartbeats 4000000 in
set_option maxRecDepth 100000 in
theorem m_divisor (l : Launch) (dC : Nat → ClassId) (dI : Nat → Nat → Nat) (cI cJ cZ cB : ClassId) (x y g : Int64) (N : Nat) (sz : Nat) (hd : dvR N (dabs x) y g) : Met l y_M_divisor w_M_divisor ({ frames := 0, cells := 0, slots := 0, locals := 0 }) (PC (dC, dI) (TY cI cJ cZ cB) [.long x, .long y] [] sz (va_A [] sz)) (va_Ql (fun (r : Int64) (_ : Unit) => r = g) (fun (_ : Unit) (_ : State) => True) (va_A [] sz)) 0 0 (va_A [] sz) := by
  refine Met.ofW (cc := b_M_divisor) (maxL := 10) (ret := (some .long)) (by decide) rfl ?_
  intro p e s m args below meth c s₁ B hml hv
  obtain ⟨rfl, hsz, hP, hK, hD0, hE⟩ := hv
  have hx := B.exec
  have hb := B.bytes
  have hr := B.returns
  have hG : ∀ w ∈ GG, w.before _ s = true := fun w h => atoms_spec (ws := w_M_divisor) B.pre w (List.mem_cons_of_mem _ h)
  have hown : s.vm.findClass R_M = some m.cls := findClass_of_methodNamed B.named
  have hlocks := B.notSynchronized
  subst hsz
  generalize hAe : (va_A [] s.heap.size) = A at hE ⊢
  have hA : ∀ q : Nat, s.heap.size ≤ q → A q := fun q h => by rw [← hAe]; exact Or.inr h
  have hS : va_S A s.heap s.heap [] := va_S.rf
  have hD := hD0
  obtain ⟨H, hH⟩ : ∃ z, z = s.heap := ⟨_, rfl⟩
  rw [← hH] at hP
  have hS : va_S A s.heap H [] := by rw [hH]; exact hS
  rw [← hH]
  have hl9 := lv_entry ([.long x, .long y]) (n := 10) (Nat.le_of_ble_eq_true rfl)
  rw [lg_entry_eq]
  generalize (lg_sl ([.long x, .long y]) ++ List.replicate (10 - (lg_sl ([.long x, .long y])).length) Slot.unset).toArray = ls at hl9 ⊢
  have hl9 : lv_has ls 10 [(0, .long x), (2, .long y)] := hl9
  have lp : ∀ (n : Nat) (a b : Int64), dvR n a b g → ∀ (H : Heap) (locs : List Loc) (ls : Array Slot), va_P (dC, dI) vwCl [] H → va_S A s.heap H locs → lv_has ls 10 [(4, .long a), (6, .long b)] → W p l e (headSpec w_M_divisor ({ frames := 0, cells := 0, slots := 0, locals := 0 })).room s m ([.long x, .long y] : List Value).toArray below meth c H locs 0 0 (MQ below (va_Ql (fun (r : Int64) (_ : Unit) => r = g) (fun (_ : Unit) (_ : State) => True) A) ([.long x, .long y] : List Value).toArray s 0 0 A) (F0 m 17 ls []) := by
    intro n
    induction n with
    | zero =>
      intro a b hd H locs ls hP hS hl9
      refine lv_lload hx hb d_M_divisor_17 (lv_at hl9 1 rfl) ?_
      refine lv_lconst (v := 0) hx hb d_M_divisor_19 (by decide) ?_
      refine W.lcmp hx hb d_M_divisor_20 ?_
      refine lv_if_eq (tgt := 42) hx hb d_M_divisor_21 (by decide) (fun c1 => ?_) (fun c1 => ?_)
      · refine lv_lload hx hb d_M_divisor_42 (lv_at hl9 0 rfl) ?_
        exact W.lret (v := a) hx hb hr (fun t ht hW => ⟨⟨a, (), rfl, hd.2, trivial⟩, hS.F ht⟩) hS.2.2 d_M_divisor_44
      · have hb0 : ¬ b = 0 := fun h => c1 ((lg_cmp_eq _ _).mpr h)
        exact absurd hd.1 hb0
    | succ n ih =>
      intro a b hd H locs ls hP hS hl9
      refine lv_lload hx hb d_M_divisor_17 (lv_at hl9 1 rfl) ?_
      refine lv_lconst (v := 0) hx hb d_M_divisor_19 (by decide) ?_
      refine W.lcmp hx hb d_M_divisor_20 ?_
      refine lv_if_eq (tgt := 42) hx hb d_M_divisor_21 (by decide) (fun c1 => ?_) (fun c1 => ?_)
      · refine lv_lload hx hb d_M_divisor_42 (lv_at hl9 0 rfl) ?_
        exact W.lret (v := a) hx hb hr (fun t ht hW => ⟨⟨a, (), rfl, hd.elim (fun h => h.2) (fun h => absurd ((lg_cmp_eq _ _).mp c1) h.1), trivial⟩, hS.F ht⟩) hS.2.2 d_M_divisor_44
      · have hb0 : ¬ b = 0 := fun h => c1 ((lg_cmp_eq _ _).mpr h)
        refine lv_lload hx hb d_M_divisor_24 (lv_at hl9 0 rfl) ?_
        refine lv_lload hx hb d_M_divisor_26 (lv_at hl9 1 rfl) ?_
        refine lv_lrem hx hb d_M_divisor_28 (hb0) ?_
        refine lv_lstore (lv' := [(8, .long (a - a / b * b)), (4, .long a), (6, .long b)]) hx hb d_M_divisor_29 hl9 (by decide) rfl (fun ls hl9 => ?_)
        refine lv_lload hx hb d_M_divisor_31 (lv_at hl9 2 rfl) ?_
        refine lv_lstore (lv' := [(4, .long b), (8, .long (a - a / b * b)), (6, .long b)]) hx hb d_M_divisor_33 hl9 (by decide) rfl (fun ls hl9 => ?_)
        refine lv_lload hx hb d_M_divisor_35 (lv_at hl9 1 rfl) ?_
        refine lv_lstore (lv' := [(6, .long (a - a / b * b)), (4, .long b), (8, .long (a - a / b * b))]) hx hb d_M_divisor_37 hl9 (by decide) rfl (fun ls hl9 => ?_)
        refine lv_goto (tgt := 17) hx hb d_M_divisor_39 (by decide) ?_
        exact ih b (a - a / b * b) (hd.resolve_left (fun h => hb0 h.1)).2 _ _ ls hP hS (lv_sub hl9 [1, 0] rfl)
  refine lv_lload_n hx hb d_M_divisor_0 rfl (lv_at hl9 0 rfl) ?_
  refine lv_lconst (v := 0) hx hb d_M_divisor_1 (by decide) ?_
  refine W.lcmp hx hb d_M_divisor_2 ?_
  refine lv_if_ge (tgt := 11) hx hb d_M_divisor_3 (by decide) (fun c1 => ?_) (fun c1 => ?_)
  · refine lv_lload_n hx hb d_M_divisor_11 rfl (lv_at hl9 0 rfl) ?_
    refine lv_lstore (lv' := [(4, .long x), (0, .long x), (2, .long y)]) hx hb d_M_divisor_12 hl9 (by decide) rfl (fun ls hl9 => ?_)
    refine lv_lload_n hx hb d_M_divisor_14 rfl (lv_at hl9 2 rfl) ?_
    refine lv_lstore (lv' := [(6, .long y), (4, .long x), (0, .long x), (2, .long y)]) hx hb d_M_divisor_15 hl9 (by decide) rfl (fun ls hl9 => ?_)
    have ea : x = dabs x := (if_pos ((lg_cmp_ge _ _).mp c1)).symm
    have hl9 : lv_has ls 10 [(6, .long y), (4, .long (dabs x))] := by rw [← ea]; exact lv_sub hl9 [0, 1] rfl
    exact lp N (dabs x) y hd _ _ ls hP hS (lv_sub hl9 [1, 0] rfl)
  · refine lv_lload_n hx hb d_M_divisor_6 rfl (lv_at hl9 0 rfl) ?_
    refine lv_lneg hx hb d_M_divisor_7 ?_
    refine lv_goto (tgt := 12) hx hb d_M_divisor_8 (by decide) ?_
    refine lv_lstore (lv' := [(4, .long (-x)), (0, .long x), (2, .long y)]) hx hb d_M_divisor_12 hl9 (by decide) rfl (fun ls hl9 => ?_)
    refine lv_lload_n hx hb d_M_divisor_14 rfl (lv_at hl9 2 rfl) ?_
    refine lv_lstore (lv' := [(6, .long y), (4, .long (-x)), (0, .long x), (2, .long y)]) hx hb d_M_divisor_15 hl9 (by decide) rfl (fun ls hl9 => ?_)
    have ea : (-x) = dabs x := (if_neg (fun h => c1 ((lg_cmp_ge _ _).mpr h))).symm
    rw [ea] at hl9
    exact lp N (dabs x) y hd _ _ ls hP hS (lv_sub hl9 [1, 0] rfl)
