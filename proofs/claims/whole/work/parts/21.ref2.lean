theorem g_M_83 : GoodIn GG (wsS R_M 83 y_M_within w_M_within) := goodG (List.forall_mem_append.mpr ⟨List.forall_mem_cons.mpr ⟨k_525, List.forall_mem_cons.mpr ⟨k_526, List.forall_mem_cons.mpr ⟨k_2, fun _ h => absurd h List.not_mem_nil⟩⟩⟩, List.forall_mem_cons.mpr ⟨k_527, fun _ h => h⟩⟩)
theorem g_M_87 : GoodIn GG (wsV R_M 87 R_M y_M_fails w_M_fails) := goodG (List.forall_mem_append.mpr ⟨List.forall_mem_cons.mpr ⟨k_528, List.forall_mem_cons.mpr ⟨k_530, List.forall_mem_cons.mpr ⟨ks_19, List.forall_mem_cons.mpr ⟨k_2, fun _ h => absurd h List.not_mem_nil⟩⟩⟩⟩, List.forall_mem_cons.mpr ⟨k_531, fun _ h => h⟩⟩)
set_option maxHeartbeats 4000000 in
set_option maxRecDepth 100000 in
theorem m_machine (l : Launch) (dC : Nat → ClassId) (dI : Nat → Nat → Nat) (cI cJ cZ cB : ClassId) (m0 mH mL mB mP mR mA mW mU mV mM mT mQ mO mF mS mE mX mD : Nat) (th zn rw mc ga gb kn : Int32) (x : Int32) (sz : Nat) (hx0 : ¬ (x < 0 ∨ 1000000 < x)) : Met l y_M_machine w_M_machine ({ frames := 1, cells := 0, slots := 0, locals := 22 }) (PC (dC, dI) (TY cI cJ cZ cB) [.ref m0, .int x] [(m0, .inr (3, [.int th, .int zn, .ref mH, .ref mL, .ref mB, .ref mP, .ref mR, .ref mA, .ref mW, .ref mU, .ref mV, .int rw, .ref mM, .ref mT, .int mc, .ref mQ, .int ga, .int gb, .int kn, .ref mO, .ref mF, .ref mS, .ref mE, .ref mX, .ref mD]))] sz (va_A [(m0, .inr (3, [.int th, .int zn, .ref mH, .ref mL, .ref mB, .ref mP, .ref mR, .ref mA, .ref mW, .ref mU, .ref mV, .int rw, .ref mM, .ref mT, .int mc, .ref mQ, .int ga, .int gb, .int kn, .ref mO, .ref mF, .ref mS, .ref mE, .ref mX, .ref mD]))] sz)) (va_Qi (fun (r : Int32) (_ : Unit) => r = mc) (fun (_ : Unit) (t : State) => va_P (dC, dI) vwCl [(m0, .inr (3, [.int 0, .int zn, .ref mH, .ref mL, .ref mB, .ref mP, .ref mR, .ref mA, .ref mW, .ref mU, .ref mV, .int rw, .ref mM, .ref mT, .int x, .ref mQ, .int ga, .int gb, .int 0, .ref mO, .ref mF, .ref mS, .ref mE, .ref mX, .ref mD]))] t.heap) (va_A [(m0, .inr (3, [.int th, .int zn, .ref mH, .ref mL, .ref mB, .ref mP, .ref mR, .ref mA, .ref mW, .ref mU, .ref mV, .int rw, .ref mM, .ref mT, .int mc, .ref mQ, .int ga, .int gb, .int kn, .ref mO, .ref mF, .ref mS, .ref mE, .ref mX, .ref mD]))] sz)) 0 0 (va_A [(m0, .inr (3, [.int th, .int zn, .ref mH, .ref mL, .ref mB, .ref mP, .ref mR, .ref mA, .ref mW, .ref mU, .ref mV, .int rw, .ref mM, .ref mT, .int mc, .ref mQ, .int ga, .int gb, .int kn, .ref mO, .ref mF, .ref mS, .ref mE, .ref mX, .ref mD]))] sz) := by
  refine Met.ofW (cc := b_M_machine) (maxL := 3) (ret := (some .int)) (by decide) rfl ?_
  intro p e s m args below meth c s₁ B hml hv
  obtain ⟨rfl, hsz, hP, hK, hD0, hE⟩ := hv
  have hx := B.exec
  have hb := B.bytes
  have hr := B.returns
  have hG : ∀ w ∈ GG, w.before _ s = true := fun w h => atoms_spec (ws := w_M_machine) B.pre w (List.mem_cons_of_mem _ h)
  have hown : s.vm.findClass R_M = some m.cls := findClass_of_methodNamed B.named
  have hlocks := B.notSynchronized
  subst hsz
  have hD := hD0.self (sz := s.heap.size)
  generalize hAe : (va_A [(m0, .inr (3, [.int th, .int zn, .ref mH, .ref mL, .ref mB, .ref mP, .ref mR, .ref mA, .ref mW, .ref mU, .ref mV, .int rw, .ref mM, .ref mT, .int mc, .ref mQ, .int ga, .int gb, .int kn, .ref mO, .ref mF, .ref mS, .ref mE, .ref mX, .ref mD]))] s.heap.size) = A at hD hE ⊢
  have hA : ∀ q : Nat, s.heap.size ≤ q → A q := fun q h => by rw [← hAe]; exact Or.inr h
  have hS : va_S A s.heap s.heap [] := va_S.rf
  obtain ⟨H, hH⟩ : ∃ z, z = s.heap := ⟨_, rfl⟩
  rw [← hH] at hP
  have hS : va_S A s.heap H [] := by rw [hH]; exact hS
  rw [← hH]
  have hl9 := lv_entry ([.ref m0, .int x]) (n := 3) (Nat.le_of_ble_eq_true rfl)
  rw [lg_entry_eq]
  generalize (lg_sl ([.ref m0, .int x]) ++ List.replicate (3 - (lg_sl ([.ref m0, .int x])).length) Slot.unset).toArray = ls at hl9 ⊢
  have hl9 : lv_has ls 3 [(0, .ref m0), (1, .int x)] := hl9
  refine lv_aload_n hx hb d_M_machine_0 rfl (lv_at hl9 0 rfl) ?_
  refine lv_iconst (v := 0) hx hb d_M_machine_1 (by decide) ?_
  refine va_put (D := (dC, dI)) (ci := 3) (v := .int 0) (ty := .int) (C := R_M) (T := F_M) (N := 25) hx hb hG i_M t_M t_M_ok n_M hown hK hP hD hS 0 rfl rfl 0 (by decide) (hG _ k_440) (fun _ h9 => h9) rfl (by decide +kernel) rfl rfl (Nat.le_of_ble_eq_true rfl) d_M_machine_2 (fun H locs hP hD hS => ?_)
  have hP : va_P (dC, dI) vwCl [(m0, .inr (3, [.int 0, .int zn, .ref mH, .ref mL, .ref mB, .ref mP, .ref mR, .ref mA, .ref mW, .ref mU, .ref mV, .int rw, .ref mM, .ref mT, .int mc, .ref mQ, .int ga, .int gb, .int kn, .ref mO, .ref mF, .ref mS, .ref mE, .ref mX, .ref mD]))] H := hP
  have hD : va_D A [(m0, .inr (3, [.int 0, .int zn, .ref mH, .ref mL, .ref mB, .ref mP, .ref mR, .ref mA, .ref mW, .ref mU, .ref mV, .int rw, .ref mM, .ref mT, .int mc, .ref mQ, .int ga, .int gb, .int kn, .ref mO, .ref mF, .ref mS, .ref mE, .ref mX, .ref mD]))] := hD
  refine lv_aload_n hx hb d_M_machine_5 rfl (lv_at hl9 0 rfl) ?_
  refine lv_iload_n hx hb d_M_machine_6 rfl (lv_at hl9 1 rfl) ?_
  refine lv_iconst (v := 0) hx hb d_M_machine_7 (by decide) ?_
  refine lv_ldc (v := 1000000) hx hb hown (hG _ k_552) d_M_machine_8 ?_
  have hPc := hP.sub (ws' := []) [] rfl
  have hDc := hD.sub (ws' := []) [] (by decide) rfl
  have hFc := va_A_nil hA hS.1
  refine va_calli (va_runS (As := [.int x, .int 0, .int 1000000]) (rest := [.ref m0]) ⟨hx, hb, hml, hown, hG⟩ (m_within l dC dI cI cJ cZ cB x 0 1000000 H.size ) (cwS 3 hG g_M_83 rfl rfl rfl (by decide +kernel) ⟨Nat.le_of_ble_eq_true rfl, Nat.le_of_ble_eq_true rfl⟩) ⟨PC.blind, PC.of hPc hK hDc hE hS hFc⟩ rfl rfl hl9.1 rfl (lv_room (Nat.le_of_ble_eq_true rfl)) d_M_machine_10 ⟨by first | exact Nat.le_of_ble_eq_true rfl | omega, by first | exact Nat.le_of_ble_eq_true rfl | omega⟩) hS (fun q _ h => hFc q h) hFc (fun r2 u t H1 locs ht hvm hw hB hz1 hk1 hS => ?_)
  have hP := wp_kept hP hk1
  have hw : r2 = if ¬ (x < 0 ∨ 1000000 < x) then 1 else 0 := hw
  subst hw
  rw [wi_1 hx0]
  refine lv_if_ne (tgt := 20) hx hb d_M_machine_13 (by decide) (fun c3 => ?_) (fun c3 => absurd c3 (by decide))
  refine lv_iconst (v := 0) hx hb d_M_machine_20 (by decide) ?_
  refine lv_iconst (v := 1) hx hb d_M_machine_21 (by decide) ?_
  have hPc := hP.sub (ws' := [(m0, .inr (3, [.int 0, .int zn, .ref mH, .ref mL, .ref mB, .ref mP, .ref mR, .ref mA, .ref mW, .ref mU, .ref mV, .int rw, .ref mM, .ref mT, .int mc, .ref mQ, .int ga, .int gb, .int kn, .ref mO, .ref mF, .ref mS, .ref mE, .ref mX, .ref mD]))]) [0] rfl
  have hDc := hD.sub (ws' := [(m0, .inr (3, [.int 0, .int zn, .ref mH, .ref mL, .ref mB, .ref mP, .ref mR, .ref mA, .ref mW, .ref mU, .ref mV, .int rw, .ref mM, .ref mT, .int mc, .ref mQ, .int ga, .int gb, .int kn, .ref mO, .ref mF, .ref mS, .ref mE, .ref mX, .ref mD]))]) [0] (by decide) rfl
  have hFc := va_free (wc := [(m0, .inr (3, [.int 0, .int zn, .ref mH, .ref mL, .ref mB, .ref mP, .ref mR, .ref mA, .ref mW, .ref mU, .ref mV, .int rw, .ref mM, .ref mT, .int mc, .ref mQ, .int ga, .int gb, .int kn, .ref mO, .ref mF, .ref mS, .ref mE, .ref mX, .ref mD]))]) hD hS hA [0] rfl
  refine va_calli (va_runV (C := R_M) (As := [.int 0, .int 1]) (rest := []) ⟨hx, hb, hml, hown, hG⟩ (m_fails001 l dC dI cI cJ cZ cB m0 mH mL mB mP mR mA mW mU mV mM mT mQ mO mF mS mE mX mD zn rw mc ga gb kn H1.size ) (cwV 2 hG g_M_87 rfl rfl rfl (by decide +kernel) ⟨Nat.le_of_ble_eq_true rfl, Nat.le_of_ble_eq_true rfl⟩) ⟨PC.blind, va_recv hK hP (ci := 3) (q0 := 0) rfl rfl, PC.of hPc hK hDc hE hS hFc⟩ rfl rfl hl9.1 rfl (lv_room (Nat.le_of_ble_eq_true rfl)) d_M_machine_22 ⟨by first | exact Nat.le_of_ble_eq_true rfl | omega, by first | exact Nat.le_of_ble_eq_true rfl | omega⟩) hS (fun q _ h => hFc q h) hFc (fun r5 u t H4 locs ht hvm hw hB hz1 hk1 hS => ?_)
  rw [ht] at hB
  obtain ⟨hP, hD⟩ := jset (wc := [(m0, .inr (3, [.int 0, .int zn, .ref mH, .ref mL, .ref mB, .ref mP, .ref mR, .ref mA, .ref mW, .ref mU, .ref mV, .int rw, .ref mM, .ref mT, .int mc, .ref mQ, .int ga, .int gb, .int kn, .ref mO, .ref mF, .ref mS, .ref mE, .ref mX, .ref mD]))]) (w1 := [(m0, .inr (3, [.int 0, .int zn, .ref mH, .ref mL, .ref mB, .ref mP, .ref mR, .ref mA, .ref mW, .ref mU, .ref mV, .int rw, .ref mM, .ref mT, .int mc, .ref mQ, .int ga, .int gb, .int kn, .ref mO, .ref mF, .ref mS, .ref mE, .ref mX, .ref mD]))]) [0] rfl rfl hP hD hk1 hB
  have hP : va_P (dC, dI) vwCl [(m0, .inr (3, [.int 0, .int zn, .ref mH, .ref mL, .ref mB, .ref mP, .ref mR, .ref mA, .ref mW, .ref mU, .ref mV, .int rw, .ref mM, .ref mT, .int mc, .ref mQ, .int ga, .int gb, .int kn, .ref mO, .ref mF, .ref mS, .ref mE, .ref mX, .ref mD]))] H4 := hP
  have hD : va_D A [(m0, .inr (3, [.int 0, .int zn, .ref mH, .ref mL, .ref mB, .ref mP, .ref mR, .ref mA, .ref mW, .ref mU, .ref mV, .int rw, .ref mM, .ref mT, .int mc, .ref mQ, .int ga, .int gb, .int kn, .ref mO, .ref mF, .ref mS, .ref mE, .ref mX, .ref mD]))] := hD
  have hw : r5 = 0 := hw
  subst hw
  refine lv_if_eq (tgt := 30) hx hb d_M_machine_25 (by decide) (fun c6 => ?_) (fun c6 => absurd c6 (by decide))
  refine lv_aload_n hx hb d_M_machine_30 rfl (lv_at hl9 0 rfl) ?_
  refine va_get (D := (dC, dI)) (ci := 3) (v := .int mc) (C := R_M) (T := F_M) (N := 25) hx hb hG i_M hown hK hP 0 rfl rfl 14 (by decide) (hG _ k_454) (fun _ h9 => h9) rfl d_M_machine_31 ?_
  refine lv_istore_n (lv' := [(2, .int mc), (0, .ref m0), (1, .int x)]) hx hb d_M_machine_34 rfl hl9 (by decide) rfl (fun ls hl9 => ?_)
  refine lv_aload_n hx hb d_M_machine_35 rfl (lv_at hl9 1 rfl) ?_
  refine lv_iload_n hx hb d_M_machine_36 rfl (lv_at hl9 2 rfl) ?_
  refine va_put (D := (dC, dI)) (ci := 3) (v := .int x) (ty := .int) (C := R_M) (T := F_M) (N := 25) hx hb hG i_M t_M t_M_ok n_M hown hK hP hD hS 0 rfl rfl 14 (by decide) (hG _ k_454) (fun _ h9 => h9) rfl (by decide +kernel) rfl rfl (Nat.le_of_ble_eq_true rfl) d_M_machine_37 (fun H locs hP hD hS => ?_)
  have hP : va_P (dC, dI) vwCl [(m0, .inr (3, [.int 0, .int zn, .ref mH, .ref mL, .ref mB, .ref mP, .ref mR, .ref mA, .ref mW, .ref mU, .ref mV, .int rw, .ref mM, .ref mT, .int x, .ref mQ, .int ga, .int gb, .int kn, .ref mO, .ref mF, .ref mS, .ref mE, .ref mX, .ref mD]))] H := hP
  have hD : va_D A [(m0, .inr (3, [.int 0, .int zn, .ref mH, .ref mL, .ref mB, .ref mP, .ref mR, .ref mA, .ref mW, .ref mU, .ref mV, .int rw, .ref mM, .ref mT, .int x, .ref mQ, .int ga, .int gb, .int kn, .ref mO, .ref mF, .ref mS, .ref mE, .ref mX, .ref mD]))] := hD
  refine lv_aload_n hx hb d_M_machine_40 rfl (lv_at hl9 1 rfl) ?_
  refine lv_iconst (v := 0) hx hb d_M_machine_41 (by decide) ?_
  refine va_put (D := (dC, dI)) (ci := 3) (v := .int 0) (ty := .boolean) (C := R_M) (T := F_M) (N := 25) hx hb hG i_M t_M t_M_ok n_M hown hK hP hD hS 0 rfl rfl 18 (by decide) (hG _ k_458) (fun _ h9 => h9) rfl (by decide +kernel) rfl rfl (Nat.le_of_ble_eq_true rfl) d_M_machine_42 (fun H locs hP hD hS => ?_)
  have hP : va_P (dC, dI) vwCl [(m0, .inr (3, [.int 0, .int zn, .ref mH, .ref mL, .ref mB, .ref mP, .ref mR, .ref mA, .ref mW, .ref mU, .ref mV, .int rw, .ref mM, .ref mT, .int x, .ref mQ, .int ga, .int gb, .int 0, .ref mO, .ref mF, .ref mS, .ref mE, .ref mX, .ref mD]))] H := hP
  have hD : va_D A [(m0, .inr (3, [.int 0, .int zn, .ref mH, .ref mL, .ref mB, .ref mP, .ref mR, .ref mA, .ref mW, .ref mU, .ref mV, .int rw, .ref mM, .ref mT, .int x, .ref mQ, .int ga, .int gb, .int 0, .ref mO, .ref mF, .ref mS, .ref mE, .ref mX, .ref mD]))] := hD
  refine lv_iload_n hx hb d_M_machine_45 rfl (lv_at hl9 0 rfl) ?_
  exact W.iret (v := mc) hx hb hr (fun t ht hW => ⟨⟨mc, (), rfl, rfl, by have h9 := hP; rw [← ht] at h9; exact h9⟩, hS.F ht⟩) hS.2.2 d_M_machine_46
set_option maxHeartbeats 4000000 in
set_option maxRecDepth 100000 in
theorem m_machineX (l : Launch) (dC : Nat → ClassId) (dI : Nat → Nat → Nat) (cI cJ cZ cB : ClassId) (m0 mH mL mB mP mR mA mW mU mV mM mT mQ mO mF mS mE mX mD : Nat) (th zn rw mc ga gb kn : Int32) (x : Int32) (sz : Nat) (hx0 : (x < 0 ∨ 1000000 < x)) : Met l y_M_machine w_M_machine ({ frames := 1, cells := 0, slots := 0, locals := 22 }) (PC (dC, dI) (TY cI cJ cZ cB) [.ref m0, .int x] [(m0, .inr (3, [.int th, .int zn, .ref mH, .ref mL, .ref mB, .ref mP, .ref mR, .ref mA, .ref mW, .ref mU, .ref mV, .int rw, .ref mM, .ref mT, .int mc, .ref mQ, .int ga, .int gb, .int kn, .ref mO, .ref mF, .ref mS, .ref mE, .ref mX, .ref mD]))] sz (va_A [(m0, .inr (3, [.int th, .int zn, .ref mH, .ref mL, .ref mB, .ref mP, .ref mR, .ref mA, .ref mW, .ref mU, .ref mV, .int rw, .ref mM, .ref mT, .int mc, .ref mQ, .int ga, .int gb, .int kn, .ref mO, .ref mF, .ref mS, .ref mE, .ref mX, .ref mD]))] sz)) (va_Qi (fun (r : Int32) (_ : Unit) => True) (fun (_ : Unit) (t : State) => va_P (dC, dI) vwCl [(m0, .inr (3, [.int 1, .int zn, .ref mH, .ref mL, .ref mB, .ref mP, .ref mR, .ref mA, .ref mW, .ref mU, .ref mV, .int rw, .ref mM, .ref mT, .int mc, .ref mQ, .int ga, .int gb, .int kn, .ref mO, .ref mF, .ref mS, .ref mE, .ref mX, .ref mD]))] t.heap) (va_A [(m0, .inr (3, [.int th, .int zn, .ref mH, .ref mL, .ref mB, .ref mP, .ref mR, .ref mA, .ref mW, .ref mU, .ref mV, .int rw, .ref mM, .ref mT, .int mc, .ref mQ, .int ga, .int gb, .int kn, .ref mO, .ref mF, .ref mS, .ref mE, .ref mX, .ref mD]))] sz)) 0 0 (va_A [(m0, .inr (3, [.int th, .int zn, .ref mH, .ref mL, .ref mB, .ref mP, .ref mR, .ref mA, .ref mW, .ref mU, .ref mV, .int rw, .ref mM, .ref mT, .int mc, .ref mQ, .int ga, .int gb, .int kn, .ref mO, .ref mF, .ref mS, .ref mE, .ref mX, .ref mD]))] sz) := by
  refine Met.ofW (cc := b_M_machine) (maxL := 3) (ret := (some .int)) (by decide) rfl ?_
  intro p e s m args below meth c s₁ B hml hv
  obtain ⟨rfl, hsz, hP, hK, hD0, hE⟩ := hv
  have hx := B.exec
  have hb := B.bytes
  have hr := B.returns
  have hG : ∀ w ∈ GG, w.before _ s = true := fun w h => atoms_spec (ws := w_M_machine) B.pre w (List.mem_cons_of_mem _ h)
  have hown : s.vm.findClass R_M = some m.cls := findClass_of_methodNamed B.named
  have hlocks := B.notSynchronized
  subst hsz
  have hD := hD0.self (sz := s.heap.size)
  generalize hAe : (va_A [(m0, .inr (3, [.int th, .int zn, .ref mH, .ref mL, .ref mB, .ref mP, .ref mR, .ref mA, .ref mW, .ref mU, .ref mV, .int rw, .ref mM, .ref mT, .int mc, .ref mQ, .int ga, .int gb, .int kn, .ref mO, .ref mF, .ref mS, .ref mE, .ref mX, .ref mD]))] s.heap.size) = A at hD hE ⊢
  have hA : ∀ q : Nat, s.heap.size ≤ q → A q := fun q h => by rw [← hAe]; exact Or.inr h
  have hS : va_S A s.heap s.heap [] := va_S.rf
  obtain ⟨H, hH⟩ : ∃ z, z = s.heap := ⟨_, rfl⟩
  rw [← hH] at hP
  have hS : va_S A s.heap H [] := by rw [hH]; exact hS
  rw [← hH]
  have hl9 := lv_entry ([.ref m0, .int x]) (n := 3) (Nat.le_of_ble_eq_true rfl)
  rw [lg_entry_eq]
  generalize (lg_sl ([.ref m0, .int x]) ++ List.replicate (3 - (lg_sl ([.ref m0, .int x])).length) Slot.unset).toArray = ls at hl9 ⊢
  have hl9 : lv_has ls 3 [(0, .ref m0), (1, .int x)] := hl9
  refine lv_aload_n hx hb d_M_machine_0 rfl (lv_at hl9 0 rfl) ?_
  refine lv_iconst (v := 0) hx hb d_M_machine_1 (by decide) ?_
  refine va_put (D := (dC, dI)) (ci := 3) (v := .int 0) (ty := .int) (C := R_M) (T := F_M) (N := 25) hx hb hG i_M t_M t_M_ok n_M hown hK hP hD hS 0 rfl rfl 0 (by decide) (hG _ k_440) (fun _ h9 => h9) rfl (by decide +kernel) rfl rfl (Nat.le_of_ble_eq_true rfl) d_M_machine_2 (fun H locs hP hD hS => ?_)
  have hP : va_P (dC, dI) vwCl [(m0, .inr (3, [.int 0, .int zn, .ref mH, .ref mL, .ref mB, .ref mP, .ref mR, .ref mA, .ref mW, .ref mU, .ref mV, .int rw, .ref mM, .ref mT, .int mc, .ref mQ, .int ga, .int gb, .int kn, .ref mO, .ref mF, .ref mS, .ref mE, .ref mX, .ref mD]))] H := hP
  have hD : va_D A [(m0, .inr (3, [.int 0, .int zn, .ref mH, .ref mL, .ref mB, .ref mP, .ref mR, .ref mA, .ref mW, .ref mU, .ref mV, .int rw, .ref mM, .ref mT, .int mc, .ref mQ, .int ga, .int gb, .int kn, .ref mO, .ref mF, .ref mS, .ref mE, .ref mX, .ref mD]))] := hD
  refine lv_aload_n hx hb d_M_machine_5 rfl (lv_at hl9 0 rfl) ?_
  refine lv_iload_n hx hb d_M_machine_6 rfl (lv_at hl9 1 rfl) ?_
  refine lv_iconst (v := 0) hx hb d_M_machine_7 (by decide) ?_
  refine lv_ldc (v := 1000000) hx hb hown (hG _ k_552) d_M_machine_8 ?_
  have hPc := hP.sub (ws' := []) [] rfl
  have hDc := hD.sub (ws' := []) [] (by decide) rfl
  have hFc := va_A_nil hA hS.1
  refine va_calli (va_runS (As := [.int x, .int 0, .int 1000000]) (rest := [.ref m0]) ⟨hx, hb, hml, hown, hG⟩ (m_within l dC dI cI cJ cZ cB x 0 1000000 H.size ) (cwS 3 hG g_M_83 rfl rfl rfl (by decide +kernel) ⟨Nat.le_of_ble_eq_true rfl, Nat.le_of_ble_eq_true rfl⟩) ⟨PC.blind, PC.of hPc hK hDc hE hS hFc⟩ rfl rfl hl9.1 rfl (lv_room (Nat.le_of_ble_eq_true rfl)) d_M_machine_10 ⟨by first | exact Nat.le_of_ble_eq_true rfl | omega, by first | exact Nat.le_of_ble_eq_true rfl | omega⟩) hS (fun q _ h => hFc q h) hFc (fun r2 u t H1 locs ht hvm hw hB hz1 hk1 hS => ?_)
  have hP := wp_kept hP hk1
  have hw : r2 = if ¬ (x < 0 ∨ 1000000 < x) then 1 else 0 := hw
  subst hw
  rw [wi_0 hx0]
  refine lv_if_ne (tgt := 20) hx hb d_M_machine_13 (by decide) (fun c3 => absurd c3 (by decide)) (fun c3 => ?_)
  refine lv_iconst (v := 1) hx hb d_M_machine_16 (by decide) ?_
  refine lv_goto (tgt := 21) hx hb d_M_machine_17 (by decide) ?_
  refine lv_iconst (v := 1) hx hb d_M_machine_21 (by decide) ?_
  have hPc := hP.sub (ws' := [(m0, .inr (3, [.int 0, .int zn, .ref mH, .ref mL, .ref mB, .ref mP, .ref mR, .ref mA, .ref mW, .ref mU, .ref mV, .int rw, .ref mM, .ref mT, .int mc, .ref mQ, .int ga, .int gb, .int kn, .ref mO, .ref mF, .ref mS, .ref mE, .ref mX, .ref mD]))]) [0] rfl
  have hDc := hD.sub (ws' := [(m0, .inr (3, [.int 0, .int zn, .ref mH, .ref mL, .ref mB, .ref mP, .ref mR, .ref mA, .ref mW, .ref mU, .ref mV, .int rw, .ref mM, .ref mT, .int mc, .ref mQ, .int ga, .int gb, .int kn, .ref mO, .ref mF, .ref mS, .ref mE, .ref mX, .ref mD]))]) [0] (by decide) rfl
  have hFc := va_free (wc := [(m0, .inr (3, [.int 0, .int zn, .ref mH, .ref mL, .ref mB, .ref mP, .ref mR, .ref mA, .ref mW, .ref mU, .ref mV, .int rw, .ref mM, .ref mT, .int mc, .ref mQ, .int ga, .int gb, .int kn, .ref mO, .ref mF, .ref mS, .ref mE, .ref mX, .ref mD]))]) hD hS hA [0] rfl
  refine va_calli (va_runV (C := R_M) (As := [.int 1, .int 1]) (rest := []) ⟨hx, hb, hml, hown, hG⟩ (m_fails011 l dC dI cI cJ cZ cB m0 mH mL mB mP mR mA mW mU mV mM mT mQ mO mF mS mE mX mD zn rw mc ga gb kn H1.size ) (cwV 2 hG g_M_87 rfl rfl rfl (by decide +kernel) ⟨Nat.le_of_ble_eq_true rfl, Nat.le_of_ble_eq_true rfl⟩) ⟨PC.blind, va_recv hK hP (ci := 3) (q0 := 0) rfl rfl, PC.of hPc hK hDc hE hS hFc⟩ rfl rfl hl9.1 rfl (lv_room (Nat.le_of_ble_eq_true rfl)) d_M_machine_22 ⟨by first | exact Nat.le_of_ble_eq_true rfl | omega, by first | exact Nat.le_of_ble_eq_true rfl | omega⟩) hS (fun q _ h => hFc q h) hFc (fun r5 u t H4 locs ht hvm hw hB hz1 hk1 hS => ?_)
  rw [ht] at hB
  obtain ⟨hP, hD⟩ := jset (wc := [(m0, .inr (3, [.int 0, .int zn, .ref mH, .ref mL, .ref mB, .ref mP, .ref mR, .ref mA, .ref mW, .ref mU, .ref mV, .int rw, .ref mM, .ref mT, .int mc, .ref mQ, .int ga, .int gb, .int kn, .ref mO, .ref mF, .ref mS, .ref mE, .ref mX, .ref mD]))]) (w1 := [(m0, .inr (3, [.int 1, .int zn, .ref mH, .ref mL, .ref mB, .ref mP, .ref mR, .ref mA, .ref mW, .ref mU, .ref mV, .int rw, .ref mM, .ref mT, .int mc, .ref mQ, .int ga, .int gb, .int kn, .ref mO, .ref mF, .ref mS, .ref mE, .ref mX, .ref mD]))]) [0] rfl rfl hP hD hk1 hB
  have hP : va_P (dC, dI) vwCl [(m0, .inr (3, [.int 1, .int zn, .ref mH, .ref mL, .ref mB, .ref mP, .ref mR, .ref mA, .ref mW, .ref mU, .ref mV, .int rw, .ref mM, .ref mT, .int mc, .ref mQ, .int ga, .int gb, .int kn, .ref mO, .ref mF, .ref mS, .ref mE, .ref mX, .ref mD]))] H4 := hP
  have hD : va_D A [(m0, .inr (3, [.int 1, .int zn, .ref mH, .ref mL, .ref mB, .ref mP, .ref mR, .ref mA, .ref mW, .ref mU, .ref mV, .int rw, .ref mM, .ref mT, .int mc, .ref mQ, .int ga, .int gb, .int kn, .ref mO, .ref mF, .ref mS, .ref mE, .ref mX, .ref mD]))] := hD
  have hw : r5 = 1 := hw
  subst hw
  refine lv_if_eq (tgt := 30) hx hb d_M_machine_25 (by decide) (fun c6 => absurd c6 (by decide)) (fun c6 => ?_)
  refine lv_iconst (v := 0) hx hb d_M_machine_28 (by decide) ?_
  exact W.iret (v := 0) hx hb hr (fun t ht hW => ⟨⟨0, (), rfl, trivial, by have h9 := hP; rw [← ht] at h9; exact h9⟩, hS.F ht⟩) hS.2.2 d_M_machine_29
set_option maxHeartbeats 4000000 in
set_option maxRecDepth 100000 in
theorem m_fade (l : Launch) (dC : Nat → ClassId) (dI : Nat → Nat → Nat) (cI cJ cZ cB : ClassId) (m0 mH mL mB mP mR mA mW mU mV mM mT mQ mO mF mS mE mX mD : Nat) (th zn rw mc ga gb kn : Int32) (x y : Int32) (sz : Nat) (hx0 : ¬ ((y < 1 ∨ 100 < y) ∨ (x < 0 ∨ y < x))) : Met l y_M_fade w_M_fade ({ frames := 1, cells := 0, slots := 0, locals := 22 }) (PC (dC, dI) (TY cI cJ cZ cB) [.ref m0, .int x, .int y] [(m0, .inr (3, [.int th, .int zn, .ref mH, .ref mL, .ref mB, .ref mP, .ref mR, .ref mA, .ref mW, .ref mU, .ref mV, .int rw, .ref mM, .ref mT, .int mc, .ref mQ, .int ga, .int gb, .int kn, .ref mO, .ref mF, .ref mS, .ref mE, .ref mX, .ref mD]))] sz (va_A [(m0, .inr (3, [.int th, .int zn, .ref mH, .ref mL, .ref mB, .ref mP, .ref mR, .ref mA, .ref mW, .ref mU, .ref mV, .int rw, .ref mM, .ref mT, .int mc, .ref mQ, .int ga, .int gb, .int kn, .ref mO, .ref mF, .ref mS, .ref mE, .ref mX, .ref mD]))] sz)) (va_Qv (fun (_ : Unit) => True) (fun (_ : Unit) (t : State) => va_P (dC, dI) vwCl [(m0, .inr (3, [.int 0, .int zn, .ref mH, .ref mL, .ref mB, .ref mP, .ref mR, .ref mA, .ref mW, .ref mU, .ref mV, .int rw, .ref mM, .ref mT, .int mc, .ref mQ, .int x, .int y, .int kn, .ref mO, .ref mF, .ref mS, .ref mE, .ref mX, .ref mD]))] t.heap) (va_A [(m0, .inr (3, [.int th, .int zn, .ref mH, .ref mL, .ref mB, .ref mP, .ref mR, .ref mA, .ref mW, .ref mU, .ref mV, .int rw, .ref mM, .ref mT, .int mc, .ref mQ, .int ga, .int gb, .int kn, .ref mO, .ref mF, .ref mS, .ref mE, .ref mX, .ref mD]))] sz)) 0 0 (va_A [(m0, .inr (3, [.int th, .int zn, .ref mH, .ref mL, .ref mB, .ref mP, .ref mR, .ref mA, .ref mW, .ref mU, .ref mV, .int rw, .ref mM, .ref mT, .int mc, .ref mQ, .int ga, .int gb, .int kn, .ref mO, .ref mF, .ref mS, .ref mE, .ref mX, .ref mD]))] sz) := by
  refine Met.ofW (cc := b_M_fade) (maxL := 3) (ret := none) (by decide) rfl ?_
  intro p e s m args below meth c s₁ B hml hv
  obtain ⟨rfl, hsz, hP, hK, hD0, hE⟩ := hv
  have hx := B.exec
  have hb := B.bytes
  have hr := B.returns
  have hG : ∀ w ∈ GG, w.before _ s = true := fun w h => atoms_spec (ws := w_M_fade) B.pre w (List.mem_cons_of_mem _ h)
  have hown : s.vm.findClass R_M = some m.cls := findClass_of_methodNamed B.named
  have hlocks := B.notSynchronized
  subst hsz
  have hD := hD0.self (sz := s.heap.size)
  generalize hAe : (va_A [(m0, .inr (3, [.int th, .int zn, .ref mH, .ref mL, .ref mB, .ref mP, .ref mR, .ref mA, .ref mW, .ref mU, .ref mV, .int rw, .ref mM, .ref mT, .int mc, .ref mQ, .int ga, .int gb, .int kn, .ref mO, .ref mF, .ref mS, .ref mE, .ref mX, .ref mD]))] s.heap.size) = A at hD hE ⊢
  have hA : ∀ q : Nat, s.heap.size ≤ q → A q := fun q h => by rw [← hAe]; exact Or.inr h
  have hS : va_S A s.heap s.heap [] := va_S.rf
  obtain ⟨H, hH⟩ : ∃ z, z = s.heap := ⟨_, rfl⟩
  rw [← hH] at hP
  have hS : va_S A s.heap H [] := by rw [hH]; exact hS
  rw [← hH]
  have hl9 := lv_entry ([.ref m0, .int x, .int y]) (n := 3) (Nat.le_of_ble_eq_true rfl)
  rw [lg_entry_eq]
  generalize (lg_sl ([.ref m0, .int x, .int y]) ++ List.replicate (3 - (lg_sl ([.ref m0, .int x, .int y])).length) Slot.unset).toArray = ls at hl9 ⊢
  have hl9 : lv_has ls 3 [(0, .ref m0), (1, .int x), (2, .int y)] := hl9
  have h1 := fun q => hx0 (Or.inl q)
  have h2 := fun q => hx0 (Or.inr q)
  refine lv_aload_n hx hb d_M_fade_0 rfl (lv_at hl9 0 rfl) ?_
  refine lv_iconst (v := 0) hx hb d_M_fade_1 (by decide) ?_
  refine va_put (D := (dC, dI)) (ci := 3) (v := .int 0) (ty := .int) (C := R_M) (T := F_M) (N := 25) hx hb hG i_M t_M t_M_ok n_M hown hK hP hD hS 0 rfl rfl 0 (by decide) (hG _ k_440) (fun _ h9 => h9) rfl (by decide +kernel) rfl rfl (Nat.le_of_ble_eq_true rfl) d_M_fade_2 (fun H locs hP hD hS => ?_)
  have hP : va_P (dC, dI) vwCl [(m0, .inr (3, [.int 0, .int zn, .ref mH, .ref mL, .ref mB, .ref mP, .ref mR, .ref mA, .ref mW, .ref mU, .ref mV, .int rw, .ref mM, .ref mT, .int mc, .ref mQ, .int ga, .int gb, .int kn, .ref mO, .ref mF, .ref mS, .ref mE, .ref mX, .ref mD]))] H := hP
  have hD : va_D A [(m0, .inr (3, [.int 0, .int zn, .ref mH, .ref mL, .ref mB, .ref mP, .ref mR, .ref mA, .ref mW, .ref mU, .ref mV, .int rw, .ref mM, .ref mT, .int mc, .ref mQ, .int ga, .int gb, .int kn, .ref mO, .ref mF, .ref mS, .ref mE, .ref mX, .ref mD]))] := hD
  refine lv_aload_n hx hb d_M_fade_5 rfl (lv_at hl9 0 rfl) ?_
  refine lv_iload_n hx hb d_M_fade_6 rfl (lv_at hl9 2 rfl) ?_
  refine lv_iconst (v := 1) hx hb d_M_fade_7 (by decide) ?_
  refine lv_bipush (v := 100) hx hb d_M_fade_8 (by decide) ?_
  have hPc := hP.sub (ws' := []) [] rfl
  have hDc := hD.sub (ws' := []) [] (by decide) rfl
  have hFc := va_A_nil hA hS.1
  refine va_calli (va_runS (As := [.int y, .int 1, .int 100]) (rest := [.ref m0]) ⟨hx, hb, hml, hown, hG⟩ (m_within l dC dI cI cJ cZ cB y 1 100 H.size ) (cwS 3 hG g_M_83 rfl rfl rfl (by decide +kernel) ⟨Nat.le_of_ble_eq_true rfl, Nat.le_of_ble_eq_true rfl⟩) ⟨PC.blind, PC.of hPc hK hDc hE hS hFc⟩ rfl rfl hl9.1 rfl (lv_room (Nat.le_of_ble_eq_true rfl)) d_M_fade_10 ⟨by first | exact Nat.le_of_ble_eq_true rfl | omega, by first | exact Nat.le_of_ble_eq_true rfl | omega⟩) hS (fun q _ h => hFc q h) hFc (fun r2 u t H1 locs ht hvm hw hB hz1 hk1 hS => ?_)
  have hP := wp_kept hP hk1
  have hw : r2 = if ¬ (y < 1 ∨ 100 < y) then 1 else 0 := hw
  subst hw
  rw [wi_1 h1]
  refine lv_if_eq (tgt := 25) hx hb d_M_fade_13 (by decide) (fun c3 => absurd c3 (by decide)) (fun c3 => ?_)
  refine lv_iload_n hx hb d_M_fade_16 rfl (lv_at hl9 1 rfl) ?_
  refine lv_iconst (v := 0) hx hb d_M_fade_17 (by decide) ?_
  refine lv_iload_n hx hb d_M_fade_18 rfl (lv_at hl9 2 rfl) ?_
  have hPc := hP.sub (ws' := []) [] rfl
  have hDc := hD.sub (ws' := []) [] (by decide) rfl
  have hFc := va_A_nil hA hS.1
  refine va_calli (va_runS (As := [.int x, .int 0, .int y]) (rest := [.ref m0]) ⟨hx, hb, hml, hown, hG⟩ (m_within l dC dI cI cJ cZ cB x 0 y H1.size ) (cwS 3 hG g_M_83 rfl rfl rfl (by decide +kernel) ⟨Nat.le_of_ble_eq_true rfl, Nat.le_of_ble_eq_true rfl⟩) ⟨PC.blind, PC.of hPc hK hDc hE hS hFc⟩ rfl rfl hl9.1 rfl (lv_room (Nat.le_of_ble_eq_true rfl)) d_M_fade_19 ⟨by first | exact Nat.le_of_ble_eq_true rfl | omega, by first | exact Nat.le_of_ble_eq_true rfl | omega⟩) hS (fun q _ h => hFc q h) hFc (fun r5 u t H4 locs ht hvm hw hB hz1 hk1 hS => ?_)
  have hP := wp_kept hP hk1
  have hw : r5 = if ¬ (x < 0 ∨ y < x) then 1 else 0 := hw
  subst hw
  rw [wi_1 h2]
  refine lv_if_ne (tgt := 29) hx hb d_M_fade_22 (by decide) (fun c6 => ?_) (fun c6 => absurd c6 (by decide))
  refine lv_iconst (v := 0) hx hb d_M_fade_29 (by decide) ?_
  refine lv_iconst (v := 1) hx hb d_M_fade_30 (by decide) ?_
  have hPc := hP.sub (ws' := [(m0, .inr (3, [.int 0, .int zn, .ref mH, .ref mL, .ref mB, .ref mP, .ref mR, .ref mA, .ref mW, .ref mU, .ref mV, .int rw, .ref mM, .ref mT, .int mc, .ref mQ, .int ga, .int gb, .int kn, .ref mO, .ref mF, .ref mS, .ref mE, .ref mX, .ref mD]))]) [0] rfl
  have hDc := hD.sub (ws' := [(m0, .inr (3, [.int 0, .int zn, .ref mH, .ref mL, .ref mB, .ref mP, .ref mR, .ref mA, .ref mW, .ref mU, .ref mV, .int rw, .ref mM, .ref mT, .int mc, .ref mQ, .int ga, .int gb, .int kn, .ref mO, .ref mF, .ref mS, .ref mE, .ref mX, .ref mD]))]) [0] (by decide) rfl
  have hFc := va_free (wc := [(m0, .inr (3, [.int 0, .int zn, .ref mH, .ref mL, .ref mB, .ref mP, .ref mR, .ref mA, .ref mW, .ref mU, .ref mV, .int rw, .ref mM, .ref mT, .int mc, .ref mQ, .int ga, .int gb, .int kn, .ref mO, .ref mF, .ref mS, .ref mE, .ref mX, .ref mD]))]) hD hS hA [0] rfl
  refine va_calli (va_runV (C := R_M) (As := [.int 0, .int 1]) (rest := []) ⟨hx, hb, hml, hown, hG⟩ (m_fails001 l dC dI cI cJ cZ cB m0 mH mL mB mP mR mA mW mU mV mM mT mQ mO mF mS mE mX mD zn rw mc ga gb kn H4.size ) (cwV 2 hG g_M_87 rfl rfl rfl (by decide +kernel) ⟨Nat.le_of_ble_eq_true rfl, Nat.le_of_ble_eq_true rfl⟩) ⟨PC.blind, va_recv hK hP (ci := 3) (q0 := 0) rfl rfl, PC.of hPc hK hDc hE hS hFc⟩ rfl rfl hl9.1 rfl (lv_room (Nat.le_of_ble_eq_true rfl)) d_M_fade_31 ⟨by first | exact Nat.le_of_ble_eq_true rfl | omega, by first | exact Nat.le_of_ble_eq_true rfl | omega⟩) hS (fun q _ h => hFc q h) hFc (fun r8 u t H7 locs ht hvm hw hB hz1 hk1 hS => ?_)
  rw [ht] at hB
  obtain ⟨hP, hD⟩ := jset (wc := [(m0, .inr (3, [.int 0, .int zn, .ref mH, .ref mL, .ref mB, .ref mP, .ref mR, .ref mA, .ref mW, .ref mU, .ref mV, .int rw, .ref mM, .ref mT, .int mc, .ref mQ, .int ga, .int gb, .int kn, .ref mO, .ref mF, .ref mS, .ref mE, .ref mX, .ref mD]))]) (w1 := [(m0, .inr (3, [.int 0, .int zn, .ref mH, .ref mL, .ref mB, .ref mP, .ref mR, .ref mA, .ref mW, .ref mU, .ref mV, .int rw, .ref mM, .ref mT, .int mc, .ref mQ, .int ga, .int gb, .int kn, .ref mO, .ref mF, .ref mS, .ref mE, .ref mX, .ref mD]))]) [0] rfl rfl hP hD hk1 hB
  have hP : va_P (dC, dI) vwCl [(m0, .inr (3, [.int 0, .int zn, .ref mH, .ref mL, .ref mB, .ref mP, .ref mR, .ref mA, .ref mW, .ref mU, .ref mV, .int rw, .ref mM, .ref mT, .int mc, .ref mQ, .int ga, .int gb, .int kn, .ref mO, .ref mF, .ref mS, .ref mE, .ref mX, .ref mD]))] H7 := hP
  have hD : va_D A [(m0, .inr (3, [.int 0, .int zn, .ref mH, .ref mL, .ref mB, .ref mP, .ref mR, .ref mA, .ref mW, .ref mU, .ref mV, .int rw, .ref mM, .ref mT, .int mc, .ref mQ, .int ga, .int gb, .int kn, .ref mO, .ref mF, .ref mS, .ref mE, .ref mX, .ref mD]))] := hD
  have hw : r8 = 0 := hw
  subst hw
  refine lv_if_eq (tgt := 38) hx hb d_M_fade_34 (by decide) (fun c9 => ?_) (fun c9 => absurd c9 (by decide))
  refine lv_aload_n hx hb d_M_fade_38 rfl (lv_at hl9 0 rfl) ?_
  refine lv_iload_n hx hb d_M_fade_39 rfl (lv_at hl9 1 rfl) ?_
  refine va_put (D := (dC, dI)) (ci := 3) (v := .int x) (ty := .int) (C := R_M) (T := F_M) (N := 25) hx hb hG i_M t_M t_M_ok n_M hown hK hP hD hS 0 rfl rfl 16 (by decide) (hG _ k_456) (fun _ h9 => h9) rfl (by decide +kernel) rfl rfl (Nat.le_of_ble_eq_true rfl) d_M_fade_40 (fun H locs hP hD hS => ?_)
  have hP : va_P (dC, dI) vwCl [(m0, .inr (3, [.int 0, .int zn, .ref mH, .ref mL, .ref mB, .ref mP, .ref mR, .ref mA, .ref mW, .ref mU, .ref mV, .int rw, .ref mM, .ref mT, .int mc, .ref mQ, .int x, .int gb, .int kn, .ref mO, .ref mF, .ref mS, .ref mE, .ref mX, .ref mD]))] H := hP
  have hD : va_D A [(m0, .inr (3, [.int 0, .int zn, .ref mH, .ref mL, .ref mB, .ref mP, .ref mR, .ref mA, .ref mW, .ref mU, .ref mV, .int rw, .ref mM, .ref mT, .int mc, .ref mQ, .int x, .int gb, .int kn, .ref mO, .ref mF, .ref mS, .ref mE, .ref mX, .ref mD]))] := hD
  refine lv_aload_n hx hb d_M_fade_43 rfl (lv_at hl9 0 rfl) ?_
  refine lv_iload_n hx hb d_M_fade_44 rfl (lv_at hl9 2 rfl) ?_
  refine va_put (D := (dC, dI)) (ci := 3) (v := .int y) (ty := .int) (C := R_M) (T := F_M) (N := 25) hx hb hG i_M t_M t_M_ok n_M hown hK hP hD hS 0 rfl rfl 17 (by decide) (hG _ k_457) (fun _ h9 => h9) rfl (by decide +kernel) rfl rfl (Nat.le_of_ble_eq_true rfl) d_M_fade_45 (fun H locs hP hD hS => ?_)
  have hP : va_P (dC, dI) vwCl [(m0, .inr (3, [.int 0, .int zn, .ref mH, .ref mL, .ref mB, .ref mP, .ref mR, .ref mA, .ref mW, .ref mU, .ref mV, .int rw, .ref mM, .ref mT, .int mc, .ref mQ, .int x, .int y, .int kn, .ref mO, .ref mF, .ref mS, .ref mE, .ref mX, .ref mD]))] H := hP
  have hD : va_D A [(m0, .inr (3, [.int 0, .int zn, .ref mH, .ref mL, .ref mB, .ref mP, .ref mR, .ref mA, .ref mW, .ref mU, .ref mV, .int rw, .ref mM, .ref mT, .int mc, .ref mQ, .int x, .int y, .int kn, .ref mO, .ref mF, .ref mS, .ref mE, .ref mX, .ref mD]))] := hD
  exact W.vret hx hb hr (fun t ht hW => ⟨⟨(), rfl, trivial, by have h9 := hP; rw [← ht] at h9; exact h9⟩, hS.F ht⟩) hS.2.2 d_M_fade_48
set_option maxHeartbeats 4000000 in
set_option maxRecDepth 100000 in
theorem m_fadeX (l : Launch) (dC : Nat → ClassId) (dI : Nat → Nat → Nat) (cI cJ cZ cB : ClassId) (m0 mH mL mB mP mR mA mW mU mV mM mT mQ mO mF mS mE mX mD : Nat) (th zn rw mc ga gb kn : Int32) (x y : Int32) (sz : Nat) (hx0 : (y < 1 ∨ 100 < y) ∨ (x < 0 ∨ y < x)) : Met l y_M_fade w_M_fade ({ frames := 1, cells := 0, slots := 0, locals := 22 }) (PC (dC, dI) (TY cI cJ cZ cB) [.ref m0, .int x, .int y] [(m0, .inr (3, [.int th, .int zn, .ref mH, .ref mL, .ref mB, .ref mP, .ref mR, .ref mA, .ref mW, .ref mU, .ref mV, .int rw, .ref mM, .ref mT, .int mc, .ref mQ, .int ga, .int gb, .int kn, .ref mO, .ref mF, .ref mS, .ref mE, .ref mX, .ref mD]))] sz (va_A [(m0, .inr (3, [.int th, .int zn, .ref mH, .ref mL, .ref mB, .ref mP, .ref mR, .ref mA, .ref mW, .ref mU, .ref mV, .int rw, .ref mM, .ref mT, .int mc, .ref mQ, .int ga, .int gb, .int kn, .ref mO, .ref mF, .ref mS, .ref mE, .ref mX, .ref mD]))] sz)) (va_Qv (fun (_ : Unit) => True) (fun (_ : Unit) (t : State) => va_P (dC, dI) vwCl [(m0, .inr (3, [.int 1, .int zn, .ref mH, .ref mL, .ref mB, .ref mP, .ref mR, .ref mA, .ref mW, .ref mU, .ref mV, .int rw, .ref mM, .ref mT, .int mc, .ref mQ, .int ga, .int gb, .int kn, .ref mO, .ref mF, .ref mS, .ref mE, .ref mX, .ref mD]))] t.heap) (va_A [(m0, .inr (3, [.int th, .int zn, .ref mH, .ref mL, .ref mB, .ref mP, .ref mR, .ref mA, .ref mW, .ref mU, .ref mV, .int rw, .ref mM, .ref mT, .int mc, .ref mQ, .int ga, .int gb, .int kn, .ref mO, .ref mF, .ref mS, .ref mE, .ref mX, .ref mD]))] sz)) 0 0 (va_A [(m0, .inr (3, [.int th, .int zn, .ref mH, .ref mL, .ref mB, .ref mP, .ref mR, .ref mA, .ref mW, .ref mU, .ref mV, .int rw, .ref mM, .ref mT, .int mc, .ref mQ, .int ga, .int gb, .int kn, .ref mO, .ref mF, .ref mS, .ref mE, .ref mX, .ref mD]))] sz) := by
  refine Met.ofW (cc := b_M_fade) (maxL := 3) (ret := none) (by decide) rfl ?_
  intro p e s m args below meth c s₁ B hml hv
  obtain ⟨rfl, hsz, hP, hK, hD0, hE⟩ := hv
  have hx := B.exec
  have hb := B.bytes
  have hr := B.returns
  have hG : ∀ w ∈ GG, w.before _ s = true := fun w h => atoms_spec (ws := w_M_fade) B.pre w (List.mem_cons_of_mem _ h)
  have hown : s.vm.findClass R_M = some m.cls := findClass_of_methodNamed B.named
  have hlocks := B.notSynchronized
  subst hsz
  have hD := hD0.self (sz := s.heap.size)
  generalize hAe : (va_A [(m0, .inr (3, [.int th, .int zn, .ref mH, .ref mL, .ref mB, .ref mP, .ref mR, .ref mA, .ref mW, .ref mU, .ref mV, .int rw, .ref mM, .ref mT, .int mc, .ref mQ, .int ga, .int gb, .int kn, .ref mO, .ref mF, .ref mS, .ref mE, .ref mX, .ref mD]))] s.heap.size) = A at hD hE ⊢
  have hA : ∀ q : Nat, s.heap.size ≤ q → A q := fun q h => by rw [← hAe]; exact Or.inr h
  have hS : va_S A s.heap s.heap [] := va_S.rf
  obtain ⟨H, hH⟩ : ∃ z, z = s.heap := ⟨_, rfl⟩
  rw [← hH] at hP
  have hS : va_S A s.heap H [] := by rw [hH]; exact hS
  rw [← hH]
  have hl9 := lv_entry ([.ref m0, .int x, .int y]) (n := 3) (Nat.le_of_ble_eq_true rfl)
  rw [lg_entry_eq]
  generalize (lg_sl ([.ref m0, .int x, .int y]) ++ List.replicate (3 - (lg_sl ([.ref m0, .int x, .int y])).length) Slot.unset).toArray = ls at hl9 ⊢
  have hl9 : lv_has ls 3 [(0, .ref m0), (1, .int x), (2, .int y)] := hl9
  by_cases h1 : (y < 1 ∨ 100 < y)
  · refine lv_aload_n hx hb d_M_fade_0 rfl (lv_at hl9 0 rfl) ?_
    refine lv_iconst (v := 0) hx hb d_M_fade_1 (by decide) ?_
    refine va_put (D := (dC, dI)) (ci := 3) (v := .int 0) (ty := .int) (C := R_M) (T := F_M) (N := 25) hx hb hG i_M t_M t_M_ok n_M hown hK hP hD hS 0 rfl rfl 0 (by decide) (hG _ k_440) (fun _ h9 => h9) rfl (by decide +kernel) rfl rfl (Nat.le_of_ble_eq_true rfl) d_M_fade_2 (fun H locs hP hD hS => ?_)
    have hP : va_P (dC, dI) vwCl [(m0, .inr (3, [.int 0, .int zn, .ref mH, .ref mL, .ref mB, .ref mP, .ref mR, .ref mA, .ref mW, .ref mU, .ref mV, .int rw, .ref mM, .ref mT, .int mc, .ref mQ, .int ga, .int gb, .int kn, .ref mO, .ref mF, .ref mS, .ref mE, .ref mX, .ref mD]))] H := hP
    have hD : va_D A [(m0, .inr (3, [.int 0, .int zn, .ref mH, .ref mL, .ref mB, .ref mP, .ref mR, .ref mA, .ref mW, .ref mU, .ref mV, .int rw, .ref mM, .ref mT, .int mc, .ref mQ, .int ga, .int gb, .int kn, .ref mO, .ref mF, .ref mS, .ref mE, .ref mX, .ref mD]))] := hD
    refine lv_aload_n hx hb d_M_fade_5 rfl (lv_at hl9 0 rfl) ?_
    refine lv_iload_n hx hb d_M_fade_6 rfl (lv_at hl9 2 rfl) ?_
    refine lv_iconst (v := 1) hx hb d_M_fade_7 (by decide) ?_
    refine lv_bipush (v := 100) hx hb d_M_fade_8 (by decide) ?_
    have hPc := hP.sub (ws' := []) [] rfl
    have hDc := hD.sub (ws' := []) [] (by decide) rfl
    have hFc := va_A_nil hA hS.1
    refine va_calli (va_runS (As := [.int y, .int 1, .int 100]) (rest := [.ref m0]) ⟨hx, hb, hml, hown, hG⟩ (m_within l dC dI cI cJ cZ cB y 1 100 H.size ) (cwS 3 hG g_M_83 rfl rfl rfl (by decide +kernel) ⟨Nat.le_of_ble_eq_true rfl, Nat.le_of_ble_eq_true rfl⟩) ⟨PC.blind, PC.of hPc hK hDc hE hS hFc⟩ rfl rfl hl9.1 rfl (lv_room (Nat.le_of_ble_eq_true rfl)) d_M_fade_10 ⟨by first | exact Nat.le_of_ble_eq_true rfl | omega, by first | exact Nat.le_of_ble_eq_true rfl | omega⟩) hS (fun q _ h => hFc q h) hFc (fun r2 u t H1 locs ht hvm hw hB hz1 hk1 hS => ?_)
    have hP := wp_kept hP hk1
    have hw : r2 = if ¬ (y < 1 ∨ 100 < y) then 1 else 0 := hw
    subst hw
    rw [wi_0 h1]
    refine lv_if_eq (tgt := 25) hx hb d_M_fade_13 (by decide) (fun c3 => ?_) (fun c3 => absurd c3 (by decide))
    refine lv_iconst (v := 1) hx hb d_M_fade_25 (by decide) ?_
    refine lv_goto (tgt := 30) hx hb d_M_fade_26 (by decide) ?_
    refine lv_iconst (v := 1) hx hb d_M_fade_30 (by decide) ?_
    have hPc := hP.sub (ws' := [(m0, .inr (3, [.int 0, .int zn, .ref mH, .ref mL, .ref mB, .ref mP, .ref mR, .ref mA, .ref mW, .ref mU, .ref mV, .int rw, .ref mM, .ref mT, .int mc, .ref mQ, .int ga, .int gb, .int kn, .ref mO, .ref mF, .ref mS, .ref mE, .ref mX, .ref mD]))]) [0] rfl
    have hDc := hD.sub (ws' := [(m0, .inr (3, [.int 0, .int zn, .ref mH, .ref mL, .ref mB, .ref mP, .ref mR, .ref mA, .ref mW, .ref mU, .ref mV, .int rw, .ref mM, .ref mT, .int mc, .ref mQ, .int ga, .int gb, .int kn, .ref mO, .ref mF, .ref mS, .ref mE, .ref mX, .ref mD]))]) [0] (by decide) rfl
    have hFc := va_free (wc := [(m0, .inr (3, [.int 0, .int zn, .ref mH, .ref mL, .ref mB, .ref mP, .ref mR, .ref mA, .ref mW, .ref mU, .ref mV, .int rw, .ref mM, .ref mT, .int mc, .ref mQ, .int ga, .int gb, .int kn, .ref mO, .ref mF, .ref mS, .ref mE, .ref mX, .ref mD]))]) hD hS hA [0] rfl
    refine va_calli (va_runV (C := R_M) (As := [.int 1, .int 1]) (rest := []) ⟨hx, hb, hml, hown, hG⟩ (m_fails011 l dC dI cI cJ cZ cB m0 mH mL mB mP mR mA mW mU mV mM mT mQ mO mF mS mE mX mD zn rw mc ga gb kn H1.size ) (cwV 2 hG g_M_87 rfl rfl rfl (by decide +kernel) ⟨Nat.le_of_ble_eq_true rfl, Nat.le_of_ble_eq_true rfl⟩) ⟨PC.blind, va_recv hK hP (ci := 3) (q0 := 0) rfl rfl, PC.of hPc hK hDc hE hS hFc⟩ rfl rfl hl9.1 rfl (lv_room (Nat.le_of_ble_eq_true rfl)) d_M_fade_31 ⟨by first | exact Nat.le_of_ble_eq_true rfl | omega, by first | exact Nat.le_of_ble_eq_true rfl | omega⟩) hS (fun q _ h => hFc q h) hFc (fun r5 u t H4 locs ht hvm hw hB hz1 hk1 hS => ?_)
    rw [ht] at hB
    obtain ⟨hP, hD⟩ := jset (wc := [(m0, .inr (3, [.int 0, .int zn, .ref mH, .ref mL, .ref mB, .ref mP, .ref mR, .ref mA, .ref mW, .ref mU, .ref mV, .int rw, .ref mM, .ref mT, .int mc, .ref mQ, .int ga, .int gb, .int kn, .ref mO, .ref mF, .ref mS, .ref mE, .ref mX, .ref mD]))]) (w1 := [(m0, .inr (3, [.int 1, .int zn, .ref mH, .ref mL, .ref mB, .ref mP, .ref mR, .ref mA, .ref mW, .ref mU, .ref mV, .int rw, .ref mM, .ref mT, .int mc, .ref mQ, .int ga, .int gb, .int kn, .ref mO, .ref mF, .ref mS, .ref mE, .ref mX, .ref mD]))]) [0] rfl rfl hP hD hk1 hB
    have hP : va_P (dC, dI) vwCl [(m0, .inr (3, [.int 1, .int zn, .ref mH, .ref mL, .ref mB, .ref mP, .ref mR, .ref mA, .ref mW, .ref mU, .ref mV, .int rw, .ref mM, .ref mT, .int mc, .ref mQ, .int ga, .int gb, .int kn, .ref mO, .ref mF, .ref mS, .ref mE, .ref mX, .ref mD]))] H4 := hP
    have hD : va_D A [(m0, .inr (3, [.int 1, .int zn, .ref mH, .ref mL, .ref mB, .ref mP, .ref mR, .ref mA, .ref mW, .ref mU, .ref mV, .int rw, .ref mM, .ref mT, .int mc, .ref mQ, .int ga, .int gb, .int kn, .ref mO, .ref mF, .ref mS, .ref mE, .ref mX, .ref mD]))] := hD
    have hw : r5 = 1 := hw
    subst hw
    refine lv_if_eq (tgt := 38) hx hb d_M_fade_34 (by decide) (fun c6 => absurd c6 (by decide)) (fun c6 => ?_)
    exact W.vret hx hb hr (fun t ht hW => ⟨⟨(), rfl, trivial, by have h9 := hP; rw [← ht] at h9; exact h9⟩, hS.F ht⟩) hS.2.2 d_M_fade_37
  · have h2 := hx0.resolve_left h1
    refine lv_aload_n hx hb d_M_fade_0 rfl (lv_at hl9 0 rfl) ?_
    refine lv_iconst (v := 0) hx hb d_M_fade_1 (by decide) ?_
    refine va_put (D := (dC, dI)) (ci := 3) (v := .int 0) (ty := .int) (C := R_M) (T := F_M) (N := 25) hx hb hG i_M t_M t_M_ok n_M hown hK hP hD hS 0 rfl rfl 0 (by decide) (hG _ k_440) (fun _ h9 => h9) rfl (by decide +kernel) rfl rfl (Nat.le_of_ble_eq_true rfl) d_M_fade_2 (fun H locs hP hD hS => ?_)
    have hP : va_P (dC, dI) vwCl [(m0, .inr (3, [.int 0, .int zn, .ref mH, .ref mL, .ref mB, .ref mP, .ref mR, .ref mA, .ref mW, .ref mU, .ref mV, .int rw, .ref mM, .ref mT, .int mc, .ref mQ, .int ga, .int gb, .int kn, .ref mO, .ref mF, .ref mS, .ref mE, .ref mX, .ref mD]))] H := hP
    have hD : va_D A [(m0, .inr (3, [.int 0, .int zn, .ref mH, .ref mL, .ref mB, .ref mP, .ref mR, .ref mA, .ref mW, .ref mU, .ref mV, .int rw, .ref mM, .ref mT, .int mc, .ref mQ, .int ga, .int gb, .int kn, .ref mO, .ref mF, .ref mS, .ref mE, .ref mX, .ref mD]))] := hD
    refine lv_aload_n hx hb d_M_fade_5 rfl (lv_at hl9 0 rfl) ?_
    refine lv_iload_n hx hb d_M_fade_6 rfl (lv_at hl9 2 rfl) ?_
    refine lv_iconst (v := 1) hx hb d_M_fade_7 (by decide) ?_
    refine lv_bipush (v := 100) hx hb d_M_fade_8 (by decide) ?_
    have hPc := hP.sub (ws' := []) [] rfl
    have hDc := hD.sub (ws' := []) [] (by decide) rfl
    have hFc := va_A_nil hA hS.1
    refine va_calli (va_runS (As := [.int y, .int 1, .int 100]) (rest := [.ref m0]) ⟨hx, hb, hml, hown, hG⟩ (m_within l dC dI cI cJ cZ cB y 1 100 H.size ) (cwS 3 hG g_M_83 rfl rfl rfl (by decide +kernel) ⟨Nat.le_of_ble_eq_true rfl, Nat.le_of_ble_eq_true rfl⟩) ⟨PC.blind, PC.of hPc hK hDc hE hS hFc⟩ rfl rfl hl9.1 rfl (lv_room (Nat.le_of_ble_eq_true rfl)) d_M_fade_10 ⟨by first | exact Nat.le_of_ble_eq_true rfl | omega, by first | exact Nat.le_of_ble_eq_true rfl | omega⟩) hS (fun q _ h => hFc q h) hFc (fun r8 u t H7 locs ht hvm hw hB hz1 hk1 hS => ?_)
    have hP := wp_kept hP hk1
    have hw : r8 = if ¬ (y < 1 ∨ 100 < y) then 1 else 0 := hw
    subst hw
    rw [wi_1 h1]
    refine lv_if_eq (tgt := 25) hx hb d_M_fade_13 (by decide) (fun c9 => absurd c9 (by decide)) (fun c9 => ?_)
    refine lv_iload_n hx hb d_M_fade_16 rfl (lv_at hl9 1 rfl) ?_
    refine lv_iconst (v := 0) hx hb d_M_fade_17 (by decide) ?_
    refine lv_iload_n hx hb d_M_fade_18 rfl (lv_at hl9 2 rfl) ?_
    have hPc := hP.sub (ws' := []) [] rfl
    have hDc := hD.sub (ws' := []) [] (by decide) rfl
    have hFc := va_A_nil hA hS.1
    refine va_calli (va_runS (As := [.int x, .int 0, .int y]) (rest := [.ref m0]) ⟨hx, hb, hml, hown, hG⟩ (m_within l dC dI cI cJ cZ cB x 0 y H7.size ) (cwS 3 hG g_M_83 rfl rfl rfl (by decide +kernel) ⟨Nat.le_of_ble_eq_true rfl, Nat.le_of_ble_eq_true rfl⟩) ⟨PC.blind, PC.of hPc hK hDc hE hS hFc⟩ rfl rfl hl9.1 rfl (lv_room (Nat.le_of_ble_eq_true rfl)) d_M_fade_19 ⟨by first | exact Nat.le_of_ble_eq_true rfl | omega, by first | exact Nat.le_of_ble_eq_true rfl | omega⟩) hS (fun q _ h => hFc q h) hFc (fun r11 u t H10 locs ht hvm hw hB hz1 hk1 hS => ?_)
    have hP := wp_kept hP hk1
    have hw : r11 = if ¬ (x < 0 ∨ y < x) then 1 else 0 := hw
    subst hw
    rw [wi_0 h2]
    refine lv_if_ne (tgt := 29) hx hb d_M_fade_22 (by decide) (fun c12 => absurd c12 (by decide)) (fun c12 => ?_)
    refine lv_iconst (v := 1) hx hb d_M_fade_25 (by decide) ?_
    refine lv_goto (tgt := 30) hx hb d_M_fade_26 (by decide) ?_
    refine lv_iconst (v := 1) hx hb d_M_fade_30 (by decide) ?_
    have hPc := hP.sub (ws' := [(m0, .inr (3, [.int 0, .int zn, .ref mH, .ref mL, .ref mB, .ref mP, .ref mR, .ref mA, .ref mW, .ref mU, .ref mV, .int rw, .ref mM, .ref mT, .int mc, .ref mQ, .int ga, .int gb, .int kn, .ref mO, .ref mF, .ref mS, .ref mE, .ref mX, .ref mD]))]) [0] rfl
    have hDc := hD.sub (ws' := [(m0, .inr (3, [.int 0, .int zn, .ref mH, .ref mL, .ref mB, .ref mP, .ref mR, .ref mA, .ref mW, .ref mU, .ref mV, .int rw, .ref mM, .ref mT, .int mc, .ref mQ, .int ga, .int gb, .int kn, .ref mO, .ref mF, .ref mS, .ref mE, .ref mX, .ref mD]))]) [0] (by decide) rfl
    have hFc := va_free (wc := [(m0, .inr (3, [.int 0, .int zn, .ref mH, .ref mL, .ref mB, .ref mP, .ref mR, .ref mA, .ref mW, .ref mU, .ref mV, .int rw, .ref mM, .ref mT, .int mc, .ref mQ, .int ga, .int gb, .int kn, .ref mO, .ref mF, .ref mS, .ref mE, .ref mX, .ref mD]))]) hD hS hA [0] rfl
    refine va_calli (va_runV (C := R_M) (As := [.int 1, .int 1]) (rest := []) ⟨hx, hb, hml, hown, hG⟩ (m_fails011 l dC dI cI cJ cZ cB m0 mH mL mB mP mR mA mW mU mV mM mT mQ mO mF mS mE mX mD zn rw mc ga gb kn H10.size ) (cwV 2 hG g_M_87 rfl rfl rfl (by decide +kernel) ⟨Nat.le_of_ble_eq_true rfl, Nat.le_of_ble_eq_true rfl⟩) ⟨PC.blind, va_recv hK hP (ci := 3) (q0 := 0) rfl rfl, PC.of hPc hK hDc hE hS hFc⟩ rfl rfl hl9.1 rfl (lv_room (Nat.le_of_ble_eq_true rfl)) d_M_fade_31 ⟨by first | exact Nat.le_of_ble_eq_true rfl | omega, by first | exact Nat.le_of_ble_eq_true rfl | omega⟩) hS (fun q _ h => hFc q h) hFc (fun r14 u t H13 locs ht hvm hw hB hz1 hk1 hS => ?_)
    rw [ht] at hB
    obtain ⟨hP, hD⟩ := jset (wc := [(m0, .inr (3, [.int 0, .int zn, .ref mH, .ref mL, .ref mB, .ref mP, .ref mR, .ref mA, .ref mW, .ref mU, .ref mV, .int rw, .ref mM, .ref mT, .int mc, .ref mQ, .int ga, .int gb, .int kn, .ref mO, .ref mF, .ref mS, .ref mE, .ref mX, .ref mD]))]) (w1 := [(m0, .inr (3, [.int 1, .int zn, .ref mH, .ref mL, .ref mB, .ref mP, .ref mR, .ref mA, .ref mW, .ref mU, .ref mV, .int rw, .ref mM, .ref mT, .int mc, .ref mQ, .int ga, .int gb, .int kn, .ref mO, .ref mF, .ref mS, .ref mE, .ref mX, .ref mD]))]) [0] rfl rfl hP hD hk1 hB
    have hP : va_P (dC, dI) vwCl [(m0, .inr (3, [.int 1, .int zn, .ref mH, .ref mL, .ref mB, .ref mP, .ref mR, .ref mA, .ref mW, .ref mU, .ref mV, .int rw, .ref mM, .ref mT, .int mc, .ref mQ, .int ga, .int gb, .int kn, .ref mO, .ref mF, .ref mS, .ref mE, .ref mX, .ref mD]))] H13 := hP
    have hD : va_D A [(m0, .inr (3, [.int 1, .int zn, .ref mH, .ref mL, .ref mB, .ref mP, .ref mR, .ref mA, .ref mW, .ref mU, .ref mV, .int rw, .ref mM, .ref mT, .int mc, .ref mQ, .int ga, .int gb, .int kn, .ref mO, .ref mF, .ref mS, .ref mE, .ref mX, .ref mD]))] := hD
    have hw : r14 = 1 := hw
    subst hw
    refine lv_if_eq (tgt := 38) hx hb d_M_fade_34 (by decide) (fun c15 => absurd c15 (by decide)) (fun c15 => ?_)
    exact W.vret hx hb hr (fun t ht hW => ⟨⟨(), rfl, trivial, by have h9 := hP; rw [← ht] at h9; exact h9⟩, hS.F ht⟩) hS.2.2 d_M_fade_37
set_option maxHeartbeats 4000000 in
set_option maxRecDepth 100000 in
theorem m_price (l : Launch) (dC : Nat → ClassId) (dI : Nat → Nat → Nat) (cI cJ cZ cB : ClassId) (m0 mH mL mB mP mR mA mW mU mV mM mT mQ mO mF mS mE mX mD : Nat) (th zn rw mc ga gb kn : Int32) (rQ : Nat → Int32)  (x y : Int32) (sz : Nat) (hx0 : ¬ ((x < 0 ∨ 23 < x) ∨ (y < 0 ∨ 1000 < y))) : Met l y_M_price w_M_price ({ frames := 1, cells := 0, slots := 0, locals := 22 }) (PC (dC, dI) (TY cI cJ cZ cB) [.ref m0, .int x, .int y] [(m0, .inr (3, [.int th, .int zn, .ref mH, .ref mL, .ref mB, .ref mP, .ref mR, .ref mA, .ref mW, .ref mU, .ref mV, .int rw, .ref mM, .ref mT, .int mc, .ref mQ, .int ga, .int gb, .int kn, .ref mO, .ref mF, .ref mS, .ref mE, .ref mX, .ref mD])), (mQ, .inl (cI, 24, .inl rQ))] sz (va_A [(m0, .inr (3, [.int th, .int zn, .ref mH, .ref mL, .ref mB, .ref mP, .ref mR, .ref mA, .ref mW, .ref mU, .ref mV, .int rw, .ref mM, .ref mT, .int mc, .ref mQ, .int ga, .int gb, .int kn, .ref mO, .ref mF, .ref mS, .ref mE, .ref mX, .ref mD])), (mQ, .inl (cI, 24, .inl rQ))] sz)) (va_Qi (fun (r : Int32) (_ : Unit) => r = rQ x.toNatClampNeg) (fun (_ : Unit) (t : State) => va_P (dC, dI) vwCl [(m0, .inr (3, [.int 0, .int zn, .ref mH, .ref mL, .ref mB, .ref mP, .ref mR, .ref mA, .ref mW, .ref mU, .ref mV, .int rw, .ref mM, .ref mT, .int mc, .ref mQ, .int ga, .int gb, .int kn, .ref mO, .ref mF, .ref mS, .ref mE, .ref mX, .ref mD])), (mQ, .inl (cI, 24, .inl (upd rQ x.toNatClampNeg y)))] t.heap) (va_A [(m0, .inr (3, [.int th, .int zn, .ref mH, .ref mL, .ref mB, .ref mP, .ref mR, .ref mA, .ref mW, .ref mU, .ref mV, .int rw, .ref mM, .ref mT, .int mc, .ref mQ, .int ga, .int gb, .int kn, .ref mO, .ref mF, .ref mS, .ref mE, .ref mX, .ref mD])), (mQ, .inl (cI, 24, .inl rQ))] sz)) 0 0 (va_A [(m0, .inr (3, [.int th, .int zn, .ref mH, .ref mL, .ref mB, .ref mP, .ref mR, .ref mA, .ref mW, .ref mU, .ref mV, .int rw, .ref mM, .ref mT, .int mc, .ref mQ, .int ga, .int gb, .int kn, .ref mO, .ref mF, .ref mS, .ref mE, .ref mX, .ref mD])), (mQ, .inl (cI, 24, .inl rQ))] sz) := by
  refine Met.ofW (cc := b_M_price) (maxL := 4) (ret := (some .int)) (by decide) rfl ?_
  intro p e s m args below meth c s₁ B hml hv
  obtain ⟨rfl, hsz, hP, hK, hD0, hE⟩ := hv
  have hx := B.exec
  have hb := B.bytes
  have hr := B.returns
  have hG : ∀ w ∈ GG, w.before _ s = true := fun w h => atoms_spec (ws := w_M_price) B.pre w (List.mem_cons_of_mem _ h)
  have hown : s.vm.findClass R_M = some m.cls := findClass_of_methodNamed B.named
  have hlocks := B.notSynchronized
  subst hsz
  have hD := hD0.self (sz := s.heap.size)
  generalize hAe : (va_A [(m0, .inr (3, [.int th, .int zn, .ref mH, .ref mL, .ref mB, .ref mP, .ref mR, .ref mA, .ref mW, .ref mU, .ref mV, .int rw, .ref mM, .ref mT, .int mc, .ref mQ, .int ga, .int gb, .int kn, .ref mO, .ref mF, .ref mS, .ref mE, .ref mX, .ref mD])), (mQ, .inl (cI, 24, .inl rQ))] s.heap.size) = A at hD hE ⊢
  have hA : ∀ q : Nat, s.heap.size ≤ q → A q := fun q h => by rw [← hAe]; exact Or.inr h
  have hS : va_S A s.heap s.heap [] := va_S.rf
  obtain ⟨H, hH⟩ : ∃ z, z = s.heap := ⟨_, rfl⟩
  rw [← hH] at hP
  have hS : va_S A s.heap H [] := by rw [hH]; exact hS
  rw [← hH]
  have hl9 := lv_entry ([.ref m0, .int x, .int y]) (n := 4) (Nat.le_of_ble_eq_true rfl)
  rw [lg_entry_eq]
  generalize (lg_sl ([.ref m0, .int x, .int y]) ++ List.replicate (4 - (lg_sl ([.ref m0, .int x, .int y])).length) Slot.unset).toArray = ls at hl9 ⊢
  have hl9 : lv_has ls 4 [(0, .ref m0), (1, .int x), (2, .int y)] := hl9
  have h1 := fun q => hx0 (Or.inl q)
  have h2 := fun q => hx0 (Or.inr q)
  have hin : vp_in x 24 := in_bd h1 (by decide)
  refine lv_aload_n hx hb d_M_price_0 rfl (lv_at hl9 0 rfl) ?_
  refine lv_iconst (v := 0) hx hb d_M_price_1 (by decide) ?_
  refine va_put (D := (dC, dI)) (ci := 3) (v := .int 0) (ty := .int) (C := R_M) (T := F_M) (N := 25) hx hb hG i_M t_M t_M_ok n_M hown hK hP hD hS 0 rfl rfl 0 (by decide) (hG _ k_440) (fun _ h9 => h9) rfl (by decide +kernel) rfl rfl (Nat.le_of_ble_eq_true rfl) d_M_price_2 (fun H locs hP hD hS => ?_)
  have hP : va_P (dC, dI) vwCl [(m0, .inr (3, [.int 0, .int zn, .ref mH, .ref mL, .ref mB, .ref mP, .ref mR, .ref mA, .ref mW, .ref mU, .ref mV, .int rw, .ref mM, .ref mT, .int mc, .ref mQ, .int ga, .int gb, .int kn, .ref mO, .ref mF, .ref mS, .ref mE, .ref mX, .ref mD])), (mQ, .inl (cI, 24, .inl rQ))] H := hP
  have hD : va_D A [(m0, .inr (3, [.int 0, .int zn, .ref mH, .ref mL, .ref mB, .ref mP, .ref mR, .ref mA, .ref mW, .ref mU, .ref mV, .int rw, .ref mM, .ref mT, .int mc, .ref mQ, .int ga, .int gb, .int kn, .ref mO, .ref mF, .ref mS, .ref mE, .ref mX, .ref mD])), (mQ, .inl (cI, 24, .inl rQ))] := hD
  refine lv_aload_n hx hb d_M_price_5 rfl (lv_at hl9 0 rfl) ?_
  refine lv_iload_n hx hb d_M_price_6 rfl (lv_at hl9 1 rfl) ?_
  refine lv_iconst (v := 0) hx hb d_M_price_7 (by decide) ?_
  refine lv_bipush (v := 23) hx hb d_M_price_8 (by decide) ?_
  have hPc := hP.sub (ws' := []) [] rfl
  have hDc := hD.sub (ws' := []) [] (by decide) rfl
  have hFc := va_A_nil hA hS.1
  refine va_calli (va_runS (As := [.int x, .int 0, .int 23]) (rest := [.ref m0]) ⟨hx, hb, hml, hown, hG⟩ (m_within l dC dI cI cJ cZ cB x 0 23 H.size ) (cwS 3 hG g_M_83 rfl rfl rfl (by decide +kernel) ⟨Nat.le_of_ble_eq_true rfl, Nat.le_of_ble_eq_true rfl⟩) ⟨PC.blind, PC.of hPc hK hDc hE hS hFc⟩ rfl rfl hl9.1 rfl (lv_room (Nat.le_of_ble_eq_true rfl)) d_M_price_10 ⟨by first | exact Nat.le_of_ble_eq_true rfl | omega, by first | exact Nat.le_of_ble_eq_true rfl | omega⟩) hS (fun q _ h => hFc q h) hFc (fun r2 u t H1 locs ht hvm hw hB hz1 hk1 hS => ?_)
  have hP := wp_kept hP hk1
  have hw : r2 = if ¬ (x < 0 ∨ 23 < x) then 1 else 0 := hw
  subst hw
  rw [wi_1 h1]
  refine lv_if_eq (tgt := 27) hx hb d_M_price_13 (by decide) (fun c3 => absurd c3 (by decide)) (fun c3 => ?_)
  refine lv_iload_n hx hb d_M_price_16 rfl (lv_at hl9 2 rfl) ?_
  refine lv_iconst (v := 0) hx hb d_M_price_17 (by decide) ?_
  refine lv_sipush (v := 1000) hx hb d_M_price_18 (by decide) ?_
  have hPc := hP.sub (ws' := []) [] rfl
  have hDc := hD.sub (ws' := []) [] (by decide) rfl
  have hFc := va_A_nil hA hS.1
  refine va_calli (va_runS (As := [.int y, .int 0, .int 1000]) (rest := [.ref m0]) ⟨hx, hb, hml, hown, hG⟩ (m_within l dC dI cI cJ cZ cB y 0 1000 H1.size ) (cwS 3 hG g_M_83 rfl rfl rfl (by decide +kernel) ⟨Nat.le_of_ble_eq_true rfl, Nat.le_of_ble_eq_true rfl⟩) ⟨PC.blind, PC.of hPc hK hDc hE hS hFc⟩ rfl rfl hl9.1 rfl (lv_room (Nat.le_of_ble_eq_true rfl)) d_M_price_21 ⟨by first | exact Nat.le_of_ble_eq_true rfl | omega, by first | exact Nat.le_of_ble_eq_true rfl | omega⟩) hS (fun q _ h => hFc q h) hFc (fun r5 u t H4 locs ht hvm hw hB hz1 hk1 hS => ?_)
  have hP := wp_kept hP hk1
  have hw : r5 = if ¬ (y < 0 ∨ 1000 < y) then 1 else 0 := hw
  subst hw
  rw [wi_1 h2]
  refine lv_if_ne (tgt := 31) hx hb d_M_price_24 (by decide) (fun c6 => ?_) (fun c6 => absurd c6 (by decide))
  refine lv_iconst (v := 0) hx hb d_M_price_31 (by decide) ?_
  refine lv_iconst (v := 1) hx hb d_M_price_32 (by decide) ?_
  have hPc := hP.sub (ws' := [(m0, .inr (3, [.int 0, .int zn, .ref mH, .ref mL, .ref mB, .ref mP, .ref mR, .ref mA, .ref mW, .ref mU, .ref mV, .int rw, .ref mM, .ref mT, .int mc, .ref mQ, .int ga, .int gb, .int kn, .ref mO, .ref mF, .ref mS, .ref mE, .ref mX, .ref mD]))]) [0] rfl
  have hDc := hD.sub (ws' := [(m0, .inr (3, [.int 0, .int zn, .ref mH, .ref mL, .ref mB, .ref mP, .ref mR, .ref mA, .ref mW, .ref mU, .ref mV, .int rw, .ref mM, .ref mT, .int mc, .ref mQ, .int ga, .int gb, .int kn, .ref mO, .ref mF, .ref mS, .ref mE, .ref mX, .ref mD]))]) [0] (by decide) rfl
  have hFc := va_free (wc := [(m0, .inr (3, [.int 0, .int zn, .ref mH, .ref mL, .ref mB, .ref mP, .ref mR, .ref mA, .ref mW, .ref mU, .ref mV, .int rw, .ref mM, .ref mT, .int mc, .ref mQ, .int ga, .int gb, .int kn, .ref mO, .ref mF, .ref mS, .ref mE, .ref mX, .ref mD]))]) hD hS hA [0] rfl
  refine va_calli (va_runV (C := R_M) (As := [.int 0, .int 1]) (rest := []) ⟨hx, hb, hml, hown, hG⟩ (m_fails001 l dC dI cI cJ cZ cB m0 mH mL mB mP mR mA mW mU mV mM mT mQ mO mF mS mE mX mD zn rw mc ga gb kn H4.size ) (cwV 2 hG g_M_87 rfl rfl rfl (by decide +kernel) ⟨Nat.le_of_ble_eq_true rfl, Nat.le_of_ble_eq_true rfl⟩) ⟨PC.blind, va_recv hK hP (ci := 3) (q0 := 0) rfl rfl, PC.of hPc hK hDc hE hS hFc⟩ rfl rfl hl9.1 rfl (lv_room (Nat.le_of_ble_eq_true rfl)) d_M_price_33 ⟨by first | exact Nat.le_of_ble_eq_true rfl | omega, by first | exact Nat.le_of_ble_eq_true rfl | omega⟩) hS (fun q _ h => hFc q h) hFc (fun r8 u t H7 locs ht hvm hw hB hz1 hk1 hS => ?_)
  rw [ht] at hB
  obtain ⟨hP, hD⟩ := jset (wc := [(m0, .inr (3, [.int 0, .int zn, .ref mH, .ref mL, .ref mB, .ref mP, .ref mR, .ref mA, .ref mW, .ref mU, .ref mV, .int rw, .ref mM, .ref mT, .int mc, .ref mQ, .int ga, .int gb, .int kn, .ref mO, .ref mF, .ref mS, .ref mE, .ref mX, .ref mD]))]) (w1 := [(m0, .inr (3, [.int 0, .int zn, .ref mH, .ref mL, .ref mB, .ref mP, .ref mR, .ref mA, .ref mW, .ref mU, .ref mV, .int rw, .ref mM, .ref mT, .int mc, .ref mQ, .int ga, .int gb, .int kn, .ref mO, .ref mF, .ref mS, .ref mE, .ref mX, .ref mD]))]) [0] rfl rfl hP hD hk1 hB
  have hP : va_P (dC, dI) vwCl [(m0, .inr (3, [.int 0, .int zn, .ref mH, .ref mL, .ref mB, .ref mP, .ref mR, .ref mA, .ref mW, .ref mU, .ref mV, .int rw, .ref mM, .ref mT, .int mc, .ref mQ, .int ga, .int gb, .int kn, .ref mO, .ref mF, .ref mS, .ref mE, .ref mX, .ref mD])), (mQ, .inl (cI, 24, .inl rQ))] H7 := hP
  have hD : va_D A [(m0, .inr (3, [.int 0, .int zn, .ref mH, .ref mL, .ref mB, .ref mP, .ref mR, .ref mA, .ref mW, .ref mU, .ref mV, .int rw, .ref mM, .ref mT, .int mc, .ref mQ, .int ga, .int gb, .int kn, .ref mO, .ref mF, .ref mS, .ref mE, .ref mX, .ref mD])), (mQ, .inl (cI, 24, .inl rQ))] := hD
  have hw : r8 = 0 := hw
  subst hw
  refine lv_if_eq (tgt := 41) hx hb d_M_price_36 (by decide) (fun c9 => ?_) (fun c9 => absurd c9 (by decide))
  refine lv_aload_n hx hb d_M_price_41 rfl (lv_at hl9 0 rfl) ?_
  refine va_get (D := (dC, dI)) (ci := 3) (v := .ref mQ) (C := R_M) (T := F_M) (N := 25) hx hb hG i_M hown hK hP 0 rfl rfl 15 (by decide) (hG _ k_455) (fun _ h9 => h9) rfl d_M_price_42 ?_
  refine lv_iload_n hx hb d_M_price_45 rfl (lv_at hl9 1 rfl) ?_
  refine va_iald hx hb hK hP 1 0 rfl rfl (hin) d_M_price_46 ?_
  refine lv_istore_n (lv' := [(3, .int (rQ x.toNatClampNeg)), (0, .ref m0), (1, .int x), (2, .int y)]) hx hb d_M_price_47 rfl hl9 (by decide) rfl (fun ls hl9 => ?_)
  refine lv_aload_n hx hb d_M_price_48 rfl (lv_at hl9 1 rfl) ?_
  refine va_get (D := (dC, dI)) (ci := 3) (v := .ref mQ) (C := R_M) (T := F_M) (N := 25) hx hb hG i_M hown hK hP 0 rfl rfl 15 (by decide) (hG _ k_455) (fun _ h9 => h9) rfl d_M_price_49 ?_
  refine lv_iload_n hx hb d_M_price_52 rfl (lv_at hl9 2 rfl) ?_
  refine lv_iload_n hx hb d_M_price_53 rfl (lv_at hl9 3 rfl) ?_
  refine va_iast hx hb hK hP hD hS 1 0 rfl rfl (hin) d_M_price_54 (fun H locs hP hD hS => ?_)
  have hP : va_P (dC, dI) vwCl [(m0, .inr (3, [.int 0, .int zn, .ref mH, .ref mL, .ref mB, .ref mP, .ref mR, .ref mA, .ref mW, .ref mU, .ref mV, .int rw, .ref mM, .ref mT, .int mc, .ref mQ, .int ga, .int gb, .int kn, .ref mO, .ref mF, .ref mS, .ref mE, .ref mX, .ref mD])), (mQ, .inl (cI, 24, .inl (upd rQ x.toNatClampNeg y)))] H := hP
  have hD : va_D A [(m0, .inr (3, [.int 0, .int zn, .ref mH, .ref mL, .ref mB, .ref mP, .ref mR, .ref mA, .ref mW, .ref mU, .ref mV, .int rw, .ref mM, .ref mT, .int mc, .ref mQ, .int ga, .int gb, .int kn, .ref mO, .ref mF, .ref mS, .ref mE, .ref mX, .ref mD])), (mQ, .inl (cI, 24, .inl (upd rQ x.toNatClampNeg y)))] := hD
  refine lv_iload_n hx hb d_M_price_55 rfl (lv_at hl9 0 rfl) ?_
  exact W.iret (v := (rQ x.toNatClampNeg)) hx hb hr (fun t ht hW => ⟨⟨(rQ x.toNatClampNeg), (), rfl, rfl, by have h9 := hP; rw [← ht] at h9; exact h9⟩, hS.F ht⟩) hS.2.2 d_M_price_56
set_option maxHeartbeats 4000000 in
set_option maxRecDepth 100000 in
theorem m_priceX (l : Launch) (dC : Nat → ClassId) (dI : Nat → Nat → Nat) (cI cJ cZ cB : ClassId) (m0 mH mL mB mP mR mA mW mU mV mM mT mQ mO mF mS mE mX mD : Nat) (th zn rw mc ga gb kn : Int32) (x y : Int32) (sz : Nat) (hx0 : (x < 0 ∨ 23 < x) ∨ (y < 0 ∨ 1000 < y)) : Met l y_M_price w_M_price ({ frames := 1, cells := 0, slots := 0, locals := 22 }) (PC (dC, dI) (TY cI cJ cZ cB) [.ref m0, .int x, .int y] [(m0, .inr (3, [.int th, .int zn, .ref mH, .ref mL, .ref mB, .ref mP, .ref mR, .ref mA, .ref mW, .ref mU, .ref mV, .int rw, .ref mM, .ref mT, .int mc, .ref mQ, .int ga, .int gb, .int kn, .ref mO, .ref mF, .ref mS, .ref mE, .ref mX, .ref mD]))] sz (va_A [(m0, .inr (3, [.int th, .int zn, .ref mH, .ref mL, .ref mB, .ref mP, .ref mR, .ref mA, .ref mW, .ref mU, .ref mV, .int rw, .ref mM, .ref mT, .int mc, .ref mQ, .int ga, .int gb, .int kn, .ref mO, .ref mF, .ref mS, .ref mE, .ref mX, .ref mD]))] sz)) (va_Qi (fun (r : Int32) (_ : Unit) => True) (fun (_ : Unit) (t : State) => va_P (dC, dI) vwCl [(m0, .inr (3, [.int 1, .int zn, .ref mH, .ref mL, .ref mB, .ref mP, .ref mR, .ref mA, .ref mW, .ref mU, .ref mV, .int rw, .ref mM, .ref mT, .int mc, .ref mQ, .int ga, .int gb, .int kn, .ref mO, .ref mF, .ref mS, .ref mE, .ref mX, .ref mD]))] t.heap) (va_A [(m0, .inr (3, [.int th, .int zn, .ref mH, .ref mL, .ref mB, .ref mP, .ref mR, .ref mA, .ref mW, .ref mU, .ref mV, .int rw, .ref mM, .ref mT, .int mc, .ref mQ, .int ga, .int gb, .int kn, .ref mO, .ref mF, .ref mS, .ref mE, .ref mX, .ref mD]))] sz)) 0 0 (va_A [(m0, .inr (3, [.int th, .int zn, .ref mH, .ref mL, .ref mB, .ref mP, .ref mR, .ref mA, .ref mW, .ref mU, .ref mV, .int rw, .ref mM, .ref mT, .int mc, .ref mQ, .int ga, .int gb, .int kn, .ref mO, .ref mF, .ref mS, .ref mE, .ref mX, .ref mD]))] sz) := by
  refine Met.ofW (cc := b_M_price) (maxL := 4) (ret := (some .int)) (by decide) rfl ?_
  intro p e s m args below meth c s₁ B hml hv
  obtain ⟨rfl, hsz, hP, hK, hD0, hE⟩ := hv
  have hx := B.exec
  have hb := B.bytes
  have hr := B.returns
  have hG : ∀ w ∈ GG, w.before _ s = true := fun w h => atoms_spec (ws := w_M_price) B.pre w (List.mem_cons_of_mem _ h)
  have hown : s.vm.findClass R_M = some m.cls := findClass_of_methodNamed B.named
  have hlocks := B.notSynchronized
  subst hsz
  have hD := hD0.self (sz := s.heap.size)
  generalize hAe : (va_A [(m0, .inr (3, [.int th, .int zn, .ref mH, .ref mL, .ref mB, .ref mP, .ref mR, .ref mA, .ref mW, .ref mU, .ref mV, .int rw, .ref mM, .ref mT, .int mc, .ref mQ, .int ga, .int gb, .int kn, .ref mO, .ref mF, .ref mS, .ref mE, .ref mX, .ref mD]))] s.heap.size) = A at hD hE ⊢
  have hA : ∀ q : Nat, s.heap.size ≤ q → A q := fun q h => by rw [← hAe]; exact Or.inr h
  have hS : va_S A s.heap s.heap [] := va_S.rf
  obtain ⟨H, hH⟩ : ∃ z, z = s.heap := ⟨_, rfl⟩
  rw [← hH] at hP
  have hS : va_S A s.heap H [] := by rw [hH]; exact hS
  rw [← hH]
  have hl9 := lv_entry ([.ref m0, .int x, .int y]) (n := 4) (Nat.le_of_ble_eq_true rfl)
  rw [lg_entry_eq]
  generalize (lg_sl ([.ref m0, .int x, .int y]) ++ List.replicate (4 - (lg_sl ([.ref m0, .int x, .int y])).length) Slot.unset).toArray = ls at hl9 ⊢
  have hl9 : lv_has ls 4 [(0, .ref m0), (1, .int x), (2, .int y)] := hl9
  by_cases h1 : (x < 0 ∨ 23 < x)
  · refine lv_aload_n hx hb d_M_price_0 rfl (lv_at hl9 0 rfl) ?_
    refine lv_iconst (v := 0) hx hb d_M_price_1 (by decide) ?_
    refine va_put (D := (dC, dI)) (ci := 3) (v := .int 0) (ty := .int) (C := R_M) (T := F_M) (N := 25) hx hb hG i_M t_M t_M_ok n_M hown hK hP hD hS 0 rfl rfl 0 (by decide) (hG _ k_440) (fun _ h9 => h9) rfl (by decide +kernel) rfl rfl (Nat.le_of_ble_eq_true rfl) d_M_price_2 (fun H locs hP hD hS => ?_)
    have hP : va_P (dC, dI) vwCl [(m0, .inr (3, [.int 0, .int zn, .ref mH, .ref mL, .ref mB, .ref mP, .ref mR, .ref mA, .ref mW, .ref mU, .ref mV, .int rw, .ref mM, .ref mT, .int mc, .ref mQ, .int ga, .int gb, .int kn, .ref mO, .ref mF, .ref mS, .ref mE, .ref mX, .ref mD]))] H := hP
    have hD : va_D A [(m0, .inr (3, [.int 0, .int zn, .ref mH, .ref mL, .ref mB, .ref mP, .ref mR, .ref mA, .ref mW, .ref mU, .ref mV, .int rw, .ref mM, .ref mT, .int mc, .ref mQ, .int ga, .int gb, .int kn, .ref mO, .ref mF, .ref mS, .ref mE, .ref mX, .ref mD]))] := hD
    refine lv_aload_n hx hb d_M_price_5 rfl (lv_at hl9 0 rfl) ?_
    refine lv_iload_n hx hb d_M_price_6 rfl (lv_at hl9 1 rfl) ?_
    refine lv_iconst (v := 0) hx hb d_M_price_7 (by decide) ?_
    refine lv_bipush (v := 23) hx hb d_M_price_8 (by decide) ?_
    have hPc := hP.sub (ws' := []) [] rfl
    have hDc := hD.sub (ws' := []) [] (by decide) rfl
    have hFc := va_A_nil hA hS.1
    refine va_calli (va_runS (As := [.int x, .int 0, .int 23]) (rest := [.ref m0]) ⟨hx, hb, hml, hown, hG⟩ (m_within l dC dI cI cJ cZ cB x 0 23 H.size ) (cwS 3 hG g_M_83 rfl rfl rfl (by decide +kernel) ⟨Nat.le_of_ble_eq_true rfl, Nat.le_of_ble_eq_true rfl⟩) ⟨PC.blind, PC.of hPc hK hDc hE hS hFc⟩ rfl rfl hl9.1 rfl (lv_room (Nat.le_of_ble_eq_true rfl)) d_M_price_10 ⟨by first | exact Nat.le_of_ble_eq_true rfl | omega, by first | exact Nat.le_of_ble_eq_true rfl | omega⟩) hS (fun q _ h => hFc q h) hFc (fun r2 u t H1 locs ht hvm hw hB hz1 hk1 hS => ?_)
    have hP := wp_kept hP hk1
    have hw : r2 = if ¬ (x < 0 ∨ 23 < x) then 1 else 0 := hw
    subst hw
    rw [wi_0 h1]
    refine lv_if_eq (tgt := 27) hx hb d_M_price_13 (by decide) (fun c3 => ?_) (fun c3 => absurd c3 (by decide))
    refine lv_iconst (v := 1) hx hb d_M_price_27 (by decide) ?_
    refine lv_goto (tgt := 32) hx hb d_M_price_28 (by decide) ?_
    refine lv_iconst (v := 1) hx hb d_M_price_32 (by decide) ?_
    have hPc := hP.sub (ws' := [(m0, .inr (3, [.int 0, .int zn, .ref mH, .ref mL, .ref mB, .ref mP, .ref mR, .ref mA, .ref mW, .ref mU, .ref mV, .int rw, .ref mM, .ref mT, .int mc, .ref mQ, .int ga, .int gb, .int kn, .ref mO, .ref mF, .ref mS, .ref mE, .ref mX, .ref mD]))]) [0] rfl
    have hDc := hD.sub (ws' := [(m0, .inr (3, [.int 0, .int zn, .ref mH, .ref mL, .ref mB, .ref mP, .ref mR, .ref mA, .ref mW, .ref mU, .ref mV, .int rw, .ref mM, .ref mT, .int mc, .ref mQ, .int ga, .int gb, .int kn, .ref mO, .ref mF, .ref mS, .ref mE, .ref mX, .ref mD]))]) [0] (by decide) rfl
    have hFc := va_free (wc := [(m0, .inr (3, [.int 0, .int zn, .ref mH, .ref mL, .ref mB, .ref mP, .ref mR, .ref mA, .ref mW, .ref mU, .ref mV, .int rw, .ref mM, .ref mT, .int mc, .ref mQ, .int ga, .int gb, .int kn, .ref mO, .ref mF, .ref mS, .ref mE, .ref mX, .ref mD]))]) hD hS hA [0] rfl
    refine va_calli (va_runV (C := R_M) (As := [.int 1, .int 1]) (rest := []) ⟨hx, hb, hml, hown, hG⟩ (m_fails011 l dC dI cI cJ cZ cB m0 mH mL mB mP mR mA mW mU mV mM mT mQ mO mF mS mE mX mD zn rw mc ga gb kn H1.size ) (cwV 2 hG g_M_87 rfl rfl rfl (by decide +kernel) ⟨Nat.le_of_ble_eq_true rfl, Nat.le_of_ble_eq_true rfl⟩) ⟨PC.blind, va_recv hK hP (ci := 3) (q0 := 0) rfl rfl, PC.of hPc hK hDc hE hS hFc⟩ rfl rfl hl9.1 rfl (lv_room (Nat.le_of_ble_eq_true rfl)) d_M_price_33 ⟨by first | exact Nat.le_of_ble_eq_true rfl | omega, by first | exact Nat.le_of_ble_eq_true rfl | omega⟩) hS (fun q _ h => hFc q h) hFc (fun r5 u t H4 locs ht hvm hw hB hz1 hk1 hS => ?_)
    rw [ht] at hB
    obtain ⟨hP, hD⟩ := jset (wc := [(m0, .inr (3, [.int 0, .int zn, .ref mH, .ref mL, .ref mB, .ref mP, .ref mR, .ref mA, .ref mW, .ref mU, .ref mV, .int rw, .ref mM, .ref mT, .int mc, .ref mQ, .int ga, .int gb, .int kn, .ref mO, .ref mF, .ref mS, .ref mE, .ref mX, .ref mD]))]) (w1 := [(m0, .inr (3, [.int 1, .int zn, .ref mH, .ref mL, .ref mB, .ref mP, .ref mR, .ref mA, .ref mW, .ref mU, .ref mV, .int rw, .ref mM, .ref mT, .int mc, .ref mQ, .int ga, .int gb, .int kn, .ref mO, .ref mF, .ref mS, .ref mE, .ref mX, .ref mD]))]) [0] rfl rfl hP hD hk1 hB
    have hP : va_P (dC, dI) vwCl [(m0, .inr (3, [.int 1, .int zn, .ref mH, .ref mL, .ref mB, .ref mP, .ref mR, .ref mA, .ref mW, .ref mU, .ref mV, .int rw, .ref mM, .ref mT, .int mc, .ref mQ, .int ga, .int gb, .int kn, .ref mO, .ref mF, .ref mS, .ref mE, .ref mX, .ref mD]))] H4 := hP
    have hD : va_D A [(m0, .inr (3, [.int 1, .int zn, .ref mH, .ref mL, .ref mB, .ref mP, .ref mR, .ref mA, .ref mW, .ref mU, .ref mV, .int rw, .ref mM, .ref mT, .int mc, .ref mQ, .int ga, .int gb, .int kn, .ref mO, .ref mF, .ref mS, .ref mE, .ref mX, .ref mD]))] := hD
    have hw : r5 = 1 := hw
    subst hw
    refine lv_if_eq (tgt := 41) hx hb d_M_price_36 (by decide) (fun c6 => absurd c6 (by decide)) (fun c6 => ?_)
    refine lv_iconst (v := 0) hx hb d_M_price_39 (by decide) ?_
    exact W.iret (v := 0) hx hb hr (fun t ht hW => ⟨⟨0, (), rfl, trivial, by have h9 := hP; rw [← ht] at h9; exact h9⟩, hS.F ht⟩) hS.2.2 d_M_price_40
  · have h2 := hx0.resolve_left h1
    refine lv_aload_n hx hb d_M_price_0 rfl (lv_at hl9 0 rfl) ?_
    refine lv_iconst (v := 0) hx hb d_M_price_1 (by decide) ?_
    refine va_put (D := (dC, dI)) (ci := 3) (v := .int 0) (ty := .int) (C := R_M) (T := F_M) (N := 25) hx hb hG i_M t_M t_M_ok n_M hown hK hP hD hS 0 rfl rfl 0 (by decide) (hG _ k_440) (fun _ h9 => h9) rfl (by decide +kernel) rfl rfl (Nat.le_of_ble_eq_true rfl) d_M_price_2 (fun H locs hP hD hS => ?_)
    have hP : va_P (dC, dI) vwCl [(m0, .inr (3, [.int 0, .int zn, .ref mH, .ref mL, .ref mB, .ref mP, .ref mR, .ref mA, .ref mW, .ref mU, .ref mV, .int rw, .ref mM, .ref mT, .int mc, .ref mQ, .int ga, .int gb, .int kn, .ref mO, .ref mF, .ref mS, .ref mE, .ref mX, .ref mD]))] H := hP
    have hD : va_D A [(m0, .inr (3, [.int 0, .int zn, .ref mH, .ref mL, .ref mB, .ref mP, .ref mR, .ref mA, .ref mW, .ref mU, .ref mV, .int rw, .ref mM, .ref mT, .int mc, .ref mQ, .int ga, .int gb, .int kn, .ref mO, .ref mF, .ref mS, .ref mE, .ref mX, .ref mD]))] := hD
    refine lv_aload_n hx hb d_M_price_5 rfl (lv_at hl9 0 rfl) ?_
    refine lv_iload_n hx hb d_M_price_6 rfl (lv_at hl9 1 rfl) ?_
    refine lv_iconst (v := 0) hx hb d_M_price_7 (by decide) ?_
    refine lv_bipush (v := 23) hx hb d_M_price_8 (by decide) ?_
    have hPc := hP.sub (ws' := []) [] rfl
    have hDc := hD.sub (ws' := []) [] (by decide) rfl
    have hFc := va_A_nil hA hS.1
    refine va_calli (va_runS (As := [.int x, .int 0, .int 23]) (rest := [.ref m0]) ⟨hx, hb, hml, hown, hG⟩ (m_within l dC dI cI cJ cZ cB x 0 23 H.size ) (cwS 3 hG g_M_83 rfl rfl rfl (by decide +kernel) ⟨Nat.le_of_ble_eq_true rfl, Nat.le_of_ble_eq_true rfl⟩) ⟨PC.blind, PC.of hPc hK hDc hE hS hFc⟩ rfl rfl hl9.1 rfl (lv_room (Nat.le_of_ble_eq_true rfl)) d_M_price_10 ⟨by first | exact Nat.le_of_ble_eq_true rfl | omega, by first | exact Nat.le_of_ble_eq_true rfl | omega⟩) hS (fun q _ h => hFc q h) hFc (fun r8 u t H7 locs ht hvm hw hB hz1 hk1 hS => ?_)
    have hP := wp_kept hP hk1
    have hw : r8 = if ¬ (x < 0 ∨ 23 < x) then 1 else 0 := hw
    subst hw
    rw [wi_1 h1]
    refine lv_if_eq (tgt := 27) hx hb d_M_price_13 (by decide) (fun c9 => absurd c9 (by decide)) (fun c9 => ?_)
    refine lv_iload_n hx hb d_M_price_16 rfl (lv_at hl9 2 rfl) ?_
    refine lv_iconst (v := 0) hx hb d_M_price_17 (by decide) ?_
    refine lv_sipush (v := 1000) hx hb d_M_price_18 (by decide) ?_
    have hPc := hP.sub (ws' := []) [] rfl
    have hDc := hD.sub (ws' := []) [] (by decide) rfl
    have hFc := va_A_nil hA hS.1
    refine va_calli (va_runS (As := [.int y, .int 0, .int 1000]) (rest := [.ref m0]) ⟨hx, hb, hml, hown, hG⟩ (m_within l dC dI cI cJ cZ cB y 0 1000 H7.size ) (cwS 3 hG g_M_83 rfl rfl rfl (by decide +kernel) ⟨Nat.le_of_ble_eq_true rfl, Nat.le_of_ble_eq_true rfl⟩) ⟨PC.blind, PC.of hPc hK hDc hE hS hFc⟩ rfl rfl hl9.1 rfl (lv_room (Nat.le_of_ble_eq_true rfl)) d_M_price_21 ⟨by first | exact Nat.le_of_ble_eq_true rfl | omega, by first | exact Nat.le_of_ble_eq_true rfl | omega⟩) hS (fun q _ h => hFc q h) hFc (fun r11 u t H10 locs ht hvm hw hB hz1 hk1 hS => ?_)
    have hP := wp_kept hP hk1
    have hw : r11 = if ¬ (y < 0 ∨ 1000 < y) then 1 else 0 := hw
    subst hw
    rw [wi_0 h2]
    refine lv_if_ne (tgt := 31) hx hb d_M_price_24 (by decide) (fun c12 => absurd c12 (by decide)) (fun c12 => ?_)
    refine lv_iconst (v := 1) hx hb d_M_price_27 (by decide) ?_
    refine lv_goto (tgt := 32) hx hb d_M_price_28 (by decide) ?_
    refine lv_iconst (v := 1) hx hb d_M_price_32 (by decide) ?_
    have hPc := hP.sub (ws' := [(m0, .inr (3, [.int 0, .int zn, .ref mH, .ref mL, .ref mB, .ref mP, .ref mR, .ref mA, .ref mW, .ref mU, .ref mV, .int rw, .ref mM, .ref mT, .int mc, .ref mQ, .int ga, .int gb, .int kn, .ref mO, .ref mF, .ref mS, .ref mE, .ref mX, .ref mD]))]) [0] rfl
    have hDc := hD.sub (ws' := [(m0, .inr (3, [.int 0, .int zn, .ref mH, .ref mL, .ref mB, .ref mP, .ref mR, .ref mA, .ref mW, .ref mU, .ref mV, .int rw, .ref mM, .ref mT, .int mc, .ref mQ, .int ga, .int gb, .int kn, .ref mO, .ref mF, .ref mS, .ref mE, .ref mX, .ref mD]))]) [0] (by decide) rfl
    have hFc := va_free (wc := [(m0, .inr (3, [.int 0, .int zn, .ref mH, .ref mL, .ref mB, .ref mP, .ref mR, .ref mA, .ref mW, .ref mU, .ref mV, .int rw, .ref mM, .ref mT, .int mc, .ref mQ, .int ga, .int gb, .int kn, .ref mO, .ref mF, .ref mS, .ref mE, .ref mX, .ref mD]))]) hD hS hA [0] rfl
    refine va_calli (va_runV (C := R_M) (As := [.int 1, .int 1]) (rest := []) ⟨hx, hb, hml, hown, hG⟩ (m_fails011 l dC dI cI cJ cZ cB m0 mH mL mB mP mR mA mW mU mV mM mT mQ mO mF mS mE mX mD zn rw mc ga gb kn H10.size ) (cwV 2 hG g_M_87 rfl rfl rfl (by decide +kernel) ⟨Nat.le_of_ble_eq_true rfl, Nat.le_of_ble_eq_true rfl⟩) ⟨PC.blind, va_recv hK hP (ci := 3) (q0 := 0) rfl rfl, PC.of hPc hK hDc hE hS hFc⟩ rfl rfl hl9.1 rfl (lv_room (Nat.le_of_ble_eq_true rfl)) d_M_price_33 ⟨by first | exact Nat.le_of_ble_eq_true rfl | omega, by first | exact Nat.le_of_ble_eq_true rfl | omega⟩) hS (fun q _ h => hFc q h) hFc (fun r14 u t H13 locs ht hvm hw hB hz1 hk1 hS => ?_)
    rw [ht] at hB
    obtain ⟨hP, hD⟩ := jset (wc := [(m0, .inr (3, [.int 0, .int zn, .ref mH, .ref mL, .ref mB, .ref mP, .ref mR, .ref mA, .ref mW, .ref mU, .ref mV, .int rw, .ref mM, .ref mT, .int mc, .ref mQ, .int ga, .int gb, .int kn, .ref mO, .ref mF, .ref mS, .ref mE, .ref mX, .ref mD]))]) (w1 := [(m0, .inr (3, [.int 1, .int zn, .ref mH, .ref mL, .ref mB, .ref mP, .ref mR, .ref mA, .ref mW, .ref mU, .ref mV, .int rw, .ref mM, .ref mT, .int mc, .ref mQ, .int ga, .int gb, .int kn, .ref mO, .ref mF, .ref mS, .ref mE, .ref mX, .ref mD]))]) [0] rfl rfl hP hD hk1 hB
    have hP : va_P (dC, dI) vwCl [(m0, .inr (3, [.int 1, .int zn, .ref mH, .ref mL, .ref mB, .ref mP, .ref mR, .ref mA, .ref mW, .ref mU, .ref mV, .int rw, .ref mM, .ref mT, .int mc, .ref mQ, .int ga, .int gb, .int kn, .ref mO, .ref mF, .ref mS, .ref mE, .ref mX, .ref mD]))] H13 := hP
    have hD : va_D A [(m0, .inr (3, [.int 1, .int zn, .ref mH, .ref mL, .ref mB, .ref mP, .ref mR, .ref mA, .ref mW, .ref mU, .ref mV, .int rw, .ref mM, .ref mT, .int mc, .ref mQ, .int ga, .int gb, .int kn, .ref mO, .ref mF, .ref mS, .ref mE, .ref mX, .ref mD]))] := hD
    have hw : r14 = 1 := hw
    subst hw
    refine lv_if_eq (tgt := 41) hx hb d_M_price_36 (by decide) (fun c15 => absurd c15 (by decide)) (fun c15 => ?_)
    refine lv_iconst (v := 0) hx hb d_M_price_39 (by decide) ?_
    exact W.iret (v := 0) hx hb hr (fun t ht hW => ⟨⟨0, (), rfl, trivial, by have h9 := hP; rw [← ht] at h9; exact h9⟩, hS.F ht⟩) hS.2.2 d_M_price_40
set_option maxHeartbeats 4000000 in
set_option maxRecDepth 100000 in
theorem m_zone (l : Launch) (dC : Nat → ClassId) (dI : Nat → Nat → Nat) (cI cJ cZ cB : ClassId) (m0 mH mL mB mP mR mA mW mU mV mM mT mQ mO mF mS mE mX mD : Nat) (th zn rw mc ga gb kn : Int32) (rH rL rP rA : Nat → Int32) (rV : Nat → Int64) (nz : Nat) (x y : Int32) (sz : Nat) (hlt : nz < 6) (hx0 : ¬ ((x < 1 ∨ 1000 < x) ∨ (y < 1 ∨ 1000 < y))) : Met l y_M_zone w_M_zone ({ frames := 1, cells := 0, slots := 0, locals := 22 }) (PC (dC, dI) (TY cI cJ cZ cB) [.ref m0, .int x, .int y] [(m0, .inr (3, [.int th, .int (nI nz), .ref mH, .ref mL, .ref mB, .ref mP, .ref mR, .ref mA, .ref mW, .ref mU, .ref mV, .int rw, .ref mM, .ref mT, .int mc, .ref mQ, .int ga, .int gb, .int kn, .ref mO, .ref mF, .ref mS, .ref mE, .ref mX, .ref mD])), (mH, .inl (cI, 6, .inl rH)), (mL, .inl (cI, 6, .inl rL)), (mP, .inl (cI, 6, .inl rP)), (mA, .inl (cI, 6, .inl rA)), (mV, .inl (cJ, 6, .inr (.inl rV)))] sz (va_A [(m0, .inr (3, [.int th, .int (nI nz), .ref mH, .ref mL, .ref mB, .ref mP, .ref mR, .ref mA, .ref mW, .ref mU, .ref mV, .int rw, .ref mM, .ref mT, .int mc, .ref mQ, .int ga, .int gb, .int kn, .ref mO, .ref mF, .ref mS, .ref mE, .ref mX, .ref mD])), (mH, .inl (cI, 6, .inl rH)), (mL, .inl (cI, 6, .inl rL)), (mP, .inl (cI, 6, .inl rP)), (mA, .inl (cI, 6, .inl rA)), (mV, .inl (cJ, 6, .inr (.inl rV)))] sz)) (va_Qi (fun (r : Int32) (_ : Unit) => r = nI nz) (fun (_ : Unit) (t : State) => va_P (dC, dI) vwCl [(m0, .inr (3, [.int 0, .int (nI (nz + 1)), .ref mH, .ref mL, .ref mB, .ref mP, .ref mR, .ref mA, .ref mW, .ref mU, .ref mV, .int rw, .ref mM, .ref mT, .int mc, .ref mQ, .int ga, .int gb, .int 0, .ref mO, .ref mF, .ref mS, .ref mE, .ref mX, .ref mD])), (mH, .inl (cI, 6, .inl (upd rH nz x))), (mL, .inl (cI, 6, .inl (upd rL nz y))), (mP, .inl (cI, 6, .inl (upd rP nz 1000))), (mA, .inl (cI, 6, .inl (upd rA nz (-1)))), (mV, .inl (cJ, 6, .inr (.inl (vp_updL rV nz 1))))] t.heap) (va_A [(m0, .inr (3, [.int th, .int (nI nz), .ref mH, .ref mL, .ref mB, .ref mP, .ref mR, .ref mA, .ref mW, .ref mU, .ref mV, .int rw, .ref mM, .ref mT, .int mc, .ref mQ, .int ga, .int gb, .int kn, .ref mO, .ref mF, .ref mS, .ref mE, .ref mX, .ref mD])), (mH, .inl (cI, 6, .inl rH)), (mL, .inl (cI, 6, .inl rL)), (mP, .inl (cI, 6, .inl rP)), (mA, .inl (cI, 6, .inl rA)), (mV, .inl (cJ, 6, .inr (.inl rV)))] sz)) 0 0 (va_A [(m0, .inr (3, [.int th, .int (nI nz), .ref mH, .ref mL, .ref mB, .ref mP, .ref mR, .ref mA, .ref mW, .ref mU, .ref mV, .int rw, .ref mM, .ref mT, .int mc, .ref mQ, .int ga, .int gb, .int kn, .ref mO, .ref mF, .ref mS, .ref mE, .ref mX, .ref mD])), (mH, .inl (cI, 6, .inl rH)), (mL, .inl (cI, 6, .inl rL)), (mP, .inl (cI, 6, .inl rP)), (mA, .inl (cI, 6, .inl rA)), (mV, .inl (cJ, 6, .inr (.inl rV)))] sz) := by
  refine Met.ofW (cc := b_M_zone) (maxL := 3) (ret := (some .int)) (by decide) rfl ?_
  intro p e s m args below meth c s₁ B hml hv
  obtain ⟨rfl, hsz, hP, hK, hD0, hE⟩ := hv
  have hx := B.exec
  have hb := B.bytes
  have hr := B.returns
  have hG : ∀ w ∈ GG, w.before _ s = true := fun w h => atoms_spec (ws := w_M_zone) B.pre w (List.mem_cons_of_mem _ h)
  have hown : s.vm.findClass R_M = some m.cls := findClass_of_methodNamed B.named
  have hlocks := B.notSynchronized
  subst hsz
  have hD := hD0.self (sz := s.heap.size)
  generalize hAe : (va_A [(m0, .inr (3, [.int th, .int (nI nz), .ref mH, .ref mL, .ref mB, .ref mP, .ref mR, .ref mA, .ref mW, .ref mU, .ref mV, .int rw, .ref mM, .ref mT, .int mc, .ref mQ, .int ga, .int gb, .int kn, .ref mO, .ref mF, .ref mS, .ref mE, .ref mX, .ref mD])), (mH, .inl (cI, 6, .inl rH)), (mL, .inl (cI, 6, .inl rL)), (mP, .inl (cI, 6, .inl rP)), (mA, .inl (cI, 6, .inl rA)), (mV, .inl (cJ, 6, .inr (.inl rV)))] s.heap.size) = A at hD hE ⊢
  have hA : ∀ q : Nat, s.heap.size ≤ q → A q := fun q h => by rw [← hAe]; exact Or.inr h
  have hS : va_S A s.heap s.heap [] := va_S.rf
  obtain ⟨H, hH⟩ : ∃ z, z = s.heap := ⟨_, rfl⟩
  rw [← hH] at hP
  have hS : va_S A s.heap H [] := by rw [hH]; exact hS
  rw [← hH]
  have hl9 := lv_entry ([.ref m0, .int x, .int y]) (n := 3) (Nat.le_of_ble_eq_true rfl)
  rw [lg_entry_eq]
  generalize (lg_sl ([.ref m0, .int x, .int y]) ++ List.replicate (3 - (lg_sl ([.ref m0, .int x, .int y])).length) Slot.unset).toArray = ls at hl9 ⊢
  have hl9 : lv_has ls 3 [(0, .ref m0), (1, .int x), (2, .int y)] := hl9
  have h1 := fun q => hx0 (Or.inl q)
  have h2 := fun q => hx0 (Or.inr q)
  have hin : vp_in (nI nz) 6 := vp_in_nI hlt (by decide)
  refine lv_aload_n hx hb d_M_zone_0 rfl (lv_at hl9 0 rfl) ?_
  refine lv_iconst (v := 0) hx hb d_M_zone_1 (by decide) ?_
  refine va_put (D := (dC, dI)) (ci := 3) (v := .int 0) (ty := .int) (C := R_M) (T := F_M) (N := 25) hx hb hG i_M t_M t_M_ok n_M hown hK hP hD hS 0 rfl rfl 0 (by decide) (hG _ k_440) (fun _ h9 => h9) rfl (by decide +kernel) rfl rfl (Nat.le_of_ble_eq_true rfl) d_M_zone_2 (fun H locs hP hD hS => ?_)
  have hP : va_P (dC, dI) vwCl [(m0, .inr (3, [.int 0, .int (nI nz), .ref mH, .ref mL, .ref mB, .ref mP, .ref mR, .ref mA, .ref mW, .ref mU, .ref mV, .int rw, .ref mM, .ref mT, .int mc, .ref mQ, .int ga, .int gb, .int kn, .ref mO, .ref mF, .ref mS, .ref mE, .ref mX, .ref mD])), (mH, .inl (cI, 6, .inl rH)), (mL, .inl (cI, 6, .inl rL)), (mP, .inl (cI, 6, .inl rP)), (mA, .inl (cI, 6, .inl rA)), (mV, .inl (cJ, 6, .inr (.inl rV)))] H := hP
  have hD : va_D A [(m0, .inr (3, [.int 0, .int (nI nz), .ref mH, .ref mL, .ref mB, .ref mP, .ref mR, .ref mA, .ref mW, .ref mU, .ref mV, .int rw, .ref mM, .ref mT, .int mc, .ref mQ, .int ga, .int gb, .int kn, .ref mO, .ref mF, .ref mS, .ref mE, .ref mX, .ref mD])), (mH, .inl (cI, 6, .inl rH)), (mL, .inl (cI, 6, .inl rL)), (mP, .inl (cI, 6, .inl rP)), (mA, .inl (cI, 6, .inl rA)), (mV, .inl (cJ, 6, .inr (.inl rV)))] := hD
  refine lv_aload_n hx hb d_M_zone_5 rfl (lv_at hl9 0 rfl) ?_
  refine lv_iload_n hx hb d_M_zone_6 rfl (lv_at hl9 1 rfl) ?_
  refine lv_iconst (v := 1) hx hb d_M_zone_7 (by decide) ?_
  refine lv_sipush (v := 1000) hx hb d_M_zone_8 (by decide) ?_
  have hPc := hP.sub (ws' := []) [] rfl
  have hDc := hD.sub (ws' := []) [] (by decide) rfl
  have hFc := va_A_nil hA hS.1
  refine va_calli (va_runS (As := [.int x, .int 1, .int 1000]) (rest := [.ref m0]) ⟨hx, hb, hml, hown, hG⟩ (m_within l dC dI cI cJ cZ cB x 1 1000 H.size ) (cwS 3 hG g_M_83 rfl rfl rfl (by decide +kernel) ⟨Nat.le_of_ble_eq_true rfl, Nat.le_of_ble_eq_true rfl⟩) ⟨PC.blind, PC.of hPc hK hDc hE hS hFc⟩ rfl rfl hl9.1 rfl (lv_room (Nat.le_of_ble_eq_true rfl)) d_M_zone_11 ⟨by first | exact Nat.le_of_ble_eq_true rfl | omega, by first | exact Nat.le_of_ble_eq_true rfl | omega⟩) hS (fun q _ h => hFc q h) hFc (fun r2 u t H1 locs ht hvm hw hB hz1 hk1 hS => ?_)
  have hP := wp_kept hP hk1
  have hw : r2 = if ¬ (x < 1 ∨ 1000 < x) then 1 else 0 := hw
  subst hw
  rw [wi_1 h1]
  refine lv_if_eq (tgt := 28) hx hb d_M_zone_14 (by decide) (fun c3 => absurd c3 (by decide)) (fun c3 => ?_)
  refine lv_iload_n hx hb d_M_zone_17 rfl (lv_at hl9 2 rfl) ?_
  refine lv_iconst (v := 1) hx hb d_M_zone_18 (by decide) ?_
  refine lv_sipush (v := 1000) hx hb d_M_zone_19 (by decide) ?_
  have hPc := hP.sub (ws' := []) [] rfl
  have hDc := hD.sub (ws' := []) [] (by decide) rfl
  have hFc := va_A_nil hA hS.1
  refine va_calli (va_runS (As := [.int y, .int 1, .int 1000]) (rest := [.ref m0]) ⟨hx, hb, hml, hown, hG⟩ (m_within l dC dI cI cJ cZ cB y 1 1000 H1.size ) (cwS 3 hG g_M_83 rfl rfl rfl (by decide +kernel) ⟨Nat.le_of_ble_eq_true rfl, Nat.le_of_ble_eq_true rfl⟩) ⟨PC.blind, PC.of hPc hK hDc hE hS hFc⟩ rfl rfl hl9.1 rfl (lv_room (Nat.le_of_ble_eq_true rfl)) d_M_zone_22 ⟨by first | exact Nat.le_of_ble_eq_true rfl | omega, by first | exact Nat.le_of_ble_eq_true rfl | omega⟩) hS (fun q _ h => hFc q h) hFc (fun r5 u t H4 locs ht hvm hw hB hz1 hk1 hS => ?_)
  have hP := wp_kept hP hk1
  have hw : r5 = if ¬ (y < 1 ∨ 1000 < y) then 1 else 0 := hw
  subst hw
  rw [wi_1 h2]
  refine lv_if_ne (tgt := 32) hx hb d_M_zone_25 (by decide) (fun c6 => ?_) (fun c6 => absurd c6 (by decide))
  refine lv_iconst (v := 0) hx hb d_M_zone_32 (by decide) ?_
  refine lv_iconst (v := 1) hx hb d_M_zone_33 (by decide) ?_
  have hPc := hP.sub (ws' := [(m0, .inr (3, [.int 0, .int (nI nz), .ref mH, .ref mL, .ref mB, .ref mP, .ref mR, .ref mA, .ref mW, .ref mU, .ref mV, .int rw, .ref mM, .ref mT, .int mc, .ref mQ, .int ga, .int gb, .int kn, .ref mO, .ref mF, .ref mS, .ref mE, .ref mX, .ref mD]))]) [0] rfl
  have hDc := hD.sub (ws' := [(m0, .inr (3, [.int 0, .int (nI nz), .ref mH, .ref mL, .ref mB, .ref mP, .ref mR, .ref mA, .ref mW, .ref mU, .ref mV, .int rw, .ref mM, .ref mT, .int mc, .ref mQ, .int ga, .int gb, .int kn, .ref mO, .ref mF, .ref mS, .ref mE, .ref mX, .ref mD]))]) [0] (by decide) rfl
  have hFc := va_free (wc := [(m0, .inr (3, [.int 0, .int (nI nz), .ref mH, .ref mL, .ref mB, .ref mP, .ref mR, .ref mA, .ref mW, .ref mU, .ref mV, .int rw, .ref mM, .ref mT, .int mc, .ref mQ, .int ga, .int gb, .int kn, .ref mO, .ref mF, .ref mS, .ref mE, .ref mX, .ref mD]))]) hD hS hA [0] rfl
  refine va_calli (va_runV (C := R_M) (As := [.int 0, .int 1]) (rest := []) ⟨hx, hb, hml, hown, hG⟩ (m_fails001 l dC dI cI cJ cZ cB m0 mH mL mB mP mR mA mW mU mV mM mT mQ mO mF mS mE mX mD (nI nz) rw mc ga gb kn H4.size ) (cwV 2 hG g_M_87 rfl rfl rfl (by decide +kernel) ⟨Nat.le_of_ble_eq_true rfl, Nat.le_of_ble_eq_true rfl⟩) ⟨PC.blind, va_recv hK hP (ci := 3) (q0 := 0) rfl rfl, PC.of hPc hK hDc hE hS hFc⟩ rfl rfl hl9.1 rfl (lv_room (Nat.le_of_ble_eq_true rfl)) d_M_zone_34 ⟨by first | exact Nat.le_of_ble_eq_true rfl | omega, by first | exact Nat.le_of_ble_eq_true rfl | omega⟩) hS (fun q _ h => hFc q h) hFc (fun r8 u t H7 locs ht hvm hw hB hz1 hk1 hS => ?_)
  rw [ht] at hB
  obtain ⟨hP, hD⟩ := jset (wc := [(m0, .inr (3, [.int 0, .int (nI nz), .ref mH, .ref mL, .ref mB, .ref mP, .ref mR, .ref mA, .ref mW, .ref mU, .ref mV, .int rw, .ref mM, .ref mT, .int mc, .ref mQ, .int ga, .int gb, .int kn, .ref mO, .ref mF, .ref mS, .ref mE, .ref mX, .ref mD]))]) (w1 := [(m0, .inr (3, [.int 0, .int (nI nz), .ref mH, .ref mL, .ref mB, .ref mP, .ref mR, .ref mA, .ref mW, .ref mU, .ref mV, .int rw, .ref mM, .ref mT, .int mc, .ref mQ, .int ga, .int gb, .int kn, .ref mO, .ref mF, .ref mS, .ref mE, .ref mX, .ref mD]))]) [0] rfl rfl hP hD hk1 hB
  have hP : va_P (dC, dI) vwCl [(m0, .inr (3, [.int 0, .int (nI nz), .ref mH, .ref mL, .ref mB, .ref mP, .ref mR, .ref mA, .ref mW, .ref mU, .ref mV, .int rw, .ref mM, .ref mT, .int mc, .ref mQ, .int ga, .int gb, .int kn, .ref mO, .ref mF, .ref mS, .ref mE, .ref mX, .ref mD])), (mH, .inl (cI, 6, .inl rH)), (mL, .inl (cI, 6, .inl rL)), (mP, .inl (cI, 6, .inl rP)), (mA, .inl (cI, 6, .inl rA)), (mV, .inl (cJ, 6, .inr (.inl rV)))] H7 := hP
  have hD : va_D A [(m0, .inr (3, [.int 0, .int (nI nz), .ref mH, .ref mL, .ref mB, .ref mP, .ref mR, .ref mA, .ref mW, .ref mU, .ref mV, .int rw, .ref mM, .ref mT, .int mc, .ref mQ, .int ga, .int gb, .int kn, .ref mO, .ref mF, .ref mS, .ref mE, .ref mX, .ref mD])), (mH, .inl (cI, 6, .inl rH)), (mL, .inl (cI, 6, .inl rL)), (mP, .inl (cI, 6, .inl rP)), (mA, .inl (cI, 6, .inl rA)), (mV, .inl (cJ, 6, .inr (.inl rV)))] := hD
  have hw : r8 = 0 := hw
  subst hw
  refine lv_pop hx hb d_M_zone_37 rfl ?_
  refine lv_aload_n hx hb d_M_zone_38 rfl (lv_at hl9 0 rfl) ?_
  refine lv_aload_n hx hb d_M_zone_39 rfl (lv_at hl9 0 rfl) ?_
  refine va_get (D := (dC, dI)) (ci := 3) (v := .int (nI nz)) (C := R_M) (T := F_M) (N := 25) hx hb hG i_M hown hK hP 0 rfl rfl 1 (by decide) (hG _ k_441) (fun _ h9 => h9) rfl d_M_zone_40 ?_
  refine lv_bipush (v := 6) hx hb d_M_zone_43 (by decide) ?_
  refine lv_icmp_ne (tgt := 52) hx hb d_M_zone_45 (by decide) (fun c1 => ?_) (fun c1 => absurd c1 (fun h => absurd ((nI_eq (a := nz) (b := 6) (by omega) (by decide)).mp h) (by omega)))
  refine lv_iconst (v := 0) hx hb d_M_zone_52 (by decide) ?_
  refine lv_iconst (v := 2) hx hb d_M_zone_53 (by decide) ?_
  have hPc := hP.sub (ws' := [(m0, .inr (3, [.int 0, .int (nI nz), .ref mH, .ref mL, .ref mB, .ref mP, .ref mR, .ref mA, .ref mW, .ref mU, .ref mV, .int rw, .ref mM, .ref mT, .int mc, .ref mQ, .int ga, .int gb, .int kn, .ref mO, .ref mF, .ref mS, .ref mE, .ref mX, .ref mD]))]) [0] rfl
  have hDc := hD.sub (ws' := [(m0, .inr (3, [.int 0, .int (nI nz), .ref mH, .ref mL, .ref mB, .ref mP, .ref mR, .ref mA, .ref mW, .ref mU, .ref mV, .int rw, .ref mM, .ref mT, .int mc, .ref mQ, .int ga, .int gb, .int kn, .ref mO, .ref mF, .ref mS, .ref mE, .ref mX, .ref mD]))]) [0] (by decide) rfl
  have hFc := va_free (wc := [(m0, .inr (3, [.int 0, .int (nI nz), .ref mH, .ref mL, .ref mB, .ref mP, .ref mR, .ref mA, .ref mW, .ref mU, .ref mV, .int rw, .ref mM, .ref mT, .int mc, .ref mQ, .int ga, .int gb, .int kn, .ref mO, .ref mF, .ref mS, .ref mE, .ref mX, .ref mD]))]) hD hS hA [0] rfl
  refine va_calli (va_runV (C := R_M) (As := [.int 0, .int 2]) (rest := []) ⟨hx, hb, hml, hown, hG⟩ (m_fails002 l dC dI cI cJ cZ cB m0 mH mL mB mP mR mA mW mU mV mM mT mQ mO mF mS mE mX mD (nI nz) rw mc ga gb kn H7.size ) (cwV 2 hG g_M_87 rfl rfl rfl (by decide +kernel) ⟨Nat.le_of_ble_eq_true rfl, Nat.le_of_ble_eq_true rfl⟩) ⟨PC.blind, va_recv hK hP (ci := 3) (q0 := 0) rfl rfl, PC.of hPc hK hDc hE hS hFc⟩ rfl rfl hl9.1 rfl (lv_room (Nat.le_of_ble_eq_true rfl)) d_M_zone_54 ⟨by first | exact Nat.le_of_ble_eq_true rfl | omega, by first | exact Nat.le_of_ble_eq_true rfl | omega⟩) hS (fun q _ h => hFc q h) hFc (fun r10 u t H9 locs ht hvm hw hB hz1 hk1 hS => ?_)
  rw [ht] at hB
  obtain ⟨hP, hD⟩ := jset (wc := [(m0, .inr (3, [.int 0, .int (nI nz), .ref mH, .ref mL, .ref mB, .ref mP, .ref mR, .ref mA, .ref mW, .ref mU, .ref mV, .int rw, .ref mM, .ref mT, .int mc, .ref mQ, .int ga, .int gb, .int kn, .ref mO, .ref mF, .ref mS, .ref mE, .ref mX, .ref mD]))]) (w1 := [(m0, .inr (3, [.int 0, .int (nI nz), .ref mH, .ref mL, .ref mB, .ref mP, .ref mR, .ref mA, .ref mW, .ref mU, .ref mV, .int rw, .ref mM, .ref mT, .int mc, .ref mQ, .int ga, .int gb, .int kn, .ref mO, .ref mF, .ref mS, .ref mE, .ref mX, .ref mD]))]) [0] rfl rfl hP hD hk1 hB
  have hP : va_P (dC, dI) vwCl [(m0, .inr (3, [.int 0, .int (nI nz), .ref mH, .ref mL, .ref mB, .ref mP, .ref mR, .ref mA, .ref mW, .ref mU, .ref mV, .int rw, .ref mM, .ref mT, .int mc, .ref mQ, .int ga, .int gb, .int kn, .ref mO, .ref mF, .ref mS, .ref mE, .ref mX, .ref mD])), (mH, .inl (cI, 6, .inl rH)), (mL, .inl (cI, 6, .inl rL)), (mP, .inl (cI, 6, .inl rP)), (mA, .inl (cI, 6, .inl rA)), (mV, .inl (cJ, 6, .inr (.inl rV)))] H9 := hP
  have hD : va_D A [(m0, .inr (3, [.int 0, .int (nI nz), .ref mH, .ref mL, .ref mB, .ref mP, .ref mR, .ref mA, .ref mW, .ref mU, .ref mV, .int rw, .ref mM, .ref mT, .int mc, .ref mQ, .int ga, .int gb, .int kn, .ref mO, .ref mF, .ref mS, .ref mE, .ref mX, .ref mD])), (mH, .inl (cI, 6, .inl rH)), (mL, .inl (cI, 6, .inl rL)), (mP, .inl (cI, 6, .inl rP)), (mA, .inl (cI, 6, .inl rA)), (mV, .inl (cJ, 6, .inr (.inl rV)))] := hD
  have hw : r10 = 0 := hw
  subst hw
  refine lv_if_eq (tgt := 62) hx hb d_M_zone_57 (by decide) (fun c11 => ?_) (fun c11 => absurd c11 (by decide))
  refine lv_aload_n hx hb d_M_zone_62 rfl (lv_at hl9 0 rfl) ?_
  refine va_get (D := (dC, dI)) (ci := 3) (v := .ref mH) (C := R_M) (T := F_M) (N := 25) hx hb hG i_M hown hK hP 0 rfl rfl 2 (by decide) (hG _ k_442) (fun _ h9 => h9) rfl d_M_zone_63 ?_
  refine lv_aload_n hx hb d_M_zone_66 rfl (lv_at hl9 0 rfl) ?_
  refine va_get (D := (dC, dI)) (ci := 3) (v := .int (nI nz)) (C := R_M) (T := F_M) (N := 25) hx hb hG i_M hown hK hP 0 rfl rfl 1 (by decide) (hG _ k_441) (fun _ h9 => h9) rfl d_M_zone_67 ?_
  refine lv_iload_n hx hb d_M_zone_70 rfl (lv_at hl9 1 rfl) ?_
  refine va_iast hx hb hK hP hD hS 1 0 rfl rfl (hin) d_M_zone_71 (fun H locs hP hD hS => ?_)
  have hP : va_P (dC, dI) vwCl [(m0, .inr (3, [.int 0, .int (nI nz), .ref mH, .ref mL, .ref mB, .ref mP, .ref mR, .ref mA, .ref mW, .ref mU, .ref mV, .int rw, .ref mM, .ref mT, .int mc, .ref mQ, .int ga, .int gb, .int kn, .ref mO, .ref mF, .ref mS, .ref mE, .ref mX, .ref mD])), (mH, .inl (cI, 6, .inl (upd rH (nI nz).toNatClampNeg x))), (mL, .inl (cI, 6, .inl rL)), (mP, .inl (cI, 6, .inl rP)), (mA, .inl (cI, 6, .inl rA)), (mV, .inl (cJ, 6, .inr (.inl rV)))] H := hP
  have hD : va_D A [(m0, .inr (3, [.int 0, .int (nI nz), .ref mH, .ref mL, .ref mB, .ref mP, .ref mR, .ref mA, .ref mW, .ref mU, .ref mV, .int rw, .ref mM, .ref mT, .int mc, .ref mQ, .int ga, .int gb, .int kn, .ref mO, .ref mF, .ref mS, .ref mE, .ref mX, .ref mD])), (mH, .inl (cI, 6, .inl (upd rH (nI nz).toNatClampNeg x))), (mL, .inl (cI, 6, .inl rL)), (mP, .inl (cI, 6, .inl rP)), (mA, .inl (cI, 6, .inl rA)), (mV, .inl (cJ, 6, .inr (.inl rV)))] := hD
  refine lv_aload_n hx hb d_M_zone_72 rfl (lv_at hl9 0 rfl) ?_
  refine va_get (D := (dC, dI)) (ci := 3) (v := .ref mL) (C := R_M) (T := F_M) (N := 25) hx hb hG i_M hown hK hP 0 rfl rfl 3 (by decide) (hG _ k_443) (fun _ h9 => h9) rfl d_M_zone_73 ?_
  refine lv_aload_n hx hb d_M_zone_76 rfl (lv_at hl9 0 rfl) ?_
  refine va_get (D := (dC, dI)) (ci := 3) (v := .int (nI nz)) (C := R_M) (T := F_M) (N := 25) hx hb hG i_M hown hK hP 0 rfl rfl 1 (by decide) (hG _ k_441) (fun _ h9 => h9) rfl d_M_zone_77 ?_
  refine lv_iload_n hx hb d_M_zone_80 rfl (lv_at hl9 2 rfl) ?_
  refine va_iast hx hb hK hP hD hS 2 0 rfl rfl (hin) d_M_zone_81 (fun H locs hP hD hS => ?_)
  have hP : va_P (dC, dI) vwCl [(m0, .inr (3, [.int 0, .int (nI nz), .ref mH, .ref mL, .ref mB, .ref mP, .ref mR, .ref mA, .ref mW, .ref mU, .ref mV, .int rw, .ref mM, .ref mT, .int mc, .ref mQ, .int ga, .int gb, .int kn, .ref mO, .ref mF, .ref mS, .ref mE, .ref mX, .ref mD])), (mH, .inl (cI, 6, .inl (upd rH (nI nz).toNatClampNeg x))), (mL, .inl (cI, 6, .inl (upd rL (nI nz).toNatClampNeg y))), (mP, .inl (cI, 6, .inl rP)), (mA, .inl (cI, 6, .inl rA)), (mV, .inl (cJ, 6, .inr (.inl rV)))] H := hP
  have hD : va_D A [(m0, .inr (3, [.int 0, .int (nI nz), .ref mH, .ref mL, .ref mB, .ref mP, .ref mR, .ref mA, .ref mW, .ref mU, .ref mV, .int rw, .ref mM, .ref mT, .int mc, .ref mQ, .int ga, .int gb, .int kn, .ref mO, .ref mF, .ref mS, .ref mE, .ref mX, .ref mD])), (mH, .inl (cI, 6, .inl (upd rH (nI nz).toNatClampNeg x))), (mL, .inl (cI, 6, .inl (upd rL (nI nz).toNatClampNeg y))), (mP, .inl (cI, 6, .inl rP)), (mA, .inl (cI, 6, .inl rA)), (mV, .inl (cJ, 6, .inr (.inl rV)))] := hD
  refine lv_aload_n hx hb d_M_zone_82 rfl (lv_at hl9 0 rfl) ?_
  refine va_get (D := (dC, dI)) (ci := 3) (v := .ref mP) (C := R_M) (T := F_M) (N := 25) hx hb hG i_M hown hK hP 0 rfl rfl 5 (by decide) (hG _ k_445) (fun _ h9 => h9) rfl d_M_zone_83 ?_
  refine lv_aload_n hx hb d_M_zone_86 rfl (lv_at hl9 0 rfl) ?_
  refine va_get (D := (dC, dI)) (ci := 3) (v := .int (nI nz)) (C := R_M) (T := F_M) (N := 25) hx hb hG i_M hown hK hP 0 rfl rfl 1 (by decide) (hG _ k_441) (fun _ h9 => h9) rfl d_M_zone_87 ?_
  refine lv_sipush (v := 1000) hx hb d_M_zone_90 (by decide) ?_
  refine va_iast hx hb hK hP hD hS 3 0 rfl rfl (hin) d_M_zone_93 (fun H locs hP hD hS => ?_)
  have hP : va_P (dC, dI) vwCl [(m0, .inr (3, [.int 0, .int (nI nz), .ref mH, .ref mL, .ref mB, .ref mP, .ref mR, .ref mA, .ref mW, .ref mU, .ref mV, .int rw, .ref mM, .ref mT, .int mc, .ref mQ, .int ga, .int gb, .int kn, .ref mO, .ref mF, .ref mS, .ref mE, .ref mX, .ref mD])), (mH, .inl (cI, 6, .inl (upd rH (nI nz).toNatClampNeg x))), (mL, .inl (cI, 6, .inl (upd rL (nI nz).toNatClampNeg y))), (mP, .inl (cI, 6, .inl (upd rP (nI nz).toNatClampNeg 1000))), (mA, .inl (cI, 6, .inl rA)), (mV, .inl (cJ, 6, .inr (.inl rV)))] H := hP
  have hD : va_D A [(m0, .inr (3, [.int 0, .int (nI nz), .ref mH, .ref mL, .ref mB, .ref mP, .ref mR, .ref mA, .ref mW, .ref mU, .ref mV, .int rw, .ref mM, .ref mT, .int mc, .ref mQ, .int ga, .int gb, .int kn, .ref mO, .ref mF, .ref mS, .ref mE, .ref mX, .ref mD])), (mH, .inl (cI, 6, .inl (upd rH (nI nz).toNatClampNeg x))), (mL, .inl (cI, 6, .inl (upd rL (nI nz).toNatClampNeg y))), (mP, .inl (cI, 6, .inl (upd rP (nI nz).toNatClampNeg 1000))), (mA, .inl (cI, 6, .inl rA)), (mV, .inl (cJ, 6, .inr (.inl rV)))] := hD
  refine lv_aload_n hx hb d_M_zone_94 rfl (lv_at hl9 0 rfl) ?_
  refine va_get (D := (dC, dI)) (ci := 3) (v := .ref mA) (C := R_M) (T := F_M) (N := 25) hx hb hG i_M hown hK hP 0 rfl rfl 7 (by decide) (hG _ k_447) (fun _ h9 => h9) rfl d_M_zone_95 ?_
  refine lv_aload_n hx hb d_M_zone_98 rfl (lv_at hl9 0 rfl) ?_
  refine va_get (D := (dC, dI)) (ci := 3) (v := .int (nI nz)) (C := R_M) (T := F_M) (N := 25) hx hb hG i_M hown hK hP 0 rfl rfl 1 (by decide) (hG _ k_441) (fun _ h9 => h9) rfl d_M_zone_99 ?_
  refine lv_iconst (v := (-1)) hx hb d_M_zone_102 (by decide) ?_
  refine va_iast hx hb hK hP hD hS 4 0 rfl rfl (hin) d_M_zone_103 (fun H locs hP hD hS => ?_)
  have hP : va_P (dC, dI) vwCl [(m0, .inr (3, [.int 0, .int (nI nz), .ref mH, .ref mL, .ref mB, .ref mP, .ref mR, .ref mA, .ref mW, .ref mU, .ref mV, .int rw, .ref mM, .ref mT, .int mc, .ref mQ, .int ga, .int gb, .int kn, .ref mO, .ref mF, .ref mS, .ref mE, .ref mX, .ref mD])), (mH, .inl (cI, 6, .inl (upd rH (nI nz).toNatClampNeg x))), (mL, .inl (cI, 6, .inl (upd rL (nI nz).toNatClampNeg y))), (mP, .inl (cI, 6, .inl (upd rP (nI nz).toNatClampNeg 1000))), (mA, .inl (cI, 6, .inl (upd rA (nI nz).toNatClampNeg (-1)))), (mV, .inl (cJ, 6, .inr (.inl rV)))] H := hP
  have hD : va_D A [(m0, .inr (3, [.int 0, .int (nI nz), .ref mH, .ref mL, .ref mB, .ref mP, .ref mR, .ref mA, .ref mW, .ref mU, .ref mV, .int rw, .ref mM, .ref mT, .int mc, .ref mQ, .int ga, .int gb, .int kn, .ref mO, .ref mF, .ref mS, .ref mE, .ref mX, .ref mD])), (mH, .inl (cI, 6, .inl (upd rH (nI nz).toNatClampNeg x))), (mL, .inl (cI, 6, .inl (upd rL (nI nz).toNatClampNeg y))), (mP, .inl (cI, 6, .inl (upd rP (nI nz).toNatClampNeg 1000))), (mA, .inl (cI, 6, .inl (upd rA (nI nz).toNatClampNeg (-1)))), (mV, .inl (cJ, 6, .inr (.inl rV)))] := hD
  refine lv_aload_n hx hb d_M_zone_104 rfl (lv_at hl9 0 rfl) ?_
  refine va_get (D := (dC, dI)) (ci := 3) (v := .ref mV) (C := R_M) (T := F_M) (N := 25) hx hb hG i_M hown hK hP 0 rfl rfl 10 (by decide) (hG _ k_450) (fun _ h9 => h9) rfl d_M_zone_105 ?_
  refine lv_aload_n hx hb d_M_zone_108 rfl (lv_at hl9 0 rfl) ?_
  refine va_get (D := (dC, dI)) (ci := 3) (v := .int (nI nz)) (C := R_M) (T := F_M) (N := 25) hx hb hG i_M hown hK hP 0 rfl rfl 1 (by decide) (hG _ k_441) (fun _ h9 => h9) rfl d_M_zone_109 ?_
  refine lv_lconst (v := 1) hx hb d_M_zone_112 (by decide) ?_
  refine va_last hx hb hK hP hD hS 5 1 rfl rfl (hin) d_M_zone_113 (fun H locs hP hD hS => ?_)
  have hP : va_P (dC, dI) vwCl [(m0, .inr (3, [.int 0, .int (nI nz), .ref mH, .ref mL, .ref mB, .ref mP, .ref mR, .ref mA, .ref mW, .ref mU, .ref mV, .int rw, .ref mM, .ref mT, .int mc, .ref mQ, .int ga, .int gb, .int kn, .ref mO, .ref mF, .ref mS, .ref mE, .ref mX, .ref mD])), (mH, .inl (cI, 6, .inl (upd rH (nI nz).toNatClampNeg x))), (mL, .inl (cI, 6, .inl (upd rL (nI nz).toNatClampNeg y))), (mP, .inl (cI, 6, .inl (upd rP (nI nz).toNatClampNeg 1000))), (mA, .inl (cI, 6, .inl (upd rA (nI nz).toNatClampNeg (-1)))), (mV, .inl (cJ, 6, .inr (.inl (vp_updL rV (nI nz).toNatClampNeg 1))))] H := hP
  have hD : va_D A [(m0, .inr (3, [.int 0, .int (nI nz), .ref mH, .ref mL, .ref mB, .ref mP, .ref mR, .ref mA, .ref mW, .ref mU, .ref mV, .int rw, .ref mM, .ref mT, .int mc, .ref mQ, .int ga, .int gb, .int kn, .ref mO, .ref mF, .ref mS, .ref mE, .ref mX, .ref mD])), (mH, .inl (cI, 6, .inl (upd rH (nI nz).toNatClampNeg x))), (mL, .inl (cI, 6, .inl (upd rL (nI nz).toNatClampNeg y))), (mP, .inl (cI, 6, .inl (upd rP (nI nz).toNatClampNeg 1000))), (mA, .inl (cI, 6, .inl (upd rA (nI nz).toNatClampNeg (-1)))), (mV, .inl (cJ, 6, .inr (.inl (vp_updL rV (nI nz).toNatClampNeg 1))))] := hD
  refine lv_aload_n hx hb d_M_zone_114 rfl (lv_at hl9 0 rfl) ?_
  refine lv_dup hx hb d_M_zone_115 rfl ?_
  refine va_get (D := (dC, dI)) (ci := 3) (v := .int (nI nz)) (C := R_M) (T := F_M) (N := 25) hx hb hG i_M hown hK hP 0 rfl rfl 1 (by decide) (hG _ k_441) (fun _ h9 => h9) rfl d_M_zone_116 ?_
  refine lv_iconst (v := 1) hx hb d_M_zone_119 (by decide) ?_
  refine lv_iadd hx hb d_M_zone_120 ?_
  refine va_put (D := (dC, dI)) (ci := 3) (v := .int ((nI nz) + 1)) (ty := .int) (C := R_M) (T := F_M) (N := 25) hx hb hG i_M t_M t_M_ok n_M hown hK hP hD hS 0 rfl rfl 1 (by decide) (hG _ k_441) (fun _ h9 => h9) rfl (by decide +kernel) rfl rfl (Nat.le_of_ble_eq_true rfl) d_M_zone_121 (fun H locs hP hD hS => ?_)
  have hP : va_P (dC, dI) vwCl [(m0, .inr (3, [.int 0, .int ((nI nz) + 1), .ref mH, .ref mL, .ref mB, .ref mP, .ref mR, .ref mA, .ref mW, .ref mU, .ref mV, .int rw, .ref mM, .ref mT, .int mc, .ref mQ, .int ga, .int gb, .int kn, .ref mO, .ref mF, .ref mS, .ref mE, .ref mX, .ref mD])), (mH, .inl (cI, 6, .inl (upd rH (nI nz).toNatClampNeg x))), (mL, .inl (cI, 6, .inl (upd rL (nI nz).toNatClampNeg y))), (mP, .inl (cI, 6, .inl (upd rP (nI nz).toNatClampNeg 1000))), (mA, .inl (cI, 6, .inl (upd rA (nI nz).toNatClampNeg (-1)))), (mV, .inl (cJ, 6, .inr (.inl (vp_updL rV (nI nz).toNatClampNeg 1))))] H := hP
  have hD : va_D A [(m0, .inr (3, [.int 0, .int ((nI nz) + 1), .ref mH, .ref mL, .ref mB, .ref mP, .ref mR, .ref mA, .ref mW, .ref mU, .ref mV, .int rw, .ref mM, .ref mT, .int mc, .ref mQ, .int ga, .int gb, .int kn, .ref mO, .ref mF, .ref mS, .ref mE, .ref mX, .ref mD])), (mH, .inl (cI, 6, .inl (upd rH (nI nz).toNatClampNeg x))), (mL, .inl (cI, 6, .inl (upd rL (nI nz).toNatClampNeg y))), (mP, .inl (cI, 6, .inl (upd rP (nI nz).toNatClampNeg 1000))), (mA, .inl (cI, 6, .inl (upd rA (nI nz).toNatClampNeg (-1)))), (mV, .inl (cJ, 6, .inr (.inl (vp_updL rV (nI nz).toNatClampNeg 1))))] := hD
  refine lv_aload_n hx hb d_M_zone_124 rfl (lv_at hl9 0 rfl) ?_
  refine lv_iconst (v := 0) hx hb d_M_zone_125 (by decide) ?_
  refine va_put (D := (dC, dI)) (ci := 3) (v := .int 0) (ty := .boolean) (C := R_M) (T := F_M) (N := 25) hx hb hG i_M t_M t_M_ok n_M hown hK hP hD hS 0 rfl rfl 18 (by decide) (hG _ k_458) (fun _ h9 => h9) rfl (by decide +kernel) rfl rfl (Nat.le_of_ble_eq_true rfl) d_M_zone_126 (fun H locs hP hD hS => ?_)
  have hP : va_P (dC, dI) vwCl [(m0, .inr (3, [.int 0, .int ((nI nz) + 1), .ref mH, .ref mL, .ref mB, .ref mP, .ref mR, .ref mA, .ref mW, .ref mU, .ref mV, .int rw, .ref mM, .ref mT, .int mc, .ref mQ, .int ga, .int gb, .int 0, .ref mO, .ref mF, .ref mS, .ref mE, .ref mX, .ref mD])), (mH, .inl (cI, 6, .inl (upd rH (nI nz).toNatClampNeg x))), (mL, .inl (cI, 6, .inl (upd rL (nI nz).toNatClampNeg y))), (mP, .inl (cI, 6, .inl (upd rP (nI nz).toNatClampNeg 1000))), (mA, .inl (cI, 6, .inl (upd rA (nI nz).toNatClampNeg (-1)))), (mV, .inl (cJ, 6, .inr (.inl (vp_updL rV (nI nz).toNatClampNeg 1))))] H := hP
  have hD : va_D A [(m0, .inr (3, [.int 0, .int ((nI nz) + 1), .ref mH, .ref mL, .ref mB, .ref mP, .ref mR, .ref mA, .ref mW, .ref mU, .ref mV, .int rw, .ref mM, .ref mT, .int mc, .ref mQ, .int ga, .int gb, .int 0, .ref mO, .ref mF, .ref mS, .ref mE, .ref mX, .ref mD])), (mH, .inl (cI, 6, .inl (upd rH (nI nz).toNatClampNeg x))), (mL, .inl (cI, 6, .inl (upd rL (nI nz).toNatClampNeg y))), (mP, .inl (cI, 6, .inl (upd rP (nI nz).toNatClampNeg 1000))), (mA, .inl (cI, 6, .inl (upd rA (nI nz).toNatClampNeg (-1)))), (mV, .inl (cJ, 6, .inr (.inl (vp_updL rV (nI nz).toNatClampNeg 1))))] := hD
  refine lv_aload_n hx hb d_M_zone_129 rfl (lv_at hl9 0 rfl) ?_
  refine va_get (D := (dC, dI)) (ci := 3) (v := .int ((nI nz) + 1)) (C := R_M) (T := F_M) (N := 25) hx hb hG i_M hown hK hP 0 rfl rfl 1 (by decide) (hG _ k_441) (fun _ h9 => h9) rfl d_M_zone_130 ?_
  refine lv_iconst (v := 1) hx hb d_M_zone_133 (by decide) ?_
  refine lv_isub hx hb d_M_zone_134 ?_
  rw [nI_1, sub1 (Nat.le_add_left 1 nz), Nat.add_sub_cancel]
  rw [nI_clamp (n := nz) (by omega), nI_1] at hP
  exact W.iret (v := (nI nz)) hx hb hr (fun t ht hW => ⟨⟨(nI nz), (), rfl, rfl, by have h9 := hP; rw [← ht] at h9; exact h9⟩, hS.F ht⟩) hS.2.2 d_M_zone_135
set_option maxHeartbeats 4000000 in
set_option maxRecDepth 100000 in
theorem m_zoneX (l : Launch) (dC : Nat → ClassId) (dI : Nat → Nat → Nat) (cI cJ cZ cB : ClassId) (m0 mH mL mB mP mR mA mW mU mV mM mT mQ mO mF mS mE mX mD : Nat) (th zn rw mc ga gb kn : Int32) (nz : Nat) (x y : Int32) (sz : Nat) (hx0 : (x < 1 ∨ 1000 < x) ∨ (y < 1 ∨ 1000 < y)) : Met l y_M_zone w_M_zone ({ frames := 1, cells := 0, slots := 0, locals := 22 }) (PC (dC, dI) (TY cI cJ cZ cB) [.ref m0, .int x, .int y] [(m0, .inr (3, [.int th, .int (nI nz), .ref mH, .ref mL, .ref mB, .ref mP, .ref mR, .ref mA, .ref mW, .ref mU, .ref mV, .int rw, .ref mM, .ref mT, .int mc, .ref mQ, .int ga, .int gb, .int kn, .ref mO, .ref mF, .ref mS, .ref mE, .ref mX, .ref mD]))] sz (va_A [(m0, .inr (3, [.int th, .int (nI nz), .ref mH, .ref mL, .ref mB, .ref mP, .ref mR, .ref mA, .ref mW, .ref mU, .ref mV, .int rw, .ref mM, .ref mT, .int mc, .ref mQ, .int ga, .int gb, .int kn, .ref mO, .ref mF, .ref mS, .ref mE, .ref mX, .ref mD]))] sz)) (va_Qi (fun (r : Int32) (_ : Unit) => True) (fun (_ : Unit) (t : State) => va_P (dC, dI) vwCl [(m0, .inr (3, [.int 1, .int (nI nz), .ref mH, .ref mL, .ref mB, .ref mP, .ref mR, .ref mA, .ref mW, .ref mU, .ref mV, .int rw, .ref mM, .ref mT, .int mc, .ref mQ, .int ga, .int gb, .int kn, .ref mO, .ref mF, .ref mS, .ref mE, .ref mX, .ref mD]))] t.heap) (va_A [(m0, .inr (3, [.int th, .int (nI nz), .ref mH, .ref mL, .ref mB, .ref mP, .ref mR, .ref mA, .ref mW, .ref mU, .ref mV, .int rw, .ref mM, .ref mT, .int mc, .ref mQ, .int ga, .int gb, .int kn, .ref mO, .ref mF, .ref mS, .ref mE, .ref mX, .ref mD]))] sz)) 0 0 (va_A [(m0, .inr (3, [.int th, .int (nI nz), .ref mH, .ref mL, .ref mB, .ref mP, .ref mR, .ref mA, .ref mW, .ref mU, .ref mV, .int rw, .ref mM, .ref mT, .int mc, .ref mQ, .int ga, .int gb, .int kn, .ref mO, .ref mF, .ref mS, .ref mE, .ref mX, .ref mD]))] sz) := by
  refine Met.ofW (cc := b_M_zone) (maxL := 3) (ret := (some .int)) (by decide) rfl ?_
  intro p e s m args below meth c s₁ B hml hv
  obtain ⟨rfl, hsz, hP, hK, hD0, hE⟩ := hv
  have hx := B.exec
  have hb := B.bytes
  have hr := B.returns
  have hG : ∀ w ∈ GG, w.before _ s = true := fun w h => atoms_spec (ws := w_M_zone) B.pre w (List.mem_cons_of_mem _ h)
  have hown : s.vm.findClass R_M = some m.cls := findClass_of_methodNamed B.named
  have hlocks := B.notSynchronized
  subst hsz
  have hD := hD0.self (sz := s.heap.size)
  generalize hAe : (va_A [(m0, .inr (3, [.int th, .int (nI nz), .ref mH, .ref mL, .ref mB, .ref mP, .ref mR, .ref mA, .ref mW, .ref mU, .ref mV, .int rw, .ref mM, .ref mT, .int mc, .ref mQ, .int ga, .int gb, .int kn, .ref mO, .ref mF, .ref mS, .ref mE, .ref mX, .ref mD]))] s.heap.size) = A at hD hE ⊢
  have hA : ∀ q : Nat, s.heap.size ≤ q → A q := fun q h => by rw [← hAe]; exact Or.inr h
  have hS : va_S A s.heap s.heap [] := va_S.rf
  obtain ⟨H, hH⟩ : ∃ z, z = s.heap := ⟨_, rfl⟩
  rw [← hH] at hP
  have hS : va_S A s.heap H [] := by rw [hH]; exact hS
  rw [← hH]
  have hl9 := lv_entry ([.ref m0, .int x, .int y]) (n := 3) (Nat.le_of_ble_eq_true rfl)
  rw [lg_entry_eq]
  generalize (lg_sl ([.ref m0, .int x, .int y]) ++ List.replicate (3 - (lg_sl ([.ref m0, .int x, .int y])).length) Slot.unset).toArray = ls at hl9 ⊢
  have hl9 : lv_has ls 3 [(0, .ref m0), (1, .int x), (2, .int y)] := hl9
  by_cases h1 : (x < 1 ∨ 1000 < x)
  · refine lv_aload_n hx hb d_M_zone_0 rfl (lv_at hl9 0 rfl) ?_
    refine lv_iconst (v := 0) hx hb d_M_zone_1 (by decide) ?_
    refine va_put (D := (dC, dI)) (ci := 3) (v := .int 0) (ty := .int) (C := R_M) (T := F_M) (N := 25) hx hb hG i_M t_M t_M_ok n_M hown hK hP hD hS 0 rfl rfl 0 (by decide) (hG _ k_440) (fun _ h9 => h9) rfl (by decide +kernel) rfl rfl (Nat.le_of_ble_eq_true rfl) d_M_zone_2 (fun H locs hP hD hS => ?_)
    have hP : va_P (dC, dI) vwCl [(m0, .inr (3, [.int 0, .int (nI nz), .ref mH, .ref mL, .ref mB, .ref mP, .ref mR, .ref mA, .ref mW, .ref mU, .ref mV, .int rw, .ref mM, .ref mT, .int mc, .ref mQ, .int ga, .int gb, .int kn, .ref mO, .ref mF, .ref mS, .ref mE, .ref mX, .ref mD]))] H := hP
    have hD : va_D A [(m0, .inr (3, [.int 0, .int (nI nz), .ref mH, .ref mL, .ref mB, .ref mP, .ref mR, .ref mA, .ref mW, .ref mU, .ref mV, .int rw, .ref mM, .ref mT, .int mc, .ref mQ, .int ga, .int gb, .int kn, .ref mO, .ref mF, .ref mS, .ref mE, .ref mX, .ref mD]))] := hD
    refine lv_aload_n hx hb d_M_zone_5 rfl (lv_at hl9 0 rfl) ?_
    refine lv_iload_n hx hb d_M_zone_6 rfl (lv_at hl9 1 rfl) ?_
    refine lv_iconst (v := 1) hx hb d_M_zone_7 (by decide) ?_
    refine lv_sipush (v := 1000) hx hb d_M_zone_8 (by decide) ?_
    have hPc := hP.sub (ws' := []) [] rfl
    have hDc := hD.sub (ws' := []) [] (by decide) rfl
    have hFc := va_A_nil hA hS.1
    refine va_calli (va_runS (As := [.int x, .int 1, .int 1000]) (rest := [.ref m0]) ⟨hx, hb, hml, hown, hG⟩ (m_within l dC dI cI cJ cZ cB x 1 1000 H.size ) (cwS 3 hG g_M_83 rfl rfl rfl (by decide +kernel) ⟨Nat.le_of_ble_eq_true rfl, Nat.le_of_ble_eq_true rfl⟩) ⟨PC.blind, PC.of hPc hK hDc hE hS hFc⟩ rfl rfl hl9.1 rfl (lv_room (Nat.le_of_ble_eq_true rfl)) d_M_zone_11 ⟨by first | exact Nat.le_of_ble_eq_true rfl | omega, by first | exact Nat.le_of_ble_eq_true rfl | omega⟩) hS (fun q _ h => hFc q h) hFc (fun r2 u t H1 locs ht hvm hw hB hz1 hk1 hS => ?_)
    have hP := wp_kept hP hk1
    have hw : r2 = if ¬ (x < 1 ∨ 1000 < x) then 1 else 0 := hw
    subst hw
    rw [wi_0 h1]
    refine lv_if_eq (tgt := 28) hx hb d_M_zone_14 (by decide) (fun c3 => ?_) (fun c3 => absurd c3 (by decide))
    refine lv_iconst (v := 1) hx hb d_M_zone_28 (by decide) ?_
    refine lv_goto (tgt := 33) hx hb d_M_zone_29 (by decide) ?_
    refine lv_iconst (v := 1) hx hb d_M_zone_33 (by decide) ?_
    have hPc := hP.sub (ws' := [(m0, .inr (3, [.int 0, .int (nI nz), .ref mH, .ref mL, .ref mB, .ref mP, .ref mR, .ref mA, .ref mW, .ref mU, .ref mV, .int rw, .ref mM, .ref mT, .int mc, .ref mQ, .int ga, .int gb, .int kn, .ref mO, .ref mF, .ref mS, .ref mE, .ref mX, .ref mD]))]) [0] rfl
    have hDc := hD.sub (ws' := [(m0, .inr (3, [.int 0, .int (nI nz), .ref mH, .ref mL, .ref mB, .ref mP, .ref mR, .ref mA, .ref mW, .ref mU, .ref mV, .int rw, .ref mM, .ref mT, .int mc, .ref mQ, .int ga, .int gb, .int kn, .ref mO, .ref mF, .ref mS, .ref mE, .ref mX, .ref mD]))]) [0] (by decide) rfl
    have hFc := va_free (wc := [(m0, .inr (3, [.int 0, .int (nI nz), .ref mH, .ref mL, .ref mB, .ref mP, .ref mR, .ref mA, .ref mW, .ref mU, .ref mV, .int rw, .ref mM, .ref mT, .int mc, .ref mQ, .int ga, .int gb, .int kn, .ref mO, .ref mF, .ref mS, .ref mE, .ref mX, .ref mD]))]) hD hS hA [0] rfl
    refine va_calli (va_runV (C := R_M) (As := [.int 1, .int 1]) (rest := []) ⟨hx, hb, hml, hown, hG⟩ (m_fails011 l dC dI cI cJ cZ cB m0 mH mL mB mP mR mA mW mU mV mM mT mQ mO mF mS mE mX mD (nI nz) rw mc ga gb kn H1.size ) (cwV 2 hG g_M_87 rfl rfl rfl (by decide +kernel) ⟨Nat.le_of_ble_eq_true rfl, Nat.le_of_ble_eq_true rfl⟩) ⟨PC.blind, va_recv hK hP (ci := 3) (q0 := 0) rfl rfl, PC.of hPc hK hDc hE hS hFc⟩ rfl rfl hl9.1 rfl (lv_room (Nat.le_of_ble_eq_true rfl)) d_M_zone_34 ⟨by first | exact Nat.le_of_ble_eq_true rfl | omega, by first | exact Nat.le_of_ble_eq_true rfl | omega⟩) hS (fun q _ h => hFc q h) hFc (fun r5 u t H4 locs ht hvm hw hB hz1 hk1 hS => ?_)
    rw [ht] at hB
    obtain ⟨hP, hD⟩ := jset (wc := [(m0, .inr (3, [.int 0, .int (nI nz), .ref mH, .ref mL, .ref mB, .ref mP, .ref mR, .ref mA, .ref mW, .ref mU, .ref mV, .int rw, .ref mM, .ref mT, .int mc, .ref mQ, .int ga, .int gb, .int kn, .ref mO, .ref mF, .ref mS, .ref mE, .ref mX, .ref mD]))]) (w1 := [(m0, .inr (3, [.int 1, .int (nI nz), .ref mH, .ref mL, .ref mB, .ref mP, .ref mR, .ref mA, .ref mW, .ref mU, .ref mV, .int rw, .ref mM, .ref mT, .int mc, .ref mQ, .int ga, .int gb, .int kn, .ref mO, .ref mF, .ref mS, .ref mE, .ref mX, .ref mD]))]) [0] rfl rfl hP hD hk1 hB
    have hP : va_P (dC, dI) vwCl [(m0, .inr (3, [.int 1, .int (nI nz), .ref mH, .ref mL, .ref mB, .ref mP, .ref mR, .ref mA, .ref mW, .ref mU, .ref mV, .int rw, .ref mM, .ref mT, .int mc, .ref mQ, .int ga, .int gb, .int kn, .ref mO, .ref mF, .ref mS, .ref mE, .ref mX, .ref mD]))] H4 := hP
    have hD : va_D A [(m0, .inr (3, [.int 1, .int (nI nz), .ref mH, .ref mL, .ref mB, .ref mP, .ref mR, .ref mA, .ref mW, .ref mU, .ref mV, .int rw, .ref mM, .ref mT, .int mc, .ref mQ, .int ga, .int gb, .int kn, .ref mO, .ref mF, .ref mS, .ref mE, .ref mX, .ref mD]))] := hD
    have hw : r5 = 1 := hw
    subst hw
    refine lv_pop hx hb d_M_zone_37 rfl ?_
    refine lv_aload_n hx hb d_M_zone_38 rfl (lv_at hl9 0 rfl) ?_
    refine lv_aload_n hx hb d_M_zone_39 rfl (lv_at hl9 0 rfl) ?_
    refine va_get (D := (dC, dI)) (ci := 3) (v := .int (nI nz)) (C := R_M) (T := F_M) (N := 25) hx hb hG i_M hown hK hP 0 rfl rfl 1 (by decide) (hG _ k_441) (fun _ h9 => h9) rfl d_M_zone_40 ?_
    refine lv_bipush (v := 6) hx hb d_M_zone_43 (by decide) ?_
    refine lv_icmp_ne (tgt := 52) hx hb d_M_zone_45 (by decide) (fun c1 => ?_) (fun c1 => ?_)
    · refine lv_iconst (v := 0) hx hb d_M_zone_52 (by decide) ?_
      refine lv_iconst (v := 2) hx hb d_M_zone_53 (by decide) ?_
      have hPc := hP.sub (ws' := [(m0, .inr (3, [.int 1, .int (nI nz), .ref mH, .ref mL, .ref mB, .ref mP, .ref mR, .ref mA, .ref mW, .ref mU, .ref mV, .int rw, .ref mM, .ref mT, .int mc, .ref mQ, .int ga, .int gb, .int kn, .ref mO, .ref mF, .ref mS, .ref mE, .ref mX, .ref mD]))]) [0] rfl
      have hDc := hD.sub (ws' := [(m0, .inr (3, [.int 1, .int (nI nz), .ref mH, .ref mL, .ref mB, .ref mP, .ref mR, .ref mA, .ref mW, .ref mU, .ref mV, .int rw, .ref mM, .ref mT, .int mc, .ref mQ, .int ga, .int gb, .int kn, .ref mO, .ref mF, .ref mS, .ref mE, .ref mX, .ref mD]))]) [0] (by decide) rfl
      have hFc := va_free (wc := [(m0, .inr (3, [.int 1, .int (nI nz), .ref mH, .ref mL, .ref mB, .ref mP, .ref mR, .ref mA, .ref mW, .ref mU, .ref mV, .int rw, .ref mM, .ref mT, .int mc, .ref mQ, .int ga, .int gb, .int kn, .ref mO, .ref mF, .ref mS, .ref mE, .ref mX, .ref mD]))]) hD hS hA [0] rfl
      refine va_calli (va_runV (C := R_M) (As := [.int 0, .int 2]) (rest := []) ⟨hx, hb, hml, hown, hG⟩ (m_fails102 l dC dI cI cJ cZ cB m0 mH mL mB mP mR mA mW mU mV mM mT mQ mO mF mS mE mX mD (nI nz) rw mc ga gb kn H4.size ) (cwV 2 hG g_M_87 rfl rfl rfl (by decide +kernel) ⟨Nat.le_of_ble_eq_true rfl, Nat.le_of_ble_eq_true rfl⟩) ⟨PC.blind, va_recv hK hP (ci := 3) (q0 := 0) rfl rfl, PC.of hPc hK hDc hE hS hFc⟩ rfl rfl hl9.1 rfl (lv_room (Nat.le_of_ble_eq_true rfl)) d_M_zone_54 ⟨by first | exact Nat.le_of_ble_eq_true rfl | omega, by first | exact Nat.le_of_ble_eq_true rfl | omega⟩) hS (fun q _ h => hFc q h) hFc (fun r7 u t H6 locs ht hvm hw hB hz1 hk1 hS => ?_)
      rw [ht] at hB
      obtain ⟨hP, hD⟩ := jset (wc := [(m0, .inr (3, [.int 1, .int (nI nz), .ref mH, .ref mL, .ref mB, .ref mP, .ref mR, .ref mA, .ref mW, .ref mU, .ref mV, .int rw, .ref mM, .ref mT, .int mc, .ref mQ, .int ga, .int gb, .int kn, .ref mO, .ref mF, .ref mS, .ref mE, .ref mX, .ref mD]))]) (w1 := [(m0, .inr (3, [.int 1, .int (nI nz), .ref mH, .ref mL, .ref mB, .ref mP, .ref mR, .ref mA, .ref mW, .ref mU, .ref mV, .int rw, .ref mM, .ref mT, .int mc, .ref mQ, .int ga, .int gb, .int kn, .ref mO, .ref mF, .ref mS, .ref mE, .ref mX, .ref mD]))]) [0] rfl rfl hP hD hk1 hB
      have hP : va_P (dC, dI) vwCl [(m0, .inr (3, [.int 1, .int (nI nz), .ref mH, .ref mL, .ref mB, .ref mP, .ref mR, .ref mA, .ref mW, .ref mU, .ref mV, .int rw, .ref mM, .ref mT, .int mc, .ref mQ, .int ga, .int gb, .int kn, .ref mO, .ref mF, .ref mS, .ref mE, .ref mX, .ref mD]))] H6 := hP
      have hD : va_D A [(m0, .inr (3, [.int 1, .int (nI nz), .ref mH, .ref mL, .ref mB, .ref mP, .ref mR, .ref mA, .ref mW, .ref mU, .ref mV, .int rw, .ref mM, .ref mT, .int mc, .ref mQ, .int ga, .int gb, .int kn, .ref mO, .ref mF, .ref mS, .ref mE, .ref mX, .ref mD]))] := hD
      have hw : r7 = 1 := hw
      subst hw
      refine lv_if_eq (tgt := 62) hx hb d_M_zone_57 (by decide) (fun c8 => absurd c8 (by decide)) (fun c8 => ?_)
      refine lv_iconst (v := 0) hx hb d_M_zone_60 (by decide) ?_
      exact W.iret (v := 0) hx hb hr (fun t ht hW => ⟨⟨0, (), rfl, trivial, by have h9 := hP; rw [← ht] at h9; exact h9⟩, hS.F ht⟩) hS.2.2 d_M_zone_61
    · refine lv_iconst (v := 1) hx hb d_M_zone_48 (by decide) ?_
      refine lv_goto (tgt := 53) hx hb d_M_zone_49 (by decide) ?_
      refine lv_iconst (v := 2) hx hb d_M_zone_53 (by decide) ?_
      have hPc := hP.sub (ws' := [(m0, .inr (3, [.int 1, .int (nI nz), .ref mH, .ref mL, .ref mB, .ref mP, .ref mR, .ref mA, .ref mW, .ref mU, .ref mV, .int rw, .ref mM, .ref mT, .int mc, .ref mQ, .int ga, .int gb, .int kn, .ref mO, .ref mF, .ref mS, .ref mE, .ref mX, .ref mD]))]) [0] rfl
      have hDc := hD.sub (ws' := [(m0, .inr (3, [.int 1, .int (nI nz), .ref mH, .ref mL, .ref mB, .ref mP, .ref mR, .ref mA, .ref mW, .ref mU, .ref mV, .int rw, .ref mM, .ref mT, .int mc, .ref mQ, .int ga, .int gb, .int kn, .ref mO, .ref mF, .ref mS, .ref mE, .ref mX, .ref mD]))]) [0] (by decide) rfl
      have hFc := va_free (wc := [(m0, .inr (3, [.int 1, .int (nI nz), .ref mH, .ref mL, .ref mB, .ref mP, .ref mR, .ref mA, .ref mW, .ref mU, .ref mV, .int rw, .ref mM, .ref mT, .int mc, .ref mQ, .int ga, .int gb, .int kn, .ref mO, .ref mF, .ref mS, .ref mE, .ref mX, .ref mD]))]) hD hS hA [0] rfl
      refine va_calli (va_runV (C := R_M) (As := [.int 1, .int 2]) (rest := []) ⟨hx, hb, hml, hown, hG⟩ (m_fails112 l dC dI cI cJ cZ cB m0 mH mL mB mP mR mA mW mU mV mM mT mQ mO mF mS mE mX mD (nI nz) rw mc ga gb kn H4.size ) (cwV 2 hG g_M_87 rfl rfl rfl (by decide +kernel) ⟨Nat.le_of_ble_eq_true rfl, Nat.le_of_ble_eq_true rfl⟩) ⟨PC.blind, va_recv hK hP (ci := 3) (q0 := 0) rfl rfl, PC.of hPc hK hDc hE hS hFc⟩ rfl rfl hl9.1 rfl (lv_room (Nat.le_of_ble_eq_true rfl)) d_M_zone_54 ⟨by first | exact Nat.le_of_ble_eq_true rfl | omega, by first | exact Nat.le_of_ble_eq_true rfl | omega⟩) hS (fun q _ h => hFc q h) hFc (fun r10 u t H9 locs ht hvm hw hB hz1 hk1 hS => ?_)
      rw [ht] at hB
      obtain ⟨hP, hD⟩ := jset (wc := [(m0, .inr (3, [.int 1, .int (nI nz), .ref mH, .ref mL, .ref mB, .ref mP, .ref mR, .ref mA, .ref mW, .ref mU, .ref mV, .int rw, .ref mM, .ref mT, .int mc, .ref mQ, .int ga, .int gb, .int kn, .ref mO, .ref mF, .ref mS, .ref mE, .ref mX, .ref mD]))]) (w1 := [(m0, .inr (3, [.int 1, .int (nI nz), .ref mH, .ref mL, .ref mB, .ref mP, .ref mR, .ref mA, .ref mW, .ref mU, .ref mV, .int rw, .ref mM, .ref mT, .int mc, .ref mQ, .int ga, .int gb, .int kn, .ref mO, .ref mF, .ref mS, .ref mE, .ref mX, .ref mD]))]) [0] rfl rfl hP hD hk1 hB
      have hP : va_P (dC, dI) vwCl [(m0, .inr (3, [.int 1, .int (nI nz), .ref mH, .ref mL, .ref mB, .ref mP, .ref mR, .ref mA, .ref mW, .ref mU, .ref mV, .int rw, .ref mM, .ref mT, .int mc, .ref mQ, .int ga, .int gb, .int kn, .ref mO, .ref mF, .ref mS, .ref mE, .ref mX, .ref mD]))] H9 := hP
      have hD : va_D A [(m0, .inr (3, [.int 1, .int (nI nz), .ref mH, .ref mL, .ref mB, .ref mP, .ref mR, .ref mA, .ref mW, .ref mU, .ref mV, .int rw, .ref mM, .ref mT, .int mc, .ref mQ, .int ga, .int gb, .int kn, .ref mO, .ref mF, .ref mS, .ref mE, .ref mX, .ref mD]))] := hD
      have hw : r10 = 1 := hw
      subst hw
      refine lv_if_eq (tgt := 62) hx hb d_M_zone_57 (by decide) (fun c11 => absurd c11 (by decide)) (fun c11 => ?_)
      refine lv_iconst (v := 0) hx hb d_M_zone_60 (by decide) ?_
      exact W.iret (v := 0) hx hb hr (fun t ht hW => ⟨⟨0, (), rfl, trivial, by have h9 := hP; rw [← ht] at h9; exact h9⟩, hS.F ht⟩) hS.2.2 d_M_zone_61
  · have h2 := hx0.resolve_left h1
    refine lv_aload_n hx hb d_M_zone_0 rfl (lv_at hl9 0 rfl) ?_
    refine lv_iconst (v := 0) hx hb d_M_zone_1 (by decide) ?_
    refine va_put (D := (dC, dI)) (ci := 3) (v := .int 0) (ty := .int) (C := R_M) (T := F_M) (N := 25) hx hb hG i_M t_M t_M_ok n_M hown hK hP hD hS 0 rfl rfl 0 (by decide) (hG _ k_440) (fun _ h9 => h9) rfl (by decide +kernel) rfl rfl (Nat.le_of_ble_eq_true rfl) d_M_zone_2 (fun H locs hP hD hS => ?_)
    have hP : va_P (dC, dI) vwCl [(m0, .inr (3, [.int 0, .int (nI nz), .ref mH, .ref mL, .ref mB, .ref mP, .ref mR, .ref mA, .ref mW, .ref mU, .ref mV, .int rw, .ref mM, .ref mT, .int mc, .ref mQ, .int ga, .int gb, .int kn, .ref mO, .ref mF, .ref mS, .ref mE, .ref mX, .ref mD]))] H := hP
    have hD : va_D A [(m0, .inr (3, [.int 0, .int (nI nz), .ref mH, .ref mL, .ref mB, .ref mP, .ref mR, .ref mA, .ref mW, .ref mU, .ref mV, .int rw, .ref mM, .ref mT, .int mc, .ref mQ, .int ga, .int gb, .int kn, .ref mO, .ref mF, .ref mS, .ref mE, .ref mX, .ref mD]))] := hD
    refine lv_aload_n hx hb d_M_zone_5 rfl (lv_at hl9 0 rfl) ?_
    refine lv_iload_n hx hb d_M_zone_6 rfl (lv_at hl9 1 rfl) ?_
    refine lv_iconst (v := 1) hx hb d_M_zone_7 (by decide) ?_
    refine lv_sipush (v := 1000) hx hb d_M_zone_8 (by decide) ?_
    have hPc := hP.sub (ws' := []) [] rfl
    have hDc := hD.sub (ws' := []) [] (by decide) rfl
    have hFc := va_A_nil hA hS.1
    refine va_calli (va_runS (As := [.int x, .int 1, .int 1000]) (rest := [.ref m0]) ⟨hx, hb, hml, hown, hG⟩ (m_within l dC dI cI cJ cZ cB x 1 1000 H.size ) (cwS 3 hG g_M_83 rfl rfl rfl (by decide +kernel) ⟨Nat.le_of_ble_eq_true rfl, Nat.le_of_ble_eq_true rfl⟩) ⟨PC.blind, PC.of hPc hK hDc hE hS hFc⟩ rfl rfl hl9.1 rfl (lv_room (Nat.le_of_ble_eq_true rfl)) d_M_zone_11 ⟨by first | exact Nat.le_of_ble_eq_true rfl | omega, by first | exact Nat.le_of_ble_eq_true rfl | omega⟩) hS (fun q _ h => hFc q h) hFc (fun r13 u t H12 locs ht hvm hw hB hz1 hk1 hS => ?_)
    have hP := wp_kept hP hk1
    have hw : r13 = if ¬ (x < 1 ∨ 1000 < x) then 1 else 0 := hw
    subst hw
    rw [wi_1 h1]
    refine lv_if_eq (tgt := 28) hx hb d_M_zone_14 (by decide) (fun c14 => absurd c14 (by decide)) (fun c14 => ?_)
    refine lv_iload_n hx hb d_M_zone_17 rfl (lv_at hl9 2 rfl) ?_
    refine lv_iconst (v := 1) hx hb d_M_zone_18 (by decide) ?_
    refine lv_sipush (v := 1000) hx hb d_M_zone_19 (by decide) ?_
    have hPc := hP.sub (ws' := []) [] rfl
    have hDc := hD.sub (ws' := []) [] (by decide) rfl
    have hFc := va_A_nil hA hS.1
    refine va_calli (va_runS (As := [.int y, .int 1, .int 1000]) (rest := [.ref m0]) ⟨hx, hb, hml, hown, hG⟩ (m_within l dC dI cI cJ cZ cB y 1 1000 H12.size ) (cwS 3 hG g_M_83 rfl rfl rfl (by decide +kernel) ⟨Nat.le_of_ble_eq_true rfl, Nat.le_of_ble_eq_true rfl⟩) ⟨PC.blind, PC.of hPc hK hDc hE hS hFc⟩ rfl rfl hl9.1 rfl (lv_room (Nat.le_of_ble_eq_true rfl)) d_M_zone_22 ⟨by first | exact Nat.le_of_ble_eq_true rfl | omega, by first | exact Nat.le_of_ble_eq_true rfl | omega⟩) hS (fun q _ h => hFc q h) hFc (fun r16 u t H15 locs ht hvm hw hB hz1 hk1 hS => ?_)
    have hP := wp_kept hP hk1
    have hw : r16 = if ¬ (y < 1 ∨ 1000 < y) then 1 else 0 := hw
    subst hw
    rw [wi_0 h2]
    refine lv_if_ne (tgt := 32) hx hb d_M_zone_25 (by decide) (fun c17 => absurd c17 (by decide)) (fun c17 => ?_)
    refine lv_iconst (v := 1) hx hb d_M_zone_28 (by decide) ?_
    refine lv_goto (tgt := 33) hx hb d_M_zone_29 (by decide) ?_
    refine lv_iconst (v := 1) hx hb d_M_zone_33 (by decide) ?_
    have hPc := hP.sub (ws' := [(m0, .inr (3, [.int 0, .int (nI nz), .ref mH, .ref mL, .ref mB, .ref mP, .ref mR, .ref mA, .ref mW, .ref mU, .ref mV, .int rw, .ref mM, .ref mT, .int mc, .ref mQ, .int ga, .int gb, .int kn, .ref mO, .ref mF, .ref mS, .ref mE, .ref mX, .ref mD]))]) [0] rfl
    have hDc := hD.sub (ws' := [(m0, .inr (3, [.int 0, .int (nI nz), .ref mH, .ref mL, .ref mB, .ref mP, .ref mR, .ref mA, .ref mW, .ref mU, .ref mV, .int rw, .ref mM, .ref mT, .int mc, .ref mQ, .int ga, .int gb, .int kn, .ref mO, .ref mF, .ref mS, .ref mE, .ref mX, .ref mD]))]) [0] (by decide) rfl
    have hFc := va_free (wc := [(m0, .inr (3, [.int 0, .int (nI nz), .ref mH, .ref mL, .ref mB, .ref mP, .ref mR, .ref mA, .ref mW, .ref mU, .ref mV, .int rw, .ref mM, .ref mT, .int mc, .ref mQ, .int ga, .int gb, .int kn, .ref mO, .ref mF, .ref mS, .ref mE, .ref mX, .ref mD]))]) hD hS hA [0] rfl
    refine va_calli (va_runV (C := R_M) (As := [.int 1, .int 1]) (rest := []) ⟨hx, hb, hml, hown, hG⟩ (m_fails011 l dC dI cI cJ cZ cB m0 mH mL mB mP mR mA mW mU mV mM mT mQ mO mF mS mE mX mD (nI nz) rw mc ga gb kn H15.size ) (cwV 2 hG g_M_87 rfl rfl rfl (by decide +kernel) ⟨Nat.le_of_ble_eq_true rfl, Nat.le_of_ble_eq_true rfl⟩) ⟨PC.blind, va_recv hK hP (ci := 3) (q0 := 0) rfl rfl, PC.of hPc hK hDc hE hS hFc⟩ rfl rfl hl9.1 rfl (lv_room (Nat.le_of_ble_eq_true rfl)) d_M_zone_34 ⟨by first | exact Nat.le_of_ble_eq_true rfl | omega, by first | exact Nat.le_of_ble_eq_true rfl | omega⟩) hS (fun q _ h => hFc q h) hFc (fun r19 u t H18 locs ht hvm hw hB hz1 hk1 hS => ?_)
    rw [ht] at hB
    obtain ⟨hP, hD⟩ := jset (wc := [(m0, .inr (3, [.int 0, .int (nI nz), .ref mH, .ref mL, .ref mB, .ref mP, .ref mR, .ref mA, .ref mW, .ref mU, .ref mV, .int rw, .ref mM, .ref mT, .int mc, .ref mQ, .int ga, .int gb, .int kn, .ref mO, .ref mF, .ref mS, .ref mE, .ref mX, .ref mD]))]) (w1 := [(m0, .inr (3, [.int 1, .int (nI nz), .ref mH, .ref mL, .ref mB, .ref mP, .ref mR, .ref mA, .ref mW, .ref mU, .ref mV, .int rw, .ref mM, .ref mT, .int mc, .ref mQ, .int ga, .int gb, .int kn, .ref mO, .ref mF, .ref mS, .ref mE, .ref mX, .ref mD]))]) [0] rfl rfl hP hD hk1 hB
    have hP : va_P (dC, dI) vwCl [(m0, .inr (3, [.int 1, .int (nI nz), .ref mH, .ref mL, .ref mB, .ref mP, .ref mR, .ref mA, .ref mW, .ref mU, .ref mV, .int rw, .ref mM, .ref mT, .int mc, .ref mQ, .int ga, .int gb, .int kn, .ref mO, .ref mF, .ref mS, .ref mE, .ref mX, .ref mD]))] H18 := hP
    have hD : va_D A [(m0, .inr (3, [.int 1, .int (nI nz), .ref mH, .ref mL, .ref mB, .ref mP, .ref mR, .ref mA, .ref mW, .ref mU, .ref mV, .int rw, .ref mM, .ref mT, .int mc, .ref mQ, .int ga, .int gb, .int kn, .ref mO, .ref mF, .ref mS, .ref mE, .ref mX, .ref mD]))] := hD
    have hw : r19 = 1 := hw
    subst hw
    refine lv_pop hx hb d_M_zone_37 rfl ?_
    refine lv_aload_n hx hb d_M_zone_38 rfl (lv_at hl9 0 rfl) ?_
    refine lv_aload_n hx hb d_M_zone_39 rfl (lv_at hl9 0 rfl) ?_
    refine va_get (D := (dC, dI)) (ci := 3) (v := .int (nI nz)) (C := R_M) (T := F_M) (N := 25) hx hb hG i_M hown hK hP 0 rfl rfl 1 (by decide) (hG _ k_441) (fun _ h9 => h9) rfl d_M_zone_40 ?_
    refine lv_bipush (v := 6) hx hb d_M_zone_43 (by decide) ?_
    refine lv_icmp_ne (tgt := 52) hx hb d_M_zone_45 (by decide) (fun c1 => ?_) (fun c1 => ?_)
    · refine lv_iconst (v := 0) hx hb d_M_zone_52 (by decide) ?_
      refine lv_iconst (v := 2) hx hb d_M_zone_53 (by decide) ?_
      have hPc := hP.sub (ws' := [(m0, .inr (3, [.int 1, .int (nI nz), .ref mH, .ref mL, .ref mB, .ref mP, .ref mR, .ref mA, .ref mW, .ref mU, .ref mV, .int rw, .ref mM, .ref mT, .int mc, .ref mQ, .int ga, .int gb, .int kn, .ref mO, .ref mF, .ref mS, .ref mE, .ref mX, .ref mD]))]) [0] rfl
      have hDc := hD.sub (ws' := [(m0, .inr (3, [.int 1, .int (nI nz), .ref mH, .ref mL, .ref mB, .ref mP, .ref mR, .ref mA, .ref mW, .ref mU, .ref mV, .int rw, .ref mM, .ref mT, .int mc, .ref mQ, .int ga, .int gb, .int kn, .ref mO, .ref mF, .ref mS, .ref mE, .ref mX, .ref mD]))]) [0] (by decide) rfl
      have hFc := va_free (wc := [(m0, .inr (3, [.int 1, .int (nI nz), .ref mH, .ref mL, .ref mB, .ref mP, .ref mR, .ref mA, .ref mW, .ref mU, .ref mV, .int rw, .ref mM, .ref mT, .int mc, .ref mQ, .int ga, .int gb, .int kn, .ref mO, .ref mF, .ref mS, .ref mE, .ref mX, .ref mD]))]) hD hS hA [0] rfl
      refine va_calli (va_runV (C := R_M) (As := [.int 0, .int 2]) (rest := []) ⟨hx, hb, hml, hown, hG⟩ (m_fails102 l dC dI cI cJ cZ cB m0 mH mL mB mP mR mA mW mU mV mM mT mQ mO mF mS mE mX mD (nI nz) rw mc ga gb kn H18.size ) (cwV 2 hG g_M_87 rfl rfl rfl (by decide +kernel) ⟨Nat.le_of_ble_eq_true rfl, Nat.le_of_ble_eq_true rfl⟩) ⟨PC.blind, va_recv hK hP (ci := 3) (q0 := 0) rfl rfl, PC.of hPc hK hDc hE hS hFc⟩ rfl rfl hl9.1 rfl (lv_room (Nat.le_of_ble_eq_true rfl)) d_M_zone_54 ⟨by first | exact Nat.le_of_ble_eq_true rfl | omega, by first | exact Nat.le_of_ble_eq_true rfl | omega⟩) hS (fun q _ h => hFc q h) hFc (fun r21 u t H20 locs ht hvm hw hB hz1 hk1 hS => ?_)
      rw [ht] at hB
      obtain ⟨hP, hD⟩ := jset (wc := [(m0, .inr (3, [.int 1, .int (nI nz), .ref mH, .ref mL, .ref mB, .ref mP, .ref mR, .ref mA, .ref mW, .ref mU, .ref mV, .int rw, .ref mM, .ref mT, .int mc, .ref mQ, .int ga, .int gb, .int kn, .ref mO, .ref mF, .ref mS, .ref mE, .ref mX, .ref mD]))]) (w1 := [(m0, .inr (3, [.int 1, .int (nI nz), .ref mH, .ref mL, .ref mB, .ref mP, .ref mR, .ref mA, .ref mW, .ref mU, .ref mV, .int rw, .ref mM, .ref mT, .int mc, .ref mQ, .int ga, .int gb, .int kn, .ref mO, .ref mF, .ref mS, .ref mE, .ref mX, .ref mD]))]) [0] rfl rfl hP hD hk1 hB
      have hP : va_P (dC, dI) vwCl [(m0, .inr (3, [.int 1, .int (nI nz), .ref mH, .ref mL, .ref mB, .ref mP, .ref mR, .ref mA, .ref mW, .ref mU, .ref mV, .int rw, .ref mM, .ref mT, .int mc, .ref mQ, .int ga, .int gb, .int kn, .ref mO, .ref mF, .ref mS, .ref mE, .ref mX, .ref mD]))] H20 := hP
      have hD : va_D A [(m0, .inr (3, [.int 1, .int (nI nz), .ref mH, .ref mL, .ref mB, .ref mP, .ref mR, .ref mA, .ref mW, .ref mU, .ref mV, .int rw, .ref mM, .ref mT, .int mc, .ref mQ, .int ga, .int gb, .int kn, .ref mO, .ref mF, .ref mS, .ref mE, .ref mX, .ref mD]))] := hD
      have hw : r21 = 1 := hw
      subst hw
      refine lv_if_eq (tgt := 62) hx hb d_M_zone_57 (by decide) (fun c22 => absurd c22 (by decide)) (fun c22 => ?_)
      refine lv_iconst (v := 0) hx hb d_M_zone_60 (by decide) ?_
      exact W.iret (v := 0) hx hb hr (fun t ht hW => ⟨⟨0, (), rfl, trivial, by have h9 := hP; rw [← ht] at h9; exact h9⟩, hS.F ht⟩) hS.2.2 d_M_zone_61
    · refine lv_iconst (v := 1) hx hb d_M_zone_48 (by decide) ?_
      refine lv_goto (tgt := 53) hx hb d_M_zone_49 (by decide) ?_
      refine lv_iconst (v := 2) hx hb d_M_zone_53 (by decide) ?_
      have hPc := hP.sub (ws' := [(m0, .inr (3, [.int 1, .int (nI nz), .ref mH, .ref mL, .ref mB, .ref mP, .ref mR, .ref mA, .ref mW, .ref mU, .ref mV, .int rw, .ref mM, .ref mT, .int mc, .ref mQ, .int ga, .int gb, .int kn, .ref mO, .ref mF, .ref mS, .ref mE, .ref mX, .ref mD]))]) [0] rfl
      have hDc := hD.sub (ws' := [(m0, .inr (3, [.int 1, .int (nI nz), .ref mH, .ref mL, .ref mB, .ref mP, .ref mR, .ref mA, .ref mW, .ref mU, .ref mV, .int rw, .ref mM, .ref mT, .int mc, .ref mQ, .int ga, .int gb, .int kn, .ref mO, .ref mF, .ref mS, .ref mE, .ref mX, .ref mD]))]) [0] (by decide) rfl
      have hFc := va_free (wc := [(m0, .inr (3, [.int 1, .int (nI nz), .ref mH, .ref mL, .ref mB, .ref mP, .ref mR, .ref mA, .ref mW, .ref mU, .ref mV, .int rw, .ref mM, .ref mT, .int mc, .ref mQ, .int ga, .int gb, .int kn, .ref mO, .ref mF, .ref mS, .ref mE, .ref mX, .ref mD]))]) hD hS hA [0] rfl
      refine va_calli (va_runV (C := R_M) (As := [.int 1, .int 2]) (rest := []) ⟨hx, hb, hml, hown, hG⟩ (m_fails112 l dC dI cI cJ cZ cB m0 mH mL mB mP mR mA mW mU mV mM mT mQ mO mF mS mE mX mD (nI nz) rw mc ga gb kn H18.size ) (cwV 2 hG g_M_87 rfl rfl rfl (by decide +kernel) ⟨Nat.le_of_ble_eq_true rfl, Nat.le_of_ble_eq_true rfl⟩) ⟨PC.blind, va_recv hK hP (ci := 3) (q0 := 0) rfl rfl, PC.of hPc hK hDc hE hS hFc⟩ rfl rfl hl9.1 rfl (lv_room (Nat.le_of_ble_eq_true rfl)) d_M_zone_54 ⟨by first | exact Nat.le_of_ble_eq_true rfl | omega, by first | exact Nat.le_of_ble_eq_true rfl | omega⟩) hS (fun q _ h => hFc q h) hFc (fun r24 u t H23 locs ht hvm hw hB hz1 hk1 hS => ?_)
      rw [ht] at hB
      obtain ⟨hP, hD⟩ := jset (wc := [(m0, .inr (3, [.int 1, .int (nI nz), .ref mH, .ref mL, .ref mB, .ref mP, .ref mR, .ref mA, .ref mW, .ref mU, .ref mV, .int rw, .ref mM, .ref mT, .int mc, .ref mQ, .int ga, .int gb, .int kn, .ref mO, .ref mF, .ref mS, .ref mE, .ref mX, .ref mD]))]) (w1 := [(m0, .inr (3, [.int 1, .int (nI nz), .ref mH, .ref mL, .ref mB, .ref mP, .ref mR, .ref mA, .ref mW, .ref mU, .ref mV, .int rw, .ref mM, .ref mT, .int mc, .ref mQ, .int ga, .int gb, .int kn, .ref mO, .ref mF, .ref mS, .ref mE, .ref mX, .ref mD]))]) [0] rfl rfl hP hD hk1 hB
      have hP : va_P (dC, dI) vwCl [(m0, .inr (3, [.int 1, .int (nI nz), .ref mH, .ref mL, .ref mB, .ref mP, .ref mR, .ref mA, .ref mW, .ref mU, .ref mV, .int rw, .ref mM, .ref mT, .int mc, .ref mQ, .int ga, .int gb, .int kn, .ref mO, .ref mF, .ref mS, .ref mE, .ref mX, .ref mD]))] H23 := hP
      have hD : va_D A [(m0, .inr (3, [.int 1, .int (nI nz), .ref mH, .ref mL, .ref mB, .ref mP, .ref mR, .ref mA, .ref mW, .ref mU, .ref mV, .int rw, .ref mM, .ref mT, .int mc, .ref mQ, .int ga, .int gb, .int kn, .ref mO, .ref mF, .ref mS, .ref mE, .ref mX, .ref mD]))] := hD
      have hw : r24 = 1 := hw
      subst hw
      refine lv_if_eq (tgt := 62) hx hb d_M_zone_57 (by decide) (fun c25 => absurd c25 (by decide)) (fun c25 => ?_)
      refine lv_iconst (v := 0) hx hb d_M_zone_60 (by decide) ?_
      exact W.iret (v := 0) hx hb hr (fun t ht hW => ⟨⟨0, (), rfl, trivial, by have h9 := hP; rw [← ht] at h9; exact h9⟩, hS.F ht⟩) hS.2.2 d_M_zone_61
set_option maxHeartbeats 4000000 in
set_option maxRecDepth 100000 in
theorem m_zoneY (l : Launch) (dC : Nat → ClassId) (dI : Nat → Nat → Nat) (cI cJ cZ cB : ClassId) (m0 mH mL mB mP mR mA mW mU mV mM mT mQ mO mF mS mE mX mD : Nat) (th zn rw mc ga gb kn : Int32) (x y : Int32) (sz : Nat) (hx0 : ¬ ((x < 1 ∨ 1000 < x) ∨ (y < 1 ∨ 1000 < y))) : Met l y_M_zone w_M_zone ({ frames := 1, cells := 0, slots := 0, locals := 22 }) (PC (dC, dI) (TY cI cJ cZ cB) [.ref m0, .int x, .int y] [(m0, .inr (3, [.int th, .int 6, .ref mH, .ref mL, .ref mB, .ref mP, .ref mR, .ref mA, .ref mW, .ref mU, .ref mV, .int rw, .ref mM, .ref mT, .int mc, .ref mQ, .int ga, .int gb, .int kn, .ref mO, .ref mF, .ref mS, .ref mE, .ref mX, .ref mD]))] sz (va_A [(m0, .inr (3, [.int th, .int 6, .ref mH, .ref mL, .ref mB, .ref mP, .ref mR, .ref mA, .ref mW, .ref mU, .ref mV, .int rw, .ref mM, .ref mT, .int mc, .ref mQ, .int ga, .int gb, .int kn, .ref mO, .ref mF, .ref mS, .ref mE, .ref mX, .ref mD]))] sz)) (va_Qi (fun (r : Int32) (_ : Unit) => True) (fun (_ : Unit) (t : State) => va_P (dC, dI) vwCl [(m0, .inr (3, [.int 2, .int 6, .ref mH, .ref mL, .ref mB, .ref mP, .ref mR, .ref mA, .ref mW, .ref mU, .ref mV, .int rw, .ref mM, .ref mT, .int mc, .ref mQ, .int ga, .int gb, .int kn, .ref mO, .ref mF, .ref mS, .ref mE, .ref mX, .ref mD]))] t.heap) (va_A [(m0, .inr (3, [.int th, .int 6, .ref mH, .ref mL, .ref mB, .ref mP, .ref mR, .ref mA, .ref mW, .ref mU, .ref mV, .int rw, .ref mM, .ref mT, .int mc, .ref mQ, .int ga, .int gb, .int kn, .ref mO, .ref mF, .ref mS, .ref mE, .ref mX, .ref mD]))] sz)) 0 0 (va_A [(m0, .inr (3, [.int th, .int 6, .ref mH, .ref mL, .ref mB, .ref mP, .ref mR, .ref mA, .ref mW, .ref mU, .ref mV, .int rw, .ref mM, .ref mT, .int mc, .ref mQ, .int ga, .int gb, .int kn, .ref mO, .ref mF, .ref mS, .ref mE, .ref mX, .ref mD]))] sz) := by
  refine Met.ofW (cc := b_M_zone) (maxL := 3) (ret := (some .int)) (by decide) rfl ?_
  intro p e s m args below meth c s₁ B hml hv
  obtain ⟨rfl, hsz, hP, hK, hD0, hE⟩ := hv
  have hx := B.exec
  have hb := B.bytes
  have hr := B.returns
  have hG : ∀ w ∈ GG, w.before _ s = true := fun w h => atoms_spec (ws := w_M_zone) B.pre w (List.mem_cons_of_mem _ h)
  have hown : s.vm.findClass R_M = some m.cls := findClass_of_methodNamed B.named
  have hlocks := B.notSynchronized
  subst hsz
  have hD := hD0.self (sz := s.heap.size)
  generalize hAe : (va_A [(m0, .inr (3, [.int th, .int 6, .ref mH, .ref mL, .ref mB, .ref mP, .ref mR, .ref mA, .ref mW, .ref mU, .ref mV, .int rw, .ref mM, .ref mT, .int mc, .ref mQ, .int ga, .int gb, .int kn, .ref mO, .ref mF, .ref mS, .ref mE, .ref mX, .ref mD]))] s.heap.size) = A at hD hE ⊢
  have hA : ∀ q : Nat, s.heap.size ≤ q → A q := fun q h => by rw [← hAe]; exact Or.inr h
  have hS : va_S A s.heap s.heap [] := va_S.rf
  obtain ⟨H, hH⟩ : ∃ z, z = s.heap := ⟨_, rfl⟩
  rw [← hH] at hP
  have hS : va_S A s.heap H [] := by rw [hH]; exact hS
  rw [← hH]
  have hl9 := lv_entry ([.ref m0, .int x, .int y]) (n := 3) (Nat.le_of_ble_eq_true rfl)
  rw [lg_entry_eq]
  generalize (lg_sl ([.ref m0, .int x, .int y]) ++ List.replicate (3 - (lg_sl ([.ref m0, .int x, .int y])).length) Slot.unset).toArray = ls at hl9 ⊢
  have hl9 : lv_has ls 3 [(0, .ref m0), (1, .int x), (2, .int y)] := hl9
  have h1 := fun q => hx0 (Or.inl q)
  have h2 := fun q => hx0 (Or.inr q)
  refine lv_aload_n hx hb d_M_zone_0 rfl (lv_at hl9 0 rfl) ?_
  refine lv_iconst (v := 0) hx hb d_M_zone_1 (by decide) ?_
  refine va_put (D := (dC, dI)) (ci := 3) (v := .int 0) (ty := .int) (C := R_M) (T := F_M) (N := 25) hx hb hG i_M t_M t_M_ok n_M hown hK hP hD hS 0 rfl rfl 0 (by decide) (hG _ k_440) (fun _ h9 => h9) rfl (by decide +kernel) rfl rfl (Nat.le_of_ble_eq_true rfl) d_M_zone_2 (fun H locs hP hD hS => ?_)
  have hP : va_P (dC, dI) vwCl [(m0, .inr (3, [.int 0, .int 6, .ref mH, .ref mL, .ref mB, .ref mP, .ref mR, .ref mA, .ref mW, .ref mU, .ref mV, .int rw, .ref mM, .ref mT, .int mc, .ref mQ, .int ga, .int gb, .int kn, .ref mO, .ref mF, .ref mS, .ref mE, .ref mX, .ref mD]))] H := hP
  have hD : va_D A [(m0, .inr (3, [.int 0, .int 6, .ref mH, .ref mL, .ref mB, .ref mP, .ref mR, .ref mA, .ref mW, .ref mU, .ref mV, .int rw, .ref mM, .ref mT, .int mc, .ref mQ, .int ga, .int gb, .int kn, .ref mO, .ref mF, .ref mS, .ref mE, .ref mX, .ref mD]))] := hD
  refine lv_aload_n hx hb d_M_zone_5 rfl (lv_at hl9 0 rfl) ?_
  refine lv_iload_n hx hb d_M_zone_6 rfl (lv_at hl9 1 rfl) ?_
  refine lv_iconst (v := 1) hx hb d_M_zone_7 (by decide) ?_
  refine lv_sipush (v := 1000) hx hb d_M_zone_8 (by decide) ?_
  have hPc := hP.sub (ws' := []) [] rfl
  have hDc := hD.sub (ws' := []) [] (by decide) rfl
  have hFc := va_A_nil hA hS.1
  refine va_calli (va_runS (As := [.int x, .int 1, .int 1000]) (rest := [.ref m0]) ⟨hx, hb, hml, hown, hG⟩ (m_within l dC dI cI cJ cZ cB x 1 1000 H.size ) (cwS 3 hG g_M_83 rfl rfl rfl (by decide +kernel) ⟨Nat.le_of_ble_eq_true rfl, Nat.le_of_ble_eq_true rfl⟩) ⟨PC.blind, PC.of hPc hK hDc hE hS hFc⟩ rfl rfl hl9.1 rfl (lv_room (Nat.le_of_ble_eq_true rfl)) d_M_zone_11 ⟨by first | exact Nat.le_of_ble_eq_true rfl | omega, by first | exact Nat.le_of_ble_eq_true rfl | omega⟩) hS (fun q _ h => hFc q h) hFc (fun r2 u t H1 locs ht hvm hw hB hz1 hk1 hS => ?_)
  have hP := wp_kept hP hk1
  have hw : r2 = if ¬ (x < 1 ∨ 1000 < x) then 1 else 0 := hw
  subst hw
  rw [wi_1 h1]
  refine lv_if_eq (tgt := 28) hx hb d_M_zone_14 (by decide) (fun c3 => absurd c3 (by decide)) (fun c3 => ?_)
  refine lv_iload_n hx hb d_M_zone_17 rfl (lv_at hl9 2 rfl) ?_
  refine lv_iconst (v := 1) hx hb d_M_zone_18 (by decide) ?_
  refine lv_sipush (v := 1000) hx hb d_M_zone_19 (by decide) ?_
  have hPc := hP.sub (ws' := []) [] rfl
  have hDc := hD.sub (ws' := []) [] (by decide) rfl
  have hFc := va_A_nil hA hS.1
  refine va_calli (va_runS (As := [.int y, .int 1, .int 1000]) (rest := [.ref m0]) ⟨hx, hb, hml, hown, hG⟩ (m_within l dC dI cI cJ cZ cB y 1 1000 H1.size ) (cwS 3 hG g_M_83 rfl rfl rfl (by decide +kernel) ⟨Nat.le_of_ble_eq_true rfl, Nat.le_of_ble_eq_true rfl⟩) ⟨PC.blind, PC.of hPc hK hDc hE hS hFc⟩ rfl rfl hl9.1 rfl (lv_room (Nat.le_of_ble_eq_true rfl)) d_M_zone_22 ⟨by first | exact Nat.le_of_ble_eq_true rfl | omega, by first | exact Nat.le_of_ble_eq_true rfl | omega⟩) hS (fun q _ h => hFc q h) hFc (fun r5 u t H4 locs ht hvm hw hB hz1 hk1 hS => ?_)
  have hP := wp_kept hP hk1
  have hw : r5 = if ¬ (y < 1 ∨ 1000 < y) then 1 else 0 := hw
  subst hw
  rw [wi_1 h2]
  refine lv_if_ne (tgt := 32) hx hb d_M_zone_25 (by decide) (fun c6 => ?_) (fun c6 => absurd c6 (by decide))
  refine lv_iconst (v := 0) hx hb d_M_zone_32 (by decide) ?_
  refine lv_iconst (v := 1) hx hb d_M_zone_33 (by decide) ?_
  have hPc := hP.sub (ws' := [(m0, .inr (3, [.int 0, .int 6, .ref mH, .ref mL, .ref mB, .ref mP, .ref mR, .ref mA, .ref mW, .ref mU, .ref mV, .int rw, .ref mM, .ref mT, .int mc, .ref mQ, .int ga, .int gb, .int kn, .ref mO, .ref mF, .ref mS, .ref mE, .ref mX, .ref mD]))]) [0] rfl
  have hDc := hD.sub (ws' := [(m0, .inr (3, [.int 0, .int 6, .ref mH, .ref mL, .ref mB, .ref mP, .ref mR, .ref mA, .ref mW, .ref mU, .ref mV, .int rw, .ref mM, .ref mT, .int mc, .ref mQ, .int ga, .int gb, .int kn, .ref mO, .ref mF, .ref mS, .ref mE, .ref mX, .ref mD]))]) [0] (by decide) rfl
  have hFc := va_free (wc := [(m0, .inr (3, [.int 0, .int 6, .ref mH, .ref mL, .ref mB, .ref mP, .ref mR, .ref mA, .ref mW, .ref mU, .ref mV, .int rw, .ref mM, .ref mT, .int mc, .ref mQ, .int ga, .int gb, .int kn, .ref mO, .ref mF, .ref mS, .ref mE, .ref mX, .ref mD]))]) hD hS hA [0] rfl
  refine va_calli (va_runV (C := R_M) (As := [.int 0, .int 1]) (rest := []) ⟨hx, hb, hml, hown, hG⟩ (m_fails001 l dC dI cI cJ cZ cB m0 mH mL mB mP mR mA mW mU mV mM mT mQ mO mF mS mE mX mD 6 rw mc ga gb kn H4.size ) (cwV 2 hG g_M_87 rfl rfl rfl (by decide +kernel) ⟨Nat.le_of_ble_eq_true rfl, Nat.le_of_ble_eq_true rfl⟩) ⟨PC.blind, va_recv hK hP (ci := 3) (q0 := 0) rfl rfl, PC.of hPc hK hDc hE hS hFc⟩ rfl rfl hl9.1 rfl (lv_room (Nat.le_of_ble_eq_true rfl)) d_M_zone_34 ⟨by first | exact Nat.le_of_ble_eq_true rfl | omega, by first | exact Nat.le_of_ble_eq_true rfl | omega⟩) hS (fun q _ h => hFc q h) hFc (fun r8 u t H7 locs ht hvm hw hB hz1 hk1 hS => ?_)
  rw [ht] at hB
  obtain ⟨hP, hD⟩ := jset (wc := [(m0, .inr (3, [.int 0, .int 6, .ref mH, .ref mL, .ref mB, .ref mP, .ref mR, .ref mA, .ref mW, .ref mU, .ref mV, .int rw, .ref mM, .ref mT, .int mc, .ref mQ, .int ga, .int gb, .int kn, .ref mO, .ref mF, .ref mS, .ref mE, .ref mX, .ref mD]))]) (w1 := [(m0, .inr (3, [.int 0, .int 6, .ref mH, .ref mL, .ref mB, .ref mP, .ref mR, .ref mA, .ref mW, .ref mU, .ref mV, .int rw, .ref mM, .ref mT, .int mc, .ref mQ, .int ga, .int gb, .int kn, .ref mO, .ref mF, .ref mS, .ref mE, .ref mX, .ref mD]))]) [0] rfl rfl hP hD hk1 hB
  have hP : va_P (dC, dI) vwCl [(m0, .inr (3, [.int 0, .int 6, .ref mH, .ref mL, .ref mB, .ref mP, .ref mR, .ref mA, .ref mW, .ref mU, .ref mV, .int rw, .ref mM, .ref mT, .int mc, .ref mQ, .int ga, .int gb, .int kn, .ref mO, .ref mF, .ref mS, .ref mE, .ref mX, .ref mD]))] H7 := hP
  have hD : va_D A [(m0, .inr (3, [.int 0, .int 6, .ref mH, .ref mL, .ref mB, .ref mP, .ref mR, .ref mA, .ref mW, .ref mU, .ref mV, .int rw, .ref mM, .ref mT, .int mc, .ref mQ, .int ga, .int gb, .int kn, .ref mO, .ref mF, .ref mS, .ref mE, .ref mX, .ref mD]))] := hD
  have hw : r8 = 0 := hw
  subst hw
  refine lv_pop hx hb d_M_zone_37 rfl ?_
  refine lv_aload_n hx hb d_M_zone_38 rfl (lv_at hl9 0 rfl) ?_
  refine lv_aload_n hx hb d_M_zone_39 rfl (lv_at hl9 0 rfl) ?_
  refine va_get (D := (dC, dI)) (ci := 3) (v := .int 6) (C := R_M) (T := F_M) (N := 25) hx hb hG i_M hown hK hP 0 rfl rfl 1 (by decide) (hG _ k_441) (fun _ h9 => h9) rfl d_M_zone_40 ?_
  refine lv_bipush (v := 6) hx hb d_M_zone_43 (by decide) ?_
  refine lv_icmp_ne (tgt := 52) hx hb d_M_zone_45 (by decide) (fun c9 => absurd c9 (by decide)) (fun c9 => ?_)
  refine lv_iconst (v := 1) hx hb d_M_zone_48 (by decide) ?_
  refine lv_goto (tgt := 53) hx hb d_M_zone_49 (by decide) ?_
  refine lv_iconst (v := 2) hx hb d_M_zone_53 (by decide) ?_
  have hPc := hP.sub (ws' := [(m0, .inr (3, [.int 0, .int 6, .ref mH, .ref mL, .ref mB, .ref mP, .ref mR, .ref mA, .ref mW, .ref mU, .ref mV, .int rw, .ref mM, .ref mT, .int mc, .ref mQ, .int ga, .int gb, .int kn, .ref mO, .ref mF, .ref mS, .ref mE, .ref mX, .ref mD]))]) [0] rfl
  have hDc := hD.sub (ws' := [(m0, .inr (3, [.int 0, .int 6, .ref mH, .ref mL, .ref mB, .ref mP, .ref mR, .ref mA, .ref mW, .ref mU, .ref mV, .int rw, .ref mM, .ref mT, .int mc, .ref mQ, .int ga, .int gb, .int kn, .ref mO, .ref mF, .ref mS, .ref mE, .ref mX, .ref mD]))]) [0] (by decide) rfl
  have hFc := va_free (wc := [(m0, .inr (3, [.int 0, .int 6, .ref mH, .ref mL, .ref mB, .ref mP, .ref mR, .ref mA, .ref mW, .ref mU, .ref mV, .int rw, .ref mM, .ref mT, .int mc, .ref mQ, .int ga, .int gb, .int kn, .ref mO, .ref mF, .ref mS, .ref mE, .ref mX, .ref mD]))]) hD hS hA [0] rfl
  refine va_calli (va_runV (C := R_M) (As := [.int 1, .int 2]) (rest := []) ⟨hx, hb, hml, hown, hG⟩ (m_fails012 l dC dI cI cJ cZ cB m0 mH mL mB mP mR mA mW mU mV mM mT mQ mO mF mS mE mX mD 6 rw mc ga gb kn H7.size ) (cwV 2 hG g_M_87 rfl rfl rfl (by decide +kernel) ⟨Nat.le_of_ble_eq_true rfl, Nat.le_of_ble_eq_true rfl⟩) ⟨PC.blind, va_recv hK hP (ci := 3) (q0 := 0) rfl rfl, PC.of hPc hK hDc hE hS hFc⟩ rfl rfl hl9.1 rfl (lv_room (Nat.le_of_ble_eq_true rfl)) d_M_zone_54 ⟨by first | exact Nat.le_of_ble_eq_true rfl | omega, by first | exact Nat.le_of_ble_eq_true rfl | omega⟩) hS (fun q _ h => hFc q h) hFc (fun r11 u t H10 locs ht hvm hw hB hz1 hk1 hS => ?_)
  rw [ht] at hB
  obtain ⟨hP, hD⟩ := jset (wc := [(m0, .inr (3, [.int 0, .int 6, .ref mH, .ref mL, .ref mB, .ref mP, .ref mR, .ref mA, .ref mW, .ref mU, .ref mV, .int rw, .ref mM, .ref mT, .int mc, .ref mQ, .int ga, .int gb, .int kn, .ref mO, .ref mF, .ref mS, .ref mE, .ref mX, .ref mD]))]) (w1 := [(m0, .inr (3, [.int 2, .int 6, .ref mH, .ref mL, .ref mB, .ref mP, .ref mR, .ref mA, .ref mW, .ref mU, .ref mV, .int rw, .ref mM, .ref mT, .int mc, .ref mQ, .int ga, .int gb, .int kn, .ref mO, .ref mF, .ref mS, .ref mE, .ref mX, .ref mD]))]) [0] rfl rfl hP hD hk1 hB
  have hP : va_P (dC, dI) vwCl [(m0, .inr (3, [.int 2, .int 6, .ref mH, .ref mL, .ref mB, .ref mP, .ref mR, .ref mA, .ref mW, .ref mU, .ref mV, .int rw, .ref mM, .ref mT, .int mc, .ref mQ, .int ga, .int gb, .int kn, .ref mO, .ref mF, .ref mS, .ref mE, .ref mX, .ref mD]))] H10 := hP
  have hD : va_D A [(m0, .inr (3, [.int 2, .int 6, .ref mH, .ref mL, .ref mB, .ref mP, .ref mR, .ref mA, .ref mW, .ref mU, .ref mV, .int rw, .ref mM, .ref mT, .int mc, .ref mQ, .int ga, .int gb, .int kn, .ref mO, .ref mF, .ref mS, .ref mE, .ref mX, .ref mD]))] := hD
  have hw : r11 = 1 := hw
  subst hw
  refine lv_if_eq (tgt := 62) hx hb d_M_zone_57 (by decide) (fun c12 => absurd c12 (by decide)) (fun c12 => ?_)
  refine lv_iconst (v := 0) hx hb d_M_zone_60 (by decide) ?_
  exact W.iret (v := 0) hx hb hr (fun t ht hW => ⟨⟨0, (), rfl, trivial, by have h9 := hP; rw [← ht] at h9; exact h9⟩, hS.F ht⟩) hS.2.2 d_M_zone_61
set_option maxHeartbeats 4000000 in
set_option maxRecDepth 100000 in
theorem m_outside (l : Launch) (dC : Nat → ClassId) (dI : Nat → Nat → Nat) (cI cJ cZ cB : ClassId) (m0 mH mL mB mP mR mA mW mU mV mM mT mQ mO mF mS mE mX mD : Nat) (th zn rw mc ga gb kn : Int32) (rM rT : Nat → Int32)  (nr : Nat) (x y : Int32) (sz : Nat) (hlt : nr < 24) (hx0 : ¬ ((x < 0 ∨ 1439 < x) ∨ (y < (-10000) ∨ 10000 < y))) (hlast : nr = 0 ∨ rM (nr - 1) < x) : Met l y_M_outside w_M_outside ({ frames := 1, cells := 0, slots := 0, locals := 22 }) (PC (dC, dI) (TY cI cJ cZ cB) [.ref m0, .int x, .int y] [(m0, .inr (3, [.int th, .int zn, .ref mH, .ref mL, .ref mB, .ref mP, .ref mR, .ref mA, .ref mW, .ref mU, .ref mV, .int (nI nr), .ref mM, .ref mT, .int mc, .ref mQ, .int ga, .int gb, .int kn, .ref mO, .ref mF, .ref mS, .ref mE, .ref mX, .ref mD])), (mM, .inl (cI, 24, .inl rM)), (mT, .inl (cI, 24, .inl rT))] sz (va_A [(m0, .inr (3, [.int th, .int zn, .ref mH, .ref mL, .ref mB, .ref mP, .ref mR, .ref mA, .ref mW, .ref mU, .ref mV, .int (nI nr), .ref mM, .ref mT, .int mc, .ref mQ, .int ga, .int gb, .int kn, .ref mO, .ref mF, .ref mS, .ref mE, .ref mX, .ref mD])), (mM, .inl (cI, 24, .inl rM)), (mT, .inl (cI, 24, .inl rT))] sz)) (va_Qi (fun (r : Int32) (_ : Unit) => r = nI (nr + 1)) (fun (_ : Unit) (t : State) => va_P (dC, dI) vwCl [(m0, .inr (3, [.int 0, .int zn, .ref mH, .ref mL, .ref mB, .ref mP, .ref mR, .ref mA, .ref mW, .ref mU, .ref mV, .int (nI (nr + 1)), .ref mM, .ref mT, .int mc, .ref mQ, .int ga, .int gb, .int 0, .ref mO, .ref mF, .ref mS, .ref mE, .ref mX, .ref mD])), (mM, .inl (cI, 24, .inl (upd rM nr x))), (mT, .inl (cI, 24, .inl (upd rT nr y)))] t.heap) (va_A [(m0, .inr (3, [.int th, .int zn, .ref mH, .ref mL, .ref mB, .ref mP, .ref mR, .ref mA, .ref mW, .ref mU, .ref mV, .int (nI nr), .ref mM, .ref mT, .int mc, .ref mQ, .int ga, .int gb, .int kn, .ref mO, .ref mF, .ref mS, .ref mE, .ref mX, .ref mD])), (mM, .inl (cI, 24, .inl rM)), (mT, .inl (cI, 24, .inl rT))] sz)) 0 0 (va_A [(m0, .inr (3, [.int th, .int zn, .ref mH, .ref mL, .ref mB, .ref mP, .ref mR, .ref mA, .ref mW, .ref mU, .ref mV, .int (nI nr), .ref mM, .ref mT, .int mc, .ref mQ, .int ga, .int gb, .int kn, .ref mO, .ref mF, .ref mS, .ref mE, .ref mX, .ref mD])), (mM, .inl (cI, 24, .inl rM)), (mT, .inl (cI, 24, .inl rT))] sz) := by
  refine Met.ofW (cc := b_M_outside) (maxL := 3) (ret := (some .int)) (by decide) rfl ?_
  intro p e s m args below meth c s₁ B hml hv
  obtain ⟨rfl, hsz, hP, hK, hD0, hE⟩ := hv
  have hx := B.exec
  have hb := B.bytes
  have hr := B.returns
  have hG : ∀ w ∈ GG, w.before _ s = true := fun w h => atoms_spec (ws := w_M_outside) B.pre w (List.mem_cons_of_mem _ h)
  have hown : s.vm.findClass R_M = some m.cls := findClass_of_methodNamed B.named
  have hlocks := B.notSynchronized
  subst hsz
  have hD := hD0.self (sz := s.heap.size)
  generalize hAe : (va_A [(m0, .inr (3, [.int th, .int zn, .ref mH, .ref mL, .ref mB, .ref mP, .ref mR, .ref mA, .ref mW, .ref mU, .ref mV, .int (nI nr), .ref mM, .ref mT, .int mc, .ref mQ, .int ga, .int gb, .int kn, .ref mO, .ref mF, .ref mS, .ref mE, .ref mX, .ref mD])), (mM, .inl (cI, 24, .inl rM)), (mT, .inl (cI, 24, .inl rT))] s.heap.size) = A at hD hE ⊢
  have hA : ∀ q : Nat, s.heap.size ≤ q → A q := fun q h => by rw [← hAe]; exact Or.inr h
  have hS : va_S A s.heap s.heap [] := va_S.rf
  obtain ⟨H, hH⟩ : ∃ z, z = s.heap := ⟨_, rfl⟩
  rw [← hH] at hP
  have hS : va_S A s.heap H [] := by rw [hH]; exact hS
  rw [← hH]
  have hl9 := lv_entry ([.ref m0, .int x, .int y]) (n := 3) (Nat.le_of_ble_eq_true rfl)
  rw [lg_entry_eq]
  generalize (lg_sl ([.ref m0, .int x, .int y]) ++ List.replicate (3 - (lg_sl ([.ref m0, .int x, .int y])).length) Slot.unset).toArray = ls at hl9 ⊢
  have hl9 : lv_has ls 3 [(0, .ref m0), (1, .int x), (2, .int y)] := hl9
  have h1 := fun q => hx0 (Or.inl q)
  have h2 := fun q => hx0 (Or.inr q)
  have hin : vp_in (nI nr) 24 := vp_in_nI hlt (by decide)
  refine lv_aload_n hx hb d_M_outside_0 rfl (lv_at hl9 0 rfl) ?_
  refine lv_iconst (v := 0) hx hb d_M_outside_1 (by decide) ?_
  refine va_put (D := (dC, dI)) (ci := 3) (v := .int 0) (ty := .int) (C := R_M) (T := F_M) (N := 25) hx hb hG i_M t_M t_M_ok n_M hown hK hP hD hS 0 rfl rfl 0 (by decide) (hG _ k_440) (fun _ h9 => h9) rfl (by decide +kernel) rfl rfl (Nat.le_of_ble_eq_true rfl) d_M_outside_2 (fun H locs hP hD hS => ?_)
  have hP : va_P (dC, dI) vwCl [(m0, .inr (3, [.int 0, .int zn, .ref mH, .ref mL, .ref mB, .ref mP, .ref mR, .ref mA, .ref mW, .ref mU, .ref mV, .int (nI nr), .ref mM, .ref mT, .int mc, .ref mQ, .int ga, .int gb, .int kn, .ref mO, .ref mF, .ref mS, .ref mE, .ref mX, .ref mD])), (mM, .inl (cI, 24, .inl rM)), (mT, .inl (cI, 24, .inl rT))] H := hP
  have hD : va_D A [(m0, .inr (3, [.int 0, .int zn, .ref mH, .ref mL, .ref mB, .ref mP, .ref mR, .ref mA, .ref mW, .ref mU, .ref mV, .int (nI nr), .ref mM, .ref mT, .int mc, .ref mQ, .int ga, .int gb, .int kn, .ref mO, .ref mF, .ref mS, .ref mE, .ref mX, .ref mD])), (mM, .inl (cI, 24, .inl rM)), (mT, .inl (cI, 24, .inl rT))] := hD
  refine lv_aload_n hx hb d_M_outside_5 rfl (lv_at hl9 0 rfl) ?_
  refine lv_iload_n hx hb d_M_outside_6 rfl (lv_at hl9 1 rfl) ?_
  refine lv_iconst (v := 0) hx hb d_M_outside_7 (by decide) ?_
  refine lv_sipush (v := 1439) hx hb d_M_outside_8 (by decide) ?_
  have hPc := hP.sub (ws' := []) [] rfl
  have hDc := hD.sub (ws' := []) [] (by decide) rfl
  have hFc := va_A_nil hA hS.1
  refine va_calli (va_runS (As := [.int x, .int 0, .int 1439]) (rest := [.ref m0]) ⟨hx, hb, hml, hown, hG⟩ (m_within l dC dI cI cJ cZ cB x 0 1439 H.size ) (cwS 3 hG g_M_83 rfl rfl rfl (by decide +kernel) ⟨Nat.le_of_ble_eq_true rfl, Nat.le_of_ble_eq_true rfl⟩) ⟨PC.blind, PC.of hPc hK hDc hE hS hFc⟩ rfl rfl hl9.1 rfl (lv_room (Nat.le_of_ble_eq_true rfl)) d_M_outside_11 ⟨by first | exact Nat.le_of_ble_eq_true rfl | omega, by first | exact Nat.le_of_ble_eq_true rfl | omega⟩) hS (fun q _ h => hFc q h) hFc (fun r2 u t H1 locs ht hvm hw hB hz1 hk1 hS => ?_)
  have hP := wp_kept hP hk1
  have hw : r2 = if ¬ (x < 0 ∨ 1439 < x) then 1 else 0 := hw
  subst hw
  rw [wi_1 h1]
  refine lv_if_eq (tgt := 30) hx hb d_M_outside_14 (by decide) (fun c3 => absurd c3 (by decide)) (fun c3 => ?_)
  refine lv_iload_n hx hb d_M_outside_17 rfl (lv_at hl9 2 rfl) ?_
  refine lv_sipush (v := (-10000)) hx hb d_M_outside_18 (by decide) ?_
  refine lv_sipush (v := 10000) hx hb d_M_outside_21 (by decide) ?_
  have hPc := hP.sub (ws' := []) [] rfl
  have hDc := hD.sub (ws' := []) [] (by decide) rfl
  have hFc := va_A_nil hA hS.1
  refine va_calli (va_runS (As := [.int y, .int (-10000), .int 10000]) (rest := [.ref m0]) ⟨hx, hb, hml, hown, hG⟩ (m_within l dC dI cI cJ cZ cB y (-10000) 10000 H1.size ) (cwS 3 hG g_M_83 rfl rfl rfl (by decide +kernel) ⟨Nat.le_of_ble_eq_true rfl, Nat.le_of_ble_eq_true rfl⟩) ⟨PC.blind, PC.of hPc hK hDc hE hS hFc⟩ rfl rfl hl9.1 rfl (lv_room (Nat.le_of_ble_eq_true rfl)) d_M_outside_24 ⟨by first | exact Nat.le_of_ble_eq_true rfl | omega, by first | exact Nat.le_of_ble_eq_true rfl | omega⟩) hS (fun q _ h => hFc q h) hFc (fun r5 u t H4 locs ht hvm hw hB hz1 hk1 hS => ?_)
  have hP := wp_kept hP hk1
  have hw : r5 = if ¬ (y < (-10000) ∨ 10000 < y) then 1 else 0 := hw
  subst hw
  rw [wi_1 h2]
  refine lv_if_ne (tgt := 34) hx hb d_M_outside_27 (by decide) (fun c6 => ?_) (fun c6 => absurd c6 (by decide))
  refine lv_iconst (v := 0) hx hb d_M_outside_34 (by decide) ?_
  refine lv_iconst (v := 1) hx hb d_M_outside_35 (by decide) ?_
  have hPc := hP.sub (ws' := [(m0, .inr (3, [.int 0, .int zn, .ref mH, .ref mL, .ref mB, .ref mP, .ref mR, .ref mA, .ref mW, .ref mU, .ref mV, .int (nI nr), .ref mM, .ref mT, .int mc, .ref mQ, .int ga, .int gb, .int kn, .ref mO, .ref mF, .ref mS, .ref mE, .ref mX, .ref mD]))]) [0] rfl
  have hDc := hD.sub (ws' := [(m0, .inr (3, [.int 0, .int zn, .ref mH, .ref mL, .ref mB, .ref mP, .ref mR, .ref mA, .ref mW, .ref mU, .ref mV, .int (nI nr), .ref mM, .ref mT, .int mc, .ref mQ, .int ga, .int gb, .int kn, .ref mO, .ref mF, .ref mS, .ref mE, .ref mX, .ref mD]))]) [0] (by decide) rfl
  have hFc := va_free (wc := [(m0, .inr (3, [.int 0, .int zn, .ref mH, .ref mL, .ref mB, .ref mP, .ref mR, .ref mA, .ref mW, .ref mU, .ref mV, .int (nI nr), .ref mM, .ref mT, .int mc, .ref mQ, .int ga, .int gb, .int kn, .ref mO, .ref mF, .ref mS, .ref mE, .ref mX, .ref mD]))]) hD hS hA [0] rfl
  refine va_calli (va_runV (C := R_M) (As := [.int 0, .int 1]) (rest := []) ⟨hx, hb, hml, hown, hG⟩ (m_fails001 l dC dI cI cJ cZ cB m0 mH mL mB mP mR mA mW mU mV mM mT mQ mO mF mS mE mX mD zn (nI nr) mc ga gb kn H4.size ) (cwV 2 hG g_M_87 rfl rfl rfl (by decide +kernel) ⟨Nat.le_of_ble_eq_true rfl, Nat.le_of_ble_eq_true rfl⟩) ⟨PC.blind, va_recv hK hP (ci := 3) (q0 := 0) rfl rfl, PC.of hPc hK hDc hE hS hFc⟩ rfl rfl hl9.1 rfl (lv_room (Nat.le_of_ble_eq_true rfl)) d_M_outside_36 ⟨by first | exact Nat.le_of_ble_eq_true rfl | omega, by first | exact Nat.le_of_ble_eq_true rfl | omega⟩) hS (fun q _ h => hFc q h) hFc (fun r8 u t H7 locs ht hvm hw hB hz1 hk1 hS => ?_)
  rw [ht] at hB
  obtain ⟨hP, hD⟩ := jset (wc := [(m0, .inr (3, [.int 0, .int zn, .ref mH, .ref mL, .ref mB, .ref mP, .ref mR, .ref mA, .ref mW, .ref mU, .ref mV, .int (nI nr), .ref mM, .ref mT, .int mc, .ref mQ, .int ga, .int gb, .int kn, .ref mO, .ref mF, .ref mS, .ref mE, .ref mX, .ref mD]))]) (w1 := [(m0, .inr (3, [.int 0, .int zn, .ref mH, .ref mL, .ref mB, .ref mP, .ref mR, .ref mA, .ref mW, .ref mU, .ref mV, .int (nI nr), .ref mM, .ref mT, .int mc, .ref mQ, .int ga, .int gb, .int kn, .ref mO, .ref mF, .ref mS, .ref mE, .ref mX, .ref mD]))]) [0] rfl rfl hP hD hk1 hB
  have hP : va_P (dC, dI) vwCl [(m0, .inr (3, [.int 0, .int zn, .ref mH, .ref mL, .ref mB, .ref mP, .ref mR, .ref mA, .ref mW, .ref mU, .ref mV, .int (nI nr), .ref mM, .ref mT, .int mc, .ref mQ, .int ga, .int gb, .int kn, .ref mO, .ref mF, .ref mS, .ref mE, .ref mX, .ref mD])), (mM, .inl (cI, 24, .inl rM)), (mT, .inl (cI, 24, .inl rT))] H7 := hP
  have hD : va_D A [(m0, .inr (3, [.int 0, .int zn, .ref mH, .ref mL, .ref mB, .ref mP, .ref mR, .ref mA, .ref mW, .ref mU, .ref mV, .int (nI nr), .ref mM, .ref mT, .int mc, .ref mQ, .int ga, .int gb, .int kn, .ref mO, .ref mF, .ref mS, .ref mE, .ref mX, .ref mD])), (mM, .inl (cI, 24, .inl rM)), (mT, .inl (cI, 24, .inl rT))] := hD
  have hw : r8 = 0 := hw
  subst hw
  refine lv_pop hx hb d_M_outside_39 rfl ?_
  refine lv_aload_n hx hb d_M_outside_40 rfl (lv_at hl9 0 rfl) ?_
  refine lv_aload_n hx hb d_M_outside_41 rfl (lv_at hl9 0 rfl) ?_
  refine va_get (D := (dC, dI)) (ci := 3) (v := .int (nI nr)) (C := R_M) (T := F_M) (N := 25) hx hb hG i_M hown hK hP 0 rfl rfl 11 (by decide) (hG _ k_451) (fun _ h9 => h9) rfl d_M_outside_42 ?_
  refine lv_bipush (v := 24) hx hb d_M_outside_45 (by decide) ?_
  refine lv_icmp_eq (tgt := 72) hx hb d_M_outside_47 (by decide) (fun c1 => absurd c1 (fun h => absurd ((nI_eq (a := nr) (b := 24) (by omega) (by decide)).mp h) (by omega))) (fun c1 => ?_)
  refine lv_aload_n hx hb d_M_outside_50 rfl (lv_at hl9 0 rfl) ?_
  refine va_get (D := (dC, dI)) (ci := 3) (v := .int (nI nr)) (C := R_M) (T := F_M) (N := 25) hx hb hG i_M hown hK hP 0 rfl rfl 11 (by decide) (hG _ k_451) (fun _ h9 => h9) rfl d_M_outside_51 ?_
  refine lv_if_le (tgt := 76) hx hb d_M_outside_54 (by decide) (fun c2 => ?_) (fun c2 => ?_)
  · refine lv_iconst (v := 0) hx hb d_M_outside_76 (by decide) ?_
    refine lv_iconst (v := 2) hx hb d_M_outside_77 (by decide) ?_
    have hPc := hP.sub (ws' := [(m0, .inr (3, [.int 0, .int zn, .ref mH, .ref mL, .ref mB, .ref mP, .ref mR, .ref mA, .ref mW, .ref mU, .ref mV, .int (nI nr), .ref mM, .ref mT, .int mc, .ref mQ, .int ga, .int gb, .int kn, .ref mO, .ref mF, .ref mS, .ref mE, .ref mX, .ref mD]))]) [0] rfl
    have hDc := hD.sub (ws' := [(m0, .inr (3, [.int 0, .int zn, .ref mH, .ref mL, .ref mB, .ref mP, .ref mR, .ref mA, .ref mW, .ref mU, .ref mV, .int (nI nr), .ref mM, .ref mT, .int mc, .ref mQ, .int ga, .int gb, .int kn, .ref mO, .ref mF, .ref mS, .ref mE, .ref mX, .ref mD]))]) [0] (by decide) rfl
    have hFc := va_free (wc := [(m0, .inr (3, [.int 0, .int zn, .ref mH, .ref mL, .ref mB, .ref mP, .ref mR, .ref mA, .ref mW, .ref mU, .ref mV, .int (nI nr), .ref mM, .ref mT, .int mc, .ref mQ, .int ga, .int gb, .int kn, .ref mO, .ref mF, .ref mS, .ref mE, .ref mX, .ref mD]))]) hD hS hA [0] rfl
    refine va_calli (va_runV (C := R_M) (As := [.int 0, .int 2]) (rest := []) ⟨hx, hb, hml, hown, hG⟩ (m_fails002 l dC dI cI cJ cZ cB m0 mH mL mB mP mR mA mW mU mV mM mT mQ mO mF mS mE mX mD zn (nI nr) mc ga gb kn H7.size ) (cwV 2 hG g_M_87 rfl rfl rfl (by decide +kernel) ⟨Nat.le_of_ble_eq_true rfl, Nat.le_of_ble_eq_true rfl⟩) ⟨PC.blind, va_recv hK hP (ci := 3) (q0 := 0) rfl rfl, PC.of hPc hK hDc hE hS hFc⟩ rfl rfl hl9.1 rfl (lv_room (Nat.le_of_ble_eq_true rfl)) d_M_outside_78 ⟨by first | exact Nat.le_of_ble_eq_true rfl | omega, by first | exact Nat.le_of_ble_eq_true rfl | omega⟩) hS (fun q _ h => hFc q h) hFc (fun r10 u t H9 locs ht hvm hw hB hz1 hk1 hS => ?_)
    rw [ht] at hB
    obtain ⟨hP, hD⟩ := jset (wc := [(m0, .inr (3, [.int 0, .int zn, .ref mH, .ref mL, .ref mB, .ref mP, .ref mR, .ref mA, .ref mW, .ref mU, .ref mV, .int (nI nr), .ref mM, .ref mT, .int mc, .ref mQ, .int ga, .int gb, .int kn, .ref mO, .ref mF, .ref mS, .ref mE, .ref mX, .ref mD]))]) (w1 := [(m0, .inr (3, [.int 0, .int zn, .ref mH, .ref mL, .ref mB, .ref mP, .ref mR, .ref mA, .ref mW, .ref mU, .ref mV, .int (nI nr), .ref mM, .ref mT, .int mc, .ref mQ, .int ga, .int gb, .int kn, .ref mO, .ref mF, .ref mS, .ref mE, .ref mX, .ref mD]))]) [0] rfl rfl hP hD hk1 hB
    have hP : va_P (dC, dI) vwCl [(m0, .inr (3, [.int 0, .int zn, .ref mH, .ref mL, .ref mB, .ref mP, .ref mR, .ref mA, .ref mW, .ref mU, .ref mV, .int (nI nr), .ref mM, .ref mT, .int mc, .ref mQ, .int ga, .int gb, .int kn, .ref mO, .ref mF, .ref mS, .ref mE, .ref mX, .ref mD])), (mM, .inl (cI, 24, .inl rM)), (mT, .inl (cI, 24, .inl rT))] H9 := hP
    have hD : va_D A [(m0, .inr (3, [.int 0, .int zn, .ref mH, .ref mL, .ref mB, .ref mP, .ref mR, .ref mA, .ref mW, .ref mU, .ref mV, .int (nI nr), .ref mM, .ref mT, .int mc, .ref mQ, .int ga, .int gb, .int kn, .ref mO, .ref mF, .ref mS, .ref mE, .ref mX, .ref mD])), (mM, .inl (cI, 24, .inl rM)), (mT, .inl (cI, 24, .inl rT))] := hD
    have hw : r10 = 0 := hw
    subst hw
    refine lv_if_eq (tgt := 86) hx hb d_M_outside_81 (by decide) (fun c11 => ?_) (fun c11 => absurd c11 (by decide))
    refine lv_aload_n hx hb d_M_outside_86 rfl (lv_at hl9 0 rfl) ?_
    refine va_get (D := (dC, dI)) (ci := 3) (v := .ref mM) (C := R_M) (T := F_M) (N := 25) hx hb hG i_M hown hK hP 0 rfl rfl 12 (by decide) (hG _ k_452) (fun _ h9 => h9) rfl d_M_outside_87 ?_
    refine lv_aload_n hx hb d_M_outside_90 rfl (lv_at hl9 0 rfl) ?_
    refine va_get (D := (dC, dI)) (ci := 3) (v := .int (nI nr)) (C := R_M) (T := F_M) (N := 25) hx hb hG i_M hown hK hP 0 rfl rfl 11 (by decide) (hG _ k_451) (fun _ h9 => h9) rfl d_M_outside_91 ?_
    refine lv_iload_n hx hb d_M_outside_94 rfl (lv_at hl9 1 rfl) ?_
    refine va_iast hx hb hK hP hD hS 1 0 rfl rfl (hin) d_M_outside_95 (fun H locs hP hD hS => ?_)
    have hP : va_P (dC, dI) vwCl [(m0, .inr (3, [.int 0, .int zn, .ref mH, .ref mL, .ref mB, .ref mP, .ref mR, .ref mA, .ref mW, .ref mU, .ref mV, .int (nI nr), .ref mM, .ref mT, .int mc, .ref mQ, .int ga, .int gb, .int kn, .ref mO, .ref mF, .ref mS, .ref mE, .ref mX, .ref mD])), (mM, .inl (cI, 24, .inl (upd rM (nI nr).toNatClampNeg x))), (mT, .inl (cI, 24, .inl rT))] H := hP
    have hD : va_D A [(m0, .inr (3, [.int 0, .int zn, .ref mH, .ref mL, .ref mB, .ref mP, .ref mR, .ref mA, .ref mW, .ref mU, .ref mV, .int (nI nr), .ref mM, .ref mT, .int mc, .ref mQ, .int ga, .int gb, .int kn, .ref mO, .ref mF, .ref mS, .ref mE, .ref mX, .ref mD])), (mM, .inl (cI, 24, .inl (upd rM (nI nr).toNatClampNeg x))), (mT, .inl (cI, 24, .inl rT))] := hD
    refine lv_aload_n hx hb d_M_outside_96 rfl (lv_at hl9 0 rfl) ?_
    refine va_get (D := (dC, dI)) (ci := 3) (v := .ref mT) (C := R_M) (T := F_M) (N := 25) hx hb hG i_M hown hK hP 0 rfl rfl 13 (by decide) (hG _ k_453) (fun _ h9 => h9) rfl d_M_outside_97 ?_
    refine lv_aload_n hx hb d_M_outside_100 rfl (lv_at hl9 0 rfl) ?_
    refine va_get (D := (dC, dI)) (ci := 3) (v := .int (nI nr)) (C := R_M) (T := F_M) (N := 25) hx hb hG i_M hown hK hP 0 rfl rfl 11 (by decide) (hG _ k_451) (fun _ h9 => h9) rfl d_M_outside_101 ?_
    refine lv_iload_n hx hb d_M_outside_104 rfl (lv_at hl9 2 rfl) ?_
    refine va_iast hx hb hK hP hD hS 2 0 rfl rfl (hin) d_M_outside_105 (fun H locs hP hD hS => ?_)
    have hP : va_P (dC, dI) vwCl [(m0, .inr (3, [.int 0, .int zn, .ref mH, .ref mL, .ref mB, .ref mP, .ref mR, .ref mA, .ref mW, .ref mU, .ref mV, .int (nI nr), .ref mM, .ref mT, .int mc, .ref mQ, .int ga, .int gb, .int kn, .ref mO, .ref mF, .ref mS, .ref mE, .ref mX, .ref mD])), (mM, .inl (cI, 24, .inl (upd rM (nI nr).toNatClampNeg x))), (mT, .inl (cI, 24, .inl (upd rT (nI nr).toNatClampNeg y)))] H := hP
    have hD : va_D A [(m0, .inr (3, [.int 0, .int zn, .ref mH, .ref mL, .ref mB, .ref mP, .ref mR, .ref mA, .ref mW, .ref mU, .ref mV, .int (nI nr), .ref mM, .ref mT, .int mc, .ref mQ, .int ga, .int gb, .int kn, .ref mO, .ref mF, .ref mS, .ref mE, .ref mX, .ref mD])), (mM, .inl (cI, 24, .inl (upd rM (nI nr).toNatClampNeg x))), (mT, .inl (cI, 24, .inl (upd rT (nI nr).toNatClampNeg y)))] := hD
    refine lv_aload_n hx hb d_M_outside_106 rfl (lv_at hl9 0 rfl) ?_
    refine lv_dup hx hb d_M_outside_107 rfl ?_
    refine va_get (D := (dC, dI)) (ci := 3) (v := .int (nI nr)) (C := R_M) (T := F_M) (N := 25) hx hb hG i_M hown hK hP 0 rfl rfl 11 (by decide) (hG _ k_451) (fun _ h9 => h9) rfl d_M_outside_108 ?_
    refine lv_iconst (v := 1) hx hb d_M_outside_111 (by decide) ?_
    refine lv_iadd hx hb d_M_outside_112 ?_
    refine va_put (D := (dC, dI)) (ci := 3) (v := .int ((nI nr) + 1)) (ty := .int) (C := R_M) (T := F_M) (N := 25) hx hb hG i_M t_M t_M_ok n_M hown hK hP hD hS 0 rfl rfl 11 (by decide) (hG _ k_451) (fun _ h9 => h9) rfl (by decide +kernel) rfl rfl (Nat.le_of_ble_eq_true rfl) d_M_outside_113 (fun H locs hP hD hS => ?_)
    have hP : va_P (dC, dI) vwCl [(m0, .inr (3, [.int 0, .int zn, .ref mH, .ref mL, .ref mB, .ref mP, .ref mR, .ref mA, .ref mW, .ref mU, .ref mV, .int ((nI nr) + 1), .ref mM, .ref mT, .int mc, .ref mQ, .int ga, .int gb, .int kn, .ref mO, .ref mF, .ref mS, .ref mE, .ref mX, .ref mD])), (mM, .inl (cI, 24, .inl (upd rM (nI nr).toNatClampNeg x))), (mT, .inl (cI, 24, .inl (upd rT (nI nr).toNatClampNeg y)))] H := hP
    have hD : va_D A [(m0, .inr (3, [.int 0, .int zn, .ref mH, .ref mL, .ref mB, .ref mP, .ref mR, .ref mA, .ref mW, .ref mU, .ref mV, .int ((nI nr) + 1), .ref mM, .ref mT, .int mc, .ref mQ, .int ga, .int gb, .int kn, .ref mO, .ref mF, .ref mS, .ref mE, .ref mX, .ref mD])), (mM, .inl (cI, 24, .inl (upd rM (nI nr).toNatClampNeg x))), (mT, .inl (cI, 24, .inl (upd rT (nI nr).toNatClampNeg y)))] := hD
    refine lv_aload_n hx hb d_M_outside_116 rfl (lv_at hl9 0 rfl) ?_
    refine lv_iconst (v := 0) hx hb d_M_outside_117 (by decide) ?_
    refine va_put (D := (dC, dI)) (ci := 3) (v := .int 0) (ty := .boolean) (C := R_M) (T := F_M) (N := 25) hx hb hG i_M t_M t_M_ok n_M hown hK hP hD hS 0 rfl rfl 18 (by decide) (hG _ k_458) (fun _ h9 => h9) rfl (by decide +kernel) rfl rfl (Nat.le_of_ble_eq_true rfl) d_M_outside_118 (fun H locs hP hD hS => ?_)
    have hP : va_P (dC, dI) vwCl [(m0, .inr (3, [.int 0, .int zn, .ref mH, .ref mL, .ref mB, .ref mP, .ref mR, .ref mA, .ref mW, .ref mU, .ref mV, .int ((nI nr) + 1), .ref mM, .ref mT, .int mc, .ref mQ, .int ga, .int gb, .int 0, .ref mO, .ref mF, .ref mS, .ref mE, .ref mX, .ref mD])), (mM, .inl (cI, 24, .inl (upd rM (nI nr).toNatClampNeg x))), (mT, .inl (cI, 24, .inl (upd rT (nI nr).toNatClampNeg y)))] H := hP
    have hD : va_D A [(m0, .inr (3, [.int 0, .int zn, .ref mH, .ref mL, .ref mB, .ref mP, .ref mR, .ref mA, .ref mW, .ref mU, .ref mV, .int ((nI nr) + 1), .ref mM, .ref mT, .int mc, .ref mQ, .int ga, .int gb, .int 0, .ref mO, .ref mF, .ref mS, .ref mE, .ref mX, .ref mD])), (mM, .inl (cI, 24, .inl (upd rM (nI nr).toNatClampNeg x))), (mT, .inl (cI, 24, .inl (upd rT (nI nr).toNatClampNeg y)))] := hD
    refine lv_aload_n hx hb d_M_outside_121 rfl (lv_at hl9 0 rfl) ?_
    refine va_get (D := (dC, dI)) (ci := 3) (v := .int ((nI nr) + 1)) (C := R_M) (T := F_M) (N := 25) hx hb hG i_M hown hK hP 0 rfl rfl 11 (by decide) (hG _ k_451) (fun _ h9 => h9) rfl d_M_outside_122 ?_
    rw [nI_1]
    rw [nI_clamp (n := nr) (by omega), nI_1] at hP
    exact W.iret (v := (nI (nr + 1))) hx hb hr (fun t ht hW => ⟨⟨(nI (nr + 1)), (), rfl, rfl, by have h9 := hP; rw [← ht] at h9; exact h9⟩, hS.F ht⟩) hS.2.2 d_M_outside_125
  · have h0 : 0 < nr := Nat.pos_of_ne_zero (fun h => c2 (by rw [h]; decide))
    have hin3 : vp_in (nI nr - 1) 24 := by rw [sub1 h0]; exact vp_in_nI (by omega) (by decide)
    refine lv_aload_n hx hb d_M_outside_57 rfl (lv_at hl9 0 rfl) ?_
    refine va_get (D := (dC, dI)) (ci := 3) (v := .ref mM) (C := R_M) (T := F_M) (N := 25) hx hb hG i_M hown hK hP 0 rfl rfl 12 (by decide) (hG _ k_452) (fun _ h9 => h9) rfl d_M_outside_58 ?_
    refine lv_aload_n hx hb d_M_outside_61 rfl (lv_at hl9 0 rfl) ?_
    refine va_get (D := (dC, dI)) (ci := 3) (v := .int (nI nr)) (C := R_M) (T := F_M) (N := 25) hx hb hG i_M hown hK hP 0 rfl rfl 11 (by decide) (hG _ k_451) (fun _ h9 => h9) rfl d_M_outside_62 ?_
    refine lv_iconst (v := 1) hx hb d_M_outside_65 (by decide) ?_
    refine lv_isub hx hb d_M_outside_66 ?_
    refine va_iald hx hb hK hP 1 0 rfl rfl (hin3) d_M_outside_67 ?_
    refine lv_iload_n hx hb d_M_outside_68 rfl (lv_at hl9 1 rfl) ?_
    refine lv_icmp_lt (tgt := 76) hx hb d_M_outside_69 (by decide) (fun c3 => ?_) (fun c3 => absurd c3 (fun h => h (by rw [sub1 h0, nI_clamp (by omega)]; exact hlast.resolve_left (by omega))))
    refine lv_iconst (v := 0) hx hb d_M_outside_76 (by decide) ?_
    refine lv_iconst (v := 2) hx hb d_M_outside_77 (by decide) ?_
    have hPc := hP.sub (ws' := [(m0, .inr (3, [.int 0, .int zn, .ref mH, .ref mL, .ref mB, .ref mP, .ref mR, .ref mA, .ref mW, .ref mU, .ref mV, .int (nI nr), .ref mM, .ref mT, .int mc, .ref mQ, .int ga, .int gb, .int kn, .ref mO, .ref mF, .ref mS, .ref mE, .ref mX, .ref mD]))]) [0] rfl
    have hDc := hD.sub (ws' := [(m0, .inr (3, [.int 0, .int zn, .ref mH, .ref mL, .ref mB, .ref mP, .ref mR, .ref mA, .ref mW, .ref mU, .ref mV, .int (nI nr), .ref mM, .ref mT, .int mc, .ref mQ, .int ga, .int gb, .int kn, .ref mO, .ref mF, .ref mS, .ref mE, .ref mX, .ref mD]))]) [0] (by decide) rfl
    have hFc := va_free (wc := [(m0, .inr (3, [.int 0, .int zn, .ref mH, .ref mL, .ref mB, .ref mP, .ref mR, .ref mA, .ref mW, .ref mU, .ref mV, .int (nI nr), .ref mM, .ref mT, .int mc, .ref mQ, .int ga, .int gb, .int kn, .ref mO, .ref mF, .ref mS, .ref mE, .ref mX, .ref mD]))]) hD hS hA [0] rfl
    refine va_calli (va_runV (C := R_M) (As := [.int 0, .int 2]) (rest := []) ⟨hx, hb, hml, hown, hG⟩ (m_fails002 l dC dI cI cJ cZ cB m0 mH mL mB mP mR mA mW mU mV mM mT mQ mO mF mS mE mX mD zn (nI nr) mc ga gb kn H7.size ) (cwV 2 hG g_M_87 rfl rfl rfl (by decide +kernel) ⟨Nat.le_of_ble_eq_true rfl, Nat.le_of_ble_eq_true rfl⟩) ⟨PC.blind, va_recv hK hP (ci := 3) (q0 := 0) rfl rfl, PC.of hPc hK hDc hE hS hFc⟩ rfl rfl hl9.1 rfl (lv_room (Nat.le_of_ble_eq_true rfl)) d_M_outside_78 ⟨by first | exact Nat.le_of_ble_eq_true rfl | omega, by first | exact Nat.le_of_ble_eq_true rfl | omega⟩) hS (fun q _ h => hFc q h) hFc (fun r13 u t H12 locs ht hvm hw hB hz1 hk1 hS => ?_)
    rw [ht] at hB
    obtain ⟨hP, hD⟩ := jset (wc := [(m0, .inr (3, [.int 0, .int zn, .ref mH, .ref mL, .ref mB, .ref mP, .ref mR, .ref mA, .ref mW, .ref mU, .ref mV, .int (nI nr), .ref mM, .ref mT, .int mc, .ref mQ, .int ga, .int gb, .int kn, .ref mO, .ref mF, .ref mS, .ref mE, .ref mX, .ref mD]))]) (w1 := [(m0, .inr (3, [.int 0, .int zn, .ref mH, .ref mL, .ref mB, .ref mP, .ref mR, .ref mA, .ref mW, .ref mU, .ref mV, .int (nI nr), .ref mM, .ref mT, .int mc, .ref mQ, .int ga, .int gb, .int kn, .ref mO, .ref mF, .ref mS, .ref mE, .ref mX, .ref mD]))]) [0] rfl rfl hP hD hk1 hB
    have hP : va_P (dC, dI) vwCl [(m0, .inr (3, [.int 0, .int zn, .ref mH, .ref mL, .ref mB, .ref mP, .ref mR, .ref mA, .ref mW, .ref mU, .ref mV, .int (nI nr), .ref mM, .ref mT, .int mc, .ref mQ, .int ga, .int gb, .int kn, .ref mO, .ref mF, .ref mS, .ref mE, .ref mX, .ref mD])), (mM, .inl (cI, 24, .inl rM)), (mT, .inl (cI, 24, .inl rT))] H12 := hP
    have hD : va_D A [(m0, .inr (3, [.int 0, .int zn, .ref mH, .ref mL, .ref mB, .ref mP, .ref mR, .ref mA, .ref mW, .ref mU, .ref mV, .int (nI nr), .ref mM, .ref mT, .int mc, .ref mQ, .int ga, .int gb, .int kn, .ref mO, .ref mF, .ref mS, .ref mE, .ref mX, .ref mD])), (mM, .inl (cI, 24, .inl rM)), (mT, .inl (cI, 24, .inl rT))] := hD
    have hw : r13 = 0 := hw
    subst hw
    refine lv_if_eq (tgt := 86) hx hb d_M_outside_81 (by decide) (fun c14 => ?_) (fun c14 => absurd c14 (by decide))
    refine lv_aload_n hx hb d_M_outside_86 rfl (lv_at hl9 0 rfl) ?_
    refine va_get (D := (dC, dI)) (ci := 3) (v := .ref mM) (C := R_M) (T := F_M) (N := 25) hx hb hG i_M hown hK hP 0 rfl rfl 12 (by decide) (hG _ k_452) (fun _ h9 => h9) rfl d_M_outside_87 ?_
    refine lv_aload_n hx hb d_M_outside_90 rfl (lv_at hl9 0 rfl) ?_
    refine va_get (D := (dC, dI)) (ci := 3) (v := .int (nI nr)) (C := R_M) (T := F_M) (N := 25) hx hb hG i_M hown hK hP 0 rfl rfl 11 (by decide) (hG _ k_451) (fun _ h9 => h9) rfl d_M_outside_91 ?_
    refine lv_iload_n hx hb d_M_outside_94 rfl (lv_at hl9 1 rfl) ?_
    refine va_iast hx hb hK hP hD hS 1 0 rfl rfl (hin) d_M_outside_95 (fun H locs hP hD hS => ?_)
    have hP : va_P (dC, dI) vwCl [(m0, .inr (3, [.int 0, .int zn, .ref mH, .ref mL, .ref mB, .ref mP, .ref mR, .ref mA, .ref mW, .ref mU, .ref mV, .int (nI nr), .ref mM, .ref mT, .int mc, .ref mQ, .int ga, .int gb, .int kn, .ref mO, .ref mF, .ref mS, .ref mE, .ref mX, .ref mD])), (mM, .inl (cI, 24, .inl (upd rM (nI nr).toNatClampNeg x))), (mT, .inl (cI, 24, .inl rT))] H := hP
    have hD : va_D A [(m0, .inr (3, [.int 0, .int zn, .ref mH, .ref mL, .ref mB, .ref mP, .ref mR, .ref mA, .ref mW, .ref mU, .ref mV, .int (nI nr), .ref mM, .ref mT, .int mc, .ref mQ, .int ga, .int gb, .int kn, .ref mO, .ref mF, .ref mS, .ref mE, .ref mX, .ref mD])), (mM, .inl (cI, 24, .inl (upd rM (nI nr).toNatClampNeg x))), (mT, .inl (cI, 24, .inl rT))] := hD
    refine lv_aload_n hx hb d_M_outside_96 rfl (lv_at hl9 0 rfl) ?_
    refine va_get (D := (dC, dI)) (ci := 3) (v := .ref mT) (C := R_M) (T := F_M) (N := 25) hx hb hG i_M hown hK hP 0 rfl rfl 13 (by decide) (hG _ k_453) (fun _ h9 => h9) rfl d_M_outside_97 ?_
    refine lv_aload_n hx hb d_M_outside_100 rfl (lv_at hl9 0 rfl) ?_
    refine va_get (D := (dC, dI)) (ci := 3) (v := .int (nI nr)) (C := R_M) (T := F_M) (N := 25) hx hb hG i_M hown hK hP 0 rfl rfl 11 (by decide) (hG _ k_451) (fun _ h9 => h9) rfl d_M_outside_101 ?_
    refine lv_iload_n hx hb d_M_outside_104 rfl (lv_at hl9 2 rfl) ?_
    refine va_iast hx hb hK hP hD hS 2 0 rfl rfl (hin) d_M_outside_105 (fun H locs hP hD hS => ?_)
    have hP : va_P (dC, dI) vwCl [(m0, .inr (3, [.int 0, .int zn, .ref mH, .ref mL, .ref mB, .ref mP, .ref mR, .ref mA, .ref mW, .ref mU, .ref mV, .int (nI nr), .ref mM, .ref mT, .int mc, .ref mQ, .int ga, .int gb, .int kn, .ref mO, .ref mF, .ref mS, .ref mE, .ref mX, .ref mD])), (mM, .inl (cI, 24, .inl (upd rM (nI nr).toNatClampNeg x))), (mT, .inl (cI, 24, .inl (upd rT (nI nr).toNatClampNeg y)))] H := hP
    have hD : va_D A [(m0, .inr (3, [.int 0, .int zn, .ref mH, .ref mL, .ref mB, .ref mP, .ref mR, .ref mA, .ref mW, .ref mU, .ref mV, .int (nI nr), .ref mM, .ref mT, .int mc, .ref mQ, .int ga, .int gb, .int kn, .ref mO, .ref mF, .ref mS, .ref mE, .ref mX, .ref mD])), (mM, .inl (cI, 24, .inl (upd rM (nI nr).toNatClampNeg x))), (mT, .inl (cI, 24, .inl (upd rT (nI nr).toNatClampNeg y)))] := hD
    refine lv_aload_n hx hb d_M_outside_106 rfl (lv_at hl9 0 rfl) ?_
    refine lv_dup hx hb d_M_outside_107 rfl ?_
    refine va_get (D := (dC, dI)) (ci := 3) (v := .int (nI nr)) (C := R_M) (T := F_M) (N := 25) hx hb hG i_M hown hK hP 0 rfl rfl 11 (by decide) (hG _ k_451) (fun _ h9 => h9) rfl d_M_outside_108 ?_
    refine lv_iconst (v := 1) hx hb d_M_outside_111 (by decide) ?_
    refine lv_iadd hx hb d_M_outside_112 ?_
    refine va_put (D := (dC, dI)) (ci := 3) (v := .int ((nI nr) + 1)) (ty := .int) (C := R_M) (T := F_M) (N := 25) hx hb hG i_M t_M t_M_ok n_M hown hK hP hD hS 0 rfl rfl 11 (by decide) (hG _ k_451) (fun _ h9 => h9) rfl (by decide +kernel) rfl rfl (Nat.le_of_ble_eq_true rfl) d_M_outside_113 (fun H locs hP hD hS => ?_)
    have hP : va_P (dC, dI) vwCl [(m0, .inr (3, [.int 0, .int zn, .ref mH, .ref mL, .ref mB, .ref mP, .ref mR, .ref mA, .ref mW, .ref mU, .ref mV, .int ((nI nr) + 1), .ref mM, .ref mT, .int mc, .ref mQ, .int ga, .int gb, .int kn, .ref mO, .ref mF, .ref mS, .ref mE, .ref mX, .ref mD])), (mM, .inl (cI, 24, .inl (upd rM (nI nr).toNatClampNeg x))), (mT, .inl (cI, 24, .inl (upd rT (nI nr).toNatClampNeg y)))] H := hP
    have hD : va_D A [(m0, .inr (3, [.int 0, .int zn, .ref mH, .ref mL, .ref mB, .ref mP, .ref mR, .ref mA, .ref mW, .ref mU, .ref mV, .int ((nI nr) + 1), .ref mM, .ref mT, .int mc, .ref mQ, .int ga, .int gb, .int kn, .ref mO, .ref mF, .ref mS, .ref mE, .ref mX, .ref mD])), (mM, .inl (cI, 24, .inl (upd rM (nI nr).toNatClampNeg x))), (mT, .inl (cI, 24, .inl (upd rT (nI nr).toNatClampNeg y)))] := hD
    refine lv_aload_n hx hb d_M_outside_116 rfl (lv_at hl9 0 rfl) ?_
    refine lv_iconst (v := 0) hx hb d_M_outside_117 (by decide) ?_
    refine va_put (D := (dC, dI)) (ci := 3) (v := .int 0) (ty := .boolean) (C := R_M) (T := F_M) (N := 25) hx hb hG i_M t_M t_M_ok n_M hown hK hP hD hS 0 rfl rfl 18 (by decide) (hG _ k_458) (fun _ h9 => h9) rfl (by decide +kernel) rfl rfl (Nat.le_of_ble_eq_true rfl) d_M_outside_118 (fun H locs hP hD hS => ?_)
    have hP : va_P (dC, dI) vwCl [(m0, .inr (3, [.int 0, .int zn, .ref mH, .ref mL, .ref mB, .ref mP, .ref mR, .ref mA, .ref mW, .ref mU, .ref mV, .int ((nI nr) + 1), .ref mM, .ref mT, .int mc, .ref mQ, .int ga, .int gb, .int 0, .ref mO, .ref mF, .ref mS, .ref mE, .ref mX, .ref mD])), (mM, .inl (cI, 24, .inl (upd rM (nI nr).toNatClampNeg x))), (mT, .inl (cI, 24, .inl (upd rT (nI nr).toNatClampNeg y)))] H := hP
    have hD : va_D A [(m0, .inr (3, [.int 0, .int zn, .ref mH, .ref mL, .ref mB, .ref mP, .ref mR, .ref mA, .ref mW, .ref mU, .ref mV, .int ((nI nr) + 1), .ref mM, .ref mT, .int mc, .ref mQ, .int ga, .int gb, .int 0, .ref mO, .ref mF, .ref mS, .ref mE, .ref mX, .ref mD])), (mM, .inl (cI, 24, .inl (upd rM (nI nr).toNatClampNeg x))), (mT, .inl (cI, 24, .inl (upd rT (nI nr).toNatClampNeg y)))] := hD
    refine lv_aload_n hx hb d_M_outside_121 rfl (lv_at hl9 0 rfl) ?_
    refine va_get (D := (dC, dI)) (ci := 3) (v := .int ((nI nr) + 1)) (C := R_M) (T := F_M) (N := 25) hx hb hG i_M hown hK hP 0 rfl rfl 11 (by decide) (hG _ k_451) (fun _ h9 => h9) rfl d_M_outside_122 ?_
    rw [nI_1]
    rw [nI_clamp (n := nr) (by omega), nI_1] at hP
    exact W.iret (v := (nI (nr + 1))) hx hb hr (fun t ht hW => ⟨⟨(nI (nr + 1)), (), rfl, rfl, by have h9 := hP; rw [← ht] at h9; exact h9⟩, hS.F ht⟩) hS.2.2 d_M_outside_125
set_option maxHeartbeats 4000000 in
set_option maxRecDepth 100000 in
theorem m_outsideX (l : Launch) (dC : Nat → ClassId) (dI : Nat → Nat → Nat) (cI cJ cZ cB : ClassId) (m0 mH mL mB mP mR mA mW mU mV mM mT mQ mO mF mS mE mX mD : Nat) (th zn rw mc ga gb kn : Int32) (rM : Nat → Int32)  (nr : Nat) (x y : Int32) (sz : Nat) (hle : nr ≤ 24) (hx0 : (x < 0 ∨ 1439 < x) ∨ (y < (-10000) ∨ 10000 < y)) : Met l y_M_outside w_M_outside ({ frames := 1, cells := 0, slots := 0, locals := 22 }) (PC (dC, dI) (TY cI cJ cZ cB) [.ref m0, .int x, .int y] [(m0, .inr (3, [.int th, .int zn, .ref mH, .ref mL, .ref mB, .ref mP, .ref mR, .ref mA, .ref mW, .ref mU, .ref mV, .int (nI nr), .ref mM, .ref mT, .int mc, .ref mQ, .int ga, .int gb, .int kn, .ref mO, .ref mF, .ref mS, .ref mE, .ref mX, .ref mD])), (mM, .inl (cI, 24, .inl rM))] sz (va_A [(m0, .inr (3, [.int th, .int zn, .ref mH, .ref mL, .ref mB, .ref mP, .ref mR, .ref mA, .ref mW, .ref mU, .ref mV, .int (nI nr), .ref mM, .ref mT, .int mc, .ref mQ, .int ga, .int gb, .int kn, .ref mO, .ref mF, .ref mS, .ref mE, .ref mX, .ref mD])), (mM, .inl (cI, 24, .inl rM))] sz)) (va_Qi (fun (r : Int32) (_ : Unit) => True) (fun (_ : Unit) (t : State) => va_P (dC, dI) vwCl [(m0, .inr (3, [.int 1, .int zn, .ref mH, .ref mL, .ref mB, .ref mP, .ref mR, .ref mA, .ref mW, .ref mU, .ref mV, .int (nI nr), .ref mM, .ref mT, .int mc, .ref mQ, .int ga, .int gb, .int kn, .ref mO, .ref mF, .ref mS, .ref mE, .ref mX, .ref mD])), (mM, .inl (cI, 24, .inl rM))] t.heap) (va_A [(m0, .inr (3, [.int th, .int zn, .ref mH, .ref mL, .ref mB, .ref mP, .ref mR, .ref mA, .ref mW, .ref mU, .ref mV, .int (nI nr), .ref mM, .ref mT, .int mc, .ref mQ, .int ga, .int gb, .int kn, .ref mO, .ref mF, .ref mS, .ref mE, .ref mX, .ref mD])), (mM, .inl (cI, 24, .inl rM))] sz)) 0 0 (va_A [(m0, .inr (3, [.int th, .int zn, .ref mH, .ref mL, .ref mB, .ref mP, .ref mR, .ref mA, .ref mW, .ref mU, .ref mV, .int (nI nr), .ref mM, .ref mT, .int mc, .ref mQ, .int ga, .int gb, .int kn, .ref mO, .ref mF, .ref mS, .ref mE, .ref mX, .ref mD])), (mM, .inl (cI, 24, .inl rM))] sz) := by
  refine Met.ofW (cc := b_M_outside) (maxL := 3) (ret := (some .int)) (by decide) rfl ?_
  intro p e s m args below meth c s₁ B hml hv
  obtain ⟨rfl, hsz, hP, hK, hD0, hE⟩ := hv
  have hx := B.exec
  have hb := B.bytes
  have hr := B.returns
  have hG : ∀ w ∈ GG, w.before _ s = true := fun w h => atoms_spec (ws := w_M_outside) B.pre w (List.mem_cons_of_mem _ h)
  have hown : s.vm.findClass R_M = some m.cls := findClass_of_methodNamed B.named
  have hlocks := B.notSynchronized
  subst hsz
  have hD := hD0.self (sz := s.heap.size)
  generalize hAe : (va_A [(m0, .inr (3, [.int th, .int zn, .ref mH, .ref mL, .ref mB, .ref mP, .ref mR, .ref mA, .ref mW, .ref mU, .ref mV, .int (nI nr), .ref mM, .ref mT, .int mc, .ref mQ, .int ga, .int gb, .int kn, .ref mO, .ref mF, .ref mS, .ref mE, .ref mX, .ref mD])), (mM, .inl (cI, 24, .inl rM))] s.heap.size) = A at hD hE ⊢
  have hA : ∀ q : Nat, s.heap.size ≤ q → A q := fun q h => by rw [← hAe]; exact Or.inr h
  have hS : va_S A s.heap s.heap [] := va_S.rf
  obtain ⟨H, hH⟩ : ∃ z, z = s.heap := ⟨_, rfl⟩
  rw [← hH] at hP
  have hS : va_S A s.heap H [] := by rw [hH]; exact hS
  rw [← hH]
  have hl9 := lv_entry ([.ref m0, .int x, .int y]) (n := 3) (Nat.le_of_ble_eq_true rfl)
  rw [lg_entry_eq]
  generalize (lg_sl ([.ref m0, .int x, .int y]) ++ List.replicate (3 - (lg_sl ([.ref m0, .int x, .int y])).length) Slot.unset).toArray = ls at hl9 ⊢
  have hl9 : lv_has ls 3 [(0, .ref m0), (1, .int x), (2, .int y)] := hl9
  by_cases h1 : (x < 0 ∨ 1439 < x)
  · refine lv_aload_n hx hb d_M_outside_0 rfl (lv_at hl9 0 rfl) ?_
    refine lv_iconst (v := 0) hx hb d_M_outside_1 (by decide) ?_
    refine va_put (D := (dC, dI)) (ci := 3) (v := .int 0) (ty := .int) (C := R_M) (T := F_M) (N := 25) hx hb hG i_M t_M t_M_ok n_M hown hK hP hD hS 0 rfl rfl 0 (by decide) (hG _ k_440) (fun _ h9 => h9) rfl (by decide +kernel) rfl rfl (Nat.le_of_ble_eq_true rfl) d_M_outside_2 (fun H locs hP hD hS => ?_)
    have hP : va_P (dC, dI) vwCl [(m0, .inr (3, [.int 0, .int zn, .ref mH, .ref mL, .ref mB, .ref mP, .ref mR, .ref mA, .ref mW, .ref mU, .ref mV, .int (nI nr), .ref mM, .ref mT, .int mc, .ref mQ, .int ga, .int gb, .int kn, .ref mO, .ref mF, .ref mS, .ref mE, .ref mX, .ref mD])), (mM, .inl (cI, 24, .inl rM))] H := hP
    have hD : va_D A [(m0, .inr (3, [.int 0, .int zn, .ref mH, .ref mL, .ref mB, .ref mP, .ref mR, .ref mA, .ref mW, .ref mU, .ref mV, .int (nI nr), .ref mM, .ref mT, .int mc, .ref mQ, .int ga, .int gb, .int kn, .ref mO, .ref mF, .ref mS, .ref mE, .ref mX, .ref mD])), (mM, .inl (cI, 24, .inl rM))] := hD
    refine lv_aload_n hx hb d_M_outside_5 rfl (lv_at hl9 0 rfl) ?_
    refine lv_iload_n hx hb d_M_outside_6 rfl (lv_at hl9 1 rfl) ?_
    refine lv_iconst (v := 0) hx hb d_M_outside_7 (by decide) ?_
    refine lv_sipush (v := 1439) hx hb d_M_outside_8 (by decide) ?_
    have hPc := hP.sub (ws' := []) [] rfl
    have hDc := hD.sub (ws' := []) [] (by decide) rfl
    have hFc := va_A_nil hA hS.1
    refine va_calli (va_runS (As := [.int x, .int 0, .int 1439]) (rest := [.ref m0]) ⟨hx, hb, hml, hown, hG⟩ (m_within l dC dI cI cJ cZ cB x 0 1439 H.size ) (cwS 3 hG g_M_83 rfl rfl rfl (by decide +kernel) ⟨Nat.le_of_ble_eq_true rfl, Nat.le_of_ble_eq_true rfl⟩) ⟨PC.blind, PC.of hPc hK hDc hE hS hFc⟩ rfl rfl hl9.1 rfl (lv_room (Nat.le_of_ble_eq_true rfl)) d_M_outside_11 ⟨by first | exact Nat.le_of_ble_eq_true rfl | omega, by first | exact Nat.le_of_ble_eq_true rfl | omega⟩) hS (fun q _ h => hFc q h) hFc (fun r2 u t H1 locs ht hvm hw hB hz1 hk1 hS => ?_)
    have hP := wp_kept hP hk1
    have hw : r2 = if ¬ (x < 0 ∨ 1439 < x) then 1 else 0 := hw
    subst hw
    rw [wi_0 h1]
    refine lv_if_eq (tgt := 30) hx hb d_M_outside_14 (by decide) (fun c3 => ?_) (fun c3 => absurd c3 (by decide))
    refine lv_iconst (v := 1) hx hb d_M_outside_30 (by decide) ?_
    refine lv_goto (tgt := 35) hx hb d_M_outside_31 (by decide) ?_
    refine lv_iconst (v := 1) hx hb d_M_outside_35 (by decide) ?_
    have hPc := hP.sub (ws' := [(m0, .inr (3, [.int 0, .int zn, .ref mH, .ref mL, .ref mB, .ref mP, .ref mR, .ref mA, .ref mW, .ref mU, .ref mV, .int (nI nr), .ref mM, .ref mT, .int mc, .ref mQ, .int ga, .int gb, .int kn, .ref mO, .ref mF, .ref mS, .ref mE, .ref mX, .ref mD]))]) [0] rfl
    have hDc := hD.sub (ws' := [(m0, .inr (3, [.int 0, .int zn, .ref mH, .ref mL, .ref mB, .ref mP, .ref mR, .ref mA, .ref mW, .ref mU, .ref mV, .int (nI nr), .ref mM, .ref mT, .int mc, .ref mQ, .int ga, .int gb, .int kn, .ref mO, .ref mF, .ref mS, .ref mE, .ref mX, .ref mD]))]) [0] (by decide) rfl
    have hFc := va_free (wc := [(m0, .inr (3, [.int 0, .int zn, .ref mH, .ref mL, .ref mB, .ref mP, .ref mR, .ref mA, .ref mW, .ref mU, .ref mV, .int (nI nr), .ref mM, .ref mT, .int mc, .ref mQ, .int ga, .int gb, .int kn, .ref mO, .ref mF, .ref mS, .ref mE, .ref mX, .ref mD]))]) hD hS hA [0] rfl
    refine va_calli (va_runV (C := R_M) (As := [.int 1, .int 1]) (rest := []) ⟨hx, hb, hml, hown, hG⟩ (m_fails011 l dC dI cI cJ cZ cB m0 mH mL mB mP mR mA mW mU mV mM mT mQ mO mF mS mE mX mD zn (nI nr) mc ga gb kn H1.size ) (cwV 2 hG g_M_87 rfl rfl rfl (by decide +kernel) ⟨Nat.le_of_ble_eq_true rfl, Nat.le_of_ble_eq_true rfl⟩) ⟨PC.blind, va_recv hK hP (ci := 3) (q0 := 0) rfl rfl, PC.of hPc hK hDc hE hS hFc⟩ rfl rfl hl9.1 rfl (lv_room (Nat.le_of_ble_eq_true rfl)) d_M_outside_36 ⟨by first | exact Nat.le_of_ble_eq_true rfl | omega, by first | exact Nat.le_of_ble_eq_true rfl | omega⟩) hS (fun q _ h => hFc q h) hFc (fun r5 u t H4 locs ht hvm hw hB hz1 hk1 hS => ?_)
    rw [ht] at hB
    obtain ⟨hP, hD⟩ := jset (wc := [(m0, .inr (3, [.int 0, .int zn, .ref mH, .ref mL, .ref mB, .ref mP, .ref mR, .ref mA, .ref mW, .ref mU, .ref mV, .int (nI nr), .ref mM, .ref mT, .int mc, .ref mQ, .int ga, .int gb, .int kn, .ref mO, .ref mF, .ref mS, .ref mE, .ref mX, .ref mD]))]) (w1 := [(m0, .inr (3, [.int 1, .int zn, .ref mH, .ref mL, .ref mB, .ref mP, .ref mR, .ref mA, .ref mW, .ref mU, .ref mV, .int (nI nr), .ref mM, .ref mT, .int mc, .ref mQ, .int ga, .int gb, .int kn, .ref mO, .ref mF, .ref mS, .ref mE, .ref mX, .ref mD]))]) [0] rfl rfl hP hD hk1 hB
    have hP : va_P (dC, dI) vwCl [(m0, .inr (3, [.int 1, .int zn, .ref mH, .ref mL, .ref mB, .ref mP, .ref mR, .ref mA, .ref mW, .ref mU, .ref mV, .int (nI nr), .ref mM, .ref mT, .int mc, .ref mQ, .int ga, .int gb, .int kn, .ref mO, .ref mF, .ref mS, .ref mE, .ref mX, .ref mD])), (mM, .inl (cI, 24, .inl rM))] H4 := hP
    have hD : va_D A [(m0, .inr (3, [.int 1, .int zn, .ref mH, .ref mL, .ref mB, .ref mP, .ref mR, .ref mA, .ref mW, .ref mU, .ref mV, .int (nI nr), .ref mM, .ref mT, .int mc, .ref mQ, .int ga, .int gb, .int kn, .ref mO, .ref mF, .ref mS, .ref mE, .ref mX, .ref mD])), (mM, .inl (cI, 24, .inl rM))] := hD
    have hw : r5 = 1 := hw
    subst hw
    refine lv_pop hx hb d_M_outside_39 rfl ?_
    refine lv_aload_n hx hb d_M_outside_40 rfl (lv_at hl9 0 rfl) ?_
    refine lv_aload_n hx hb d_M_outside_41 rfl (lv_at hl9 0 rfl) ?_
    refine va_get (D := (dC, dI)) (ci := 3) (v := .int (nI nr)) (C := R_M) (T := F_M) (N := 25) hx hb hG i_M hown hK hP 0 rfl rfl 11 (by decide) (hG _ k_451) (fun _ h9 => h9) rfl d_M_outside_42 ?_
    refine lv_bipush (v := 24) hx hb d_M_outside_45 (by decide) ?_
    refine lv_icmp_eq (tgt := 72) hx hb d_M_outside_47 (by decide) (fun c1 => ?_) (fun c1 => ?_)
    · refine lv_iconst (v := 1) hx hb d_M_outside_72 (by decide) ?_
      refine lv_goto (tgt := 77) hx hb d_M_outside_73 (by decide) ?_
      refine lv_iconst (v := 2) hx hb d_M_outside_77 (by decide) ?_
      have hPc := hP.sub (ws' := [(m0, .inr (3, [.int 1, .int zn, .ref mH, .ref mL, .ref mB, .ref mP, .ref mR, .ref mA, .ref mW, .ref mU, .ref mV, .int (nI nr), .ref mM, .ref mT, .int mc, .ref mQ, .int ga, .int gb, .int kn, .ref mO, .ref mF, .ref mS, .ref mE, .ref mX, .ref mD]))]) [0] rfl
      have hDc := hD.sub (ws' := [(m0, .inr (3, [.int 1, .int zn, .ref mH, .ref mL, .ref mB, .ref mP, .ref mR, .ref mA, .ref mW, .ref mU, .ref mV, .int (nI nr), .ref mM, .ref mT, .int mc, .ref mQ, .int ga, .int gb, .int kn, .ref mO, .ref mF, .ref mS, .ref mE, .ref mX, .ref mD]))]) [0] (by decide) rfl
      have hFc := va_free (wc := [(m0, .inr (3, [.int 1, .int zn, .ref mH, .ref mL, .ref mB, .ref mP, .ref mR, .ref mA, .ref mW, .ref mU, .ref mV, .int (nI nr), .ref mM, .ref mT, .int mc, .ref mQ, .int ga, .int gb, .int kn, .ref mO, .ref mF, .ref mS, .ref mE, .ref mX, .ref mD]))]) hD hS hA [0] rfl
      refine va_calli (va_runV (C := R_M) (As := [.int 1, .int 2]) (rest := []) ⟨hx, hb, hml, hown, hG⟩ (m_fails112 l dC dI cI cJ cZ cB m0 mH mL mB mP mR mA mW mU mV mM mT mQ mO mF mS mE mX mD zn (nI nr) mc ga gb kn H4.size ) (cwV 2 hG g_M_87 rfl rfl rfl (by decide +kernel) ⟨Nat.le_of_ble_eq_true rfl, Nat.le_of_ble_eq_true rfl⟩) ⟨PC.blind, va_recv hK hP (ci := 3) (q0 := 0) rfl rfl, PC.of hPc hK hDc hE hS hFc⟩ rfl rfl hl9.1 rfl (lv_room (Nat.le_of_ble_eq_true rfl)) d_M_outside_78 ⟨by first | exact Nat.le_of_ble_eq_true rfl | omega, by first | exact Nat.le_of_ble_eq_true rfl | omega⟩) hS (fun q _ h => hFc q h) hFc (fun r7 u t H6 locs ht hvm hw hB hz1 hk1 hS => ?_)
      rw [ht] at hB
      obtain ⟨hP, hD⟩ := jset (wc := [(m0, .inr (3, [.int 1, .int zn, .ref mH, .ref mL, .ref mB, .ref mP, .ref mR, .ref mA, .ref mW, .ref mU, .ref mV, .int (nI nr), .ref mM, .ref mT, .int mc, .ref mQ, .int ga, .int gb, .int kn, .ref mO, .ref mF, .ref mS, .ref mE, .ref mX, .ref mD]))]) (w1 := [(m0, .inr (3, [.int 1, .int zn, .ref mH, .ref mL, .ref mB, .ref mP, .ref mR, .ref mA, .ref mW, .ref mU, .ref mV, .int (nI nr), .ref mM, .ref mT, .int mc, .ref mQ, .int ga, .int gb, .int kn, .ref mO, .ref mF, .ref mS, .ref mE, .ref mX, .ref mD]))]) [0] rfl rfl hP hD hk1 hB
      have hP : va_P (dC, dI) vwCl [(m0, .inr (3, [.int 1, .int zn, .ref mH, .ref mL, .ref mB, .ref mP, .ref mR, .ref mA, .ref mW, .ref mU, .ref mV, .int (nI nr), .ref mM, .ref mT, .int mc, .ref mQ, .int ga, .int gb, .int kn, .ref mO, .ref mF, .ref mS, .ref mE, .ref mX, .ref mD])), (mM, .inl (cI, 24, .inl rM))] H6 := hP
      have hD : va_D A [(m0, .inr (3, [.int 1, .int zn, .ref mH, .ref mL, .ref mB, .ref mP, .ref mR, .ref mA, .ref mW, .ref mU, .ref mV, .int (nI nr), .ref mM, .ref mT, .int mc, .ref mQ, .int ga, .int gb, .int kn, .ref mO, .ref mF, .ref mS, .ref mE, .ref mX, .ref mD])), (mM, .inl (cI, 24, .inl rM))] := hD
      have hw : r7 = 1 := hw
      subst hw
      refine lv_if_eq (tgt := 86) hx hb d_M_outside_81 (by decide) (fun c8 => absurd c8 (by decide)) (fun c8 => ?_)
      refine lv_iconst (v := 0) hx hb d_M_outside_84 (by decide) ?_
      exact W.iret (v := 0) hx hb hr (fun t ht hW => ⟨⟨0, (), rfl, trivial, by have h9 := hP; rw [← ht] at h9; exact h9⟩, hS.F ht⟩) hS.2.2 d_M_outside_85
    · refine lv_aload_n hx hb d_M_outside_50 rfl (lv_at hl9 0 rfl) ?_
      refine va_get (D := (dC, dI)) (ci := 3) (v := .int (nI nr)) (C := R_M) (T := F_M) (N := 25) hx hb hG i_M hown hK hP 0 rfl rfl 11 (by decide) (hG _ k_451) (fun _ h9 => h9) rfl d_M_outside_51 ?_
      refine lv_if_le (tgt := 76) hx hb d_M_outside_54 (by decide) (fun c2 => ?_) (fun c2 => ?_)
      · refine lv_iconst (v := 0) hx hb d_M_outside_76 (by decide) ?_
        refine lv_iconst (v := 2) hx hb d_M_outside_77 (by decide) ?_
        have hPc := hP.sub (ws' := [(m0, .inr (3, [.int 1, .int zn, .ref mH, .ref mL, .ref mB, .ref mP, .ref mR, .ref mA, .ref mW, .ref mU, .ref mV, .int (nI nr), .ref mM, .ref mT, .int mc, .ref mQ, .int ga, .int gb, .int kn, .ref mO, .ref mF, .ref mS, .ref mE, .ref mX, .ref mD]))]) [0] rfl
        have hDc := hD.sub (ws' := [(m0, .inr (3, [.int 1, .int zn, .ref mH, .ref mL, .ref mB, .ref mP, .ref mR, .ref mA, .ref mW, .ref mU, .ref mV, .int (nI nr), .ref mM, .ref mT, .int mc, .ref mQ, .int ga, .int gb, .int kn, .ref mO, .ref mF, .ref mS, .ref mE, .ref mX, .ref mD]))]) [0] (by decide) rfl
        have hFc := va_free (wc := [(m0, .inr (3, [.int 1, .int zn, .ref mH, .ref mL, .ref mB, .ref mP, .ref mR, .ref mA, .ref mW, .ref mU, .ref mV, .int (nI nr), .ref mM, .ref mT, .int mc, .ref mQ, .int ga, .int gb, .int kn, .ref mO, .ref mF, .ref mS, .ref mE, .ref mX, .ref mD]))]) hD hS hA [0] rfl
        refine va_calli (va_runV (C := R_M) (As := [.int 0, .int 2]) (rest := []) ⟨hx, hb, hml, hown, hG⟩ (m_fails102 l dC dI cI cJ cZ cB m0 mH mL mB mP mR mA mW mU mV mM mT mQ mO mF mS mE mX mD zn (nI nr) mc ga gb kn H4.size ) (cwV 2 hG g_M_87 rfl rfl rfl (by decide +kernel) ⟨Nat.le_of_ble_eq_true rfl, Nat.le_of_ble_eq_true rfl⟩) ⟨PC.blind, va_recv hK hP (ci := 3) (q0 := 0) rfl rfl, PC.of hPc hK hDc hE hS hFc⟩ rfl rfl hl9.1 rfl (lv_room (Nat.le_of_ble_eq_true rfl)) d_M_outside_78 ⟨by first | exact Nat.le_of_ble_eq_true rfl | omega, by first | exact Nat.le_of_ble_eq_true rfl | omega⟩) hS (fun q _ h => hFc q h) hFc (fun r10 u t H9 locs ht hvm hw hB hz1 hk1 hS => ?_)
        rw [ht] at hB
        obtain ⟨hP, hD⟩ := jset (wc := [(m0, .inr (3, [.int 1, .int zn, .ref mH, .ref mL, .ref mB, .ref mP, .ref mR, .ref mA, .ref mW, .ref mU, .ref mV, .int (nI nr), .ref mM, .ref mT, .int mc, .ref mQ, .int ga, .int gb, .int kn, .ref mO, .ref mF, .ref mS, .ref mE, .ref mX, .ref mD]))]) (w1 := [(m0, .inr (3, [.int 1, .int zn, .ref mH, .ref mL, .ref mB, .ref mP, .ref mR, .ref mA, .ref mW, .ref mU, .ref mV, .int (nI nr), .ref mM, .ref mT, .int mc, .ref mQ, .int ga, .int gb, .int kn, .ref mO, .ref mF, .ref mS, .ref mE, .ref mX, .ref mD]))]) [0] rfl rfl hP hD hk1 hB
        have hP : va_P (dC, dI) vwCl [(m0, .inr (3, [.int 1, .int zn, .ref mH, .ref mL, .ref mB, .ref mP, .ref mR, .ref mA, .ref mW, .ref mU, .ref mV, .int (nI nr), .ref mM, .ref mT, .int mc, .ref mQ, .int ga, .int gb, .int kn, .ref mO, .ref mF, .ref mS, .ref mE, .ref mX, .ref mD])), (mM, .inl (cI, 24, .inl rM))] H9 := hP
        have hD : va_D A [(m0, .inr (3, [.int 1, .int zn, .ref mH, .ref mL, .ref mB, .ref mP, .ref mR, .ref mA, .ref mW, .ref mU, .ref mV, .int (nI nr), .ref mM, .ref mT, .int mc, .ref mQ, .int ga, .int gb, .int kn, .ref mO, .ref mF, .ref mS, .ref mE, .ref mX, .ref mD])), (mM, .inl (cI, 24, .inl rM))] := hD
        have hw : r10 = 1 := hw
        subst hw
        refine lv_if_eq (tgt := 86) hx hb d_M_outside_81 (by decide) (fun c11 => absurd c11 (by decide)) (fun c11 => ?_)
        refine lv_iconst (v := 0) hx hb d_M_outside_84 (by decide) ?_
        exact W.iret (v := 0) hx hb hr (fun t ht hW => ⟨⟨0, (), rfl, trivial, by have h9 := hP; rw [← ht] at h9; exact h9⟩, hS.F ht⟩) hS.2.2 d_M_outside_85
      · have h0 : 0 < nr := Nat.pos_of_ne_zero (fun h => c2 (by rw [h]; decide))
        have hin3 : vp_in (nI nr - 1) 24 := by rw [sub1 h0]; exact vp_in_nI (by omega) (by decide)
        refine lv_aload_n hx hb d_M_outside_57 rfl (lv_at hl9 0 rfl) ?_
        refine va_get (D := (dC, dI)) (ci := 3) (v := .ref mM) (C := R_M) (T := F_M) (N := 25) hx hb hG i_M hown hK hP 0 rfl rfl 12 (by decide) (hG _ k_452) (fun _ h9 => h9) rfl d_M_outside_58 ?_
        refine lv_aload_n hx hb d_M_outside_61 rfl (lv_at hl9 0 rfl) ?_
        refine va_get (D := (dC, dI)) (ci := 3) (v := .int (nI nr)) (C := R_M) (T := F_M) (N := 25) hx hb hG i_M hown hK hP 0 rfl rfl 11 (by decide) (hG _ k_451) (fun _ h9 => h9) rfl d_M_outside_62 ?_
        refine lv_iconst (v := 1) hx hb d_M_outside_65 (by decide) ?_
        refine lv_isub hx hb d_M_outside_66 ?_
        refine va_iald hx hb hK hP 1 0 rfl rfl (hin3) d_M_outside_67 ?_
        refine lv_iload_n hx hb d_M_outside_68 rfl (lv_at hl9 1 rfl) ?_
        refine lv_icmp_lt (tgt := 76) hx hb d_M_outside_69 (by decide) (fun c3 => ?_) (fun c3 => ?_)
        · refine lv_iconst (v := 0) hx hb d_M_outside_76 (by decide) ?_
          refine lv_iconst (v := 2) hx hb d_M_outside_77 (by decide) ?_
          have hPc := hP.sub (ws' := [(m0, .inr (3, [.int 1, .int zn, .ref mH, .ref mL, .ref mB, .ref mP, .ref mR, .ref mA, .ref mW, .ref mU, .ref mV, .int (nI nr), .ref mM, .ref mT, .int mc, .ref mQ, .int ga, .int gb, .int kn, .ref mO, .ref mF, .ref mS, .ref mE, .ref mX, .ref mD]))]) [0] rfl
          have hDc := hD.sub (ws' := [(m0, .inr (3, [.int 1, .int zn, .ref mH, .ref mL, .ref mB, .ref mP, .ref mR, .ref mA, .ref mW, .ref mU, .ref mV, .int (nI nr), .ref mM, .ref mT, .int mc, .ref mQ, .int ga, .int gb, .int kn, .ref mO, .ref mF, .ref mS, .ref mE, .ref mX, .ref mD]))]) [0] (by decide) rfl
          have hFc := va_free (wc := [(m0, .inr (3, [.int 1, .int zn, .ref mH, .ref mL, .ref mB, .ref mP, .ref mR, .ref mA, .ref mW, .ref mU, .ref mV, .int (nI nr), .ref mM, .ref mT, .int mc, .ref mQ, .int ga, .int gb, .int kn, .ref mO, .ref mF, .ref mS, .ref mE, .ref mX, .ref mD]))]) hD hS hA [0] rfl
          refine va_calli (va_runV (C := R_M) (As := [.int 0, .int 2]) (rest := []) ⟨hx, hb, hml, hown, hG⟩ (m_fails102 l dC dI cI cJ cZ cB m0 mH mL mB mP mR mA mW mU mV mM mT mQ mO mF mS mE mX mD zn (nI nr) mc ga gb kn H4.size ) (cwV 2 hG g_M_87 rfl rfl rfl (by decide +kernel) ⟨Nat.le_of_ble_eq_true rfl, Nat.le_of_ble_eq_true rfl⟩) ⟨PC.blind, va_recv hK hP (ci := 3) (q0 := 0) rfl rfl, PC.of hPc hK hDc hE hS hFc⟩ rfl rfl hl9.1 rfl (lv_room (Nat.le_of_ble_eq_true rfl)) d_M_outside_78 ⟨by first | exact Nat.le_of_ble_eq_true rfl | omega, by first | exact Nat.le_of_ble_eq_true rfl | omega⟩) hS (fun q _ h => hFc q h) hFc (fun r13 u t H12 locs ht hvm hw hB hz1 hk1 hS => ?_)
          rw [ht] at hB
          obtain ⟨hP, hD⟩ := jset (wc := [(m0, .inr (3, [.int 1, .int zn, .ref mH, .ref mL, .ref mB, .ref mP, .ref mR, .ref mA, .ref mW, .ref mU, .ref mV, .int (nI nr), .ref mM, .ref mT, .int mc, .ref mQ, .int ga, .int gb, .int kn, .ref mO, .ref mF, .ref mS, .ref mE, .ref mX, .ref mD]))]) (w1 := [(m0, .inr (3, [.int 1, .int zn, .ref mH, .ref mL, .ref mB, .ref mP, .ref mR, .ref mA, .ref mW, .ref mU, .ref mV, .int (nI nr), .ref mM, .ref mT, .int mc, .ref mQ, .int ga, .int gb, .int kn, .ref mO, .ref mF, .ref mS, .ref mE, .ref mX, .ref mD]))]) [0] rfl rfl hP hD hk1 hB
          have hP : va_P (dC, dI) vwCl [(m0, .inr (3, [.int 1, .int zn, .ref mH, .ref mL, .ref mB, .ref mP, .ref mR, .ref mA, .ref mW, .ref mU, .ref mV, .int (nI nr), .ref mM, .ref mT, .int mc, .ref mQ, .int ga, .int gb, .int kn, .ref mO, .ref mF, .ref mS, .ref mE, .ref mX, .ref mD])), (mM, .inl (cI, 24, .inl rM))] H12 := hP
          have hD : va_D A [(m0, .inr (3, [.int 1, .int zn, .ref mH, .ref mL, .ref mB, .ref mP, .ref mR, .ref mA, .ref mW, .ref mU, .ref mV, .int (nI nr), .ref mM, .ref mT, .int mc, .ref mQ, .int ga, .int gb, .int kn, .ref mO, .ref mF, .ref mS, .ref mE, .ref mX, .ref mD])), (mM, .inl (cI, 24, .inl rM))] := hD
          have hw : r13 = 1 := hw
          subst hw
          refine lv_if_eq (tgt := 86) hx hb d_M_outside_81 (by decide) (fun c14 => absurd c14 (by decide)) (fun c14 => ?_)
          refine lv_iconst (v := 0) hx hb d_M_outside_84 (by decide) ?_
          exact W.iret (v := 0) hx hb hr (fun t ht hW => ⟨⟨0, (), rfl, trivial, by have h9 := hP; rw [← ht] at h9; exact h9⟩, hS.F ht⟩) hS.2.2 d_M_outside_85
        · refine lv_iconst (v := 1) hx hb d_M_outside_72 (by decide) ?_
          refine lv_goto (tgt := 77) hx hb d_M_outside_73 (by decide) ?_
          refine lv_iconst (v := 2) hx hb d_M_outside_77 (by decide) ?_
          have hPc := hP.sub (ws' := [(m0, .inr (3, [.int 1, .int zn, .ref mH, .ref mL, .ref mB, .ref mP, .ref mR, .ref mA, .ref mW, .ref mU, .ref mV, .int (nI nr), .ref mM, .ref mT, .int mc, .ref mQ, .int ga, .int gb, .int kn, .ref mO, .ref mF, .ref mS, .ref mE, .ref mX, .ref mD]))]) [0] rfl
          have hDc := hD.sub (ws' := [(m0, .inr (3, [.int 1, .int zn, .ref mH, .ref mL, .ref mB, .ref mP, .ref mR, .ref mA, .ref mW, .ref mU, .ref mV, .int (nI nr), .ref mM, .ref mT, .int mc, .ref mQ, .int ga, .int gb, .int kn, .ref mO, .ref mF, .ref mS, .ref mE, .ref mX, .ref mD]))]) [0] (by decide) rfl
          have hFc := va_free (wc := [(m0, .inr (3, [.int 1, .int zn, .ref mH, .ref mL, .ref mB, .ref mP, .ref mR, .ref mA, .ref mW, .ref mU, .ref mV, .int (nI nr), .ref mM, .ref mT, .int mc, .ref mQ, .int ga, .int gb, .int kn, .ref mO, .ref mF, .ref mS, .ref mE, .ref mX, .ref mD]))]) hD hS hA [0] rfl
          refine va_calli (va_runV (C := R_M) (As := [.int 1, .int 2]) (rest := []) ⟨hx, hb, hml, hown, hG⟩ (m_fails112 l dC dI cI cJ cZ cB m0 mH mL mB mP mR mA mW mU mV mM mT mQ mO mF mS mE mX mD zn (nI nr) mc ga gb kn H4.size ) (cwV 2 hG g_M_87 rfl rfl rfl (by decide +kernel) ⟨Nat.le_of_ble_eq_true rfl, Nat.le_of_ble_eq_true rfl⟩) ⟨PC.blind, va_recv hK hP (ci := 3) (q0 := 0) rfl rfl, PC.of hPc hK hDc hE hS hFc⟩ rfl rfl hl9.1 rfl (lv_room (Nat.le_of_ble_eq_true rfl)) d_M_outside_78 ⟨by first | exact Nat.le_of_ble_eq_true rfl | omega, by first | exact Nat.le_of_ble_eq_true rfl | omega⟩) hS (fun q _ h => hFc q h) hFc (fun r16 u t H15 locs ht hvm hw hB hz1 hk1 hS => ?_)
          rw [ht] at hB
          obtain ⟨hP, hD⟩ := jset (wc := [(m0, .inr (3, [.int 1, .int zn, .ref mH, .ref mL, .ref mB, .ref mP, .ref mR, .ref mA, .ref mW, .ref mU, .ref mV, .int (nI nr), .ref mM, .ref mT, .int mc, .ref mQ, .int ga, .int gb, .int kn, .ref mO, .ref mF, .ref mS, .ref mE, .ref mX, .ref mD]))]) (w1 := [(m0, .inr (3, [.int 1, .int zn, .ref mH, .ref mL, .ref mB, .ref mP, .ref mR, .ref mA, .ref mW, .ref mU, .ref mV, .int (nI nr), .ref mM, .ref mT, .int mc, .ref mQ, .int ga, .int gb, .int kn, .ref mO, .ref mF, .ref mS, .ref mE, .ref mX, .ref mD]))]) [0] rfl rfl hP hD hk1 hB
          have hP : va_P (dC, dI) vwCl [(m0, .inr (3, [.int 1, .int zn, .ref mH, .ref mL, .ref mB, .ref mP, .ref mR, .ref mA, .ref mW, .ref mU, .ref mV, .int (nI nr), .ref mM, .ref mT, .int mc, .ref mQ, .int ga, .int gb, .int kn, .ref mO, .ref mF, .ref mS, .ref mE, .ref mX, .ref mD])), (mM, .inl (cI, 24, .inl rM))] H15 := hP
          have hD : va_D A [(m0, .inr (3, [.int 1, .int zn, .ref mH, .ref mL, .ref mB, .ref mP, .ref mR, .ref mA, .ref mW, .ref mU, .ref mV, .int (nI nr), .ref mM, .ref mT, .int mc, .ref mQ, .int ga, .int gb, .int kn, .ref mO, .ref mF, .ref mS, .ref mE, .ref mX, .ref mD])), (mM, .inl (cI, 24, .inl rM))] := hD
          have hw : r16 = 1 := hw
          subst hw
          refine lv_if_eq (tgt := 86) hx hb d_M_outside_81 (by decide) (fun c17 => absurd c17 (by decide)) (fun c17 => ?_)
          refine lv_iconst (v := 0) hx hb d_M_outside_84 (by decide) ?_
          exact W.iret (v := 0) hx hb hr (fun t ht hW => ⟨⟨0, (), rfl, trivial, by have h9 := hP; rw [← ht] at h9; exact h9⟩, hS.F ht⟩) hS.2.2 d_M_outside_85
  · have h2 := hx0.resolve_left h1
    refine lv_aload_n hx hb d_M_outside_0 rfl (lv_at hl9 0 rfl) ?_
    refine lv_iconst (v := 0) hx hb d_M_outside_1 (by decide) ?_
    refine va_put (D := (dC, dI)) (ci := 3) (v := .int 0) (ty := .int) (C := R_M) (T := F_M) (N := 25) hx hb hG i_M t_M t_M_ok n_M hown hK hP hD hS 0 rfl rfl 0 (by decide) (hG _ k_440) (fun _ h9 => h9) rfl (by decide +kernel) rfl rfl (Nat.le_of_ble_eq_true rfl) d_M_outside_2 (fun H locs hP hD hS => ?_)
    have hP : va_P (dC, dI) vwCl [(m0, .inr (3, [.int 0, .int zn, .ref mH, .ref mL, .ref mB, .ref mP, .ref mR, .ref mA, .ref mW, .ref mU, .ref mV, .int (nI nr), .ref mM, .ref mT, .int mc, .ref mQ, .int ga, .int gb, .int kn, .ref mO, .ref mF, .ref mS, .ref mE, .ref mX, .ref mD])), (mM, .inl (cI, 24, .inl rM))] H := hP
    have hD : va_D A [(m0, .inr (3, [.int 0, .int zn, .ref mH, .ref mL, .ref mB, .ref mP, .ref mR, .ref mA, .ref mW, .ref mU, .ref mV, .int (nI nr), .ref mM, .ref mT, .int mc, .ref mQ, .int ga, .int gb, .int kn, .ref mO, .ref mF, .ref mS, .ref mE, .ref mX, .ref mD])), (mM, .inl (cI, 24, .inl rM))] := hD
    refine lv_aload_n hx hb d_M_outside_5 rfl (lv_at hl9 0 rfl) ?_
    refine lv_iload_n hx hb d_M_outside_6 rfl (lv_at hl9 1 rfl) ?_
    refine lv_iconst (v := 0) hx hb d_M_outside_7 (by decide) ?_
    refine lv_sipush (v := 1439) hx hb d_M_outside_8 (by decide) ?_
    have hPc := hP.sub (ws' := []) [] rfl
    have hDc := hD.sub (ws' := []) [] (by decide) rfl
    have hFc := va_A_nil hA hS.1
    refine va_calli (va_runS (As := [.int x, .int 0, .int 1439]) (rest := [.ref m0]) ⟨hx, hb, hml, hown, hG⟩ (m_within l dC dI cI cJ cZ cB x 0 1439 H.size ) (cwS 3 hG g_M_83 rfl rfl rfl (by decide +kernel) ⟨Nat.le_of_ble_eq_true rfl, Nat.le_of_ble_eq_true rfl⟩) ⟨PC.blind, PC.of hPc hK hDc hE hS hFc⟩ rfl rfl hl9.1 rfl (lv_room (Nat.le_of_ble_eq_true rfl)) d_M_outside_11 ⟨by first | exact Nat.le_of_ble_eq_true rfl | omega, by first | exact Nat.le_of_ble_eq_true rfl | omega⟩) hS (fun q _ h => hFc q h) hFc (fun r19 u t H18 locs ht hvm hw hB hz1 hk1 hS => ?_)
    have hP := wp_kept hP hk1
    have hw : r19 = if ¬ (x < 0 ∨ 1439 < x) then 1 else 0 := hw
    subst hw
    rw [wi_1 h1]
    refine lv_if_eq (tgt := 30) hx hb d_M_outside_14 (by decide) (fun c20 => absurd c20 (by decide)) (fun c20 => ?_)
    refine lv_iload_n hx hb d_M_outside_17 rfl (lv_at hl9 2 rfl) ?_
    refine lv_sipush (v := (-10000)) hx hb d_M_outside_18 (by decide) ?_
    refine lv_sipush (v := 10000) hx hb d_M_outside_21 (by decide) ?_
    have hPc := hP.sub (ws' := []) [] rfl
    have hDc := hD.sub (ws' := []) [] (by decide) rfl
    have hFc := va_A_nil hA hS.1
    refine va_calli (va_runS (As := [.int y, .int (-10000), .int 10000]) (rest := [.ref m0]) ⟨hx, hb, hml, hown, hG⟩ (m_within l dC dI cI cJ cZ cB y (-10000) 10000 H18.size ) (cwS 3 hG g_M_83 rfl rfl rfl (by decide +kernel) ⟨Nat.le_of_ble_eq_true rfl, Nat.le_of_ble_eq_true rfl⟩) ⟨PC.blind, PC.of hPc hK hDc hE hS hFc⟩ rfl rfl hl9.1 rfl (lv_room (Nat.le_of_ble_eq_true rfl)) d_M_outside_24 ⟨by first | exact Nat.le_of_ble_eq_true rfl | omega, by first | exact Nat.le_of_ble_eq_true rfl | omega⟩) hS (fun q _ h => hFc q h) hFc (fun r22 u t H21 locs ht hvm hw hB hz1 hk1 hS => ?_)
    have hP := wp_kept hP hk1
    have hw : r22 = if ¬ (y < (-10000) ∨ 10000 < y) then 1 else 0 := hw
    subst hw
    rw [wi_0 h2]
    refine lv_if_ne (tgt := 34) hx hb d_M_outside_27 (by decide) (fun c23 => absurd c23 (by decide)) (fun c23 => ?_)
    refine lv_iconst (v := 1) hx hb d_M_outside_30 (by decide) ?_
    refine lv_goto (tgt := 35) hx hb d_M_outside_31 (by decide) ?_
    refine lv_iconst (v := 1) hx hb d_M_outside_35 (by decide) ?_
    have hPc := hP.sub (ws' := [(m0, .inr (3, [.int 0, .int zn, .ref mH, .ref mL, .ref mB, .ref mP, .ref mR, .ref mA, .ref mW, .ref mU, .ref mV, .int (nI nr), .ref mM, .ref mT, .int mc, .ref mQ, .int ga, .int gb, .int kn, .ref mO, .ref mF, .ref mS, .ref mE, .ref mX, .ref mD]))]) [0] rfl
    have hDc := hD.sub (ws' := [(m0, .inr (3, [.int 0, .int zn, .ref mH, .ref mL, .ref mB, .ref mP, .ref mR, .ref mA, .ref mW, .ref mU, .ref mV, .int (nI nr), .ref mM, .ref mT, .int mc, .ref mQ, .int ga, .int gb, .int kn, .ref mO, .ref mF, .ref mS, .ref mE, .ref mX, .ref mD]))]) [0] (by decide) rfl
    have hFc := va_free (wc := [(m0, .inr (3, [.int 0, .int zn, .ref mH, .ref mL, .ref mB, .ref mP, .ref mR, .ref mA, .ref mW, .ref mU, .ref mV, .int (nI nr), .ref mM, .ref mT, .int mc, .ref mQ, .int ga, .int gb, .int kn, .ref mO, .ref mF, .ref mS, .ref mE, .ref mX, .ref mD]))]) hD hS hA [0] rfl
    refine va_calli (va_runV (C := R_M) (As := [.int 1, .int 1]) (rest := []) ⟨hx, hb, hml, hown, hG⟩ (m_fails011 l dC dI cI cJ cZ cB m0 mH mL mB mP mR mA mW mU mV mM mT mQ mO mF mS mE mX mD zn (nI nr) mc ga gb kn H21.size ) (cwV 2 hG g_M_87 rfl rfl rfl (by decide +kernel) ⟨Nat.le_of_ble_eq_true rfl, Nat.le_of_ble_eq_true rfl⟩) ⟨PC.blind, va_recv hK hP (ci := 3) (q0 := 0) rfl rfl, PC.of hPc hK hDc hE hS hFc⟩ rfl rfl hl9.1 rfl (lv_room (Nat.le_of_ble_eq_true rfl)) d_M_outside_36 ⟨by first | exact Nat.le_of_ble_eq_true rfl | omega, by first | exact Nat.le_of_ble_eq_true rfl | omega⟩) hS (fun q _ h => hFc q h) hFc (fun r25 u t H24 locs ht hvm hw hB hz1 hk1 hS => ?_)
    rw [ht] at hB
    obtain ⟨hP, hD⟩ := jset (wc := [(m0, .inr (3, [.int 0, .int zn, .ref mH, .ref mL, .ref mB, .ref mP, .ref mR, .ref mA, .ref mW, .ref mU, .ref mV, .int (nI nr), .ref mM, .ref mT, .int mc, .ref mQ, .int ga, .int gb, .int kn, .ref mO, .ref mF, .ref mS, .ref mE, .ref mX, .ref mD]))]) (w1 := [(m0, .inr (3, [.int 1, .int zn, .ref mH, .ref mL, .ref mB, .ref mP, .ref mR, .ref mA, .ref mW, .ref mU, .ref mV, .int (nI nr), .ref mM, .ref mT, .int mc, .ref mQ, .int ga, .int gb, .int kn, .ref mO, .ref mF, .ref mS, .ref mE, .ref mX, .ref mD]))]) [0] rfl rfl hP hD hk1 hB
    have hP : va_P (dC, dI) vwCl [(m0, .inr (3, [.int 1, .int zn, .ref mH, .ref mL, .ref mB, .ref mP, .ref mR, .ref mA, .ref mW, .ref mU, .ref mV, .int (nI nr), .ref mM, .ref mT, .int mc, .ref mQ, .int ga, .int gb, .int kn, .ref mO, .ref mF, .ref mS, .ref mE, .ref mX, .ref mD])), (mM, .inl (cI, 24, .inl rM))] H24 := hP
    have hD : va_D A [(m0, .inr (3, [.int 1, .int zn, .ref mH, .ref mL, .ref mB, .ref mP, .ref mR, .ref mA, .ref mW, .ref mU, .ref mV, .int (nI nr), .ref mM, .ref mT, .int mc, .ref mQ, .int ga, .int gb, .int kn, .ref mO, .ref mF, .ref mS, .ref mE, .ref mX, .ref mD])), (mM, .inl (cI, 24, .inl rM))] := hD
    have hw : r25 = 1 := hw
    subst hw
    refine lv_pop hx hb d_M_outside_39 rfl ?_
    refine lv_aload_n hx hb d_M_outside_40 rfl (lv_at hl9 0 rfl) ?_
    refine lv_aload_n hx hb d_M_outside_41 rfl (lv_at hl9 0 rfl) ?_
    refine va_get (D := (dC, dI)) (ci := 3) (v := .int (nI nr)) (C := R_M) (T := F_M) (N := 25) hx hb hG i_M hown hK hP 0 rfl rfl 11 (by decide) (hG _ k_451) (fun _ h9 => h9) rfl d_M_outside_42 ?_
    refine lv_bipush (v := 24) hx hb d_M_outside_45 (by decide) ?_
    refine lv_icmp_eq (tgt := 72) hx hb d_M_outside_47 (by decide) (fun c1 => ?_) (fun c1 => ?_)
    · refine lv_iconst (v := 1) hx hb d_M_outside_72 (by decide) ?_
      refine lv_goto (tgt := 77) hx hb d_M_outside_73 (by decide) ?_
      refine lv_iconst (v := 2) hx hb d_M_outside_77 (by decide) ?_
      have hPc := hP.sub (ws' := [(m0, .inr (3, [.int 1, .int zn, .ref mH, .ref mL, .ref mB, .ref mP, .ref mR, .ref mA, .ref mW, .ref mU, .ref mV, .int (nI nr), .ref mM, .ref mT, .int mc, .ref mQ, .int ga, .int gb, .int kn, .ref mO, .ref mF, .ref mS, .ref mE, .ref mX, .ref mD]))]) [0] rfl
      have hDc := hD.sub (ws' := [(m0, .inr (3, [.int 1, .int zn, .ref mH, .ref mL, .ref mB, .ref mP, .ref mR, .ref mA, .ref mW, .ref mU, .ref mV, .int (nI nr), .ref mM, .ref mT, .int mc, .ref mQ, .int ga, .int gb, .int kn, .ref mO, .ref mF, .ref mS, .ref mE, .ref mX, .ref mD]))]) [0] (by decide) rfl
      have hFc := va_free (wc := [(m0, .inr (3, [.int 1, .int zn, .ref mH, .ref mL, .ref mB, .ref mP, .ref mR, .ref mA, .ref mW, .ref mU, .ref mV, .int (nI nr), .ref mM, .ref mT, .int mc, .ref mQ, .int ga, .int gb, .int kn, .ref mO, .ref mF, .ref mS, .ref mE, .ref mX, .ref mD]))]) hD hS hA [0] rfl
      refine va_calli (va_runV (C := R_M) (As := [.int 1, .int 2]) (rest := []) ⟨hx, hb, hml, hown, hG⟩ (m_fails112 l dC dI cI cJ cZ cB m0 mH mL mB mP mR mA mW mU mV mM mT mQ mO mF mS mE mX mD zn (nI nr) mc ga gb kn H24.size ) (cwV 2 hG g_M_87 rfl rfl rfl (by decide +kernel) ⟨Nat.le_of_ble_eq_true rfl, Nat.le_of_ble_eq_true rfl⟩) ⟨PC.blind, va_recv hK hP (ci := 3) (q0 := 0) rfl rfl, PC.of hPc hK hDc hE hS hFc⟩ rfl rfl hl9.1 rfl (lv_room (Nat.le_of_ble_eq_true rfl)) d_M_outside_78 ⟨by first | exact Nat.le_of_ble_eq_true rfl | omega, by first | exact Nat.le_of_ble_eq_true rfl | omega⟩) hS (fun q _ h => hFc q h) hFc (fun r27 u t H26 locs ht hvm hw hB hz1 hk1 hS => ?_)
      rw [ht] at hB
      obtain ⟨hP, hD⟩ := jset (wc := [(m0, .inr (3, [.int 1, .int zn, .ref mH, .ref mL, .ref mB, .ref mP, .ref mR, .ref mA, .ref mW, .ref mU, .ref mV, .int (nI nr), .ref mM, .ref mT, .int mc, .ref mQ, .int ga, .int gb, .int kn, .ref mO, .ref mF, .ref mS, .ref mE, .ref mX, .ref mD]))]) (w1 := [(m0, .inr (3, [.int 1, .int zn, .ref mH, .ref mL, .ref mB, .ref mP, .ref mR, .ref mA, .ref mW, .ref mU, .ref mV, .int (nI nr), .ref mM, .ref mT, .int mc, .ref mQ, .int ga, .int gb, .int kn, .ref mO, .ref mF, .ref mS, .ref mE, .ref mX, .ref mD]))]) [0] rfl rfl hP hD hk1 hB
      have hP : va_P (dC, dI) vwCl [(m0, .inr (3, [.int 1, .int zn, .ref mH, .ref mL, .ref mB, .ref mP, .ref mR, .ref mA, .ref mW, .ref mU, .ref mV, .int (nI nr), .ref mM, .ref mT, .int mc, .ref mQ, .int ga, .int gb, .int kn, .ref mO, .ref mF, .ref mS, .ref mE, .ref mX, .ref mD])), (mM, .inl (cI, 24, .inl rM))] H26 := hP
      have hD : va_D A [(m0, .inr (3, [.int 1, .int zn, .ref mH, .ref mL, .ref mB, .ref mP, .ref mR, .ref mA, .ref mW, .ref mU, .ref mV, .int (nI nr), .ref mM, .ref mT, .int mc, .ref mQ, .int ga, .int gb, .int kn, .ref mO, .ref mF, .ref mS, .ref mE, .ref mX, .ref mD])), (mM, .inl (cI, 24, .inl rM))] := hD
      have hw : r27 = 1 := hw
      subst hw
      refine lv_if_eq (tgt := 86) hx hb d_M_outside_81 (by decide) (fun c28 => absurd c28 (by decide)) (fun c28 => ?_)
      refine lv_iconst (v := 0) hx hb d_M_outside_84 (by decide) ?_
      exact W.iret (v := 0) hx hb hr (fun t ht hW => ⟨⟨0, (), rfl, trivial, by have h9 := hP; rw [← ht] at h9; exact h9⟩, hS.F ht⟩) hS.2.2 d_M_outside_85
    · refine lv_aload_n hx hb d_M_outside_50 rfl (lv_at hl9 0 rfl) ?_
      refine va_get (D := (dC, dI)) (ci := 3) (v := .int (nI nr)) (C := R_M) (T := F_M) (N := 25) hx hb hG i_M hown hK hP 0 rfl rfl 11 (by decide) (hG _ k_451) (fun _ h9 => h9) rfl d_M_outside_51 ?_
      refine lv_if_le (tgt := 76) hx hb d_M_outside_54 (by decide) (fun c2 => ?_) (fun c2 => ?_)
      · refine lv_iconst (v := 0) hx hb d_M_outside_76 (by decide) ?_
        refine lv_iconst (v := 2) hx hb d_M_outside_77 (by decide) ?_
        have hPc := hP.sub (ws' := [(m0, .inr (3, [.int 1, .int zn, .ref mH, .ref mL, .ref mB, .ref mP, .ref mR, .ref mA, .ref mW, .ref mU, .ref mV, .int (nI nr), .ref mM, .ref mT, .int mc, .ref mQ, .int ga, .int gb, .int kn, .ref mO, .ref mF, .ref mS, .ref mE, .ref mX, .ref mD]))]) [0] rfl
        have hDc := hD.sub (ws' := [(m0, .inr (3, [.int 1, .int zn, .ref mH, .ref mL, .ref mB, .ref mP, .ref mR, .ref mA, .ref mW, .ref mU, .ref mV, .int (nI nr), .ref mM, .ref mT, .int mc, .ref mQ, .int ga, .int gb, .int kn, .ref mO, .ref mF, .ref mS, .ref mE, .ref mX, .ref mD]))]) [0] (by decide) rfl
        have hFc := va_free (wc := [(m0, .inr (3, [.int 1, .int zn, .ref mH, .ref mL, .ref mB, .ref mP, .ref mR, .ref mA, .ref mW, .ref mU, .ref mV, .int (nI nr), .ref mM, .ref mT, .int mc, .ref mQ, .int ga, .int gb, .int kn, .ref mO, .ref mF, .ref mS, .ref mE, .ref mX, .ref mD]))]) hD hS hA [0] rfl
        refine va_calli (va_runV (C := R_M) (As := [.int 0, .int 2]) (rest := []) ⟨hx, hb, hml, hown, hG⟩ (m_fails102 l dC dI cI cJ cZ cB m0 mH mL mB mP mR mA mW mU mV mM mT mQ mO mF mS mE mX mD zn (nI nr) mc ga gb kn H24.size ) (cwV 2 hG g_M_87 rfl rfl rfl (by decide +kernel) ⟨Nat.le_of_ble_eq_true rfl, Nat.le_of_ble_eq_true rfl⟩) ⟨PC.blind, va_recv hK hP (ci := 3) (q0 := 0) rfl rfl, PC.of hPc hK hDc hE hS hFc⟩ rfl rfl hl9.1 rfl (lv_room (Nat.le_of_ble_eq_true rfl)) d_M_outside_78 ⟨by first | exact Nat.le_of_ble_eq_true rfl | omega, by first | exact Nat.le_of_ble_eq_true rfl | omega⟩) hS (fun q _ h => hFc q h) hFc (fun r30 u t H29 locs ht hvm hw hB hz1 hk1 hS => ?_)
        rw [ht] at hB
        obtain ⟨hP, hD⟩ := jset (wc := [(m0, .inr (3, [.int 1, .int zn, .ref mH, .ref mL, .ref mB, .ref mP, .ref mR, .ref mA, .ref mW, .ref mU, .ref mV, .int (nI nr), .ref mM, .ref mT, .int mc, .ref mQ, .int ga, .int gb, .int kn, .ref mO, .ref mF, .ref mS, .ref mE, .ref mX, .ref mD]))]) (w1 := [(m0, .inr (3, [.int 1, .int zn, .ref mH, .ref mL, .ref mB, .ref mP, .ref mR, .ref mA, .ref mW, .ref mU, .ref mV, .int (nI nr), .ref mM, .ref mT, .int mc, .ref mQ, .int ga, .int gb, .int kn, .ref mO, .ref mF, .ref mS, .ref mE, .ref mX, .ref mD]))]) [0] rfl rfl hP hD hk1 hB
        have hP : va_P (dC, dI) vwCl [(m0, .inr (3, [.int 1, .int zn, .ref mH, .ref mL, .ref mB, .ref mP, .ref mR, .ref mA, .ref mW, .ref mU, .ref mV, .int (nI nr), .ref mM, .ref mT, .int mc, .ref mQ, .int ga, .int gb, .int kn, .ref mO, .ref mF, .ref mS, .ref mE, .ref mX, .ref mD])), (mM, .inl (cI, 24, .inl rM))] H29 := hP
        have hD : va_D A [(m0, .inr (3, [.int 1, .int zn, .ref mH, .ref mL, .ref mB, .ref mP, .ref mR, .ref mA, .ref mW, .ref mU, .ref mV, .int (nI nr), .ref mM, .ref mT, .int mc, .ref mQ, .int ga, .int gb, .int kn, .ref mO, .ref mF, .ref mS, .ref mE, .ref mX, .ref mD])), (mM, .inl (cI, 24, .inl rM))] := hD
        have hw : r30 = 1 := hw
        subst hw
        refine lv_if_eq (tgt := 86) hx hb d_M_outside_81 (by decide) (fun c31 => absurd c31 (by decide)) (fun c31 => ?_)
        refine lv_iconst (v := 0) hx hb d_M_outside_84 (by decide) ?_
        exact W.iret (v := 0) hx hb hr (fun t ht hW => ⟨⟨0, (), rfl, trivial, by have h9 := hP; rw [← ht] at h9; exact h9⟩, hS.F ht⟩) hS.2.2 d_M_outside_85
      · have h0 : 0 < nr := Nat.pos_of_ne_zero (fun h => c2 (by rw [h]; decide))
        have hin3 : vp_in (nI nr - 1) 24 := by rw [sub1 h0]; exact vp_in_nI (by omega) (by decide)
        refine lv_aload_n hx hb d_M_outside_57 rfl (lv_at hl9 0 rfl) ?_
        refine va_get (D := (dC, dI)) (ci := 3) (v := .ref mM) (C := R_M) (T := F_M) (N := 25) hx hb hG i_M hown hK hP 0 rfl rfl 12 (by decide) (hG _ k_452) (fun _ h9 => h9) rfl d_M_outside_58 ?_
        refine lv_aload_n hx hb d_M_outside_61 rfl (lv_at hl9 0 rfl) ?_
        refine va_get (D := (dC, dI)) (ci := 3) (v := .int (nI nr)) (C := R_M) (T := F_M) (N := 25) hx hb hG i_M hown hK hP 0 rfl rfl 11 (by decide) (hG _ k_451) (fun _ h9 => h9) rfl d_M_outside_62 ?_
        refine lv_iconst (v := 1) hx hb d_M_outside_65 (by decide) ?_
        refine lv_isub hx hb d_M_outside_66 ?_
        refine va_iald hx hb hK hP 1 0 rfl rfl (hin3) d_M_outside_67 ?_
        refine lv_iload_n hx hb d_M_outside_68 rfl (lv_at hl9 1 rfl) ?_
        refine lv_icmp_lt (tgt := 76) hx hb d_M_outside_69 (by decide) (fun c3 => ?_) (fun c3 => ?_)
        · refine lv_iconst (v := 0) hx hb d_M_outside_76 (by decide) ?_
          refine lv_iconst (v := 2) hx hb d_M_outside_77 (by decide) ?_
          have hPc := hP.sub (ws' := [(m0, .inr (3, [.int 1, .int zn, .ref mH, .ref mL, .ref mB, .ref mP, .ref mR, .ref mA, .ref mW, .ref mU, .ref mV, .int (nI nr), .ref mM, .ref mT, .int mc, .ref mQ, .int ga, .int gb, .int kn, .ref mO, .ref mF, .ref mS, .ref mE, .ref mX, .ref mD]))]) [0] rfl
          have hDc := hD.sub (ws' := [(m0, .inr (3, [.int 1, .int zn, .ref mH, .ref mL, .ref mB, .ref mP, .ref mR, .ref mA, .ref mW, .ref mU, .ref mV, .int (nI nr), .ref mM, .ref mT, .int mc, .ref mQ, .int ga, .int gb, .int kn, .ref mO, .ref mF, .ref mS, .ref mE, .ref mX, .ref mD]))]) [0] (by decide) rfl
          have hFc := va_free (wc := [(m0, .inr (3, [.int 1, .int zn, .ref mH, .ref mL, .ref mB, .ref mP, .ref mR, .ref mA, .ref mW, .ref mU, .ref mV, .int (nI nr), .ref mM, .ref mT, .int mc, .ref mQ, .int ga, .int gb, .int kn, .ref mO, .ref mF, .ref mS, .ref mE, .ref mX, .ref mD]))]) hD hS hA [0] rfl
          refine va_calli (va_runV (C := R_M) (As := [.int 0, .int 2]) (rest := []) ⟨hx, hb, hml, hown, hG⟩ (m_fails102 l dC dI cI cJ cZ cB m0 mH mL mB mP mR mA mW mU mV mM mT mQ mO mF mS mE mX mD zn (nI nr) mc ga gb kn H24.size ) (cwV 2 hG g_M_87 rfl rfl rfl (by decide +kernel) ⟨Nat.le_of_ble_eq_true rfl, Nat.le_of_ble_eq_true rfl⟩) ⟨PC.blind, va_recv hK hP (ci := 3) (q0 := 0) rfl rfl, PC.of hPc hK hDc hE hS hFc⟩ rfl rfl hl9.1 rfl (lv_room (Nat.le_of_ble_eq_true rfl)) d_M_outside_78 ⟨by first | exact Nat.le_of_ble_eq_true rfl | omega, by first | exact Nat.le_of_ble_eq_true rfl | omega⟩) hS (fun q _ h => hFc q h) hFc (fun r33 u t H32 locs ht hvm hw hB hz1 hk1 hS => ?_)
          rw [ht] at hB
          obtain ⟨hP, hD⟩ := jset (wc := [(m0, .inr (3, [.int 1, .int zn, .ref mH, .ref mL, .ref mB, .ref mP, .ref mR, .ref mA, .ref mW, .ref mU, .ref mV, .int (nI nr), .ref mM, .ref mT, .int mc, .ref mQ, .int ga, .int gb, .int kn, .ref mO, .ref mF, .ref mS, .ref mE, .ref mX, .ref mD]))]) (w1 := [(m0, .inr (3, [.int 1, .int zn, .ref mH, .ref mL, .ref mB, .ref mP, .ref mR, .ref mA, .ref mW, .ref mU, .ref mV, .int (nI nr), .ref mM, .ref mT, .int mc, .ref mQ, .int ga, .int gb, .int kn, .ref mO, .ref mF, .ref mS, .ref mE, .ref mX, .ref mD]))]) [0] rfl rfl hP hD hk1 hB
          have hP : va_P (dC, dI) vwCl [(m0, .inr (3, [.int 1, .int zn, .ref mH, .ref mL, .ref mB, .ref mP, .ref mR, .ref mA, .ref mW, .ref mU, .ref mV, .int (nI nr), .ref mM, .ref mT, .int mc, .ref mQ, .int ga, .int gb, .int kn, .ref mO, .ref mF, .ref mS, .ref mE, .ref mX, .ref mD])), (mM, .inl (cI, 24, .inl rM))] H32 := hP
          have hD : va_D A [(m0, .inr (3, [.int 1, .int zn, .ref mH, .ref mL, .ref mB, .ref mP, .ref mR, .ref mA, .ref mW, .ref mU, .ref mV, .int (nI nr), .ref mM, .ref mT, .int mc, .ref mQ, .int ga, .int gb, .int kn, .ref mO, .ref mF, .ref mS, .ref mE, .ref mX, .ref mD])), (mM, .inl (cI, 24, .inl rM))] := hD
          have hw : r33 = 1 := hw
          subst hw
          refine lv_if_eq (tgt := 86) hx hb d_M_outside_81 (by decide) (fun c34 => absurd c34 (by decide)) (fun c34 => ?_)
          refine lv_iconst (v := 0) hx hb d_M_outside_84 (by decide) ?_
          exact W.iret (v := 0) hx hb hr (fun t ht hW => ⟨⟨0, (), rfl, trivial, by have h9 := hP; rw [← ht] at h9; exact h9⟩, hS.F ht⟩) hS.2.2 d_M_outside_85
        · refine lv_iconst (v := 1) hx hb d_M_outside_72 (by decide) ?_
          refine lv_goto (tgt := 77) hx hb d_M_outside_73 (by decide) ?_
          refine lv_iconst (v := 2) hx hb d_M_outside_77 (by decide) ?_
          have hPc := hP.sub (ws' := [(m0, .inr (3, [.int 1, .int zn, .ref mH, .ref mL, .ref mB, .ref mP, .ref mR, .ref mA, .ref mW, .ref mU, .ref mV, .int (nI nr), .ref mM, .ref mT, .int mc, .ref mQ, .int ga, .int gb, .int kn, .ref mO, .ref mF, .ref mS, .ref mE, .ref mX, .ref mD]))]) [0] rfl
          have hDc := hD.sub (ws' := [(m0, .inr (3, [.int 1, .int zn, .ref mH, .ref mL, .ref mB, .ref mP, .ref mR, .ref mA, .ref mW, .ref mU, .ref mV, .int (nI nr), .ref mM, .ref mT, .int mc, .ref mQ, .int ga, .int gb, .int kn, .ref mO, .ref mF, .ref mS, .ref mE, .ref mX, .ref mD]))]) [0] (by decide) rfl
          have hFc := va_free (wc := [(m0, .inr (3, [.int 1, .int zn, .ref mH, .ref mL, .ref mB, .ref mP, .ref mR, .ref mA, .ref mW, .ref mU, .ref mV, .int (nI nr), .ref mM, .ref mT, .int mc, .ref mQ, .int ga, .int gb, .int kn, .ref mO, .ref mF, .ref mS, .ref mE, .ref mX, .ref mD]))]) hD hS hA [0] rfl
          refine va_calli (va_runV (C := R_M) (As := [.int 1, .int 2]) (rest := []) ⟨hx, hb, hml, hown, hG⟩ (m_fails112 l dC dI cI cJ cZ cB m0 mH mL mB mP mR mA mW mU mV mM mT mQ mO mF mS mE mX mD zn (nI nr) mc ga gb kn H24.size ) (cwV 2 hG g_M_87 rfl rfl rfl (by decide +kernel) ⟨Nat.le_of_ble_eq_true rfl, Nat.le_of_ble_eq_true rfl⟩) ⟨PC.blind, va_recv hK hP (ci := 3) (q0 := 0) rfl rfl, PC.of hPc hK hDc hE hS hFc⟩ rfl rfl hl9.1 rfl (lv_room (Nat.le_of_ble_eq_true rfl)) d_M_outside_78 ⟨by first | exact Nat.le_of_ble_eq_true rfl | omega, by first | exact Nat.le_of_ble_eq_true rfl | omega⟩) hS (fun q _ h => hFc q h) hFc (fun r36 u t H35 locs ht hvm hw hB hz1 hk1 hS => ?_)
          rw [ht] at hB
          obtain ⟨hP, hD⟩ := jset (wc := [(m0, .inr (3, [.int 1, .int zn, .ref mH, .ref mL, .ref mB, .ref mP, .ref mR, .ref mA, .ref mW, .ref mU, .ref mV, .int (nI nr), .ref mM, .ref mT, .int mc, .ref mQ, .int ga, .int gb, .int kn, .ref mO, .ref mF, .ref mS, .ref mE, .ref mX, .ref mD]))]) (w1 := [(m0, .inr (3, [.int 1, .int zn, .ref mH, .ref mL, .ref mB, .ref mP, .ref mR, .ref mA, .ref mW, .ref mU, .ref mV, .int (nI nr), .ref mM, .ref mT, .int mc, .ref mQ, .int ga, .int gb, .int kn, .ref mO, .ref mF, .ref mS, .ref mE, .ref mX, .ref mD]))]) [0] rfl rfl hP hD hk1 hB
          have hP : va_P (dC, dI) vwCl [(m0, .inr (3, [.int 1, .int zn, .ref mH, .ref mL, .ref mB, .ref mP, .ref mR, .ref mA, .ref mW, .ref mU, .ref mV, .int (nI nr), .ref mM, .ref mT, .int mc, .ref mQ, .int ga, .int gb, .int kn, .ref mO, .ref mF, .ref mS, .ref mE, .ref mX, .ref mD])), (mM, .inl (cI, 24, .inl rM))] H35 := hP
          have hD : va_D A [(m0, .inr (3, [.int 1, .int zn, .ref mH, .ref mL, .ref mB, .ref mP, .ref mR, .ref mA, .ref mW, .ref mU, .ref mV, .int (nI nr), .ref mM, .ref mT, .int mc, .ref mQ, .int ga, .int gb, .int kn, .ref mO, .ref mF, .ref mS, .ref mE, .ref mX, .ref mD])), (mM, .inl (cI, 24, .inl rM))] := hD
          have hw : r36 = 1 := hw
          subst hw
          refine lv_if_eq (tgt := 86) hx hb d_M_outside_81 (by decide) (fun c37 => absurd c37 (by decide)) (fun c37 => ?_)
          refine lv_iconst (v := 0) hx hb d_M_outside_84 (by decide) ?_
          exact W.iret (v := 0) hx hb hr (fun t ht hW => ⟨⟨0, (), rfl, trivial, by have h9 := hP; rw [← ht] at h9; exact h9⟩, hS.F ht⟩) hS.2.2 d_M_outside_85
set_option maxHeartbeats 4000000 in
set_option maxRecDepth 100000 in
theorem m_outsideY (l : Launch) (dC : Nat → ClassId) (dI : Nat → Nat → Nat) (cI cJ cZ cB : ClassId) (m0 mH mL mB mP mR mA mW mU mV mM mT mQ mO mF mS mE mX mD : Nat) (th zn rw mc ga gb kn : Int32) (rM : Nat → Int32)  (nr : Nat) (x y : Int32) (sz : Nat) (hle : nr ≤ 24) (hx0 : ¬ ((x < 0 ∨ 1439 < x) ∨ (y < (-10000) ∨ 10000 < y))) (hbad : nr = 24 ∨ 0 < nr ∧ x ≤ rM (nr - 1)) : Met l y_M_outside w_M_outside ({ frames := 1, cells := 0, slots := 0, locals := 22 }) (PC (dC, dI) (TY cI cJ cZ cB) [.ref m0, .int x, .int y] [(m0, .inr (3, [.int th, .int zn, .ref mH, .ref mL, .ref mB, .ref mP, .ref mR, .ref mA, .ref mW, .ref mU, .ref mV, .int (nI nr), .ref mM, .ref mT, .int mc, .ref mQ, .int ga, .int gb, .int kn, .ref mO, .ref mF, .ref mS, .ref mE, .ref mX, .ref mD])), (mM, .inl (cI, 24, .inl rM))] sz (va_A [(m0, .inr (3, [.int th, .int zn, .ref mH, .ref mL, .ref mB, .ref mP, .ref mR, .ref mA, .ref mW, .ref mU, .ref mV, .int (nI nr), .ref mM, .ref mT, .int mc, .ref mQ, .int ga, .int gb, .int kn, .ref mO, .ref mF, .ref mS, .ref mE, .ref mX, .ref mD])), (mM, .inl (cI, 24, .inl rM))] sz)) (va_Qi (fun (r : Int32) (_ : Unit) => True) (fun (_ : Unit) (t : State) => va_P (dC, dI) vwCl [(m0, .inr (3, [.int 2, .int zn, .ref mH, .ref mL, .ref mB, .ref mP, .ref mR, .ref mA, .ref mW, .ref mU, .ref mV, .int (nI nr), .ref mM, .ref mT, .int mc, .ref mQ, .int ga, .int gb, .int kn, .ref mO, .ref mF, .ref mS, .ref mE, .ref mX, .ref mD])), (mM, .inl (cI, 24, .inl rM))] t.heap) (va_A [(m0, .inr (3, [.int th, .int zn, .ref mH, .ref mL, .ref mB, .ref mP, .ref mR, .ref mA, .ref mW, .ref mU, .ref mV, .int (nI nr), .ref mM, .ref mT, .int mc, .ref mQ, .int ga, .int gb, .int kn, .ref mO, .ref mF, .ref mS, .ref mE, .ref mX, .ref mD])), (mM, .inl (cI, 24, .inl rM))] sz)) 0 0 (va_A [(m0, .inr (3, [.int th, .int zn, .ref mH, .ref mL, .ref mB, .ref mP, .ref mR, .ref mA, .ref mW, .ref mU, .ref mV, .int (nI nr), .ref mM, .ref mT, .int mc, .ref mQ, .int ga, .int gb, .int kn, .ref mO, .ref mF, .ref mS, .ref mE, .ref mX, .ref mD])), (mM, .inl (cI, 24, .inl rM))] sz) := by
  refine Met.ofW (cc := b_M_outside) (maxL := 3) (ret := (some .int)) (by decide) rfl ?_
  intro p e s m args below meth c s₁ B hml hv
  obtain ⟨rfl, hsz, hP, hK, hD0, hE⟩ := hv
  have hx := B.exec
  have hb := B.bytes
  have hr := B.returns
  have hG : ∀ w ∈ GG, w.before _ s = true := fun w h => atoms_spec (ws := w_M_outside) B.pre w (List.mem_cons_of_mem _ h)
  have hown : s.vm.findClass R_M = some m.cls := findClass_of_methodNamed B.named
  have hlocks := B.notSynchronized
  subst hsz
  have hD := hD0.self (sz := s.heap.size)
  generalize hAe : (va_A [(m0, .inr (3, [.int th, .int zn, .ref mH, .ref mL, .ref mB, .ref mP, .ref mR, .ref mA, .ref mW, .ref mU, .ref mV, .int (nI nr), .ref mM, .ref mT, .int mc, .ref mQ, .int ga, .int gb, .int kn, .ref mO, .ref mF, .ref mS, .ref mE, .ref mX, .ref mD])), (mM, .inl (cI, 24, .inl rM))] s.heap.size) = A at hD hE ⊢
  have hA : ∀ q : Nat, s.heap.size ≤ q → A q := fun q h => by rw [← hAe]; exact Or.inr h
  have hS : va_S A s.heap s.heap [] := va_S.rf
  obtain ⟨H, hH⟩ : ∃ z, z = s.heap := ⟨_, rfl⟩
  rw [← hH] at hP
  have hS : va_S A s.heap H [] := by rw [hH]; exact hS
  rw [← hH]
  have hl9 := lv_entry ([.ref m0, .int x, .int y]) (n := 3) (Nat.le_of_ble_eq_true rfl)
  rw [lg_entry_eq]
  generalize (lg_sl ([.ref m0, .int x, .int y]) ++ List.replicate (3 - (lg_sl ([.ref m0, .int x, .int y])).length) Slot.unset).toArray = ls at hl9 ⊢
  have hl9 : lv_has ls 3 [(0, .ref m0), (1, .int x), (2, .int y)] := hl9
  have h1 := fun q => hx0 (Or.inl q)
  have h2 := fun q => hx0 (Or.inr q)
  refine lv_aload_n hx hb d_M_outside_0 rfl (lv_at hl9 0 rfl) ?_
  refine lv_iconst (v := 0) hx hb d_M_outside_1 (by decide) ?_
  refine va_put (D := (dC, dI)) (ci := 3) (v := .int 0) (ty := .int) (C := R_M) (T := F_M) (N := 25) hx hb hG i_M t_M t_M_ok n_M hown hK hP hD hS 0 rfl rfl 0 (by decide) (hG _ k_440) (fun _ h9 => h9) rfl (by decide +kernel) rfl rfl (Nat.le_of_ble_eq_true rfl) d_M_outside_2 (fun H locs hP hD hS => ?_)
  have hP : va_P (dC, dI) vwCl [(m0, .inr (3, [.int 0, .int zn, .ref mH, .ref mL, .ref mB, .ref mP, .ref mR, .ref mA, .ref mW, .ref mU, .ref mV, .int (nI nr), .ref mM, .ref mT, .int mc, .ref mQ, .int ga, .int gb, .int kn, .ref mO, .ref mF, .ref mS, .ref mE, .ref mX, .ref mD])), (mM, .inl (cI, 24, .inl rM))] H := hP
  have hD : va_D A [(m0, .inr (3, [.int 0, .int zn, .ref mH, .ref mL, .ref mB, .ref mP, .ref mR, .ref mA, .ref mW, .ref mU, .ref mV, .int (nI nr), .ref mM, .ref mT, .int mc, .ref mQ, .int ga, .int gb, .int kn, .ref mO, .ref mF, .ref mS, .ref mE, .ref mX, .ref mD])), (mM, .inl (cI, 24, .inl rM))] := hD
  refine lv_aload_n hx hb d_M_outside_5 rfl (lv_at hl9 0 rfl) ?_
  refine lv_iload_n hx hb d_M_outside_6 rfl (lv_at hl9 1 rfl) ?_
  refine lv_iconst (v := 0) hx hb d_M_outside_7 (by decide) ?_
  refine lv_sipush (v := 1439) hx hb d_M_outside_8 (by decide) ?_
  have hPc := hP.sub (ws' := []) [] rfl
  have hDc := hD.sub (ws' := []) [] (by decide) rfl
  have hFc := va_A_nil hA hS.1
  refine va_calli (va_runS (As := [.int x, .int 0, .int 1439]) (rest := [.ref m0]) ⟨hx, hb, hml, hown, hG⟩ (m_within l dC dI cI cJ cZ cB x 0 1439 H.size ) (cwS 3 hG g_M_83 rfl rfl rfl (by decide +kernel) ⟨Nat.le_of_ble_eq_true rfl, Nat.le_of_ble_eq_true rfl⟩) ⟨PC.blind, PC.of hPc hK hDc hE hS hFc⟩ rfl rfl hl9.1 rfl (lv_room (Nat.le_of_ble_eq_true rfl)) d_M_outside_11 ⟨by first | exact Nat.le_of_ble_eq_true rfl | omega, by first | exact Nat.le_of_ble_eq_true rfl | omega⟩) hS (fun q _ h => hFc q h) hFc (fun r2 u t H1 locs ht hvm hw hB hz1 hk1 hS => ?_)
  have hP := wp_kept hP hk1
  have hw : r2 = if ¬ (x < 0 ∨ 1439 < x) then 1 else 0 := hw
  subst hw
  rw [wi_1 h1]
  refine lv_if_eq (tgt := 30) hx hb d_M_outside_14 (by decide) (fun c3 => absurd c3 (by decide)) (fun c3 => ?_)
  refine lv_iload_n hx hb d_M_outside_17 rfl (lv_at hl9 2 rfl) ?_
  refine lv_sipush (v := (-10000)) hx hb d_M_outside_18 (by decide) ?_
  refine lv_sipush (v := 10000) hx hb d_M_outside_21 (by decide) ?_
  have hPc := hP.sub (ws' := []) [] rfl
  have hDc := hD.sub (ws' := []) [] (by decide) rfl
  have hFc := va_A_nil hA hS.1
  refine va_calli (va_runS (As := [.int y, .int (-10000), .int 10000]) (rest := [.ref m0]) ⟨hx, hb, hml, hown, hG⟩ (m_within l dC dI cI cJ cZ cB y (-10000) 10000 H1.size ) (cwS 3 hG g_M_83 rfl rfl rfl (by decide +kernel) ⟨Nat.le_of_ble_eq_true rfl, Nat.le_of_ble_eq_true rfl⟩) ⟨PC.blind, PC.of hPc hK hDc hE hS hFc⟩ rfl rfl hl9.1 rfl (lv_room (Nat.le_of_ble_eq_true rfl)) d_M_outside_24 ⟨by first | exact Nat.le_of_ble_eq_true rfl | omega, by first | exact Nat.le_of_ble_eq_true rfl | omega⟩) hS (fun q _ h => hFc q h) hFc (fun r5 u t H4 locs ht hvm hw hB hz1 hk1 hS => ?_)
  have hP := wp_kept hP hk1
  have hw : r5 = if ¬ (y < (-10000) ∨ 10000 < y) then 1 else 0 := hw
  subst hw
  rw [wi_1 h2]
  refine lv_if_ne (tgt := 34) hx hb d_M_outside_27 (by decide) (fun c6 => ?_) (fun c6 => absurd c6 (by decide))
  refine lv_iconst (v := 0) hx hb d_M_outside_34 (by decide) ?_
  refine lv_iconst (v := 1) hx hb d_M_outside_35 (by decide) ?_
  have hPc := hP.sub (ws' := [(m0, .inr (3, [.int 0, .int zn, .ref mH, .ref mL, .ref mB, .ref mP, .ref mR, .ref mA, .ref mW, .ref mU, .ref mV, .int (nI nr), .ref mM, .ref mT, .int mc, .ref mQ, .int ga, .int gb, .int kn, .ref mO, .ref mF, .ref mS, .ref mE, .ref mX, .ref mD]))]) [0] rfl
  have hDc := hD.sub (ws' := [(m0, .inr (3, [.int 0, .int zn, .ref mH, .ref mL, .ref mB, .ref mP, .ref mR, .ref mA, .ref mW, .ref mU, .ref mV, .int (nI nr), .ref mM, .ref mT, .int mc, .ref mQ, .int ga, .int gb, .int kn, .ref mO, .ref mF, .ref mS, .ref mE, .ref mX, .ref mD]))]) [0] (by decide) rfl
  have hFc := va_free (wc := [(m0, .inr (3, [.int 0, .int zn, .ref mH, .ref mL, .ref mB, .ref mP, .ref mR, .ref mA, .ref mW, .ref mU, .ref mV, .int (nI nr), .ref mM, .ref mT, .int mc, .ref mQ, .int ga, .int gb, .int kn, .ref mO, .ref mF, .ref mS, .ref mE, .ref mX, .ref mD]))]) hD hS hA [0] rfl
  refine va_calli (va_runV (C := R_M) (As := [.int 0, .int 1]) (rest := []) ⟨hx, hb, hml, hown, hG⟩ (m_fails001 l dC dI cI cJ cZ cB m0 mH mL mB mP mR mA mW mU mV mM mT mQ mO mF mS mE mX mD zn (nI nr) mc ga gb kn H4.size ) (cwV 2 hG g_M_87 rfl rfl rfl (by decide +kernel) ⟨Nat.le_of_ble_eq_true rfl, Nat.le_of_ble_eq_true rfl⟩) ⟨PC.blind, va_recv hK hP (ci := 3) (q0 := 0) rfl rfl, PC.of hPc hK hDc hE hS hFc⟩ rfl rfl hl9.1 rfl (lv_room (Nat.le_of_ble_eq_true rfl)) d_M_outside_36 ⟨by first | exact Nat.le_of_ble_eq_true rfl | omega, by first | exact Nat.le_of_ble_eq_true rfl | omega⟩) hS (fun q _ h => hFc q h) hFc (fun r8 u t H7 locs ht hvm hw hB hz1 hk1 hS => ?_)
  rw [ht] at hB
  obtain ⟨hP, hD⟩ := jset (wc := [(m0, .inr (3, [.int 0, .int zn, .ref mH, .ref mL, .ref mB, .ref mP, .ref mR, .ref mA, .ref mW, .ref mU, .ref mV, .int (nI nr), .ref mM, .ref mT, .int mc, .ref mQ, .int ga, .int gb, .int kn, .ref mO, .ref mF, .ref mS, .ref mE, .ref mX, .ref mD]))]) (w1 := [(m0, .inr (3, [.int 0, .int zn, .ref mH, .ref mL, .ref mB, .ref mP, .ref mR, .ref mA, .ref mW, .ref mU, .ref mV, .int (nI nr), .ref mM, .ref mT, .int mc, .ref mQ, .int ga, .int gb, .int kn, .ref mO, .ref mF, .ref mS, .ref mE, .ref mX, .ref mD]))]) [0] rfl rfl hP hD hk1 hB
  have hP : va_P (dC, dI) vwCl [(m0, .inr (3, [.int 0, .int zn, .ref mH, .ref mL, .ref mB, .ref mP, .ref mR, .ref mA, .ref mW, .ref mU, .ref mV, .int (nI nr), .ref mM, .ref mT, .int mc, .ref mQ, .int ga, .int gb, .int kn, .ref mO, .ref mF, .ref mS, .ref mE, .ref mX, .ref mD])), (mM, .inl (cI, 24, .inl rM))] H7 := hP
  have hD : va_D A [(m0, .inr (3, [.int 0, .int zn, .ref mH, .ref mL, .ref mB, .ref mP, .ref mR, .ref mA, .ref mW, .ref mU, .ref mV, .int (nI nr), .ref mM, .ref mT, .int mc, .ref mQ, .int ga, .int gb, .int kn, .ref mO, .ref mF, .ref mS, .ref mE, .ref mX, .ref mD])), (mM, .inl (cI, 24, .inl rM))] := hD
  have hw : r8 = 0 := hw
  subst hw
  refine lv_pop hx hb d_M_outside_39 rfl ?_
  refine lv_aload_n hx hb d_M_outside_40 rfl (lv_at hl9 0 rfl) ?_
  refine lv_aload_n hx hb d_M_outside_41 rfl (lv_at hl9 0 rfl) ?_
  refine va_get (D := (dC, dI)) (ci := 3) (v := .int (nI nr)) (C := R_M) (T := F_M) (N := 25) hx hb hG i_M hown hK hP 0 rfl rfl 11 (by decide) (hG _ k_451) (fun _ h9 => h9) rfl d_M_outside_42 ?_
  refine lv_bipush (v := 24) hx hb d_M_outside_45 (by decide) ?_
  refine lv_icmp_eq (tgt := 72) hx hb d_M_outside_47 (by decide) (fun c1 => ?_) (fun c1 => ?_)
  · refine lv_iconst (v := 1) hx hb d_M_outside_72 (by decide) ?_
    refine lv_goto (tgt := 77) hx hb d_M_outside_73 (by decide) ?_
    refine lv_iconst (v := 2) hx hb d_M_outside_77 (by decide) ?_
    have hPc := hP.sub (ws' := [(m0, .inr (3, [.int 0, .int zn, .ref mH, .ref mL, .ref mB, .ref mP, .ref mR, .ref mA, .ref mW, .ref mU, .ref mV, .int (nI nr), .ref mM, .ref mT, .int mc, .ref mQ, .int ga, .int gb, .int kn, .ref mO, .ref mF, .ref mS, .ref mE, .ref mX, .ref mD]))]) [0] rfl
    have hDc := hD.sub (ws' := [(m0, .inr (3, [.int 0, .int zn, .ref mH, .ref mL, .ref mB, .ref mP, .ref mR, .ref mA, .ref mW, .ref mU, .ref mV, .int (nI nr), .ref mM, .ref mT, .int mc, .ref mQ, .int ga, .int gb, .int kn, .ref mO, .ref mF, .ref mS, .ref mE, .ref mX, .ref mD]))]) [0] (by decide) rfl
    have hFc := va_free (wc := [(m0, .inr (3, [.int 0, .int zn, .ref mH, .ref mL, .ref mB, .ref mP, .ref mR, .ref mA, .ref mW, .ref mU, .ref mV, .int (nI nr), .ref mM, .ref mT, .int mc, .ref mQ, .int ga, .int gb, .int kn, .ref mO, .ref mF, .ref mS, .ref mE, .ref mX, .ref mD]))]) hD hS hA [0] rfl
    refine va_calli (va_runV (C := R_M) (As := [.int 1, .int 2]) (rest := []) ⟨hx, hb, hml, hown, hG⟩ (m_fails012 l dC dI cI cJ cZ cB m0 mH mL mB mP mR mA mW mU mV mM mT mQ mO mF mS mE mX mD zn (nI nr) mc ga gb kn H7.size ) (cwV 2 hG g_M_87 rfl rfl rfl (by decide +kernel) ⟨Nat.le_of_ble_eq_true rfl, Nat.le_of_ble_eq_true rfl⟩) ⟨PC.blind, va_recv hK hP (ci := 3) (q0 := 0) rfl rfl, PC.of hPc hK hDc hE hS hFc⟩ rfl rfl hl9.1 rfl (lv_room (Nat.le_of_ble_eq_true rfl)) d_M_outside_78 ⟨by first | exact Nat.le_of_ble_eq_true rfl | omega, by first | exact Nat.le_of_ble_eq_true rfl | omega⟩) hS (fun q _ h => hFc q h) hFc (fun r10 u t H9 locs ht hvm hw hB hz1 hk1 hS => ?_)
    rw [ht] at hB
    obtain ⟨hP, hD⟩ := jset (wc := [(m0, .inr (3, [.int 0, .int zn, .ref mH, .ref mL, .ref mB, .ref mP, .ref mR, .ref mA, .ref mW, .ref mU, .ref mV, .int (nI nr), .ref mM, .ref mT, .int mc, .ref mQ, .int ga, .int gb, .int kn, .ref mO, .ref mF, .ref mS, .ref mE, .ref mX, .ref mD]))]) (w1 := [(m0, .inr (3, [.int 2, .int zn, .ref mH, .ref mL, .ref mB, .ref mP, .ref mR, .ref mA, .ref mW, .ref mU, .ref mV, .int (nI nr), .ref mM, .ref mT, .int mc, .ref mQ, .int ga, .int gb, .int kn, .ref mO, .ref mF, .ref mS, .ref mE, .ref mX, .ref mD]))]) [0] rfl rfl hP hD hk1 hB
    have hP : va_P (dC, dI) vwCl [(m0, .inr (3, [.int 2, .int zn, .ref mH, .ref mL, .ref mB, .ref mP, .ref mR, .ref mA, .ref mW, .ref mU, .ref mV, .int (nI nr), .ref mM, .ref mT, .int mc, .ref mQ, .int ga, .int gb, .int kn, .ref mO, .ref mF, .ref mS, .ref mE, .ref mX, .ref mD])), (mM, .inl (cI, 24, .inl rM))] H9 := hP
    have hD : va_D A [(m0, .inr (3, [.int 2, .int zn, .ref mH, .ref mL, .ref mB, .ref mP, .ref mR, .ref mA, .ref mW, .ref mU, .ref mV, .int (nI nr), .ref mM, .ref mT, .int mc, .ref mQ, .int ga, .int gb, .int kn, .ref mO, .ref mF, .ref mS, .ref mE, .ref mX, .ref mD])), (mM, .inl (cI, 24, .inl rM))] := hD
    have hw : r10 = 1 := hw
    subst hw
    refine lv_if_eq (tgt := 86) hx hb d_M_outside_81 (by decide) (fun c11 => absurd c11 (by decide)) (fun c11 => ?_)
    refine lv_iconst (v := 0) hx hb d_M_outside_84 (by decide) ?_
    exact W.iret (v := 0) hx hb hr (fun t ht hW => ⟨⟨0, (), rfl, trivial, by have h9 := hP; rw [← ht] at h9; exact h9⟩, hS.F ht⟩) hS.2.2 d_M_outside_85
  · have hb2 : 0 < nr ∧ x ≤ rM (nr - 1) := hbad.resolve_left (fun h => c1 (by rw [h]; rfl))
    refine lv_aload_n hx hb d_M_outside_50 rfl (lv_at hl9 0 rfl) ?_
    refine va_get (D := (dC, dI)) (ci := 3) (v := .int (nI nr)) (C := R_M) (T := F_M) (N := 25) hx hb hG i_M hown hK hP 0 rfl rfl 11 (by decide) (hG _ k_451) (fun _ h9 => h9) rfl d_M_outside_51 ?_
    refine lv_if_le (tgt := 76) hx hb d_M_outside_54 (by decide) (fun c2 => absurd c2 (nI_nle hb2.1 (by omega))) (fun c2 => ?_)
    have hin3 : vp_in (nI nr - 1) 24 := by rw [sub1 hb2.1]; exact vp_in_nI (by omega) (by decide)
    refine lv_aload_n hx hb d_M_outside_57 rfl (lv_at hl9 0 rfl) ?_
    refine va_get (D := (dC, dI)) (ci := 3) (v := .ref mM) (C := R_M) (T := F_M) (N := 25) hx hb hG i_M hown hK hP 0 rfl rfl 12 (by decide) (hG _ k_452) (fun _ h9 => h9) rfl d_M_outside_58 ?_
    refine lv_aload_n hx hb d_M_outside_61 rfl (lv_at hl9 0 rfl) ?_
    refine va_get (D := (dC, dI)) (ci := 3) (v := .int (nI nr)) (C := R_M) (T := F_M) (N := 25) hx hb hG i_M hown hK hP 0 rfl rfl 11 (by decide) (hG _ k_451) (fun _ h9 => h9) rfl d_M_outside_62 ?_
    refine lv_iconst (v := 1) hx hb d_M_outside_65 (by decide) ?_
    refine lv_isub hx hb d_M_outside_66 ?_
    refine va_iald hx hb hK hP 1 0 rfl rfl (hin3) d_M_outside_67 ?_
    refine lv_iload_n hx hb d_M_outside_68 rfl (lv_at hl9 1 rfl) ?_
    refine lv_icmp_lt (tgt := 76) hx hb d_M_outside_69 (by decide) (fun c3 => absurd c3 (by rw [sub1 hb2.1, nI_clamp (by omega)]; exact Int32.not_lt.mpr hb2.2)) (fun c3 => ?_)
    refine lv_iconst (v := 1) hx hb d_M_outside_72 (by decide) ?_
    refine lv_goto (tgt := 77) hx hb d_M_outside_73 (by decide) ?_
    refine lv_iconst (v := 2) hx hb d_M_outside_77 (by decide) ?_
    have hPc := hP.sub (ws' := [(m0, .inr (3, [.int 0, .int zn, .ref mH, .ref mL, .ref mB, .ref mP, .ref mR, .ref mA, .ref mW, .ref mU, .ref mV, .int (nI nr), .ref mM, .ref mT, .int mc, .ref mQ, .int ga, .int gb, .int kn, .ref mO, .ref mF, .ref mS, .ref mE, .ref mX, .ref mD]))]) [0] rfl
    have hDc := hD.sub (ws' := [(m0, .inr (3, [.int 0, .int zn, .ref mH, .ref mL, .ref mB, .ref mP, .ref mR, .ref mA, .ref mW, .ref mU, .ref mV, .int (nI nr), .ref mM, .ref mT, .int mc, .ref mQ, .int ga, .int gb, .int kn, .ref mO, .ref mF, .ref mS, .ref mE, .ref mX, .ref mD]))]) [0] (by decide) rfl
    have hFc := va_free (wc := [(m0, .inr (3, [.int 0, .int zn, .ref mH, .ref mL, .ref mB, .ref mP, .ref mR, .ref mA, .ref mW, .ref mU, .ref mV, .int (nI nr), .ref mM, .ref mT, .int mc, .ref mQ, .int ga, .int gb, .int kn, .ref mO, .ref mF, .ref mS, .ref mE, .ref mX, .ref mD]))]) hD hS hA [0] rfl
    refine va_calli (va_runV (C := R_M) (As := [.int 1, .int 2]) (rest := []) ⟨hx, hb, hml, hown, hG⟩ (m_fails012 l dC dI cI cJ cZ cB m0 mH mL mB mP mR mA mW mU mV mM mT mQ mO mF mS mE mX mD zn (nI nr) mc ga gb kn H7.size ) (cwV 2 hG g_M_87 rfl rfl rfl (by decide +kernel) ⟨Nat.le_of_ble_eq_true rfl, Nat.le_of_ble_eq_true rfl⟩) ⟨PC.blind, va_recv hK hP (ci := 3) (q0 := 0) rfl rfl, PC.of hPc hK hDc hE hS hFc⟩ rfl rfl hl9.1 rfl (lv_room (Nat.le_of_ble_eq_true rfl)) d_M_outside_78 ⟨by first | exact Nat.le_of_ble_eq_true rfl | omega, by first | exact Nat.le_of_ble_eq_true rfl | omega⟩) hS (fun q _ h => hFc q h) hFc (fun r13 u t H12 locs ht hvm hw hB hz1 hk1 hS => ?_)
    rw [ht] at hB
    obtain ⟨hP, hD⟩ := jset (wc := [(m0, .inr (3, [.int 0, .int zn, .ref mH, .ref mL, .ref mB, .ref mP, .ref mR, .ref mA, .ref mW, .ref mU, .ref mV, .int (nI nr), .ref mM, .ref mT, .int mc, .ref mQ, .int ga, .int gb, .int kn, .ref mO, .ref mF, .ref mS, .ref mE, .ref mX, .ref mD]))]) (w1 := [(m0, .inr (3, [.int 2, .int zn, .ref mH, .ref mL, .ref mB, .ref mP, .ref mR, .ref mA, .ref mW, .ref mU, .ref mV, .int (nI nr), .ref mM, .ref mT, .int mc, .ref mQ, .int ga, .int gb, .int kn, .ref mO, .ref mF, .ref mS, .ref mE, .ref mX, .ref mD]))]) [0] rfl rfl hP hD hk1 hB
    have hP : va_P (dC, dI) vwCl [(m0, .inr (3, [.int 2, .int zn, .ref mH, .ref mL, .ref mB, .ref mP, .ref mR, .ref mA, .ref mW, .ref mU, .ref mV, .int (nI nr), .ref mM, .ref mT, .int mc, .ref mQ, .int ga, .int gb, .int kn, .ref mO, .ref mF, .ref mS, .ref mE, .ref mX, .ref mD])), (mM, .inl (cI, 24, .inl rM))] H12 := hP
    have hD : va_D A [(m0, .inr (3, [.int 2, .int zn, .ref mH, .ref mL, .ref mB, .ref mP, .ref mR, .ref mA, .ref mW, .ref mU, .ref mV, .int (nI nr), .ref mM, .ref mT, .int mc, .ref mQ, .int ga, .int gb, .int kn, .ref mO, .ref mF, .ref mS, .ref mE, .ref mX, .ref mD])), (mM, .inl (cI, 24, .inl rM))] := hD
    have hw : r13 = 1 := hw
    subst hw
    refine lv_if_eq (tgt := 86) hx hb d_M_outside_81 (by decide) (fun c14 => absurd c14 (by decide)) (fun c14 => ?_)
    refine lv_iconst (v := 0) hx hb d_M_outside_84 (by decide) ?_
    exact W.iret (v := 0) hx hb hr (fun t ht hW => ⟨⟨0, (), rfl, trivial, by have h9 := hP; rw [← ht] at h9; exact h9⟩, hS.F ht⟩) hS.2.2 d_M_outside_85
