theorem g_L_32 : GoodIn GG (wsV R_L 32 R_C y_C_start w_C_start) := goodG (List.forall_mem_append.mpr ⟨List.forall_mem_cons.mpr ⟨k_259, List.forall_mem_cons.mpr ⟨k_260, List.forall_mem_cons.mpr ⟨k_261, List.forall_mem_cons.mpr ⟨k_1, fun _ h => absurd h List.not_mem_nil⟩⟩⟩⟩, List.forall_mem_cons.mpr ⟨k_262, fun _ h => h⟩⟩)
theorem g_L_39 : GoodIn GG (wsV R_L 39 R_C y_C_at w_C_at) := goodG (List.forall_mem_append.mpr ⟨List.forall_mem_cons.mpr ⟨k_313, List.forall_mem_cons.mpr ⟨k_314, List.forall_mem_cons.mpr ⟨k_315, List.forall_mem_cons.mpr ⟨k_1, fun _ h => absurd h List.not_mem_nil⟩⟩⟩⟩, List.forall_mem_cons.mpr ⟨k_316, fun _ h => h⟩⟩)
theorem g_L_42 : GoodIn GG (wsV R_L 42 R_C y_C_used w_C_used) := goodG (List.forall_mem_append.mpr ⟨List.forall_mem_cons.mpr ⟨k_320, List.forall_mem_cons.mpr ⟨k_321, List.forall_mem_cons.mpr ⟨k_322, List.forall_mem_cons.mpr ⟨k_1, fun _ h => absurd h List.not_mem_nil⟩⟩⟩⟩, List.forall_mem_cons.mpr ⟨k_323, fun _ h => h⟩⟩)
theorem g_L_45 : GoodIn GG (wsV R_L 45 R_C y_C_cold w_C_cold) := goodG (List.forall_mem_append.mpr ⟨List.forall_mem_cons.mpr ⟨k_327, List.forall_mem_cons.mpr ⟨k_328, List.forall_mem_cons.mpr ⟨k_329, List.forall_mem_cons.mpr ⟨k_1, fun _ h => absurd h List.not_mem_nil⟩⟩⟩⟩, List.forall_mem_cons.mpr ⟨k_330, fun _ h => h⟩⟩)
theorem g_L_59 : GoodIn GG (wsV R_L 59 R_C y_C_taught w_C_taught) := goodG (List.forall_mem_append.mpr ⟨List.forall_mem_cons.mpr ⟨k_375, List.forall_mem_cons.mpr ⟨k_376, List.forall_mem_cons.mpr ⟨k_377, List.forall_mem_cons.mpr ⟨k_1, fun _ h => absurd h List.not_mem_nil⟩⟩⟩⟩, List.forall_mem_cons.mpr ⟨k_378, fun _ h => h⟩⟩)
theorem g_L_35 : GoodIn GG (wsV R_L 35 R_C y_C_late w_C_late) := goodG (List.forall_mem_append.mpr ⟨List.forall_mem_cons.mpr ⟨k_306, List.forall_mem_cons.mpr ⟨k_307, List.forall_mem_cons.mpr ⟨k_308, List.forall_mem_cons.mpr ⟨k_1, fun _ h => absurd h List.not_mem_nil⟩⟩⟩⟩, List.forall_mem_cons.mpr ⟨k_309, fun _ h => h⟩⟩)
theorem g_L_65 : GoodIn GG (wsV R_L 65 R_C y_C_cheapest w_C_cheapest) := goodG (List.forall_mem_append.mpr ⟨List.forall_mem_cons.mpr ⟨k_399, List.forall_mem_cons.mpr ⟨k_400, List.forall_mem_cons.mpr ⟨k_401, List.forall_mem_cons.mpr ⟨k_1, fun _ h => absurd h List.not_mem_nil⟩⟩⟩⟩, List.forall_mem_cons.mpr ⟨k_402, fun _ h => h⟩⟩)
theorem g_L_68 : GoodIn GG (wsV R_L 68 R_C y_C_costs w_C_costs) := goodG (List.forall_mem_append.mpr ⟨List.forall_mem_cons.mpr ⟨k_428, List.forall_mem_cons.mpr ⟨k_429, List.forall_mem_cons.mpr ⟨k_430, List.forall_mem_cons.mpr ⟨k_1, fun _ h => absurd h List.not_mem_nil⟩⟩⟩⟩, List.forall_mem_cons.mpr ⟨k_431, fun _ h => h⟩⟩)
set_option maxHeartbeats 4000000 in
set_option maxRecDepth 100000 in
theorem l_start (l : Launch) (dC : Nat → ClassId) (dI : Nat → Nat → Nat) (cI cJ cZ cB : ClassId) (a0 aZ aO aG aP aW aK : Nat) (zc orr ol mp pl fa fb : Int32) (fZ : Nat → Option Nat) (fO fG g0 g1 : Nat → Int32) (nz k : Nat) (zs0 zs1 : List ZD) (za la wa : Nat) (zh zl zf zp zr zm zw zs : Int32) (ea eb : Int64) (fT : Nat → Int32) (ou : Nat) (fU : Nat → Int64) (sz : Nat) (hn : nz ≤ 6) (hok : plOk fZ nz zs0) (hto : plTo fO mp nz zs0 fG g0 pl zs1 g1) (hk : k < nz) (hz : fZ k = some za) (hs1 : zs1[k]? = some ((za, la, wa), (zh, zl, zf, zp, zr, zm, zw, zs), (ea, eb), fT)) : Met l y_L_start w_L_start ({ frames := 9, cells := 0, slots := 0, locals := 158 }) (PCL (dC, dI) (TY cI cJ cZ cB) [.ref a0, .int (nI k), .ref ou] ([(a0, .inr (2, [.ref aZ, .int (nI nz), .ref aO, .int orr, .int ol, .int mp, .ref aG, .int pl, .int fa, .int fb, .ref aP, .ref aW, .ref aK])), (aZ, .inl (cZ, 6, .inr (.inr (.inr (.inr fZ))))), (aO, .inl (cI, 1440, .inl fO)), (aG, .inl (cI, 1440, .inl fG)), (ou, .inl (cJ, 1, .inr (.inl fU)))] ++ (zs0.flatMap (tri cI))) sz (va_A ([(a0, .inr (2, [.ref aZ, .int (nI nz), .ref aO, .int orr, .int ol, .int mp, .ref aG, .int pl, .int fa, .int fb, .ref aP, .ref aW, .ref aK])), (aZ, .inl (cZ, 6, .inr (.inr (.inr (.inr fZ))))), (aO, .inl (cI, 1440, .inl fO)), (aG, .inl (cI, 1440, .inl fG)), (ou, .inl (cJ, 1, .inr (.inl fU)))] ++ (zs0.flatMap (tri cI))) sz)) (va_Qi (fun (r : Int32) (_ : Unit) => r = 0) (fun (_ : Unit) (t : State) => va_P (dC, dI) vwCl ([(a0, .inr (2, [.ref aZ, .int (nI nz), .ref aO, .int orr, .int ol, .int mp, .ref aG, .int 1, .int fa, .int fb, .ref aP, .ref aW, .ref aK])), (aZ, .inl (cZ, 6, .inr (.inr (.inr (.inr fZ))))), (aO, .inl (cI, 1440, .inl fO)), (aG, .inl (cI, 1440, .inl g1)), (ou, .inl (cJ, 1, .inr (.inl (vp_updL fU 0 zs.toInt64))))] ++ (zs1.flatMap (tri cI))) t.heap) (va_A ([(a0, .inr (2, [.ref aZ, .int (nI nz), .ref aO, .int orr, .int ol, .int mp, .ref aG, .int pl, .int fa, .int fb, .ref aP, .ref aW, .ref aK])), (aZ, .inl (cZ, 6, .inr (.inr (.inr (.inr fZ))))), (aO, .inl (cI, 1440, .inl fO)), (aG, .inl (cI, 1440, .inl fG)), (ou, .inl (cJ, 1, .inr (.inl fU)))] ++ (zs0.flatMap (tri cI))) sz)) 0 0 (va_A ([(a0, .inr (2, [.ref aZ, .int (nI nz), .ref aO, .int orr, .int ol, .int mp, .ref aG, .int pl, .int fa, .int fb, .ref aP, .ref aW, .ref aK])), (aZ, .inl (cZ, 6, .inr (.inr (.inr (.inr fZ))))), (aO, .inl (cI, 1440, .inl fO)), (aG, .inl (cI, 1440, .inl fG)), (ou, .inl (cJ, 1, .inr (.inl fU)))] ++ (zs0.flatMap (tri cI))) sz) := by
  refine met_ofWH (cc := b_L_start) (maxL := 4) (ret := (some .int)) (by decide) rfl ?_
  intro p e s m args below meth c s₁ B hml hv
  obtain ⟨rfl, hsz, hP, hK, hD0, hE, hNc⟩ := hv
  have hx := B.exec
  have hb := B.bytes
  have hr := B.returns
  have hG : ∀ w ∈ GG, w.before _ s = true := fun w h => atoms_spec (ws := w_L_start) B.pre w (List.mem_cons_of_mem _ h)
  have hown : s.vm.findClass R_L = some m.cls := findClass_of_methodNamed B.named
  have hlocks := B.notSynchronized
  subst hsz
  have hD := hD0.self (sz := s.heap.size)
  generalize hAe : (va_A ([(a0, .inr (2, [.ref aZ, .int (nI nz), .ref aO, .int orr, .int ol, .int mp, .ref aG, .int pl, .int fa, .int fb, .ref aP, .ref aW, .ref aK])), (aZ, .inl (cZ, 6, .inr (.inr (.inr (.inr fZ))))), (aO, .inl (cI, 1440, .inl fO)), (aG, .inl (cI, 1440, .inl fG)), (ou, .inl (cJ, 1, .inr (.inl fU)))] ++ (zs0.flatMap (tri cI))) s.heap.size) = A at hD hE ⊢
  have hA : ∀ q : Nat, s.heap.size ≤ q → A q := fun q h => by rw [← hAe]; exact Or.inr h
  have hS : va_S A s.heap s.heap [] := va_S.rf
  obtain ⟨H, hH⟩ : ∃ z, z = s.heap := ⟨_, rfl⟩
  rw [← hH] at hP
  have hS : va_S A s.heap H [] := by rw [hH]; exact hS
  rw [← hH]
  have hl9 := lv_entry ([.ref a0, .int (nI k), .ref ou]) (n := 4) (Nat.le_of_ble_eq_true rfl)
  rw [lg_entry_eq]
  generalize (lg_sl ([.ref a0, .int (nI k), .ref ou]) ++ List.replicate (4 - (lg_sl ([.ref a0, .int (nI k), .ref ou])).length) Slot.unset).toArray = ls at hl9 ⊢
  have hl9 : lv_has ls 4 [(0, .ref a0), (1, .int (nI k)), (2, .ref ou)] := hl9
  have htab := vx_table (x := y_L_start) B (atoms_spec (ws := w_L_start) B.pre _ List.mem_cons_self)
  refine lv_aload_n hx hb d_L_start_0 rfl (lv_at hl9 2 rfl) ?_
  refine lv_iconst (v := 0) hx hb d_L_start_1 (by decide) ?_
  refine lv_aload_n hx hb d_L_start_2 rfl (lv_at hl9 0 rfl) ?_
  refine lv_iload_n hx hb d_L_start_3 rfl (lv_at hl9 1 rfl) ?_
  have hPc := hP.part (cx := [(a0, .inr (2, [.ref aZ, .int (nI nz), .ref aO, .int orr, .int ol, .int mp, .ref aG, .int pl, .int fa, .int fb, .ref aP, .ref aW, .ref aK])), (aZ, .inl (cZ, 6, .inr (.inr (.inr (.inr fZ))))), (aO, .inl (cI, 1440, .inl fO)), (aG, .inl (cI, 1440, .inl fG))]) [0, 1, 2, 3] rfl
  have hDc := hD.part (cx := [(a0, .inr (2, [.ref aZ, .int (nI nz), .ref aO, .int orr, .int ol, .int mp, .ref aG, .int pl, .int fa, .int fb, .ref aP, .ref aW, .ref aK])), (aZ, .inl (cZ, 6, .inr (.inr (.inr (.inr fZ))))), (aO, .inl (cI, 1440, .inl fO)), (aG, .inl (cI, 1440, .inl fG))]) [0, 1, 2, 3] (by decide) rfl
  have hFc := va_freeP (cx := [(a0, .inr (2, [.ref aZ, .int (nI nz), .ref aO, .int orr, .int ol, .int mp, .ref aG, .int pl, .int fa, .int fb, .ref aP, .ref aW, .ref aK])), (aZ, .inl (cZ, 6, .inr (.inr (.inr (.inr fZ))))), (aO, .inl (cI, 1440, .inl fO)), (aG, .inl (cI, 1440, .inl fG))]) hD hS hA [0, 1, 2, 3] rfl
  refine va_calli (va_runV (C := R_C) (As := [.int (nI k)]) (rest := [.int 0, .ref ou]) ⟨hx, hb, hml, hown, hG⟩ (c_start l dC dI cI cJ cZ cB a0 aZ aO aG aP aW aK zc orr ol mp pl fa fb fZ fO fG g0 g1 nz k zs0 zs1 za la wa zh zl zf zp zr zm zw zs ea eb fT H.size hn hok hto hk hz hs1) (cwV 1 hG g_L_32 rfl rfl rfl (by decide +kernel) ⟨Nat.le_of_ble_eq_true rfl, Nat.le_of_ble_eq_true rfl⟩) ⟨PC.blind, va_recv hK hP (ci := 2) (q0 := 0) rfl rfl, PC.of hPc hK hDc hE hS hFc⟩ rfl rfl hl9.1 rfl (lv_room (Nat.le_of_ble_eq_true rfl)) d_L_start_4 ⟨by first | exact Nat.le_of_ble_eq_true rfl | omega, by first | exact Nat.le_of_ble_eq_true rfl | omega⟩) hS (fun q _ h => hFc q h) hFc (fun r2 u t H1 locs ht hvm hw hB hz1 hk1 hS => ?_)
  rw [ht] at hB
  obtain ⟨hP, hD⟩ := jsetP (wc := [(a0, .inr (2, [.ref aZ, .int (nI nz), .ref aO, .int orr, .int ol, .int mp, .ref aG, .int pl, .int fa, .int fb, .ref aP, .ref aW, .ref aK])), (aZ, .inl (cZ, 6, .inr (.inr (.inr (.inr fZ))))), (aO, .inl (cI, 1440, .inl fO)), (aG, .inl (cI, 1440, .inl fG))]) (w1 := [(a0, .inr (2, [.ref aZ, .int (nI nz), .ref aO, .int orr, .int ol, .int mp, .ref aG, .int 1, .int fa, .int fb, .ref aP, .ref aW, .ref aK])), (aZ, .inl (cZ, 6, .inr (.inr (.inr (.inr fZ))))), (aO, .inl (cI, 1440, .inl fO)), (aG, .inl (cI, 1440, .inl g1))]) (pl1 := (zs1.flatMap (tri cI))) [0, 1, 2, 3] rfl rfl (adr_eq (B1 := []) (B := []) rfl (plTo_ad hto)) hP hD hk1 hB
  have hP : va_P (dC, dI) vwCl ([(a0, .inr (2, [.ref aZ, .int (nI nz), .ref aO, .int orr, .int ol, .int mp, .ref aG, .int 1, .int fa, .int fb, .ref aP, .ref aW, .ref aK])), (aZ, .inl (cZ, 6, .inr (.inr (.inr (.inr fZ))))), (aO, .inl (cI, 1440, .inl fO)), (aG, .inl (cI, 1440, .inl g1)), (ou, .inl (cJ, 1, .inr (.inl fU)))] ++ (zs1.flatMap (tri cI))) H1 := hP
  have hD : va_D A ([(a0, .inr (2, [.ref aZ, .int (nI nz), .ref aO, .int orr, .int ol, .int mp, .ref aG, .int 1, .int fa, .int fb, .ref aP, .ref aW, .ref aK])), (aZ, .inl (cZ, 6, .inr (.inr (.inr (.inr fZ))))), (aO, .inl (cI, 1440, .inl fO)), (aG, .inl (cI, 1440, .inl g1)), (ou, .inl (cJ, 1, .inr (.inl fU)))] ++ (zs1.flatMap (tri cI))) := hD
  have hw : r2 = zs := hw
  rw [hw]
  refine lv_i2l hx hb d_L_start_7 rfl ?_
  refine va_last hx hb hK hP hD hS 4 1 rfl rfl (vp_in_nI (n := 0) (N := 1) (by decide) (by decide)) d_L_start_8 (fun H locs hP hD hS => ?_)
  have hP : va_P (dC, dI) vwCl ([(a0, .inr (2, [.ref aZ, .int (nI nz), .ref aO, .int orr, .int ol, .int mp, .ref aG, .int 1, .int fa, .int fb, .ref aP, .ref aW, .ref aK])), (aZ, .inl (cZ, 6, .inr (.inr (.inr (.inr fZ))))), (aO, .inl (cI, 1440, .inl fO)), (aG, .inl (cI, 1440, .inl g1)), (ou, .inl (cJ, 1, .inr (.inl (vp_updL fU (0 : Int32).toNatClampNeg zs.toInt64))))] ++ (zs1.flatMap (tri cI))) H := hP
  have hD : va_D A ([(a0, .inr (2, [.ref aZ, .int (nI nz), .ref aO, .int orr, .int ol, .int mp, .ref aG, .int 1, .int fa, .int fb, .ref aP, .ref aW, .ref aK])), (aZ, .inl (cZ, 6, .inr (.inr (.inr (.inr fZ))))), (aO, .inl (cI, 1440, .inl fO)), (aG, .inl (cI, 1440, .inl g1)), (ou, .inl (cJ, 1, .inr (.inl (vp_updL fU (0 : Int32).toNatClampNeg zs.toInt64))))] ++ (zs1.flatMap (tri cI))) := hD
  refine lv_goto (tgt := 15) hx hb d_L_start_9 (by decide) ?_
  refine lv_iconst (v := 0) hx hb d_L_start_15 (by decide) ?_
  exact W.iret (v := 0) hx hb hr (fun t ht hW => ⟨⟨0, (), rfl, rfl, by have h9 := hP; rw [← ht] at h9; exact h9⟩, hS.F ht⟩) hS.2.2 d_L_start_16
set_option maxHeartbeats 4000000 in
set_option maxRecDepth 100000 in
theorem l_startX (l : Launch) (dC : Nat → ClassId) (dI : Nat → Nat → Nat) (cI cJ cZ cB : ClassId) (hl : l.stackTraces = false) (a0 aZ aO aG aP aW aK : Nat) (zc orr ol mp pl fa fb : Int32) (fZ : Nat → Option Nat) (nz : Nat) (x : Int32)  (ou : Nat) (fU : Nat → Int64) (sz : Nat) (hx0 : x < 0 ∨ nI nz ≤ x) : Met l y_L_start w_L_start ({ frames := 9, cells := 1, slots := 6, locals := 146 }) (PCL (dC, dI) (TY cI cJ cZ cB) [.ref a0, .int x, .ref ou] [(a0, .inr (2, [.ref aZ, .int (nI nz), .ref aO, .int orr, .int ol, .int mp, .ref aG, .int pl, .int fa, .int fb, .ref aP, .ref aW, .ref aK])), (aZ, .inl (cZ, 6, .inr (.inr (.inr (.inr fZ))))), (ou, .inl (cJ, 1, .inr (.inl fU)))] sz (va_A [(a0, .inr (2, [.ref aZ, .int (nI nz), .ref aO, .int orr, .int ol, .int mp, .ref aG, .int pl, .int fa, .int fb, .ref aP, .ref aW, .ref aK])), (aZ, .inl (cZ, 6, .inr (.inr (.inr (.inr fZ))))), (ou, .inl (cJ, 1, .inr (.inl fU)))] sz)) (va_Qi (fun (r : Int32) (_ : Unit) => r = 1) (fun (_ : Unit) (t : State) => va_P (dC, dI) vwCl [(a0, .inr (2, [.ref aZ, .int (nI nz), .ref aO, .int orr, .int ol, .int mp, .ref aG, .int pl, .int fa, .int fb, .ref aP, .ref aW, .ref aK])), (aZ, .inl (cZ, 6, .inr (.inr (.inr (.inr fZ))))), (ou, .inl (cJ, 1, .inr (.inl fU)))] t.heap) (va_A [(a0, .inr (2, [.ref aZ, .int (nI nz), .ref aO, .int orr, .int ol, .int mp, .ref aG, .int pl, .int fa, .int fb, .ref aP, .ref aW, .ref aK])), (aZ, .inl (cZ, 6, .inr (.inr (.inr (.inr fZ))))), (ou, .inl (cJ, 1, .inr (.inl fU)))] sz)) 1 6 (va_A [(a0, .inr (2, [.ref aZ, .int (nI nz), .ref aO, .int orr, .int ol, .int mp, .ref aG, .int pl, .int fa, .int fb, .ref aP, .ref aW, .ref aK])), (aZ, .inl (cZ, 6, .inr (.inr (.inr (.inr fZ))))), (ou, .inl (cJ, 1, .inr (.inl fU)))] sz) := by
  refine met_ofWH (cc := b_L_start) (maxL := 4) (ret := (some .int)) (by decide) rfl ?_
  intro p e s m args below meth c s₁ B hml hv
  obtain ⟨rfl, hsz, hP, hK, hD0, hE, hNc⟩ := hv
  have hx := B.exec
  have hb := B.bytes
  have hr := B.returns
  have hG : ∀ w ∈ GG, w.before _ s = true := fun w h => atoms_spec (ws := w_L_start) B.pre w (List.mem_cons_of_mem _ h)
  have hown : s.vm.findClass R_L = some m.cls := findClass_of_methodNamed B.named
  have hlocks := B.notSynchronized
  subst hsz
  have hD := hD0.self (sz := s.heap.size)
  generalize hAe : (va_A [(a0, .inr (2, [.ref aZ, .int (nI nz), .ref aO, .int orr, .int ol, .int mp, .ref aG, .int pl, .int fa, .int fb, .ref aP, .ref aW, .ref aK])), (aZ, .inl (cZ, 6, .inr (.inr (.inr (.inr fZ))))), (ou, .inl (cJ, 1, .inr (.inl fU)))] s.heap.size) = A at hD hE ⊢
  have hA : ∀ q : Nat, s.heap.size ≤ q → A q := fun q h => by rw [← hAe]; exact Or.inr h
  have hS : va_S A s.heap s.heap [] := va_S.rf
  obtain ⟨H, hH⟩ : ∃ z, z = s.heap := ⟨_, rfl⟩
  rw [← hH] at hP
  have hS : va_S A s.heap H [] := by rw [hH]; exact hS
  rw [← hH]
  have hl9 := lv_entry ([.ref a0, .int x, .ref ou]) (n := 4) (Nat.le_of_ble_eq_true rfl)
  rw [lg_entry_eq]
  generalize (lg_sl ([.ref a0, .int x, .ref ou]) ++ List.replicate (4 - (lg_sl ([.ref a0, .int x, .ref ou])).length) Slot.unset).toArray = ls at hl9 ⊢
  have hl9 : lv_has ls 4 [(0, .ref a0), (1, .int x), (2, .ref ou)] := hl9
  have htab := vx_table (x := y_L_start) B (atoms_spec (ws := w_L_start) B.pre _ List.mem_cons_self)
  refine lv_aload_n hx hb d_L_start_0 rfl (lv_at hl9 2 rfl) ?_
  refine lv_iconst (v := 0) hx hb d_L_start_1 (by decide) ?_
  refine lv_aload_n hx hb d_L_start_2 rfl (lv_at hl9 0 rfl) ?_
  refine lv_iload_n hx hb d_L_start_3 rfl (lv_at hl9 1 rfl) ?_
  have hPc := hP.sub (ws' := [(a0, .inr (2, [.ref aZ, .int (nI nz), .ref aO, .int orr, .int ol, .int mp, .ref aG, .int pl, .int fa, .int fb, .ref aP, .ref aW, .ref aK])), (aZ, .inl (cZ, 6, .inr (.inr (.inr (.inr fZ)))))]) [0, 1] rfl
  have hDc := hD.sub (ws' := [(a0, .inr (2, [.ref aZ, .int (nI nz), .ref aO, .int orr, .int ol, .int mp, .ref aG, .int pl, .int fa, .int fb, .ref aP, .ref aW, .ref aK])), (aZ, .inl (cZ, 6, .inr (.inr (.inr (.inr fZ)))))]) [0, 1] (by decide) rfl
  have hFc := va_A_nil hA hS.1
  refine vx_calli (vx_runV (C := R_C) (As := [.int x]) (rest := [.int 0, .ref ou]) ⟨hx, hb, hml, hown, hG⟩ (c_startX l dC dI cI cJ cZ cB hl a0 aZ aO aG aP aW aK zc orr ol mp pl fa fb fZ nz x H.size hx0) (cwV 1 hG g_L_32 rfl rfl rfl (by decide +kernel) ⟨Nat.le_of_ble_eq_true rfl, Nat.le_of_ble_eq_true rfl⟩) ⟨PC.blind, va_recv hK hP (ci := 2) (q0 := 0) rfl rfl, PC.of hPc hK hDc hE hS hFc⟩ rfl rfl hl9.1 rfl (lv_room (Nat.le_of_ble_eq_true rfl)) d_L_start_4 ⟨by first | exact Nat.le_of_ble_eq_true rfl | omega, by first | exact Nat.le_of_ble_eq_true rfl | omega⟩) hS (fun q _ h => hFc q h) hFc (fun q _ h => hFc q h) (fun E ce q9 u t H1 locs ht hvm hpx hB hz1 hk1 hS hce hcv hcl => ?_) (fun r2 u t H1 locs ht hvm hw hB hz1 hk1 hS => ?_)
  · have hE9 : E = "java/lang/IllegalArgumentException" := hB
    have hP := wp_kept hP hk1
    have hP : va_P (dC, dI) vwCl [(a0, .inr (2, [.ref aZ, .int (nI nz), .ref aO, .int orr, .int ol, .int mp, .ref aG, .int pl, .int fa, .int fb, .ref aP, .ref aW, .ref aK])), (aZ, .inl (cZ, 6, .inr (.inr (.inr (.inr fZ))))), (ou, .inl (cJ, 1, .inr (.inl fU)))] H1 := hP
    have hD : va_D A [(a0, .inr (2, [.ref aZ, .int (nI nz), .ref aO, .int orr, .int ol, .int mp, .ref aG, .int pl, .int fa, .int fb, .ref aP, .ref aW, .ref aK])), (aZ, .inl (cZ, 6, .inr (.inr (.inr (.inr fZ))))), (ou, .inl (cJ, 1, .inr (.inl fU)))] := hD
    subst hE9
    refine vx_catch (own := R_L) (name := "java/lang/IllegalArgumentException") hown [] ⟨0, 9, 12, 13⟩ [] htab (fun z hz => by simp at hz) (by decide) (by decide) (hG _ k_67) (hE.1.use k_78) hce hcv hcl ?_
    refine lv_astore_n (lv' := [(3, .ref q9), (0, .ref a0), (1, .int x), (2, .ref ou)]) hx hb d_L_start_12 rfl hl9 (by decide) rfl (fun ls hl9 => ?_)
    refine lv_iconst (v := 1) hx hb d_L_start_13 (by decide) ?_
    exact W.iret (v := 1) hx hb hr (fun t ht hW => ⟨⟨1, (), rfl, rfl, by have h9 := hP; rw [← ht] at h9; exact h9⟩, hS.F ht⟩) hS.2.2 d_L_start_14
  have hw := hw
  exact hw.elim
set_option maxHeartbeats 4000000 in
set_option maxRecDepth 100000 in
theorem l_at (l : Launch) (dC : Nat → ClassId) (dI : Nat → Nat → Nat) (cI cJ cZ cB : ClassId) (hl : l.stackTraces = false) (a0 aZ aO aG aP aW aK : Nat) (zc orr ol mp pl fa fb : Int32) (fZ : Nat → Option Nat) (fO fG g0 g1 : Nat → Int32) (nz k : Nat) (zs0 zs1 : List ZD) (za la wa : Nat) (zh zl zf zp zr zm zw zs : Int32) (ea eb : Int64) (fT : Nat → Int32) (y : Int32) (ou : Nat) (fU : Nat → Int64) (sz : Nat) (hn : nz ≤ 6) (hok : plOk fZ nz zs0) (hto : plTo fO mp nz zs0 fG g0 pl zs1 g1) (hk : k < nz) (hz : fZ k = some za) (hs1 : zs1[k]? = some ((za, la, wa), (zh, zl, zf, zp, zr, zm, zw, zs), (ea, eb), fT)) (hy : ¬ (y < 0 ∨ 1440 < y)) : Met l y_L_at w_L_at ({ frames := 9, cells := 1, slots := 6, locals := 159 }) (PCL (dC, dI) (TY cI cJ cZ cB) [.ref a0, .int (nI k), .int y, .ref ou] ([(a0, .inr (2, [.ref aZ, .int (nI nz), .ref aO, .int orr, .int ol, .int mp, .ref aG, .int pl, .int fa, .int fb, .ref aP, .ref aW, .ref aK])), (aZ, .inl (cZ, 6, .inr (.inr (.inr (.inr fZ))))), (aO, .inl (cI, 1440, .inl fO)), (aG, .inl (cI, 1440, .inl fG)), (ou, .inl (cJ, 1, .inr (.inl fU)))] ++ (zs0.flatMap (tri cI))) sz (va_A ([(a0, .inr (2, [.ref aZ, .int (nI nz), .ref aO, .int orr, .int ol, .int mp, .ref aG, .int pl, .int fa, .int fb, .ref aP, .ref aW, .ref aK])), (aZ, .inl (cZ, 6, .inr (.inr (.inr (.inr fZ))))), (aO, .inl (cI, 1440, .inl fO)), (aG, .inl (cI, 1440, .inl fG)), (ou, .inl (cJ, 1, .inr (.inl fU)))] ++ (zs0.flatMap (tri cI))) sz)) (va_Qi (fun (r : Int32) (_ : Unit) => r = 0) (fun (_ : Unit) (t : State) => va_P (dC, dI) vwCl ([(a0, .inr (2, [.ref aZ, .int (nI nz), .ref aO, .int orr, .int ol, .int mp, .ref aG, .int 1, .int fa, .int fb, .ref aP, .ref aW, .ref aK])), (aZ, .inl (cZ, 6, .inr (.inr (.inr (.inr fZ))))), (aO, .inl (cI, 1440, .inl fO)), (aG, .inl (cI, 1440, .inl g1)), (ou, .inl (cJ, 1, .inr (.inl (vp_updL fU 0 (fT y.toNatClampNeg).toInt64))))] ++ (zs1.flatMap (tri cI))) t.heap) (va_A ([(a0, .inr (2, [.ref aZ, .int (nI nz), .ref aO, .int orr, .int ol, .int mp, .ref aG, .int pl, .int fa, .int fb, .ref aP, .ref aW, .ref aK])), (aZ, .inl (cZ, 6, .inr (.inr (.inr (.inr fZ))))), (aO, .inl (cI, 1440, .inl fO)), (aG, .inl (cI, 1440, .inl fG)), (ou, .inl (cJ, 1, .inr (.inl fU)))] ++ (zs0.flatMap (tri cI))) sz)) 1 6 (va_A ([(a0, .inr (2, [.ref aZ, .int (nI nz), .ref aO, .int orr, .int ol, .int mp, .ref aG, .int pl, .int fa, .int fb, .ref aP, .ref aW, .ref aK])), (aZ, .inl (cZ, 6, .inr (.inr (.inr (.inr fZ))))), (aO, .inl (cI, 1440, .inl fO)), (aG, .inl (cI, 1440, .inl fG)), (ou, .inl (cJ, 1, .inr (.inl fU)))] ++ (zs0.flatMap (tri cI))) sz) := by
  refine met_ofWH (cc := b_L_at) (maxL := 5) (ret := (some .int)) (by decide) rfl ?_
  intro p e s m args below meth c s₁ B hml hv
  obtain ⟨rfl, hsz, hP, hK, hD0, hE, hNc⟩ := hv
  have hx := B.exec
  have hb := B.bytes
  have hr := B.returns
  have hG : ∀ w ∈ GG, w.before _ s = true := fun w h => atoms_spec (ws := w_L_at) B.pre w (List.mem_cons_of_mem _ h)
  have hown : s.vm.findClass R_L = some m.cls := findClass_of_methodNamed B.named
  have hlocks := B.notSynchronized
  subst hsz
  have hD := hD0.self (sz := s.heap.size)
  generalize hAe : (va_A ([(a0, .inr (2, [.ref aZ, .int (nI nz), .ref aO, .int orr, .int ol, .int mp, .ref aG, .int pl, .int fa, .int fb, .ref aP, .ref aW, .ref aK])), (aZ, .inl (cZ, 6, .inr (.inr (.inr (.inr fZ))))), (aO, .inl (cI, 1440, .inl fO)), (aG, .inl (cI, 1440, .inl fG)), (ou, .inl (cJ, 1, .inr (.inl fU)))] ++ (zs0.flatMap (tri cI))) s.heap.size) = A at hD hE ⊢
  have hA : ∀ q : Nat, s.heap.size ≤ q → A q := fun q h => by rw [← hAe]; exact Or.inr h
  have hS : va_S A s.heap s.heap [] := va_S.rf
  obtain ⟨H, hH⟩ : ∃ z, z = s.heap := ⟨_, rfl⟩
  rw [← hH] at hP
  have hS : va_S A s.heap H [] := by rw [hH]; exact hS
  rw [← hH]
  have hl9 := lv_entry ([.ref a0, .int (nI k), .int y, .ref ou]) (n := 5) (Nat.le_of_ble_eq_true rfl)
  rw [lg_entry_eq]
  generalize (lg_sl ([.ref a0, .int (nI k), .int y, .ref ou]) ++ List.replicate (5 - (lg_sl ([.ref a0, .int (nI k), .int y, .ref ou])).length) Slot.unset).toArray = ls at hl9 ⊢
  have hl9 : lv_has ls 5 [(0, .ref a0), (1, .int (nI k)), (2, .int y), (3, .ref ou)] := hl9
  have htab := vx_table (x := y_L_at) B (atoms_spec (ws := w_L_at) B.pre _ List.mem_cons_self)
  refine lv_aload_n hx hb d_L_at_0 rfl (lv_at hl9 3 rfl) ?_
  refine lv_iconst (v := 0) hx hb d_L_at_1 (by decide) ?_
  refine lv_aload_n hx hb d_L_at_2 rfl (lv_at hl9 0 rfl) ?_
  refine lv_iload_n hx hb d_L_at_3 rfl (lv_at hl9 1 rfl) ?_
  refine lv_iload_n hx hb d_L_at_4 rfl (lv_at hl9 2 rfl) ?_
  have hPc := hP.part (cx := [(a0, .inr (2, [.ref aZ, .int (nI nz), .ref aO, .int orr, .int ol, .int mp, .ref aG, .int pl, .int fa, .int fb, .ref aP, .ref aW, .ref aK])), (aZ, .inl (cZ, 6, .inr (.inr (.inr (.inr fZ))))), (aO, .inl (cI, 1440, .inl fO)), (aG, .inl (cI, 1440, .inl fG))]) [0, 1, 2, 3] rfl
  have hDc := hD.part (cx := [(a0, .inr (2, [.ref aZ, .int (nI nz), .ref aO, .int orr, .int ol, .int mp, .ref aG, .int pl, .int fa, .int fb, .ref aP, .ref aW, .ref aK])), (aZ, .inl (cZ, 6, .inr (.inr (.inr (.inr fZ))))), (aO, .inl (cI, 1440, .inl fO)), (aG, .inl (cI, 1440, .inl fG))]) [0, 1, 2, 3] (by decide) rfl
  have hFc := va_freeP (cx := [(a0, .inr (2, [.ref aZ, .int (nI nz), .ref aO, .int orr, .int ol, .int mp, .ref aG, .int pl, .int fa, .int fb, .ref aP, .ref aW, .ref aK])), (aZ, .inl (cZ, 6, .inr (.inr (.inr (.inr fZ))))), (aO, .inl (cI, 1440, .inl fO)), (aG, .inl (cI, 1440, .inl fG))]) hD hS hA [0, 1, 2, 3] rfl
  refine va_calli (va_runV (C := R_C) (As := [.int (nI k), .int y]) (rest := [.int 0, .ref ou]) ⟨hx, hb, hml, hown, hG⟩ (c_at l dC dI cI cJ cZ cB hl a0 aZ aO aG aP aW aK zc orr ol mp pl fa fb fZ fO fG g0 g1 nz k zs0 zs1 za la wa zh zl zf zp zr zm zw zs ea eb fT y H.size hn hok hto hk hz hs1 hy) (cwV 2 hG g_L_39 rfl rfl rfl (by decide +kernel) ⟨Nat.le_of_ble_eq_true rfl, Nat.le_of_ble_eq_true rfl⟩) ⟨PC.blind, va_recv hK hP (ci := 2) (q0 := 0) rfl rfl, PC.of hPc hK hDc hE hS hFc⟩ rfl rfl hl9.1 rfl (lv_room (Nat.le_of_ble_eq_true rfl)) d_L_at_5 ⟨by first | exact Nat.le_of_ble_eq_true rfl | omega, by first | exact Nat.le_of_ble_eq_true rfl | omega⟩) hS (fun q _ h => hFc q h) hFc (fun r2 u t H1 locs ht hvm hw hB hz1 hk1 hS => ?_)
  rw [ht] at hB
  obtain ⟨hP, hD⟩ := jsetP (wc := [(a0, .inr (2, [.ref aZ, .int (nI nz), .ref aO, .int orr, .int ol, .int mp, .ref aG, .int pl, .int fa, .int fb, .ref aP, .ref aW, .ref aK])), (aZ, .inl (cZ, 6, .inr (.inr (.inr (.inr fZ))))), (aO, .inl (cI, 1440, .inl fO)), (aG, .inl (cI, 1440, .inl fG))]) (w1 := [(a0, .inr (2, [.ref aZ, .int (nI nz), .ref aO, .int orr, .int ol, .int mp, .ref aG, .int 1, .int fa, .int fb, .ref aP, .ref aW, .ref aK])), (aZ, .inl (cZ, 6, .inr (.inr (.inr (.inr fZ))))), (aO, .inl (cI, 1440, .inl fO)), (aG, .inl (cI, 1440, .inl g1))]) (pl1 := (zs1.flatMap (tri cI))) [0, 1, 2, 3] rfl rfl (adr_eq (B1 := []) (B := []) rfl (plTo_ad hto)) hP hD hk1 hB
  have hP : va_P (dC, dI) vwCl ([(a0, .inr (2, [.ref aZ, .int (nI nz), .ref aO, .int orr, .int ol, .int mp, .ref aG, .int 1, .int fa, .int fb, .ref aP, .ref aW, .ref aK])), (aZ, .inl (cZ, 6, .inr (.inr (.inr (.inr fZ))))), (aO, .inl (cI, 1440, .inl fO)), (aG, .inl (cI, 1440, .inl g1)), (ou, .inl (cJ, 1, .inr (.inl fU)))] ++ (zs1.flatMap (tri cI))) H1 := hP
  have hD : va_D A ([(a0, .inr (2, [.ref aZ, .int (nI nz), .ref aO, .int orr, .int ol, .int mp, .ref aG, .int 1, .int fa, .int fb, .ref aP, .ref aW, .ref aK])), (aZ, .inl (cZ, 6, .inr (.inr (.inr (.inr fZ))))), (aO, .inl (cI, 1440, .inl fO)), (aG, .inl (cI, 1440, .inl g1)), (ou, .inl (cJ, 1, .inr (.inl fU)))] ++ (zs1.flatMap (tri cI))) := hD
  have hw : r2 = fT y.toNatClampNeg := hw
  subst hw
  refine lv_i2l hx hb d_L_at_8 rfl ?_
  refine va_last hx hb hK hP hD hS 4 1 rfl rfl (vp_in_nI (n := 0) (N := 1) (by decide) (by decide)) d_L_at_9 (fun H locs hP hD hS => ?_)
  have hP : va_P (dC, dI) vwCl ([(a0, .inr (2, [.ref aZ, .int (nI nz), .ref aO, .int orr, .int ol, .int mp, .ref aG, .int 1, .int fa, .int fb, .ref aP, .ref aW, .ref aK])), (aZ, .inl (cZ, 6, .inr (.inr (.inr (.inr fZ))))), (aO, .inl (cI, 1440, .inl fO)), (aG, .inl (cI, 1440, .inl g1)), (ou, .inl (cJ, 1, .inr (.inl (vp_updL fU (0 : Int32).toNatClampNeg ((fT y.toNatClampNeg).toInt64)))))] ++ (zs1.flatMap (tri cI))) H := hP
  have hD : va_D A ([(a0, .inr (2, [.ref aZ, .int (nI nz), .ref aO, .int orr, .int ol, .int mp, .ref aG, .int 1, .int fa, .int fb, .ref aP, .ref aW, .ref aK])), (aZ, .inl (cZ, 6, .inr (.inr (.inr (.inr fZ))))), (aO, .inl (cI, 1440, .inl fO)), (aG, .inl (cI, 1440, .inl g1)), (ou, .inl (cJ, 1, .inr (.inl (vp_updL fU (0 : Int32).toNatClampNeg ((fT y.toNatClampNeg).toInt64)))))] ++ (zs1.flatMap (tri cI))) := hD
  refine lv_goto (tgt := 17) hx hb d_L_at_10 (by decide) ?_
  refine lv_iconst (v := 0) hx hb d_L_at_17 (by decide) ?_
  exact W.iret (v := 0) hx hb hr (fun t ht hW => ⟨⟨0, (), rfl, rfl, by have h9 := hP; rw [← ht] at h9; exact h9⟩, hS.F ht⟩) hS.2.2 d_L_at_18
set_option maxHeartbeats 4000000 in
set_option maxRecDepth 100000 in
theorem l_atX (l : Launch) (dC : Nat → ClassId) (dI : Nat → Nat → Nat) (cI cJ cZ cB : ClassId) (hl : l.stackTraces = false) (a0 aZ aO aG aP aW aK : Nat) (zc orr ol mp pl fa fb : Int32) (fZ : Nat → Option Nat) (nz : Nat) (x : Int32) (y : Int32) (ou : Nat) (fU : Nat → Int64) (sz : Nat) (hx0 : x < 0 ∨ nI nz ≤ x) : Met l y_L_at w_L_at ({ frames := 9, cells := 2, slots := 12, locals := 147 }) (PCL (dC, dI) (TY cI cJ cZ cB) [.ref a0, .int x, .int y, .ref ou] [(a0, .inr (2, [.ref aZ, .int (nI nz), .ref aO, .int orr, .int ol, .int mp, .ref aG, .int pl, .int fa, .int fb, .ref aP, .ref aW, .ref aK])), (aZ, .inl (cZ, 6, .inr (.inr (.inr (.inr fZ))))), (ou, .inl (cJ, 1, .inr (.inl fU)))] sz (va_A [(a0, .inr (2, [.ref aZ, .int (nI nz), .ref aO, .int orr, .int ol, .int mp, .ref aG, .int pl, .int fa, .int fb, .ref aP, .ref aW, .ref aK])), (aZ, .inl (cZ, 6, .inr (.inr (.inr (.inr fZ))))), (ou, .inl (cJ, 1, .inr (.inl fU)))] sz)) (va_Qi (fun (r : Int32) (_ : Unit) => r = 1) (fun (_ : Unit) (t : State) => va_P (dC, dI) vwCl [(a0, .inr (2, [.ref aZ, .int (nI nz), .ref aO, .int orr, .int ol, .int mp, .ref aG, .int pl, .int fa, .int fb, .ref aP, .ref aW, .ref aK])), (aZ, .inl (cZ, 6, .inr (.inr (.inr (.inr fZ))))), (ou, .inl (cJ, 1, .inr (.inl fU)))] t.heap) (va_A [(a0, .inr (2, [.ref aZ, .int (nI nz), .ref aO, .int orr, .int ol, .int mp, .ref aG, .int pl, .int fa, .int fb, .ref aP, .ref aW, .ref aK])), (aZ, .inl (cZ, 6, .inr (.inr (.inr (.inr fZ))))), (ou, .inl (cJ, 1, .inr (.inl fU)))] sz)) 2 12 (va_A [(a0, .inr (2, [.ref aZ, .int (nI nz), .ref aO, .int orr, .int ol, .int mp, .ref aG, .int pl, .int fa, .int fb, .ref aP, .ref aW, .ref aK])), (aZ, .inl (cZ, 6, .inr (.inr (.inr (.inr fZ))))), (ou, .inl (cJ, 1, .inr (.inl fU)))] sz) := by
  refine met_ofWH (cc := b_L_at) (maxL := 5) (ret := (some .int)) (by decide) rfl ?_
  intro p e s m args below meth c s₁ B hml hv
  obtain ⟨rfl, hsz, hP, hK, hD0, hE, hNc⟩ := hv
  have hx := B.exec
  have hb := B.bytes
  have hr := B.returns
  have hG : ∀ w ∈ GG, w.before _ s = true := fun w h => atoms_spec (ws := w_L_at) B.pre w (List.mem_cons_of_mem _ h)
  have hown : s.vm.findClass R_L = some m.cls := findClass_of_methodNamed B.named
  have hlocks := B.notSynchronized
  subst hsz
  have hD := hD0.self (sz := s.heap.size)
  generalize hAe : (va_A [(a0, .inr (2, [.ref aZ, .int (nI nz), .ref aO, .int orr, .int ol, .int mp, .ref aG, .int pl, .int fa, .int fb, .ref aP, .ref aW, .ref aK])), (aZ, .inl (cZ, 6, .inr (.inr (.inr (.inr fZ))))), (ou, .inl (cJ, 1, .inr (.inl fU)))] s.heap.size) = A at hD hE ⊢
  have hA : ∀ q : Nat, s.heap.size ≤ q → A q := fun q h => by rw [← hAe]; exact Or.inr h
  have hS : va_S A s.heap s.heap [] := va_S.rf
  obtain ⟨H, hH⟩ : ∃ z, z = s.heap := ⟨_, rfl⟩
  rw [← hH] at hP
  have hS : va_S A s.heap H [] := by rw [hH]; exact hS
  rw [← hH]
  have hl9 := lv_entry ([.ref a0, .int x, .int y, .ref ou]) (n := 5) (Nat.le_of_ble_eq_true rfl)
  rw [lg_entry_eq]
  generalize (lg_sl ([.ref a0, .int x, .int y, .ref ou]) ++ List.replicate (5 - (lg_sl ([.ref a0, .int x, .int y, .ref ou])).length) Slot.unset).toArray = ls at hl9 ⊢
  have hl9 : lv_has ls 5 [(0, .ref a0), (1, .int x), (2, .int y), (3, .ref ou)] := hl9
  have htab := vx_table (x := y_L_at) B (atoms_spec (ws := w_L_at) B.pre _ List.mem_cons_self)
  refine lv_aload_n hx hb d_L_at_0 rfl (lv_at hl9 3 rfl) ?_
  refine lv_iconst (v := 0) hx hb d_L_at_1 (by decide) ?_
  refine lv_aload_n hx hb d_L_at_2 rfl (lv_at hl9 0 rfl) ?_
  refine lv_iload_n hx hb d_L_at_3 rfl (lv_at hl9 1 rfl) ?_
  refine lv_iload_n hx hb d_L_at_4 rfl (lv_at hl9 2 rfl) ?_
  have hPc := hP.sub (ws' := [(a0, .inr (2, [.ref aZ, .int (nI nz), .ref aO, .int orr, .int ol, .int mp, .ref aG, .int pl, .int fa, .int fb, .ref aP, .ref aW, .ref aK])), (aZ, .inl (cZ, 6, .inr (.inr (.inr (.inr fZ)))))]) [0, 1] rfl
  have hDc := hD.sub (ws' := [(a0, .inr (2, [.ref aZ, .int (nI nz), .ref aO, .int orr, .int ol, .int mp, .ref aG, .int pl, .int fa, .int fb, .ref aP, .ref aW, .ref aK])), (aZ, .inl (cZ, 6, .inr (.inr (.inr (.inr fZ)))))]) [0, 1] (by decide) rfl
  have hFc := va_A_nil hA hS.1
  refine vx_calli (vx_runV (C := R_C) (As := [.int x, .int y]) (rest := [.int 0, .ref ou]) ⟨hx, hb, hml, hown, hG⟩ (c_atX l dC dI cI cJ cZ cB hl a0 aZ aO aG aP aW aK zc orr ol mp pl fa fb fZ nz x y H.size hx0) (cwV 2 hG g_L_39 rfl rfl rfl (by decide +kernel) ⟨Nat.le_of_ble_eq_true rfl, Nat.le_of_ble_eq_true rfl⟩) ⟨PC.blind, va_recv hK hP (ci := 2) (q0 := 0) rfl rfl, PC.of hPc hK hDc hE hS hFc⟩ rfl rfl hl9.1 rfl (lv_room (Nat.le_of_ble_eq_true rfl)) d_L_at_5 ⟨by first | exact Nat.le_of_ble_eq_true rfl | omega, by first | exact Nat.le_of_ble_eq_true rfl | omega⟩) hS (fun q _ h => hFc q h) hFc (fun q _ h => hFc q h) (fun E ce q9 u t H1 locs ht hvm hpx hB hz1 hk1 hS hce hcv hcl => ?_) (fun r2 u t H1 locs ht hvm hw hB hz1 hk1 hS => ?_)
  · have hE9 : E = "java/lang/IllegalArgumentException" := hB
    have hP := wp_kept hP hk1
    have hP : va_P (dC, dI) vwCl [(a0, .inr (2, [.ref aZ, .int (nI nz), .ref aO, .int orr, .int ol, .int mp, .ref aG, .int pl, .int fa, .int fb, .ref aP, .ref aW, .ref aK])), (aZ, .inl (cZ, 6, .inr (.inr (.inr (.inr fZ))))), (ou, .inl (cJ, 1, .inr (.inl fU)))] H1 := hP
    have hD : va_D A [(a0, .inr (2, [.ref aZ, .int (nI nz), .ref aO, .int orr, .int ol, .int mp, .ref aG, .int pl, .int fa, .int fb, .ref aP, .ref aW, .ref aK])), (aZ, .inl (cZ, 6, .inr (.inr (.inr (.inr fZ))))), (ou, .inl (cJ, 1, .inr (.inl fU)))] := hD
    subst hE9
    refine vx_catch (own := R_L) (name := "java/lang/IllegalArgumentException") hown [] ⟨0, 10, 13, 13⟩ [] htab (fun z hz => by simp at hz) (by decide) (by decide) (hG _ k_67) (hE.1.use k_78) hce hcv hcl ?_
    refine lv_astore (lv' := [(4, .ref q9), (0, .ref a0), (1, .int x), (2, .int y), (3, .ref ou)]) hx hb d_L_at_13 hl9 (by decide) rfl (fun ls hl9 => ?_)
    refine lv_iconst (v := 1) hx hb d_L_at_15 (by decide) ?_
    exact W.iret (v := 1) hx hb hr (fun t ht hW => ⟨⟨1, (), rfl, rfl, by have h9 := hP; rw [← ht] at h9; exact h9⟩, hS.F ht⟩) hS.2.2 d_L_at_16
  have hw := hw
  exact hw.elim
set_option maxHeartbeats 4000000 in
set_option maxRecDepth 100000 in
theorem l_atT (l : Launch) (dC : Nat → ClassId) (dI : Nat → Nat → Nat) (cI cJ cZ cB : ClassId) (hl : l.stackTraces = false) (a0 : Nat) (x y : Int32) (aZ aO aG aP aW aK : Nat) (zc orr ol mp pl fa fb : Int32) (ou : Nat) (fU : Nat → Int64) (sz : Nat) (hy : (y < 0 ∨ 1440 < y)) : Met l y_L_at w_L_at ({ frames := 9, cells := 1, slots := 6, locals := 159 }) (PCL (dC, dI) (TY cI cJ cZ cB) [.ref a0, .int x, .int y, .ref ou] [(a0, .inr (2, [.ref aZ, .int zc, .ref aO, .int orr, .int ol, .int mp, .ref aG, .int pl, .int fa, .int fb, .ref aP, .ref aW, .ref aK])), (ou, .inl (cJ, 1, .inr (.inl fU)))] sz (va_A [(a0, .inr (2, [.ref aZ, .int zc, .ref aO, .int orr, .int ol, .int mp, .ref aG, .int pl, .int fa, .int fb, .ref aP, .ref aW, .ref aK])), (ou, .inl (cJ, 1, .inr (.inl fU)))] sz)) (va_Qi (fun (r : Int32) (_ : Unit) => r = 1) (fun (_ : Unit) (t : State) => va_P (dC, dI) vwCl [(a0, .inr (2, [.ref aZ, .int zc, .ref aO, .int orr, .int ol, .int mp, .ref aG, .int pl, .int fa, .int fb, .ref aP, .ref aW, .ref aK])), (ou, .inl (cJ, 1, .inr (.inl fU)))] t.heap) (va_A [(a0, .inr (2, [.ref aZ, .int zc, .ref aO, .int orr, .int ol, .int mp, .ref aG, .int pl, .int fa, .int fb, .ref aP, .ref aW, .ref aK])), (ou, .inl (cJ, 1, .inr (.inl fU)))] sz)) 1 6 (va_A [(a0, .inr (2, [.ref aZ, .int zc, .ref aO, .int orr, .int ol, .int mp, .ref aG, .int pl, .int fa, .int fb, .ref aP, .ref aW, .ref aK])), (ou, .inl (cJ, 1, .inr (.inl fU)))] sz) := by
  refine met_ofWH (cc := b_L_at) (maxL := 5) (ret := (some .int)) (by decide) rfl ?_
  intro p e s m args below meth c s₁ B hml hv
  obtain ⟨rfl, hsz, hP, hK, hD0, hE, hNc⟩ := hv
  have hx := B.exec
  have hb := B.bytes
  have hr := B.returns
  have hG : ∀ w ∈ GG, w.before _ s = true := fun w h => atoms_spec (ws := w_L_at) B.pre w (List.mem_cons_of_mem _ h)
  have hown : s.vm.findClass R_L = some m.cls := findClass_of_methodNamed B.named
  have hlocks := B.notSynchronized
  subst hsz
  have hD := hD0.self (sz := s.heap.size)
  generalize hAe : (va_A [(a0, .inr (2, [.ref aZ, .int zc, .ref aO, .int orr, .int ol, .int mp, .ref aG, .int pl, .int fa, .int fb, .ref aP, .ref aW, .ref aK])), (ou, .inl (cJ, 1, .inr (.inl fU)))] s.heap.size) = A at hD hE ⊢
  have hA : ∀ q : Nat, s.heap.size ≤ q → A q := fun q h => by rw [← hAe]; exact Or.inr h
  have hS : va_S A s.heap s.heap [] := va_S.rf
  obtain ⟨H, hH⟩ : ∃ z, z = s.heap := ⟨_, rfl⟩
  rw [← hH] at hP
  have hS : va_S A s.heap H [] := by rw [hH]; exact hS
  rw [← hH]
  have hl9 := lv_entry ([.ref a0, .int x, .int y, .ref ou]) (n := 5) (Nat.le_of_ble_eq_true rfl)
  rw [lg_entry_eq]
  generalize (lg_sl ([.ref a0, .int x, .int y, .ref ou]) ++ List.replicate (5 - (lg_sl ([.ref a0, .int x, .int y, .ref ou])).length) Slot.unset).toArray = ls at hl9 ⊢
  have hl9 : lv_has ls 5 [(0, .ref a0), (1, .int x), (2, .int y), (3, .ref ou)] := hl9
  have htab := vx_table (x := y_L_at) B (atoms_spec (ws := w_L_at) B.pre _ List.mem_cons_self)
  refine lv_aload_n hx hb d_L_at_0 rfl (lv_at hl9 3 rfl) ?_
  refine lv_iconst (v := 0) hx hb d_L_at_1 (by decide) ?_
  refine lv_aload_n hx hb d_L_at_2 rfl (lv_at hl9 0 rfl) ?_
  refine lv_iload_n hx hb d_L_at_3 rfl (lv_at hl9 1 rfl) ?_
  refine lv_iload_n hx hb d_L_at_4 rfl (lv_at hl9 2 rfl) ?_
  have hPc := hP.sub (ws' := []) [] rfl
  have hDc := hD.sub (ws' := []) [] (by decide) rfl
  have hFc := va_A_nil hA hS.1
  refine vx_calli (vx_runV (C := R_C) (As := [.int x, .int y]) (rest := [.int 0, .ref ou]) ⟨hx, hb, hml, hown, hG⟩ (c_atT l dC dI cI cJ cZ cB hl a0 x y H.size hy) (cwV 2 hG g_L_39 rfl rfl rfl (by decide +kernel) ⟨Nat.le_of_ble_eq_true rfl, Nat.le_of_ble_eq_true rfl⟩) ⟨PC.blind, va_recv hK hP (ci := 2) (q0 := 0) rfl rfl, PC.of hPc hK hDc hE hS hFc⟩ rfl rfl hl9.1 rfl (lv_room (Nat.le_of_ble_eq_true rfl)) d_L_at_5 ⟨by first | exact Nat.le_of_ble_eq_true rfl | omega, by first | exact Nat.le_of_ble_eq_true rfl | omega⟩) hS (fun q _ h => hFc q h) hFc (fun q _ h => hFc q h) (fun E ce q9 u t H1 locs ht hvm hpx hB hz1 hk1 hS hce hcv hcl => ?_) (fun r2 u t H1 locs ht hvm hw hB hz1 hk1 hS => ?_)
  · have hE9 : E = "java/lang/IllegalArgumentException" := hB
    have hP := wp_kept hP hk1
    have hP : va_P (dC, dI) vwCl [(a0, .inr (2, [.ref aZ, .int zc, .ref aO, .int orr, .int ol, .int mp, .ref aG, .int pl, .int fa, .int fb, .ref aP, .ref aW, .ref aK])), (ou, .inl (cJ, 1, .inr (.inl fU)))] H1 := hP
    have hD : va_D A [(a0, .inr (2, [.ref aZ, .int zc, .ref aO, .int orr, .int ol, .int mp, .ref aG, .int pl, .int fa, .int fb, .ref aP, .ref aW, .ref aK])), (ou, .inl (cJ, 1, .inr (.inl fU)))] := hD
    subst hE9
    refine vx_catch (own := R_L) (name := "java/lang/IllegalArgumentException") hown [] ⟨0, 10, 13, 13⟩ [] htab (fun z hz => by simp at hz) (by decide) (by decide) (hG _ k_67) (hE.1.use k_78) hce hcv hcl ?_
    refine lv_astore (lv' := [(4, .ref q9), (0, .ref a0), (1, .int x), (2, .int y), (3, .ref ou)]) hx hb d_L_at_13 hl9 (by decide) rfl (fun ls hl9 => ?_)
    refine lv_iconst (v := 1) hx hb d_L_at_15 (by decide) ?_
    exact W.iret (v := 1) hx hb hr (fun t ht hW => ⟨⟨1, (), rfl, rfl, by have h9 := hP; rw [← ht] at h9; exact h9⟩, hS.F ht⟩) hS.2.2 d_L_at_16
  have hw := hw
  exact hw.elim
set_option maxHeartbeats 4000000 in
set_option maxRecDepth 100000 in
theorem l_used (l : Launch) (dC : Nat → ClassId) (dI : Nat → Nat → Nat) (cI cJ cZ cB : ClassId) (hl : l.stackTraces = false) (a0 aZ aO aG aP aW aK : Nat) (zc orr ol mp pl fa fb : Int32) (fZ : Nat → Option Nat) (fO fG g0 g1 : Nat → Int32) (nz : Nat) (zs0 zs1 : List ZD) (y : Int32) (ou : Nat) (fU : Nat → Int64) (sz : Nat) (hn : nz ≤ 6) (hok : plOk fZ nz zs0) (hto : plTo fO mp nz zs0 fG g0 pl zs1 g1) (hy : ¬ (y < 0 ∨ 1439 < y)) : Met l y_L_used w_L_used ({ frames := 8, cells := 1, slots := 6, locals := 136 }) (PCL (dC, dI) (TY cI cJ cZ cB) [.ref a0, .int y, .ref ou] ([(a0, .inr (2, [.ref aZ, .int (nI nz), .ref aO, .int orr, .int ol, .int mp, .ref aG, .int pl, .int fa, .int fb, .ref aP, .ref aW, .ref aK])), (aZ, .inl (cZ, 6, .inr (.inr (.inr (.inr fZ))))), (aO, .inl (cI, 1440, .inl fO)), (aG, .inl (cI, 1440, .inl fG)), (ou, .inl (cJ, 1, .inr (.inl fU)))] ++ (zs0.flatMap (tri cI))) sz (va_A ([(a0, .inr (2, [.ref aZ, .int (nI nz), .ref aO, .int orr, .int ol, .int mp, .ref aG, .int pl, .int fa, .int fb, .ref aP, .ref aW, .ref aK])), (aZ, .inl (cZ, 6, .inr (.inr (.inr (.inr fZ))))), (aO, .inl (cI, 1440, .inl fO)), (aG, .inl (cI, 1440, .inl fG)), (ou, .inl (cJ, 1, .inr (.inl fU)))] ++ (zs0.flatMap (tri cI))) sz)) (va_Qi (fun (r : Int32) (_ : Unit) => r = 0) (fun (_ : Unit) (t : State) => va_P (dC, dI) vwCl ([(a0, .inr (2, [.ref aZ, .int (nI nz), .ref aO, .int orr, .int ol, .int mp, .ref aG, .int 1, .int fa, .int fb, .ref aP, .ref aW, .ref aK])), (aZ, .inl (cZ, 6, .inr (.inr (.inr (.inr fZ))))), (aO, .inl (cI, 1440, .inl fO)), (aG, .inl (cI, 1440, .inl g1)), (ou, .inl (cJ, 1, .inr (.inl (vp_updL fU 0 (g1 y.toNatClampNeg).toInt64))))] ++ (zs1.flatMap (tri cI))) t.heap) (va_A ([(a0, .inr (2, [.ref aZ, .int (nI nz), .ref aO, .int orr, .int ol, .int mp, .ref aG, .int pl, .int fa, .int fb, .ref aP, .ref aW, .ref aK])), (aZ, .inl (cZ, 6, .inr (.inr (.inr (.inr fZ))))), (aO, .inl (cI, 1440, .inl fO)), (aG, .inl (cI, 1440, .inl fG)), (ou, .inl (cJ, 1, .inr (.inl fU)))] ++ (zs0.flatMap (tri cI))) sz)) 1 6 (va_A ([(a0, .inr (2, [.ref aZ, .int (nI nz), .ref aO, .int orr, .int ol, .int mp, .ref aG, .int pl, .int fa, .int fb, .ref aP, .ref aW, .ref aK])), (aZ, .inl (cZ, 6, .inr (.inr (.inr (.inr fZ))))), (aO, .inl (cI, 1440, .inl fO)), (aG, .inl (cI, 1440, .inl fG)), (ou, .inl (cJ, 1, .inr (.inl fU)))] ++ (zs0.flatMap (tri cI))) sz) := by
  refine met_ofWH (cc := b_L_used) (maxL := 4) (ret := (some .int)) (by decide) rfl ?_
  intro p e s m args below meth c s₁ B hml hv
  obtain ⟨rfl, hsz, hP, hK, hD0, hE, hNc⟩ := hv
  have hx := B.exec
  have hb := B.bytes
  have hr := B.returns
  have hG : ∀ w ∈ GG, w.before _ s = true := fun w h => atoms_spec (ws := w_L_used) B.pre w (List.mem_cons_of_mem _ h)
  have hown : s.vm.findClass R_L = some m.cls := findClass_of_methodNamed B.named
  have hlocks := B.notSynchronized
  subst hsz
  have hD := hD0.self (sz := s.heap.size)
  generalize hAe : (va_A ([(a0, .inr (2, [.ref aZ, .int (nI nz), .ref aO, .int orr, .int ol, .int mp, .ref aG, .int pl, .int fa, .int fb, .ref aP, .ref aW, .ref aK])), (aZ, .inl (cZ, 6, .inr (.inr (.inr (.inr fZ))))), (aO, .inl (cI, 1440, .inl fO)), (aG, .inl (cI, 1440, .inl fG)), (ou, .inl (cJ, 1, .inr (.inl fU)))] ++ (zs0.flatMap (tri cI))) s.heap.size) = A at hD hE ⊢
  have hA : ∀ q : Nat, s.heap.size ≤ q → A q := fun q h => by rw [← hAe]; exact Or.inr h
  have hS : va_S A s.heap s.heap [] := va_S.rf
  obtain ⟨H, hH⟩ : ∃ z, z = s.heap := ⟨_, rfl⟩
  rw [← hH] at hP
  have hS : va_S A s.heap H [] := by rw [hH]; exact hS
  rw [← hH]
  have hl9 := lv_entry ([.ref a0, .int y, .ref ou]) (n := 4) (Nat.le_of_ble_eq_true rfl)
  rw [lg_entry_eq]
  generalize (lg_sl ([.ref a0, .int y, .ref ou]) ++ List.replicate (4 - (lg_sl ([.ref a0, .int y, .ref ou])).length) Slot.unset).toArray = ls at hl9 ⊢
  have hl9 : lv_has ls 4 [(0, .ref a0), (1, .int y), (2, .ref ou)] := hl9
  have htab := vx_table (x := y_L_used) B (atoms_spec (ws := w_L_used) B.pre _ List.mem_cons_self)
  refine lv_aload_n hx hb d_L_used_0 rfl (lv_at hl9 2 rfl) ?_
  refine lv_iconst (v := 0) hx hb d_L_used_1 (by decide) ?_
  refine lv_aload_n hx hb d_L_used_2 rfl (lv_at hl9 0 rfl) ?_
  refine lv_iload_n hx hb d_L_used_3 rfl (lv_at hl9 1 rfl) ?_
  have hPc := hP.part (cx := [(a0, .inr (2, [.ref aZ, .int (nI nz), .ref aO, .int orr, .int ol, .int mp, .ref aG, .int pl, .int fa, .int fb, .ref aP, .ref aW, .ref aK])), (aZ, .inl (cZ, 6, .inr (.inr (.inr (.inr fZ))))), (aO, .inl (cI, 1440, .inl fO)), (aG, .inl (cI, 1440, .inl fG))]) [0, 1, 2, 3] rfl
  have hDc := hD.part (cx := [(a0, .inr (2, [.ref aZ, .int (nI nz), .ref aO, .int orr, .int ol, .int mp, .ref aG, .int pl, .int fa, .int fb, .ref aP, .ref aW, .ref aK])), (aZ, .inl (cZ, 6, .inr (.inr (.inr (.inr fZ))))), (aO, .inl (cI, 1440, .inl fO)), (aG, .inl (cI, 1440, .inl fG))]) [0, 1, 2, 3] (by decide) rfl
  have hFc := va_freeP (cx := [(a0, .inr (2, [.ref aZ, .int (nI nz), .ref aO, .int orr, .int ol, .int mp, .ref aG, .int pl, .int fa, .int fb, .ref aP, .ref aW, .ref aK])), (aZ, .inl (cZ, 6, .inr (.inr (.inr (.inr fZ))))), (aO, .inl (cI, 1440, .inl fO)), (aG, .inl (cI, 1440, .inl fG))]) hD hS hA [0, 1, 2, 3] rfl
  refine va_calli (va_runV (C := R_C) (As := [.int y]) (rest := [.int 0, .ref ou]) ⟨hx, hb, hml, hown, hG⟩ (c_used l dC dI cI cJ cZ cB hl a0 aZ aO aG aP aW aK zc orr ol mp pl fa fb fZ fO fG g0 g1 nz zs0 zs1 y H.size hn hok hto hy) (cwV 1 hG g_L_42 rfl rfl rfl (by decide +kernel) ⟨Nat.le_of_ble_eq_true rfl, Nat.le_of_ble_eq_true rfl⟩) ⟨PC.blind, va_recv hK hP (ci := 2) (q0 := 0) rfl rfl, PC.of hPc hK hDc hE hS hFc⟩ rfl rfl hl9.1 rfl (lv_room (Nat.le_of_ble_eq_true rfl)) d_L_used_4 ⟨by first | exact Nat.le_of_ble_eq_true rfl | omega, by first | exact Nat.le_of_ble_eq_true rfl | omega⟩) hS (fun q _ h => hFc q h) hFc (fun r2 u t H1 locs ht hvm hw hB hz1 hk1 hS => ?_)
  rw [ht] at hB
  obtain ⟨hP, hD⟩ := jsetP (wc := [(a0, .inr (2, [.ref aZ, .int (nI nz), .ref aO, .int orr, .int ol, .int mp, .ref aG, .int pl, .int fa, .int fb, .ref aP, .ref aW, .ref aK])), (aZ, .inl (cZ, 6, .inr (.inr (.inr (.inr fZ))))), (aO, .inl (cI, 1440, .inl fO)), (aG, .inl (cI, 1440, .inl fG))]) (w1 := [(a0, .inr (2, [.ref aZ, .int (nI nz), .ref aO, .int orr, .int ol, .int mp, .ref aG, .int 1, .int fa, .int fb, .ref aP, .ref aW, .ref aK])), (aZ, .inl (cZ, 6, .inr (.inr (.inr (.inr fZ))))), (aO, .inl (cI, 1440, .inl fO)), (aG, .inl (cI, 1440, .inl g1))]) (pl1 := (zs1.flatMap (tri cI))) [0, 1, 2, 3] rfl rfl (adr_eq (B1 := []) (B := []) rfl (plTo_ad hto)) hP hD hk1 hB
  have hP : va_P (dC, dI) vwCl ([(a0, .inr (2, [.ref aZ, .int (nI nz), .ref aO, .int orr, .int ol, .int mp, .ref aG, .int 1, .int fa, .int fb, .ref aP, .ref aW, .ref aK])), (aZ, .inl (cZ, 6, .inr (.inr (.inr (.inr fZ))))), (aO, .inl (cI, 1440, .inl fO)), (aG, .inl (cI, 1440, .inl g1)), (ou, .inl (cJ, 1, .inr (.inl fU)))] ++ (zs1.flatMap (tri cI))) H1 := hP
  have hD : va_D A ([(a0, .inr (2, [.ref aZ, .int (nI nz), .ref aO, .int orr, .int ol, .int mp, .ref aG, .int 1, .int fa, .int fb, .ref aP, .ref aW, .ref aK])), (aZ, .inl (cZ, 6, .inr (.inr (.inr (.inr fZ))))), (aO, .inl (cI, 1440, .inl fO)), (aG, .inl (cI, 1440, .inl g1)), (ou, .inl (cJ, 1, .inr (.inl fU)))] ++ (zs1.flatMap (tri cI))) := hD
  have hw : r2 = g1 y.toNatClampNeg := hw
  subst hw
  refine lv_i2l hx hb d_L_used_7 rfl ?_
  refine va_last hx hb hK hP hD hS 4 1 rfl rfl (vp_in_nI (n := 0) (N := 1) (by decide) (by decide)) d_L_used_8 (fun H locs hP hD hS => ?_)
  have hP : va_P (dC, dI) vwCl ([(a0, .inr (2, [.ref aZ, .int (nI nz), .ref aO, .int orr, .int ol, .int mp, .ref aG, .int 1, .int fa, .int fb, .ref aP, .ref aW, .ref aK])), (aZ, .inl (cZ, 6, .inr (.inr (.inr (.inr fZ))))), (aO, .inl (cI, 1440, .inl fO)), (aG, .inl (cI, 1440, .inl g1)), (ou, .inl (cJ, 1, .inr (.inl (vp_updL fU (0 : Int32).toNatClampNeg ((g1 y.toNatClampNeg).toInt64)))))] ++ (zs1.flatMap (tri cI))) H := hP
  have hD : va_D A ([(a0, .inr (2, [.ref aZ, .int (nI nz), .ref aO, .int orr, .int ol, .int mp, .ref aG, .int 1, .int fa, .int fb, .ref aP, .ref aW, .ref aK])), (aZ, .inl (cZ, 6, .inr (.inr (.inr (.inr fZ))))), (aO, .inl (cI, 1440, .inl fO)), (aG, .inl (cI, 1440, .inl g1)), (ou, .inl (cJ, 1, .inr (.inl (vp_updL fU (0 : Int32).toNatClampNeg ((g1 y.toNatClampNeg).toInt64)))))] ++ (zs1.flatMap (tri cI))) := hD
  refine lv_goto (tgt := 15) hx hb d_L_used_9 (by decide) ?_
  refine lv_iconst (v := 0) hx hb d_L_used_15 (by decide) ?_
  exact W.iret (v := 0) hx hb hr (fun t ht hW => ⟨⟨0, (), rfl, rfl, by have h9 := hP; rw [← ht] at h9; exact h9⟩, hS.F ht⟩) hS.2.2 d_L_used_16
set_option maxHeartbeats 4000000 in
set_option maxRecDepth 100000 in
theorem l_usedX (l : Launch) (dC : Nat → ClassId) (dI : Nat → Nat → Nat) (cI cJ cZ cB : ClassId) (hl : l.stackTraces = false) (a0 : Nat) (y : Int32) (aZ aO aG aP aW aK : Nat) (zc orr ol mp pl fa fb : Int32) (ou : Nat) (fU : Nat → Int64) (sz : Nat) (hy : (y < 0 ∨ 1439 < y)) : Met l y_L_used w_L_used ({ frames := 8, cells := 1, slots := 6, locals := 136 }) (PCL (dC, dI) (TY cI cJ cZ cB) [.ref a0, .int y, .ref ou] [(a0, .inr (2, [.ref aZ, .int zc, .ref aO, .int orr, .int ol, .int mp, .ref aG, .int pl, .int fa, .int fb, .ref aP, .ref aW, .ref aK])), (ou, .inl (cJ, 1, .inr (.inl fU)))] sz (va_A [(a0, .inr (2, [.ref aZ, .int zc, .ref aO, .int orr, .int ol, .int mp, .ref aG, .int pl, .int fa, .int fb, .ref aP, .ref aW, .ref aK])), (ou, .inl (cJ, 1, .inr (.inl fU)))] sz)) (va_Qi (fun (r : Int32) (_ : Unit) => r = 1) (fun (_ : Unit) (t : State) => va_P (dC, dI) vwCl [(a0, .inr (2, [.ref aZ, .int zc, .ref aO, .int orr, .int ol, .int mp, .ref aG, .int pl, .int fa, .int fb, .ref aP, .ref aW, .ref aK])), (ou, .inl (cJ, 1, .inr (.inl fU)))] t.heap) (va_A [(a0, .inr (2, [.ref aZ, .int zc, .ref aO, .int orr, .int ol, .int mp, .ref aG, .int pl, .int fa, .int fb, .ref aP, .ref aW, .ref aK])), (ou, .inl (cJ, 1, .inr (.inl fU)))] sz)) 1 6 (va_A [(a0, .inr (2, [.ref aZ, .int zc, .ref aO, .int orr, .int ol, .int mp, .ref aG, .int pl, .int fa, .int fb, .ref aP, .ref aW, .ref aK])), (ou, .inl (cJ, 1, .inr (.inl fU)))] sz) := by
  refine met_ofWH (cc := b_L_used) (maxL := 4) (ret := (some .int)) (by decide) rfl ?_
  intro p e s m args below meth c s₁ B hml hv
  obtain ⟨rfl, hsz, hP, hK, hD0, hE, hNc⟩ := hv
  have hx := B.exec
  have hb := B.bytes
  have hr := B.returns
  have hG : ∀ w ∈ GG, w.before _ s = true := fun w h => atoms_spec (ws := w_L_used) B.pre w (List.mem_cons_of_mem _ h)
  have hown : s.vm.findClass R_L = some m.cls := findClass_of_methodNamed B.named
  have hlocks := B.notSynchronized
  subst hsz
  have hD := hD0.self (sz := s.heap.size)
  generalize hAe : (va_A [(a0, .inr (2, [.ref aZ, .int zc, .ref aO, .int orr, .int ol, .int mp, .ref aG, .int pl, .int fa, .int fb, .ref aP, .ref aW, .ref aK])), (ou, .inl (cJ, 1, .inr (.inl fU)))] s.heap.size) = A at hD hE ⊢
  have hA : ∀ q : Nat, s.heap.size ≤ q → A q := fun q h => by rw [← hAe]; exact Or.inr h
  have hS : va_S A s.heap s.heap [] := va_S.rf
  obtain ⟨H, hH⟩ : ∃ z, z = s.heap := ⟨_, rfl⟩
  rw [← hH] at hP
  have hS : va_S A s.heap H [] := by rw [hH]; exact hS
  rw [← hH]
  have hl9 := lv_entry ([.ref a0, .int y, .ref ou]) (n := 4) (Nat.le_of_ble_eq_true rfl)
  rw [lg_entry_eq]
  generalize (lg_sl ([.ref a0, .int y, .ref ou]) ++ List.replicate (4 - (lg_sl ([.ref a0, .int y, .ref ou])).length) Slot.unset).toArray = ls at hl9 ⊢
  have hl9 : lv_has ls 4 [(0, .ref a0), (1, .int y), (2, .ref ou)] := hl9
  have htab := vx_table (x := y_L_used) B (atoms_spec (ws := w_L_used) B.pre _ List.mem_cons_self)
  refine lv_aload_n hx hb d_L_used_0 rfl (lv_at hl9 2 rfl) ?_
  refine lv_iconst (v := 0) hx hb d_L_used_1 (by decide) ?_
  refine lv_aload_n hx hb d_L_used_2 rfl (lv_at hl9 0 rfl) ?_
  refine lv_iload_n hx hb d_L_used_3 rfl (lv_at hl9 1 rfl) ?_
  have hPc := hP.sub (ws' := []) [] rfl
  have hDc := hD.sub (ws' := []) [] (by decide) rfl
  have hFc := va_A_nil hA hS.1
  refine vx_calli (vx_runV (C := R_C) (As := [.int y]) (rest := [.int 0, .ref ou]) ⟨hx, hb, hml, hown, hG⟩ (c_usedX l dC dI cI cJ cZ cB hl a0 y H.size hy) (cwV 1 hG g_L_42 rfl rfl rfl (by decide +kernel) ⟨Nat.le_of_ble_eq_true rfl, Nat.le_of_ble_eq_true rfl⟩) ⟨PC.blind, va_recv hK hP (ci := 2) (q0 := 0) rfl rfl, PC.of hPc hK hDc hE hS hFc⟩ rfl rfl hl9.1 rfl (lv_room (Nat.le_of_ble_eq_true rfl)) d_L_used_4 ⟨by first | exact Nat.le_of_ble_eq_true rfl | omega, by first | exact Nat.le_of_ble_eq_true rfl | omega⟩) hS (fun q _ h => hFc q h) hFc (fun q _ h => hFc q h) (fun E ce q9 u t H1 locs ht hvm hpx hB hz1 hk1 hS hce hcv hcl => ?_) (fun r2 u t H1 locs ht hvm hw hB hz1 hk1 hS => ?_)
  · have hE9 : E = "java/lang/IllegalArgumentException" := hB
    have hP := wp_kept hP hk1
    have hP : va_P (dC, dI) vwCl [(a0, .inr (2, [.ref aZ, .int zc, .ref aO, .int orr, .int ol, .int mp, .ref aG, .int pl, .int fa, .int fb, .ref aP, .ref aW, .ref aK])), (ou, .inl (cJ, 1, .inr (.inl fU)))] H1 := hP
    have hD : va_D A [(a0, .inr (2, [.ref aZ, .int zc, .ref aO, .int orr, .int ol, .int mp, .ref aG, .int pl, .int fa, .int fb, .ref aP, .ref aW, .ref aK])), (ou, .inl (cJ, 1, .inr (.inl fU)))] := hD
    subst hE9
    refine vx_catch (own := R_L) (name := "java/lang/IllegalArgumentException") hown [] ⟨0, 9, 12, 13⟩ [] htab (fun z hz => by simp at hz) (by decide) (by decide) (hG _ k_67) (hE.1.use k_78) hce hcv hcl ?_
    refine lv_astore_n (lv' := [(3, .ref q9), (0, .ref a0), (1, .int y), (2, .ref ou)]) hx hb d_L_used_12 rfl hl9 (by decide) rfl (fun ls hl9 => ?_)
    refine lv_iconst (v := 1) hx hb d_L_used_13 (by decide) ?_
    exact W.iret (v := 1) hx hb hr (fun t ht hW => ⟨⟨1, (), rfl, rfl, by have h9 := hP; rw [← ht] at h9; exact h9⟩, hS.F ht⟩) hS.2.2 d_L_used_14
  have hw := hw
  exact hw.elim
set_option maxHeartbeats 4000000 in
set_option maxRecDepth 100000 in
theorem l_cold (l : Launch) (dC : Nat → ClassId) (dI : Nat → Nat → Nat) (cI cJ cZ cB : ClassId) (a0 aZ aO aG aP aW aK : Nat) (zc orr ol mp pl fa fb : Int32) (fZ : Nat → Option Nat) (fO fG g0 g1 : Nat → Int32) (nz k : Nat) (zs0 zs1 : List ZD) (za la wa : Nat) (zh zl zf zp zr zm zw zs : Int32) (ea eb : Int64) (fT : Nat → Int32) (ou : Nat) (fU : Nat → Int64) (sz : Nat) (hn : nz ≤ 6) (hok : plOk fZ nz zs0) (hto : plTo fO mp nz zs0 fG g0 pl zs1 g1) (hk : k < nz) (hz : fZ k = some za) (hs1 : zs1[k]? = some ((za, la, wa), (zh, zl, zf, zp, zr, zm, zw, zs), (ea, eb), fT)) (hzm : zm = -1 ∨ ∃ b, b < 1440 ∧ zm = nI b) : Met l y_L_cold w_L_cold ({ frames := 9, cells := 0, slots := 0, locals := 161 }) (PCL (dC, dI) (TY cI cJ cZ cB) [.ref a0, .int (nI k), .ref ou] ([(a0, .inr (2, [.ref aZ, .int (nI nz), .ref aO, .int orr, .int ol, .int mp, .ref aG, .int pl, .int fa, .int fb, .ref aP, .ref aW, .ref aK])), (aZ, .inl (cZ, 6, .inr (.inr (.inr (.inr fZ))))), (aO, .inl (cI, 1440, .inl fO)), (aG, .inl (cI, 1440, .inl fG)), (ou, .inl (cJ, 1, .inr (.inl fU)))] ++ (zs0.flatMap (tri cI))) sz (va_A ([(a0, .inr (2, [.ref aZ, .int (nI nz), .ref aO, .int orr, .int ol, .int mp, .ref aG, .int pl, .int fa, .int fb, .ref aP, .ref aW, .ref aK])), (aZ, .inl (cZ, 6, .inr (.inr (.inr (.inr fZ))))), (aO, .inl (cI, 1440, .inl fO)), (aG, .inl (cI, 1440, .inl fG)), (ou, .inl (cJ, 1, .inr (.inl fU)))] ++ (zs0.flatMap (tri cI))) sz)) (va_Qi (fun (r : Int32) (_ : Unit) => r = 0) (fun (_ : Unit) (t : State) => va_P (dC, dI) vwCl ([(a0, .inr (2, [.ref aZ, .int (nI nz), .ref aO, .int orr, .int ol, .int mp, .ref aG, .int 1, .int fa, .int fb, .ref aP, .ref aW, .ref aK])), (aZ, .inl (cZ, 6, .inr (.inr (.inr (.inr fZ))))), (aO, .inl (cI, 1440, .inl fO)), (aG, .inl (cI, 1440, .inl g1)), (ou, .inl (cJ, 1, .inr (.inl (vp_updL fU 0 (if zm = -1 then 0 else nI (cld fT zw zm.toNatClampNeg (1440 - zm.toNatClampNeg))).toInt64))))] ++ (zs1.flatMap (tri cI))) t.heap) (va_A ([(a0, .inr (2, [.ref aZ, .int (nI nz), .ref aO, .int orr, .int ol, .int mp, .ref aG, .int pl, .int fa, .int fb, .ref aP, .ref aW, .ref aK])), (aZ, .inl (cZ, 6, .inr (.inr (.inr (.inr fZ))))), (aO, .inl (cI, 1440, .inl fO)), (aG, .inl (cI, 1440, .inl fG)), (ou, .inl (cJ, 1, .inr (.inl fU)))] ++ (zs0.flatMap (tri cI))) sz)) 0 0 (va_A ([(a0, .inr (2, [.ref aZ, .int (nI nz), .ref aO, .int orr, .int ol, .int mp, .ref aG, .int pl, .int fa, .int fb, .ref aP, .ref aW, .ref aK])), (aZ, .inl (cZ, 6, .inr (.inr (.inr (.inr fZ))))), (aO, .inl (cI, 1440, .inl fO)), (aG, .inl (cI, 1440, .inl fG)), (ou, .inl (cJ, 1, .inr (.inl fU)))] ++ (zs0.flatMap (tri cI))) sz) := by
  refine met_ofWH (cc := b_L_cold) (maxL := 4) (ret := (some .int)) (by decide) rfl ?_
  intro p e s m args below meth c s₁ B hml hv
  obtain ⟨rfl, hsz, hP, hK, hD0, hE, hNc⟩ := hv
  have hx := B.exec
  have hb := B.bytes
  have hr := B.returns
  have hG : ∀ w ∈ GG, w.before _ s = true := fun w h => atoms_spec (ws := w_L_cold) B.pre w (List.mem_cons_of_mem _ h)
  have hown : s.vm.findClass R_L = some m.cls := findClass_of_methodNamed B.named
  have hlocks := B.notSynchronized
  subst hsz
  have hD := hD0.self (sz := s.heap.size)
  generalize hAe : (va_A ([(a0, .inr (2, [.ref aZ, .int (nI nz), .ref aO, .int orr, .int ol, .int mp, .ref aG, .int pl, .int fa, .int fb, .ref aP, .ref aW, .ref aK])), (aZ, .inl (cZ, 6, .inr (.inr (.inr (.inr fZ))))), (aO, .inl (cI, 1440, .inl fO)), (aG, .inl (cI, 1440, .inl fG)), (ou, .inl (cJ, 1, .inr (.inl fU)))] ++ (zs0.flatMap (tri cI))) s.heap.size) = A at hD hE ⊢
  have hA : ∀ q : Nat, s.heap.size ≤ q → A q := fun q h => by rw [← hAe]; exact Or.inr h
  have hS : va_S A s.heap s.heap [] := va_S.rf
  obtain ⟨H, hH⟩ : ∃ z, z = s.heap := ⟨_, rfl⟩
  rw [← hH] at hP
  have hS : va_S A s.heap H [] := by rw [hH]; exact hS
  rw [← hH]
  have hl9 := lv_entry ([.ref a0, .int (nI k), .ref ou]) (n := 4) (Nat.le_of_ble_eq_true rfl)
  rw [lg_entry_eq]
  generalize (lg_sl ([.ref a0, .int (nI k), .ref ou]) ++ List.replicate (4 - (lg_sl ([.ref a0, .int (nI k), .ref ou])).length) Slot.unset).toArray = ls at hl9 ⊢
  have hl9 : lv_has ls 4 [(0, .ref a0), (1, .int (nI k)), (2, .ref ou)] := hl9
  have htab := vx_table (x := y_L_cold) B (atoms_spec (ws := w_L_cold) B.pre _ List.mem_cons_self)
  refine lv_aload_n hx hb d_L_cold_0 rfl (lv_at hl9 2 rfl) ?_
  refine lv_iconst (v := 0) hx hb d_L_cold_1 (by decide) ?_
  refine lv_aload_n hx hb d_L_cold_2 rfl (lv_at hl9 0 rfl) ?_
  refine lv_iload_n hx hb d_L_cold_3 rfl (lv_at hl9 1 rfl) ?_
  have hPc := hP.part (cx := [(a0, .inr (2, [.ref aZ, .int (nI nz), .ref aO, .int orr, .int ol, .int mp, .ref aG, .int pl, .int fa, .int fb, .ref aP, .ref aW, .ref aK])), (aZ, .inl (cZ, 6, .inr (.inr (.inr (.inr fZ))))), (aO, .inl (cI, 1440, .inl fO)), (aG, .inl (cI, 1440, .inl fG))]) [0, 1, 2, 3] rfl
  have hDc := hD.part (cx := [(a0, .inr (2, [.ref aZ, .int (nI nz), .ref aO, .int orr, .int ol, .int mp, .ref aG, .int pl, .int fa, .int fb, .ref aP, .ref aW, .ref aK])), (aZ, .inl (cZ, 6, .inr (.inr (.inr (.inr fZ))))), (aO, .inl (cI, 1440, .inl fO)), (aG, .inl (cI, 1440, .inl fG))]) [0, 1, 2, 3] (by decide) rfl
  have hFc := va_freeP (cx := [(a0, .inr (2, [.ref aZ, .int (nI nz), .ref aO, .int orr, .int ol, .int mp, .ref aG, .int pl, .int fa, .int fb, .ref aP, .ref aW, .ref aK])), (aZ, .inl (cZ, 6, .inr (.inr (.inr (.inr fZ))))), (aO, .inl (cI, 1440, .inl fO)), (aG, .inl (cI, 1440, .inl fG))]) hD hS hA [0, 1, 2, 3] rfl
  refine va_calli (va_runV (C := R_C) (As := [.int (nI k)]) (rest := [.int 0, .ref ou]) ⟨hx, hb, hml, hown, hG⟩ (c_cold l dC dI cI cJ cZ cB a0 aZ aO aG aP aW aK zc orr ol mp pl fa fb fZ fO fG g0 g1 nz k zs0 zs1 za la wa zh zl zf zp zr zm zw zs ea eb fT H.size hn hok hto hk hz hs1 hzm) (cwV 1 hG g_L_45 rfl rfl rfl (by decide +kernel) ⟨Nat.le_of_ble_eq_true rfl, Nat.le_of_ble_eq_true rfl⟩) ⟨PC.blind, va_recv hK hP (ci := 2) (q0 := 0) rfl rfl, PC.of hPc hK hDc hE hS hFc⟩ rfl rfl hl9.1 rfl (lv_room (Nat.le_of_ble_eq_true rfl)) d_L_cold_4 ⟨by first | exact Nat.le_of_ble_eq_true rfl | omega, by first | exact Nat.le_of_ble_eq_true rfl | omega⟩) hS (fun q _ h => hFc q h) hFc (fun r2 u t H1 locs ht hvm hw hB hz1 hk1 hS => ?_)
  rw [ht] at hB
  obtain ⟨hP, hD⟩ := jsetP (wc := [(a0, .inr (2, [.ref aZ, .int (nI nz), .ref aO, .int orr, .int ol, .int mp, .ref aG, .int pl, .int fa, .int fb, .ref aP, .ref aW, .ref aK])), (aZ, .inl (cZ, 6, .inr (.inr (.inr (.inr fZ))))), (aO, .inl (cI, 1440, .inl fO)), (aG, .inl (cI, 1440, .inl fG))]) (w1 := [(a0, .inr (2, [.ref aZ, .int (nI nz), .ref aO, .int orr, .int ol, .int mp, .ref aG, .int 1, .int fa, .int fb, .ref aP, .ref aW, .ref aK])), (aZ, .inl (cZ, 6, .inr (.inr (.inr (.inr fZ))))), (aO, .inl (cI, 1440, .inl fO)), (aG, .inl (cI, 1440, .inl g1))]) (pl1 := (zs1.flatMap (tri cI))) [0, 1, 2, 3] rfl rfl (adr_eq (B1 := []) (B := []) rfl (plTo_ad hto)) hP hD hk1 hB
  have hP : va_P (dC, dI) vwCl ([(a0, .inr (2, [.ref aZ, .int (nI nz), .ref aO, .int orr, .int ol, .int mp, .ref aG, .int 1, .int fa, .int fb, .ref aP, .ref aW, .ref aK])), (aZ, .inl (cZ, 6, .inr (.inr (.inr (.inr fZ))))), (aO, .inl (cI, 1440, .inl fO)), (aG, .inl (cI, 1440, .inl g1)), (ou, .inl (cJ, 1, .inr (.inl fU)))] ++ (zs1.flatMap (tri cI))) H1 := hP
  have hD : va_D A ([(a0, .inr (2, [.ref aZ, .int (nI nz), .ref aO, .int orr, .int ol, .int mp, .ref aG, .int 1, .int fa, .int fb, .ref aP, .ref aW, .ref aK])), (aZ, .inl (cZ, 6, .inr (.inr (.inr (.inr fZ))))), (aO, .inl (cI, 1440, .inl fO)), (aG, .inl (cI, 1440, .inl g1)), (ou, .inl (cJ, 1, .inr (.inl fU)))] ++ (zs1.flatMap (tri cI))) := hD
  have hw : r2 = if zm = -1 then 0 else nI (cld fT zw zm.toNatClampNeg (1440 - zm.toNatClampNeg)) := hw
  subst hw
  refine lv_i2l hx hb d_L_cold_7 rfl ?_
  refine va_last hx hb hK hP hD hS 4 1 rfl rfl (vp_in_nI (n := 0) (N := 1) (by decide) (by decide)) d_L_cold_8 (fun H locs hP hD hS => ?_)
  have hP : va_P (dC, dI) vwCl ([(a0, .inr (2, [.ref aZ, .int (nI nz), .ref aO, .int orr, .int ol, .int mp, .ref aG, .int 1, .int fa, .int fb, .ref aP, .ref aW, .ref aK])), (aZ, .inl (cZ, 6, .inr (.inr (.inr (.inr fZ))))), (aO, .inl (cI, 1440, .inl fO)), (aG, .inl (cI, 1440, .inl g1)), (ou, .inl (cJ, 1, .inr (.inl (vp_updL fU (0 : Int32).toNatClampNeg ((if zm = -1 then 0 else nI (cld fT zw zm.toNatClampNeg (1440 - zm.toNatClampNeg))).toInt64)))))] ++ (zs1.flatMap (tri cI))) H := hP
  have hD : va_D A ([(a0, .inr (2, [.ref aZ, .int (nI nz), .ref aO, .int orr, .int ol, .int mp, .ref aG, .int 1, .int fa, .int fb, .ref aP, .ref aW, .ref aK])), (aZ, .inl (cZ, 6, .inr (.inr (.inr (.inr fZ))))), (aO, .inl (cI, 1440, .inl fO)), (aG, .inl (cI, 1440, .inl g1)), (ou, .inl (cJ, 1, .inr (.inl (vp_updL fU (0 : Int32).toNatClampNeg ((if zm = -1 then 0 else nI (cld fT zw zm.toNatClampNeg (1440 - zm.toNatClampNeg))).toInt64)))))] ++ (zs1.flatMap (tri cI))) := hD
  refine lv_goto (tgt := 15) hx hb d_L_cold_9 (by decide) ?_
  refine lv_iconst (v := 0) hx hb d_L_cold_15 (by decide) ?_
  exact W.iret (v := 0) hx hb hr (fun t ht hW => ⟨⟨0, (), rfl, rfl, by have h9 := hP; rw [← ht] at h9; exact h9⟩, hS.F ht⟩) hS.2.2 d_L_cold_16
set_option maxHeartbeats 4000000 in
set_option maxRecDepth 100000 in
theorem l_coldX (l : Launch) (dC : Nat → ClassId) (dI : Nat → Nat → Nat) (cI cJ cZ cB : ClassId) (hl : l.stackTraces = false) (a0 aZ aO aG aP aW aK : Nat) (zc orr ol mp pl fa fb : Int32) (fZ : Nat → Option Nat) (nz : Nat) (x : Int32)  (ou : Nat) (fU : Nat → Int64) (sz : Nat) (hx0 : x < 0 ∨ nI nz ≤ x) : Met l y_L_cold w_L_cold ({ frames := 9, cells := 1, slots := 6, locals := 149 }) (PCL (dC, dI) (TY cI cJ cZ cB) [.ref a0, .int x, .ref ou] [(a0, .inr (2, [.ref aZ, .int (nI nz), .ref aO, .int orr, .int ol, .int mp, .ref aG, .int pl, .int fa, .int fb, .ref aP, .ref aW, .ref aK])), (aZ, .inl (cZ, 6, .inr (.inr (.inr (.inr fZ))))), (ou, .inl (cJ, 1, .inr (.inl fU)))] sz (va_A [(a0, .inr (2, [.ref aZ, .int (nI nz), .ref aO, .int orr, .int ol, .int mp, .ref aG, .int pl, .int fa, .int fb, .ref aP, .ref aW, .ref aK])), (aZ, .inl (cZ, 6, .inr (.inr (.inr (.inr fZ))))), (ou, .inl (cJ, 1, .inr (.inl fU)))] sz)) (va_Qi (fun (r : Int32) (_ : Unit) => r = 1) (fun (_ : Unit) (t : State) => va_P (dC, dI) vwCl [(a0, .inr (2, [.ref aZ, .int (nI nz), .ref aO, .int orr, .int ol, .int mp, .ref aG, .int pl, .int fa, .int fb, .ref aP, .ref aW, .ref aK])), (aZ, .inl (cZ, 6, .inr (.inr (.inr (.inr fZ))))), (ou, .inl (cJ, 1, .inr (.inl fU)))] t.heap) (va_A [(a0, .inr (2, [.ref aZ, .int (nI nz), .ref aO, .int orr, .int ol, .int mp, .ref aG, .int pl, .int fa, .int fb, .ref aP, .ref aW, .ref aK])), (aZ, .inl (cZ, 6, .inr (.inr (.inr (.inr fZ))))), (ou, .inl (cJ, 1, .inr (.inl fU)))] sz)) 1 6 (va_A [(a0, .inr (2, [.ref aZ, .int (nI nz), .ref aO, .int orr, .int ol, .int mp, .ref aG, .int pl, .int fa, .int fb, .ref aP, .ref aW, .ref aK])), (aZ, .inl (cZ, 6, .inr (.inr (.inr (.inr fZ))))), (ou, .inl (cJ, 1, .inr (.inl fU)))] sz) := by
  refine met_ofWH (cc := b_L_cold) (maxL := 4) (ret := (some .int)) (by decide) rfl ?_
  intro p e s m args below meth c s₁ B hml hv
  obtain ⟨rfl, hsz, hP, hK, hD0, hE, hNc⟩ := hv
  have hx := B.exec
  have hb := B.bytes
  have hr := B.returns
  have hG : ∀ w ∈ GG, w.before _ s = true := fun w h => atoms_spec (ws := w_L_cold) B.pre w (List.mem_cons_of_mem _ h)
  have hown : s.vm.findClass R_L = some m.cls := findClass_of_methodNamed B.named
  have hlocks := B.notSynchronized
  subst hsz
  have hD := hD0.self (sz := s.heap.size)
  generalize hAe : (va_A [(a0, .inr (2, [.ref aZ, .int (nI nz), .ref aO, .int orr, .int ol, .int mp, .ref aG, .int pl, .int fa, .int fb, .ref aP, .ref aW, .ref aK])), (aZ, .inl (cZ, 6, .inr (.inr (.inr (.inr fZ))))), (ou, .inl (cJ, 1, .inr (.inl fU)))] s.heap.size) = A at hD hE ⊢
  have hA : ∀ q : Nat, s.heap.size ≤ q → A q := fun q h => by rw [← hAe]; exact Or.inr h
  have hS : va_S A s.heap s.heap [] := va_S.rf
  obtain ⟨H, hH⟩ : ∃ z, z = s.heap := ⟨_, rfl⟩
  rw [← hH] at hP
  have hS : va_S A s.heap H [] := by rw [hH]; exact hS
  rw [← hH]
  have hl9 := lv_entry ([.ref a0, .int x, .ref ou]) (n := 4) (Nat.le_of_ble_eq_true rfl)
  rw [lg_entry_eq]
  generalize (lg_sl ([.ref a0, .int x, .ref ou]) ++ List.replicate (4 - (lg_sl ([.ref a0, .int x, .ref ou])).length) Slot.unset).toArray = ls at hl9 ⊢
  have hl9 : lv_has ls 4 [(0, .ref a0), (1, .int x), (2, .ref ou)] := hl9
  have htab := vx_table (x := y_L_cold) B (atoms_spec (ws := w_L_cold) B.pre _ List.mem_cons_self)
  refine lv_aload_n hx hb d_L_cold_0 rfl (lv_at hl9 2 rfl) ?_
  refine lv_iconst (v := 0) hx hb d_L_cold_1 (by decide) ?_
  refine lv_aload_n hx hb d_L_cold_2 rfl (lv_at hl9 0 rfl) ?_
  refine lv_iload_n hx hb d_L_cold_3 rfl (lv_at hl9 1 rfl) ?_
  have hPc := hP.sub (ws' := [(a0, .inr (2, [.ref aZ, .int (nI nz), .ref aO, .int orr, .int ol, .int mp, .ref aG, .int pl, .int fa, .int fb, .ref aP, .ref aW, .ref aK])), (aZ, .inl (cZ, 6, .inr (.inr (.inr (.inr fZ)))))]) [0, 1] rfl
  have hDc := hD.sub (ws' := [(a0, .inr (2, [.ref aZ, .int (nI nz), .ref aO, .int orr, .int ol, .int mp, .ref aG, .int pl, .int fa, .int fb, .ref aP, .ref aW, .ref aK])), (aZ, .inl (cZ, 6, .inr (.inr (.inr (.inr fZ)))))]) [0, 1] (by decide) rfl
  have hFc := va_A_nil hA hS.1
  refine vx_calli (vx_runV (C := R_C) (As := [.int x]) (rest := [.int 0, .ref ou]) ⟨hx, hb, hml, hown, hG⟩ (c_coldX l dC dI cI cJ cZ cB hl a0 aZ aO aG aP aW aK zc orr ol mp pl fa fb fZ nz x H.size hx0) (cwV 1 hG g_L_45 rfl rfl rfl (by decide +kernel) ⟨Nat.le_of_ble_eq_true rfl, Nat.le_of_ble_eq_true rfl⟩) ⟨PC.blind, va_recv hK hP (ci := 2) (q0 := 0) rfl rfl, PC.of hPc hK hDc hE hS hFc⟩ rfl rfl hl9.1 rfl (lv_room (Nat.le_of_ble_eq_true rfl)) d_L_cold_4 ⟨by first | exact Nat.le_of_ble_eq_true rfl | omega, by first | exact Nat.le_of_ble_eq_true rfl | omega⟩) hS (fun q _ h => hFc q h) hFc (fun q _ h => hFc q h) (fun E ce q9 u t H1 locs ht hvm hpx hB hz1 hk1 hS hce hcv hcl => ?_) (fun r2 u t H1 locs ht hvm hw hB hz1 hk1 hS => ?_)
  · have hE9 : E = "java/lang/IllegalArgumentException" := hB
    have hP := wp_kept hP hk1
    have hP : va_P (dC, dI) vwCl [(a0, .inr (2, [.ref aZ, .int (nI nz), .ref aO, .int orr, .int ol, .int mp, .ref aG, .int pl, .int fa, .int fb, .ref aP, .ref aW, .ref aK])), (aZ, .inl (cZ, 6, .inr (.inr (.inr (.inr fZ))))), (ou, .inl (cJ, 1, .inr (.inl fU)))] H1 := hP
    have hD : va_D A [(a0, .inr (2, [.ref aZ, .int (nI nz), .ref aO, .int orr, .int ol, .int mp, .ref aG, .int pl, .int fa, .int fb, .ref aP, .ref aW, .ref aK])), (aZ, .inl (cZ, 6, .inr (.inr (.inr (.inr fZ))))), (ou, .inl (cJ, 1, .inr (.inl fU)))] := hD
    subst hE9
    refine vx_catch (own := R_L) (name := "java/lang/IllegalArgumentException") hown [] ⟨0, 9, 12, 13⟩ [] htab (fun z hz => by simp at hz) (by decide) (by decide) (hG _ k_67) (hE.1.use k_78) hce hcv hcl ?_
    refine lv_astore_n (lv' := [(3, .ref q9), (0, .ref a0), (1, .int x), (2, .ref ou)]) hx hb d_L_cold_12 rfl hl9 (by decide) rfl (fun ls hl9 => ?_)
    refine lv_iconst (v := 1) hx hb d_L_cold_13 (by decide) ?_
    exact W.iret (v := 1) hx hb hr (fun t ht hW => ⟨⟨1, (), rfl, rfl, by have h9 := hP; rw [← ht] at h9; exact h9⟩, hS.F ht⟩) hS.2.2 d_L_cold_14
  have hw := hw
  exact hw.elim
set_option maxHeartbeats 4000000 in
set_option maxRecDepth 100000 in
theorem l_taught (l : Launch) (dC : Nat → ClassId) (dI : Nat → Nat → Nat) (cI cJ cZ cB : ClassId) (a0 aZ aO aG aP aW aK : Nat) (zc orr ol mp pl fa fb : Int32) (fZ : Nat → Option Nat) (fO fG g0 g1 : Nat → Int32) (nz k : Nat) (zs0 zs1 : List ZD) (za la wa : Nat) (zh zl zf zp zr zm zw zs : Int32) (ea eb : Int64) (fT : Nat → Int32) (ou : Nat) (fU : Nat → Int64) (sz : Nat) (hn : nz ≤ 6) (hok : plOk fZ nz zs0) (hto : plTo fO mp nz zs0 fG g0 pl zs1 g1) (hk : k < nz) (hz : fZ k = some za) (hs1 : zs1[k]? = some ((za, la, wa), (zh, zl, zf, zp, zr, zm, zw, zs), (ea, eb), fT)) (hzm : zm = -1 ∨ ∃ b, b < 1440 ∧ zm = nI b) (hne : ¬ eb = 0) : Met l y_L_taught w_L_taught ({ frames := 9, cells := 0, slots := 0, locals := 160 }) (PCL (dC, dI) (TY cI cJ cZ cB) [.ref a0, .int (nI k), .ref ou] ([(a0, .inr (2, [.ref aZ, .int (nI nz), .ref aO, .int orr, .int ol, .int mp, .ref aG, .int pl, .int fa, .int fb, .ref aP, .ref aW, .ref aK])), (aZ, .inl (cZ, 6, .inr (.inr (.inr (.inr fZ))))), (aO, .inl (cI, 1440, .inl fO)), (aG, .inl (cI, 1440, .inl fG)), (ou, .inl (cJ, 1, .inr (.inl fU)))] ++ (zs0.flatMap (tri cI))) sz (va_A ([(a0, .inr (2, [.ref aZ, .int (nI nz), .ref aO, .int orr, .int ol, .int mp, .ref aG, .int pl, .int fa, .int fb, .ref aP, .ref aW, .ref aK])), (aZ, .inl (cZ, 6, .inr (.inr (.inr (.inr fZ))))), (aO, .inl (cI, 1440, .inl fO)), (aG, .inl (cI, 1440, .inl fG)), (ou, .inl (cJ, 1, .inr (.inl fU)))] ++ (zs0.flatMap (tri cI))) sz)) (va_Qi (fun (r : Int32) (_ : Unit) => r = 0) (fun (_ : Unit) (t : State) => va_P (dC, dI) vwCl ([(a0, .inr (2, [.ref aZ, .int (nI nz), .ref aO, .int orr, .int ol, .int mp, .ref aG, .int 1, .int fa, .int fb, .ref aP, .ref aW, .ref aK])), (aZ, .inl (cZ, 6, .inr (.inr (.inr (.inr fZ))))), (aO, .inl (cI, 1440, .inl fO)), (aG, .inl (cI, 1440, .inl g1)), (ou, .inl (cJ, 1, .inr (.inl (vp_updL fU 0 (if zm = -1 then -1 else (if 0 < (if 1439 < (zs - (ea / eb).toInt32) then 1439 else (zs - (ea / eb).toInt32)) then (if 1439 < (zs - (ea / eb).toInt32) then 1439 else (zs - (ea / eb).toInt32)) else 0)).toInt64))))] ++ (zs1.flatMap (tri cI))) t.heap) (va_A ([(a0, .inr (2, [.ref aZ, .int (nI nz), .ref aO, .int orr, .int ol, .int mp, .ref aG, .int pl, .int fa, .int fb, .ref aP, .ref aW, .ref aK])), (aZ, .inl (cZ, 6, .inr (.inr (.inr (.inr fZ))))), (aO, .inl (cI, 1440, .inl fO)), (aG, .inl (cI, 1440, .inl fG)), (ou, .inl (cJ, 1, .inr (.inl fU)))] ++ (zs0.flatMap (tri cI))) sz)) 0 0 (va_A ([(a0, .inr (2, [.ref aZ, .int (nI nz), .ref aO, .int orr, .int ol, .int mp, .ref aG, .int pl, .int fa, .int fb, .ref aP, .ref aW, .ref aK])), (aZ, .inl (cZ, 6, .inr (.inr (.inr (.inr fZ))))), (aO, .inl (cI, 1440, .inl fO)), (aG, .inl (cI, 1440, .inl fG)), (ou, .inl (cJ, 1, .inr (.inl fU)))] ++ (zs0.flatMap (tri cI))) sz) := by
  refine met_ofWH (cc := b_L_taught) (maxL := 4) (ret := (some .int)) (by decide) rfl ?_
  intro p e s m args below meth c s₁ B hml hv
  obtain ⟨rfl, hsz, hP, hK, hD0, hE, hNc⟩ := hv
  have hx := B.exec
  have hb := B.bytes
  have hr := B.returns
  have hG : ∀ w ∈ GG, w.before _ s = true := fun w h => atoms_spec (ws := w_L_taught) B.pre w (List.mem_cons_of_mem _ h)
  have hown : s.vm.findClass R_L = some m.cls := findClass_of_methodNamed B.named
  have hlocks := B.notSynchronized
  subst hsz
  have hD := hD0.self (sz := s.heap.size)
  generalize hAe : (va_A ([(a0, .inr (2, [.ref aZ, .int (nI nz), .ref aO, .int orr, .int ol, .int mp, .ref aG, .int pl, .int fa, .int fb, .ref aP, .ref aW, .ref aK])), (aZ, .inl (cZ, 6, .inr (.inr (.inr (.inr fZ))))), (aO, .inl (cI, 1440, .inl fO)), (aG, .inl (cI, 1440, .inl fG)), (ou, .inl (cJ, 1, .inr (.inl fU)))] ++ (zs0.flatMap (tri cI))) s.heap.size) = A at hD hE ⊢
  have hA : ∀ q : Nat, s.heap.size ≤ q → A q := fun q h => by rw [← hAe]; exact Or.inr h
  have hS : va_S A s.heap s.heap [] := va_S.rf
  obtain ⟨H, hH⟩ : ∃ z, z = s.heap := ⟨_, rfl⟩
  rw [← hH] at hP
  have hS : va_S A s.heap H [] := by rw [hH]; exact hS
  rw [← hH]
  have hl9 := lv_entry ([.ref a0, .int (nI k), .ref ou]) (n := 4) (Nat.le_of_ble_eq_true rfl)
  rw [lg_entry_eq]
  generalize (lg_sl ([.ref a0, .int (nI k), .ref ou]) ++ List.replicate (4 - (lg_sl ([.ref a0, .int (nI k), .ref ou])).length) Slot.unset).toArray = ls at hl9 ⊢
  have hl9 : lv_has ls 4 [(0, .ref a0), (1, .int (nI k)), (2, .ref ou)] := hl9
  have htab := vx_table (x := y_L_taught) B (atoms_spec (ws := w_L_taught) B.pre _ List.mem_cons_self)
  refine lv_aload_n hx hb d_L_taught_0 rfl (lv_at hl9 2 rfl) ?_
  refine lv_iconst (v := 0) hx hb d_L_taught_1 (by decide) ?_
  refine lv_aload_n hx hb d_L_taught_2 rfl (lv_at hl9 0 rfl) ?_
  refine lv_iload_n hx hb d_L_taught_3 rfl (lv_at hl9 1 rfl) ?_
  have hPc := hP.part (cx := [(a0, .inr (2, [.ref aZ, .int (nI nz), .ref aO, .int orr, .int ol, .int mp, .ref aG, .int pl, .int fa, .int fb, .ref aP, .ref aW, .ref aK])), (aZ, .inl (cZ, 6, .inr (.inr (.inr (.inr fZ))))), (aO, .inl (cI, 1440, .inl fO)), (aG, .inl (cI, 1440, .inl fG))]) [0, 1, 2, 3] rfl
  have hDc := hD.part (cx := [(a0, .inr (2, [.ref aZ, .int (nI nz), .ref aO, .int orr, .int ol, .int mp, .ref aG, .int pl, .int fa, .int fb, .ref aP, .ref aW, .ref aK])), (aZ, .inl (cZ, 6, .inr (.inr (.inr (.inr fZ))))), (aO, .inl (cI, 1440, .inl fO)), (aG, .inl (cI, 1440, .inl fG))]) [0, 1, 2, 3] (by decide) rfl
  have hFc := va_freeP (cx := [(a0, .inr (2, [.ref aZ, .int (nI nz), .ref aO, .int orr, .int ol, .int mp, .ref aG, .int pl, .int fa, .int fb, .ref aP, .ref aW, .ref aK])), (aZ, .inl (cZ, 6, .inr (.inr (.inr (.inr fZ))))), (aO, .inl (cI, 1440, .inl fO)), (aG, .inl (cI, 1440, .inl fG))]) hD hS hA [0, 1, 2, 3] rfl
  refine va_calli (va_runV (C := R_C) (As := [.int (nI k)]) (rest := [.int 0, .ref ou]) ⟨hx, hb, hml, hown, hG⟩ (c_taught l dC dI cI cJ cZ cB a0 aZ aO aG aP aW aK zc orr ol mp pl fa fb fZ fO fG g0 g1 nz k zs0 zs1 za la wa zh zl zf zp zr zm zw zs ea eb fT H.size hn hok hto hk hz hs1 hzm hne) (cwV 1 hG g_L_59 rfl rfl rfl (by decide +kernel) ⟨Nat.le_of_ble_eq_true rfl, Nat.le_of_ble_eq_true rfl⟩) ⟨PC.blind, va_recv hK hP (ci := 2) (q0 := 0) rfl rfl, PC.of hPc hK hDc hE hS hFc⟩ rfl rfl hl9.1 rfl (lv_room (Nat.le_of_ble_eq_true rfl)) d_L_taught_4 ⟨by first | exact Nat.le_of_ble_eq_true rfl | omega, by first | exact Nat.le_of_ble_eq_true rfl | omega⟩) hS (fun q _ h => hFc q h) hFc (fun r2 u t H1 locs ht hvm hw hB hz1 hk1 hS => ?_)
  rw [ht] at hB
  obtain ⟨hP, hD⟩ := jsetP (wc := [(a0, .inr (2, [.ref aZ, .int (nI nz), .ref aO, .int orr, .int ol, .int mp, .ref aG, .int pl, .int fa, .int fb, .ref aP, .ref aW, .ref aK])), (aZ, .inl (cZ, 6, .inr (.inr (.inr (.inr fZ))))), (aO, .inl (cI, 1440, .inl fO)), (aG, .inl (cI, 1440, .inl fG))]) (w1 := [(a0, .inr (2, [.ref aZ, .int (nI nz), .ref aO, .int orr, .int ol, .int mp, .ref aG, .int 1, .int fa, .int fb, .ref aP, .ref aW, .ref aK])), (aZ, .inl (cZ, 6, .inr (.inr (.inr (.inr fZ))))), (aO, .inl (cI, 1440, .inl fO)), (aG, .inl (cI, 1440, .inl g1))]) (pl1 := (zs1.flatMap (tri cI))) [0, 1, 2, 3] rfl rfl (adr_eq (B1 := []) (B := []) rfl (plTo_ad hto)) hP hD hk1 hB
  have hP : va_P (dC, dI) vwCl ([(a0, .inr (2, [.ref aZ, .int (nI nz), .ref aO, .int orr, .int ol, .int mp, .ref aG, .int 1, .int fa, .int fb, .ref aP, .ref aW, .ref aK])), (aZ, .inl (cZ, 6, .inr (.inr (.inr (.inr fZ))))), (aO, .inl (cI, 1440, .inl fO)), (aG, .inl (cI, 1440, .inl g1)), (ou, .inl (cJ, 1, .inr (.inl fU)))] ++ (zs1.flatMap (tri cI))) H1 := hP
  have hD : va_D A ([(a0, .inr (2, [.ref aZ, .int (nI nz), .ref aO, .int orr, .int ol, .int mp, .ref aG, .int 1, .int fa, .int fb, .ref aP, .ref aW, .ref aK])), (aZ, .inl (cZ, 6, .inr (.inr (.inr (.inr fZ))))), (aO, .inl (cI, 1440, .inl fO)), (aG, .inl (cI, 1440, .inl g1)), (ou, .inl (cJ, 1, .inr (.inl fU)))] ++ (zs1.flatMap (tri cI))) := hD
  have hw : r2 = if zm = -1 then -1 else (if 0 < (if 1439 < (zs - (ea / eb).toInt32) then 1439 else (zs - (ea / eb).toInt32)) then (if 1439 < (zs - (ea / eb).toInt32) then 1439 else (zs - (ea / eb).toInt32)) else 0) := hw
  subst hw
  refine lv_i2l hx hb d_L_taught_7 rfl ?_
  refine va_last hx hb hK hP hD hS 4 1 rfl rfl (vp_in_nI (n := 0) (N := 1) (by decide) (by decide)) d_L_taught_8 (fun H locs hP hD hS => ?_)
  have hP : va_P (dC, dI) vwCl ([(a0, .inr (2, [.ref aZ, .int (nI nz), .ref aO, .int orr, .int ol, .int mp, .ref aG, .int 1, .int fa, .int fb, .ref aP, .ref aW, .ref aK])), (aZ, .inl (cZ, 6, .inr (.inr (.inr (.inr fZ))))), (aO, .inl (cI, 1440, .inl fO)), (aG, .inl (cI, 1440, .inl g1)), (ou, .inl (cJ, 1, .inr (.inl (vp_updL fU (0 : Int32).toNatClampNeg ((if zm = -1 then -1 else (if 0 < (if 1439 < (zs - (ea / eb).toInt32) then 1439 else (zs - (ea / eb).toInt32)) then (if 1439 < (zs - (ea / eb).toInt32) then 1439 else (zs - (ea / eb).toInt32)) else 0)).toInt64)))))] ++ (zs1.flatMap (tri cI))) H := hP
  have hD : va_D A ([(a0, .inr (2, [.ref aZ, .int (nI nz), .ref aO, .int orr, .int ol, .int mp, .ref aG, .int 1, .int fa, .int fb, .ref aP, .ref aW, .ref aK])), (aZ, .inl (cZ, 6, .inr (.inr (.inr (.inr fZ))))), (aO, .inl (cI, 1440, .inl fO)), (aG, .inl (cI, 1440, .inl g1)), (ou, .inl (cJ, 1, .inr (.inl (vp_updL fU (0 : Int32).toNatClampNeg ((if zm = -1 then -1 else (if 0 < (if 1439 < (zs - (ea / eb).toInt32) then 1439 else (zs - (ea / eb).toInt32)) then (if 1439 < (zs - (ea / eb).toInt32) then 1439 else (zs - (ea / eb).toInt32)) else 0)).toInt64)))))] ++ (zs1.flatMap (tri cI))) := hD
  refine lv_goto (tgt := 15) hx hb d_L_taught_9 (by decide) ?_
  refine lv_iconst (v := 0) hx hb d_L_taught_15 (by decide) ?_
  exact W.iret (v := 0) hx hb hr (fun t ht hW => ⟨⟨0, (), rfl, rfl, by have h9 := hP; rw [← ht] at h9; exact h9⟩, hS.F ht⟩) hS.2.2 d_L_taught_16
set_option maxHeartbeats 4000000 in
set_option maxRecDepth 100000 in
theorem l_taughtX (l : Launch) (dC : Nat → ClassId) (dI : Nat → Nat → Nat) (cI cJ cZ cB : ClassId) (hl : l.stackTraces = false) (a0 aZ aO aG aP aW aK : Nat) (zc orr ol mp pl fa fb : Int32) (fZ : Nat → Option Nat) (nz : Nat) (x : Int32)  (ou : Nat) (fU : Nat → Int64) (sz : Nat) (hx0 : x < 0 ∨ nI nz ≤ x) : Met l y_L_taught w_L_taught ({ frames := 9, cells := 1, slots := 6, locals := 148 }) (PCL (dC, dI) (TY cI cJ cZ cB) [.ref a0, .int x, .ref ou] [(a0, .inr (2, [.ref aZ, .int (nI nz), .ref aO, .int orr, .int ol, .int mp, .ref aG, .int pl, .int fa, .int fb, .ref aP, .ref aW, .ref aK])), (aZ, .inl (cZ, 6, .inr (.inr (.inr (.inr fZ))))), (ou, .inl (cJ, 1, .inr (.inl fU)))] sz (va_A [(a0, .inr (2, [.ref aZ, .int (nI nz), .ref aO, .int orr, .int ol, .int mp, .ref aG, .int pl, .int fa, .int fb, .ref aP, .ref aW, .ref aK])), (aZ, .inl (cZ, 6, .inr (.inr (.inr (.inr fZ))))), (ou, .inl (cJ, 1, .inr (.inl fU)))] sz)) (va_Qi (fun (r : Int32) (_ : Unit) => r = 1) (fun (_ : Unit) (t : State) => va_P (dC, dI) vwCl [(a0, .inr (2, [.ref aZ, .int (nI nz), .ref aO, .int orr, .int ol, .int mp, .ref aG, .int pl, .int fa, .int fb, .ref aP, .ref aW, .ref aK])), (aZ, .inl (cZ, 6, .inr (.inr (.inr (.inr fZ))))), (ou, .inl (cJ, 1, .inr (.inl fU)))] t.heap) (va_A [(a0, .inr (2, [.ref aZ, .int (nI nz), .ref aO, .int orr, .int ol, .int mp, .ref aG, .int pl, .int fa, .int fb, .ref aP, .ref aW, .ref aK])), (aZ, .inl (cZ, 6, .inr (.inr (.inr (.inr fZ))))), (ou, .inl (cJ, 1, .inr (.inl fU)))] sz)) 1 6 (va_A [(a0, .inr (2, [.ref aZ, .int (nI nz), .ref aO, .int orr, .int ol, .int mp, .ref aG, .int pl, .int fa, .int fb, .ref aP, .ref aW, .ref aK])), (aZ, .inl (cZ, 6, .inr (.inr (.inr (.inr fZ))))), (ou, .inl (cJ, 1, .inr (.inl fU)))] sz) := by
  refine met_ofWH (cc := b_L_taught) (maxL := 4) (ret := (some .int)) (by decide) rfl ?_
  intro p e s m args below meth c s₁ B hml hv
  obtain ⟨rfl, hsz, hP, hK, hD0, hE, hNc⟩ := hv
  have hx := B.exec
  have hb := B.bytes
  have hr := B.returns
  have hG : ∀ w ∈ GG, w.before _ s = true := fun w h => atoms_spec (ws := w_L_taught) B.pre w (List.mem_cons_of_mem _ h)
  have hown : s.vm.findClass R_L = some m.cls := findClass_of_methodNamed B.named
  have hlocks := B.notSynchronized
  subst hsz
  have hD := hD0.self (sz := s.heap.size)
  generalize hAe : (va_A [(a0, .inr (2, [.ref aZ, .int (nI nz), .ref aO, .int orr, .int ol, .int mp, .ref aG, .int pl, .int fa, .int fb, .ref aP, .ref aW, .ref aK])), (aZ, .inl (cZ, 6, .inr (.inr (.inr (.inr fZ))))), (ou, .inl (cJ, 1, .inr (.inl fU)))] s.heap.size) = A at hD hE ⊢
  have hA : ∀ q : Nat, s.heap.size ≤ q → A q := fun q h => by rw [← hAe]; exact Or.inr h
  have hS : va_S A s.heap s.heap [] := va_S.rf
  obtain ⟨H, hH⟩ : ∃ z, z = s.heap := ⟨_, rfl⟩
  rw [← hH] at hP
  have hS : va_S A s.heap H [] := by rw [hH]; exact hS
  rw [← hH]
  have hl9 := lv_entry ([.ref a0, .int x, .ref ou]) (n := 4) (Nat.le_of_ble_eq_true rfl)
  rw [lg_entry_eq]
  generalize (lg_sl ([.ref a0, .int x, .ref ou]) ++ List.replicate (4 - (lg_sl ([.ref a0, .int x, .ref ou])).length) Slot.unset).toArray = ls at hl9 ⊢
  have hl9 : lv_has ls 4 [(0, .ref a0), (1, .int x), (2, .ref ou)] := hl9
  have htab := vx_table (x := y_L_taught) B (atoms_spec (ws := w_L_taught) B.pre _ List.mem_cons_self)
  refine lv_aload_n hx hb d_L_taught_0 rfl (lv_at hl9 2 rfl) ?_
  refine lv_iconst (v := 0) hx hb d_L_taught_1 (by decide) ?_
  refine lv_aload_n hx hb d_L_taught_2 rfl (lv_at hl9 0 rfl) ?_
  refine lv_iload_n hx hb d_L_taught_3 rfl (lv_at hl9 1 rfl) ?_
  have hPc := hP.sub (ws' := [(a0, .inr (2, [.ref aZ, .int (nI nz), .ref aO, .int orr, .int ol, .int mp, .ref aG, .int pl, .int fa, .int fb, .ref aP, .ref aW, .ref aK])), (aZ, .inl (cZ, 6, .inr (.inr (.inr (.inr fZ)))))]) [0, 1] rfl
  have hDc := hD.sub (ws' := [(a0, .inr (2, [.ref aZ, .int (nI nz), .ref aO, .int orr, .int ol, .int mp, .ref aG, .int pl, .int fa, .int fb, .ref aP, .ref aW, .ref aK])), (aZ, .inl (cZ, 6, .inr (.inr (.inr (.inr fZ)))))]) [0, 1] (by decide) rfl
  have hFc := va_A_nil hA hS.1
  refine vx_calli (vx_runV (C := R_C) (As := [.int x]) (rest := [.int 0, .ref ou]) ⟨hx, hb, hml, hown, hG⟩ (c_taughtX l dC dI cI cJ cZ cB hl a0 aZ aO aG aP aW aK zc orr ol mp pl fa fb fZ nz x H.size hx0) (cwV 1 hG g_L_59 rfl rfl rfl (by decide +kernel) ⟨Nat.le_of_ble_eq_true rfl, Nat.le_of_ble_eq_true rfl⟩) ⟨PC.blind, va_recv hK hP (ci := 2) (q0 := 0) rfl rfl, PC.of hPc hK hDc hE hS hFc⟩ rfl rfl hl9.1 rfl (lv_room (Nat.le_of_ble_eq_true rfl)) d_L_taught_4 ⟨by first | exact Nat.le_of_ble_eq_true rfl | omega, by first | exact Nat.le_of_ble_eq_true rfl | omega⟩) hS (fun q _ h => hFc q h) hFc (fun q _ h => hFc q h) (fun E ce q9 u t H1 locs ht hvm hpx hB hz1 hk1 hS hce hcv hcl => ?_) (fun r2 u t H1 locs ht hvm hw hB hz1 hk1 hS => ?_)
  · have hE9 : E = "java/lang/IllegalArgumentException" := hB
    have hP := wp_kept hP hk1
    have hP : va_P (dC, dI) vwCl [(a0, .inr (2, [.ref aZ, .int (nI nz), .ref aO, .int orr, .int ol, .int mp, .ref aG, .int pl, .int fa, .int fb, .ref aP, .ref aW, .ref aK])), (aZ, .inl (cZ, 6, .inr (.inr (.inr (.inr fZ))))), (ou, .inl (cJ, 1, .inr (.inl fU)))] H1 := hP
    have hD : va_D A [(a0, .inr (2, [.ref aZ, .int (nI nz), .ref aO, .int orr, .int ol, .int mp, .ref aG, .int pl, .int fa, .int fb, .ref aP, .ref aW, .ref aK])), (aZ, .inl (cZ, 6, .inr (.inr (.inr (.inr fZ))))), (ou, .inl (cJ, 1, .inr (.inl fU)))] := hD
    subst hE9
    refine vx_catch (own := R_L) (name := "java/lang/IllegalArgumentException") hown [] ⟨0, 9, 12, 13⟩ [] htab (fun z hz => by simp at hz) (by decide) (by decide) (hG _ k_67) (hE.1.use k_78) hce hcv hcl ?_
    refine lv_astore_n (lv' := [(3, .ref q9), (0, .ref a0), (1, .int x), (2, .ref ou)]) hx hb d_L_taught_12 rfl hl9 (by decide) rfl (fun ls hl9 => ?_)
    refine lv_iconst (v := 1) hx hb d_L_taught_13 (by decide) ?_
    exact W.iret (v := 1) hx hb hr (fun t ht hW => ⟨⟨1, (), rfl, rfl, by have h9 := hP; rw [← ht] at h9; exact h9⟩, hS.F ht⟩) hS.2.2 d_L_taught_14
  have hw := hw
  exact hw.elim
set_option maxHeartbeats 4000000 in
set_option maxRecDepth 100000 in
theorem l_lateX (l : Launch) (dC : Nat → ClassId) (dI : Nat → Nat → Nat) (cI cJ cZ cB : ClassId) (hl : l.stackTraces = false) (a0 aZ aO aG aP aW aK : Nat) (zc orr ol mp pl fa fb : Int32) (fZ : Nat → Option Nat) (nz : Nat) (x : Int32)  (ou : Nat) (fU : Nat → Int64) (sz : Nat) (hx0 : x < 0 ∨ nI nz ≤ x) : Met l y_L_late w_L_late ({ frames := 9, cells := 1, slots := 6, locals := 147 }) (PCL (dC, dI) (TY cI cJ cZ cB) [.ref a0, .int x, .ref ou] [(a0, .inr (2, [.ref aZ, .int (nI nz), .ref aO, .int orr, .int ol, .int mp, .ref aG, .int pl, .int fa, .int fb, .ref aP, .ref aW, .ref aK])), (aZ, .inl (cZ, 6, .inr (.inr (.inr (.inr fZ))))), (ou, .inl (cJ, 1, .inr (.inl fU)))] sz (va_A [(a0, .inr (2, [.ref aZ, .int (nI nz), .ref aO, .int orr, .int ol, .int mp, .ref aG, .int pl, .int fa, .int fb, .ref aP, .ref aW, .ref aK])), (aZ, .inl (cZ, 6, .inr (.inr (.inr (.inr fZ))))), (ou, .inl (cJ, 1, .inr (.inl fU)))] sz)) (va_Qi (fun (r : Int32) (_ : Unit) => r = 1) (fun (_ : Unit) (t : State) => va_P (dC, dI) vwCl [(a0, .inr (2, [.ref aZ, .int (nI nz), .ref aO, .int orr, .int ol, .int mp, .ref aG, .int pl, .int fa, .int fb, .ref aP, .ref aW, .ref aK])), (aZ, .inl (cZ, 6, .inr (.inr (.inr (.inr fZ))))), (ou, .inl (cJ, 1, .inr (.inl fU)))] t.heap) (va_A [(a0, .inr (2, [.ref aZ, .int (nI nz), .ref aO, .int orr, .int ol, .int mp, .ref aG, .int pl, .int fa, .int fb, .ref aP, .ref aW, .ref aK])), (aZ, .inl (cZ, 6, .inr (.inr (.inr (.inr fZ))))), (ou, .inl (cJ, 1, .inr (.inl fU)))] sz)) 1 6 (va_A [(a0, .inr (2, [.ref aZ, .int (nI nz), .ref aO, .int orr, .int ol, .int mp, .ref aG, .int pl, .int fa, .int fb, .ref aP, .ref aW, .ref aK])), (aZ, .inl (cZ, 6, .inr (.inr (.inr (.inr fZ))))), (ou, .inl (cJ, 1, .inr (.inl fU)))] sz) := by
  refine met_ofWH (cc := b_L_late) (maxL := 4) (ret := (some .int)) (by decide) rfl ?_
  intro p e s m args below meth c s₁ B hml hv
  obtain ⟨rfl, hsz, hP, hK, hD0, hE, hNc⟩ := hv
  have hx := B.exec
  have hb := B.bytes
  have hr := B.returns
  have hG : ∀ w ∈ GG, w.before _ s = true := fun w h => atoms_spec (ws := w_L_late) B.pre w (List.mem_cons_of_mem _ h)
  have hown : s.vm.findClass R_L = some m.cls := findClass_of_methodNamed B.named
  have hlocks := B.notSynchronized
  subst hsz
  have hD := hD0.self (sz := s.heap.size)
  generalize hAe : (va_A [(a0, .inr (2, [.ref aZ, .int (nI nz), .ref aO, .int orr, .int ol, .int mp, .ref aG, .int pl, .int fa, .int fb, .ref aP, .ref aW, .ref aK])), (aZ, .inl (cZ, 6, .inr (.inr (.inr (.inr fZ))))), (ou, .inl (cJ, 1, .inr (.inl fU)))] s.heap.size) = A at hD hE ⊢
  have hA : ∀ q : Nat, s.heap.size ≤ q → A q := fun q h => by rw [← hAe]; exact Or.inr h
  have hS : va_S A s.heap s.heap [] := va_S.rf
  obtain ⟨H, hH⟩ : ∃ z, z = s.heap := ⟨_, rfl⟩
  rw [← hH] at hP
  have hS : va_S A s.heap H [] := by rw [hH]; exact hS
  rw [← hH]
  have hl9 := lv_entry ([.ref a0, .int x, .ref ou]) (n := 4) (Nat.le_of_ble_eq_true rfl)
  rw [lg_entry_eq]
  generalize (lg_sl ([.ref a0, .int x, .ref ou]) ++ List.replicate (4 - (lg_sl ([.ref a0, .int x, .ref ou])).length) Slot.unset).toArray = ls at hl9 ⊢
  have hl9 : lv_has ls 4 [(0, .ref a0), (1, .int x), (2, .ref ou)] := hl9
  have htab := vx_table (x := y_L_late) B (atoms_spec (ws := w_L_late) B.pre _ List.mem_cons_self)
  refine lv_aload_n hx hb d_L_late_0 rfl (lv_at hl9 2 rfl) ?_
  refine lv_iconst (v := 0) hx hb d_L_late_1 (by decide) ?_
  refine lv_aload_n hx hb d_L_late_2 rfl (lv_at hl9 0 rfl) ?_
  refine lv_iload_n hx hb d_L_late_3 rfl (lv_at hl9 1 rfl) ?_
  have hPc := hP.sub (ws' := [(a0, .inr (2, [.ref aZ, .int (nI nz), .ref aO, .int orr, .int ol, .int mp, .ref aG, .int pl, .int fa, .int fb, .ref aP, .ref aW, .ref aK])), (aZ, .inl (cZ, 6, .inr (.inr (.inr (.inr fZ)))))]) [0, 1] rfl
  have hDc := hD.sub (ws' := [(a0, .inr (2, [.ref aZ, .int (nI nz), .ref aO, .int orr, .int ol, .int mp, .ref aG, .int pl, .int fa, .int fb, .ref aP, .ref aW, .ref aK])), (aZ, .inl (cZ, 6, .inr (.inr (.inr (.inr fZ)))))]) [0, 1] (by decide) rfl
  have hFc := va_A_nil hA hS.1
  refine vx_calli (vx_runV (C := R_C) (As := [.int x]) (rest := [.int 0, .ref ou]) ⟨hx, hb, hml, hown, hG⟩ (c_lateX l dC dI cI cJ cZ cB hl a0 aZ aO aG aP aW aK zc orr ol mp pl fa fb fZ nz x H.size hx0) (cwV 1 hG g_L_35 rfl rfl rfl (by decide +kernel) ⟨Nat.le_of_ble_eq_true rfl, Nat.le_of_ble_eq_true rfl⟩) ⟨PC.blind, va_recv hK hP (ci := 2) (q0 := 0) rfl rfl, PC.of hPc hK hDc hE hS hFc⟩ rfl rfl hl9.1 rfl (lv_room (Nat.le_of_ble_eq_true rfl)) d_L_late_4 ⟨by first | exact Nat.le_of_ble_eq_true rfl | omega, by first | exact Nat.le_of_ble_eq_true rfl | omega⟩) hS (fun q _ h => hFc q h) hFc (fun q _ h => hFc q h) (fun E ce q9 u t H1 locs ht hvm hpx hB hz1 hk1 hS hce hcv hcl => ?_) (fun r2 u t H1 locs ht hvm hw hB hz1 hk1 hS => ?_)
  · have hE9 : E = "java/lang/IllegalArgumentException" := hB
    have hP := wp_kept hP hk1
    have hP : va_P (dC, dI) vwCl [(a0, .inr (2, [.ref aZ, .int (nI nz), .ref aO, .int orr, .int ol, .int mp, .ref aG, .int pl, .int fa, .int fb, .ref aP, .ref aW, .ref aK])), (aZ, .inl (cZ, 6, .inr (.inr (.inr (.inr fZ))))), (ou, .inl (cJ, 1, .inr (.inl fU)))] H1 := hP
    have hD : va_D A [(a0, .inr (2, [.ref aZ, .int (nI nz), .ref aO, .int orr, .int ol, .int mp, .ref aG, .int pl, .int fa, .int fb, .ref aP, .ref aW, .ref aK])), (aZ, .inl (cZ, 6, .inr (.inr (.inr (.inr fZ))))), (ou, .inl (cJ, 1, .inr (.inl fU)))] := hD
    subst hE9
    refine vx_catch (own := R_L) (name := "java/lang/IllegalArgumentException") hown [] ⟨0, 16, 19, 13⟩ [] htab (fun z hz => by simp at hz) (by decide) (by decide) (hG _ k_67) (hE.1.use k_78) hce hcv hcl ?_
    refine lv_astore_n (lv' := [(3, .ref q9), (0, .ref a0), (1, .int x), (2, .ref ou)]) hx hb d_L_late_19 rfl hl9 (by decide) rfl (fun ls hl9 => ?_)
    refine lv_iconst (v := 1) hx hb d_L_late_20 (by decide) ?_
    exact W.iret (v := 1) hx hb hr (fun t ht hW => ⟨⟨1, (), rfl, rfl, by have h9 := hP; rw [← ht] at h9; exact h9⟩, hS.F ht⟩) hS.2.2 d_L_late_21
  have hw := hw
  exact hw.elim
set_option maxHeartbeats 4000000 in
set_option maxRecDepth 100000 in
theorem l_cheapest (l : Launch) (dC : Nat → ClassId) (dI : Nat → Nat → Nat) (cI cJ cZ cB : ClassId) (hl : l.stackTraces = false) (a0 aZ aO aG aP aW aK : Nat) (zc orr ol mp pl fa fb : Int32) (fZ : Nat → Option Nat) (fO fP fW : Nat → Int32) (fK : Nat → Int64) (za la wa : Nat) (zh zl zf zp zr zm zw zs : Int32) (nz k b nn mm : Nat) (ou : Nat) (fU : Nat → Int64) (sz : Nat) (hk : k < nz) (hn : nz ≤ 6) (hz : fZ k = some za) (hb1 : b < 1440) (hn1 : 1 ≤ nn) (hnn : nn ≤ 10) (hm1 : 1 ≤ mm) (hmm : mm ≤ 30) (hzl : ¬ zl = 0) (hzh : ¬ zh = 0) : Met l y_L_cheapest w_L_cheapest ({ frames := 9, cells := 3, slots := 18, locals := 152 }) (PCL (dC, dI) (TY cI cJ cZ cB) [.ref a0, .int (nI k), .int (nI nn), .int (nI mm), .ref ou] [(a0, .inr (2, [.ref aZ, .int (nI nz), .ref aO, .int orr, .int ol, .int mp, .ref aG, .int pl, .int fa, .int fb, .ref aP, .ref aW, .ref aK])), (aZ, .inl (cZ, 6, .inr (.inr (.inr (.inr fZ))))), (aO, .inl (cI, 1440, .inl fO)), (aP, .inl (cI, 24, .inl fP)), (aW, .inl (cI, 1024, .inl fW)), (aK, .inl (cJ, 1024, .inr (.inl fK))), (za, .inr (1, [.int zh, .int zl, .int zf, .int zp, .int zr, .int (nI b), .int zw, .ref la, .int zs, .ref wa])), (ou, .inl (cJ, 1, .inr (.inl fU)))] sz (va_A [(a0, .inr (2, [.ref aZ, .int (nI nz), .ref aO, .int orr, .int ol, .int mp, .ref aG, .int pl, .int fa, .int fb, .ref aP, .ref aW, .ref aK])), (aZ, .inl (cZ, 6, .inr (.inr (.inr (.inr fZ))))), (aO, .inl (cI, 1440, .inl fO)), (aP, .inl (cI, 24, .inl fP)), (aW, .inl (cI, 1024, .inl fW)), (aK, .inl (cJ, 1024, .inr (.inl fK))), (za, .inr (1, [.int zh, .int zl, .int zf, .int zp, .int zr, .int (nI b), .int zw, .ref la, .int zs, .ref wa])), (ou, .inl (cJ, 1, .inr (.inl fU)))] sz)) (va_Qi (fun (r : Int32) (_ : Unit) => r = 0) (fun (_ : Unit) (t : State) => va_P (dC, dI) vwCl [(a0, .inr (2, [.ref aZ, .int (nI nz), .ref aO, .int orr, .int ol, .int mp, .ref aG, .int pl, .int fa, .int fb, .ref aP, .ref aW, .ref aK])), (aZ, .inl (cZ, 6, .inr (.inr (.inr (.inr fZ))))), (aO, .inl (cI, 1440, .inl fO)), (aP, .inl (cI, 24, .inl fP)), (aW, .inl (cI, 1024, .inl ((wsO fO fP zl zh zp zf b nn mm fW fK nn).1))), (aK, .inl (cJ, 1024, .inr (.inl ((wsO fO fP zl zh zp zf b nn mm fW fK nn).2)))), (za, .inr (1, [.int zh, .int zl, .int zf, .int zp, .int zr, .int (nI b), .int zw, .ref la, .int zs, .ref wa])), (ou, .inl (cJ, 1, .inr (.inl (vp_updL fU 0 (bst (wsO fO fP zl zh zp zf b nn mm fW fK nn).1 (wsO fO fP zl zh zp zf b nn mm fW fK nn).2 zw (2 ^ nn)).toInt64))))] t.heap) (va_A [(a0, .inr (2, [.ref aZ, .int (nI nz), .ref aO, .int orr, .int ol, .int mp, .ref aG, .int pl, .int fa, .int fb, .ref aP, .ref aW, .ref aK])), (aZ, .inl (cZ, 6, .inr (.inr (.inr (.inr fZ))))), (aO, .inl (cI, 1440, .inl fO)), (aP, .inl (cI, 24, .inl fP)), (aW, .inl (cI, 1024, .inl fW)), (aK, .inl (cJ, 1024, .inr (.inl fK))), (za, .inr (1, [.int zh, .int zl, .int zf, .int zp, .int zr, .int (nI b), .int zw, .ref la, .int zs, .ref wa])), (ou, .inl (cJ, 1, .inr (.inl fU)))] sz)) 3 18 (va_A [(a0, .inr (2, [.ref aZ, .int (nI nz), .ref aO, .int orr, .int ol, .int mp, .ref aG, .int pl, .int fa, .int fb, .ref aP, .ref aW, .ref aK])), (aZ, .inl (cZ, 6, .inr (.inr (.inr (.inr fZ))))), (aO, .inl (cI, 1440, .inl fO)), (aP, .inl (cI, 24, .inl fP)), (aW, .inl (cI, 1024, .inl fW)), (aK, .inl (cJ, 1024, .inr (.inl fK))), (za, .inr (1, [.int zh, .int zl, .int zf, .int zp, .int zr, .int (nI b), .int zw, .ref la, .int zs, .ref wa])), (ou, .inl (cJ, 1, .inr (.inl fU)))] sz) := by
  refine met_ofWH (cc := b_L_cheapest) (maxL := 6) (ret := (some .int)) (by decide) rfl ?_
  intro p e s m args below meth c s₁ B hml hv
  obtain ⟨rfl, hsz, hP, hK, hD0, hE, hNc⟩ := hv
  have hx := B.exec
  have hb := B.bytes
  have hr := B.returns
  have hG : ∀ w ∈ GG, w.before _ s = true := fun w h => atoms_spec (ws := w_L_cheapest) B.pre w (List.mem_cons_of_mem _ h)
  have hown : s.vm.findClass R_L = some m.cls := findClass_of_methodNamed B.named
  have hlocks := B.notSynchronized
  subst hsz
  have hD := hD0.self (sz := s.heap.size)
  generalize hAe : (va_A [(a0, .inr (2, [.ref aZ, .int (nI nz), .ref aO, .int orr, .int ol, .int mp, .ref aG, .int pl, .int fa, .int fb, .ref aP, .ref aW, .ref aK])), (aZ, .inl (cZ, 6, .inr (.inr (.inr (.inr fZ))))), (aO, .inl (cI, 1440, .inl fO)), (aP, .inl (cI, 24, .inl fP)), (aW, .inl (cI, 1024, .inl fW)), (aK, .inl (cJ, 1024, .inr (.inl fK))), (za, .inr (1, [.int zh, .int zl, .int zf, .int zp, .int zr, .int (nI b), .int zw, .ref la, .int zs, .ref wa])), (ou, .inl (cJ, 1, .inr (.inl fU)))] s.heap.size) = A at hD hE ⊢
  have hA : ∀ q : Nat, s.heap.size ≤ q → A q := fun q h => by rw [← hAe]; exact Or.inr h
  have hS : va_S A s.heap s.heap [] := va_S.rf
  obtain ⟨H, hH⟩ : ∃ z, z = s.heap := ⟨_, rfl⟩
  rw [← hH] at hP
  have hS : va_S A s.heap H [] := by rw [hH]; exact hS
  rw [← hH]
  have hl9 := lv_entry ([.ref a0, .int (nI k), .int (nI nn), .int (nI mm), .ref ou]) (n := 6) (Nat.le_of_ble_eq_true rfl)
  rw [lg_entry_eq]
  generalize (lg_sl ([.ref a0, .int (nI k), .int (nI nn), .int (nI mm), .ref ou]) ++ List.replicate (6 - (lg_sl ([.ref a0, .int (nI k), .int (nI nn), .int (nI mm), .ref ou])).length) Slot.unset).toArray = ls at hl9 ⊢
  have hl9 : lv_has ls 6 [(0, .ref a0), (1, .int (nI k)), (2, .int (nI nn)), (3, .int (nI mm)), (4, .ref ou)] := hl9
  have htab := vx_table (x := y_L_cheapest) B (atoms_spec (ws := w_L_cheapest) B.pre _ List.mem_cons_self)
  refine lv_aload hx hb d_L_cheapest_0 (lv_at hl9 4 rfl) ?_
  refine lv_iconst (v := 0) hx hb d_L_cheapest_2 (by decide) ?_
  refine lv_aload_n hx hb d_L_cheapest_3 rfl (lv_at hl9 0 rfl) ?_
  refine lv_iload_n hx hb d_L_cheapest_4 rfl (lv_at hl9 1 rfl) ?_
  refine lv_iload_n hx hb d_L_cheapest_5 rfl (lv_at hl9 2 rfl) ?_
  refine lv_iload_n hx hb d_L_cheapest_6 rfl (lv_at hl9 3 rfl) ?_
  have hPc := hP.sub (ws' := [(a0, .inr (2, [.ref aZ, .int (nI nz), .ref aO, .int orr, .int ol, .int mp, .ref aG, .int pl, .int fa, .int fb, .ref aP, .ref aW, .ref aK])), (aZ, .inl (cZ, 6, .inr (.inr (.inr (.inr fZ))))), (aO, .inl (cI, 1440, .inl fO)), (aP, .inl (cI, 24, .inl fP)), (aW, .inl (cI, 1024, .inl fW)), (aK, .inl (cJ, 1024, .inr (.inl fK))), (za, .inr (1, [.int zh, .int zl, .int zf, .int zp, .int zr, .int (nI b), .int zw, .ref la, .int zs, .ref wa]))]) [0, 1, 2, 3, 4, 5, 6] rfl
  have hDc := hD.sub (ws' := [(a0, .inr (2, [.ref aZ, .int (nI nz), .ref aO, .int orr, .int ol, .int mp, .ref aG, .int pl, .int fa, .int fb, .ref aP, .ref aW, .ref aK])), (aZ, .inl (cZ, 6, .inr (.inr (.inr (.inr fZ))))), (aO, .inl (cI, 1440, .inl fO)), (aP, .inl (cI, 24, .inl fP)), (aW, .inl (cI, 1024, .inl fW)), (aK, .inl (cJ, 1024, .inr (.inl fK))), (za, .inr (1, [.int zh, .int zl, .int zf, .int zp, .int zr, .int (nI b), .int zw, .ref la, .int zs, .ref wa]))]) [0, 1, 2, 3, 4, 5, 6] (by decide) rfl
  have hFc := va_free (wc := [(a0, .inr (2, [.ref aZ, .int (nI nz), .ref aO, .int orr, .int ol, .int mp, .ref aG, .int pl, .int fa, .int fb, .ref aP, .ref aW, .ref aK])), (aZ, .inl (cZ, 6, .inr (.inr (.inr (.inr fZ))))), (aO, .inl (cI, 1440, .inl fO)), (aP, .inl (cI, 24, .inl fP)), (aW, .inl (cI, 1024, .inl fW)), (aK, .inl (cJ, 1024, .inr (.inl fK))), (za, .inr (1, [.int zh, .int zl, .int zf, .int zp, .int zr, .int (nI b), .int zw, .ref la, .int zs, .ref wa]))]) hD hS hA [0, 1, 2, 3, 4, 5, 6] rfl
  refine va_calli (va_runV (C := R_C) (As := [.int (nI k), .int (nI nn), .int (nI mm)]) (rest := [.int 0, .ref ou]) ⟨hx, hb, hml, hown, hG⟩ (c_cheapest l dC dI cI cJ cZ cB hl a0 aZ aO aG aP aW aK zc orr ol mp pl fa fb fZ fO fP fW fK za la wa zh zl zf zp zr zm zw zs nz k b nn mm H.size hk hn hz hb1 hn1 hnn hm1 hmm hzl hzh) (cwV 3 hG g_L_65 rfl rfl rfl (by decide +kernel) ⟨Nat.le_of_ble_eq_true rfl, Nat.le_of_ble_eq_true rfl⟩) ⟨PC.blind, va_recv hK hP (ci := 2) (q0 := 0) rfl rfl, PC.of hPc hK hDc hE hS hFc⟩ rfl rfl hl9.1 rfl (lv_room (Nat.le_of_ble_eq_true rfl)) d_L_cheapest_7 ⟨by first | exact Nat.le_of_ble_eq_true rfl | omega, by first | exact Nat.le_of_ble_eq_true rfl | omega⟩) hS (fun q _ h => hFc q h) hFc (fun r2 u t H1 locs ht hvm hw hB hz1 hk1 hS => ?_)
  rw [ht] at hB
  obtain ⟨hP, hD⟩ := jset (wc := [(a0, .inr (2, [.ref aZ, .int (nI nz), .ref aO, .int orr, .int ol, .int mp, .ref aG, .int pl, .int fa, .int fb, .ref aP, .ref aW, .ref aK])), (aZ, .inl (cZ, 6, .inr (.inr (.inr (.inr fZ))))), (aO, .inl (cI, 1440, .inl fO)), (aP, .inl (cI, 24, .inl fP)), (aW, .inl (cI, 1024, .inl fW)), (aK, .inl (cJ, 1024, .inr (.inl fK))), (za, .inr (1, [.int zh, .int zl, .int zf, .int zp, .int zr, .int (nI b), .int zw, .ref la, .int zs, .ref wa]))]) (w1 := [(a0, .inr (2, [.ref aZ, .int (nI nz), .ref aO, .int orr, .int ol, .int mp, .ref aG, .int pl, .int fa, .int fb, .ref aP, .ref aW, .ref aK])), (aZ, .inl (cZ, 6, .inr (.inr (.inr (.inr fZ))))), (aO, .inl (cI, 1440, .inl fO)), (aP, .inl (cI, 24, .inl fP)), (aW, .inl (cI, 1024, .inl ((wsO fO fP zl zh zp zf b nn mm fW fK nn).1))), (aK, .inl (cJ, 1024, .inr (.inl ((wsO fO fP zl zh zp zf b nn mm fW fK nn).2)))), (za, .inr (1, [.int zh, .int zl, .int zf, .int zp, .int zr, .int (nI b), .int zw, .ref la, .int zs, .ref wa]))]) [0, 1, 2, 3, 4, 5, 6] rfl rfl hP hD hk1 hB
  have hP : va_P (dC, dI) vwCl [(a0, .inr (2, [.ref aZ, .int (nI nz), .ref aO, .int orr, .int ol, .int mp, .ref aG, .int pl, .int fa, .int fb, .ref aP, .ref aW, .ref aK])), (aZ, .inl (cZ, 6, .inr (.inr (.inr (.inr fZ))))), (aO, .inl (cI, 1440, .inl fO)), (aP, .inl (cI, 24, .inl fP)), (aW, .inl (cI, 1024, .inl ((wsO fO fP zl zh zp zf b nn mm fW fK nn).1))), (aK, .inl (cJ, 1024, .inr (.inl ((wsO fO fP zl zh zp zf b nn mm fW fK nn).2)))), (za, .inr (1, [.int zh, .int zl, .int zf, .int zp, .int zr, .int (nI b), .int zw, .ref la, .int zs, .ref wa])), (ou, .inl (cJ, 1, .inr (.inl fU)))] H1 := hP
  have hD : va_D A [(a0, .inr (2, [.ref aZ, .int (nI nz), .ref aO, .int orr, .int ol, .int mp, .ref aG, .int pl, .int fa, .int fb, .ref aP, .ref aW, .ref aK])), (aZ, .inl (cZ, 6, .inr (.inr (.inr (.inr fZ))))), (aO, .inl (cI, 1440, .inl fO)), (aP, .inl (cI, 24, .inl fP)), (aW, .inl (cI, 1024, .inl ((wsO fO fP zl zh zp zf b nn mm fW fK nn).1))), (aK, .inl (cJ, 1024, .inr (.inl ((wsO fO fP zl zh zp zf b nn mm fW fK nn).2)))), (za, .inr (1, [.int zh, .int zl, .int zf, .int zp, .int zr, .int (nI b), .int zw, .ref la, .int zs, .ref wa])), (ou, .inl (cJ, 1, .inr (.inl fU)))] := hD
  have hw : r2 = bst (wsO fO fP zl zh zp zf b nn mm fW fK nn).1 (wsO fO fP zl zh zp zf b nn mm fW fK nn).2 zw (2 ^ nn) := hw
  subst hw
  refine lv_i2l hx hb d_L_cheapest_10 rfl ?_
  refine va_last hx hb hK hP hD hS 7 1 rfl rfl (vp_in_nI (n := 0) (N := 1) (by decide) (by decide)) d_L_cheapest_11 (fun H locs hP hD hS => ?_)
  have hP : va_P (dC, dI) vwCl [(a0, .inr (2, [.ref aZ, .int (nI nz), .ref aO, .int orr, .int ol, .int mp, .ref aG, .int pl, .int fa, .int fb, .ref aP, .ref aW, .ref aK])), (aZ, .inl (cZ, 6, .inr (.inr (.inr (.inr fZ))))), (aO, .inl (cI, 1440, .inl fO)), (aP, .inl (cI, 24, .inl fP)), (aW, .inl (cI, 1024, .inl ((wsO fO fP zl zh zp zf b nn mm fW fK nn).1))), (aK, .inl (cJ, 1024, .inr (.inl ((wsO fO fP zl zh zp zf b nn mm fW fK nn).2)))), (za, .inr (1, [.int zh, .int zl, .int zf, .int zp, .int zr, .int (nI b), .int zw, .ref la, .int zs, .ref wa])), (ou, .inl (cJ, 1, .inr (.inl (vp_updL fU (0 : Int32).toNatClampNeg ((bst (wsO fO fP zl zh zp zf b nn mm fW fK nn).1 (wsO fO fP zl zh zp zf b nn mm fW fK nn).2 zw (2 ^ nn)).toInt64)))))] H := hP
  have hD : va_D A [(a0, .inr (2, [.ref aZ, .int (nI nz), .ref aO, .int orr, .int ol, .int mp, .ref aG, .int pl, .int fa, .int fb, .ref aP, .ref aW, .ref aK])), (aZ, .inl (cZ, 6, .inr (.inr (.inr (.inr fZ))))), (aO, .inl (cI, 1440, .inl fO)), (aP, .inl (cI, 24, .inl fP)), (aW, .inl (cI, 1024, .inl ((wsO fO fP zl zh zp zf b nn mm fW fK nn).1))), (aK, .inl (cJ, 1024, .inr (.inl ((wsO fO fP zl zh zp zf b nn mm fW fK nn).2)))), (za, .inr (1, [.int zh, .int zl, .int zf, .int zp, .int zr, .int (nI b), .int zw, .ref la, .int zs, .ref wa])), (ou, .inl (cJ, 1, .inr (.inl (vp_updL fU (0 : Int32).toNatClampNeg ((bst (wsO fO fP zl zh zp zf b nn mm fW fK nn).1 (wsO fO fP zl zh zp zf b nn mm fW fK nn).2 zw (2 ^ nn)).toInt64)))))] := hD
  refine lv_goto (tgt := 23) hx hb d_L_cheapest_12 (by decide) ?_
  refine lv_iconst (v := 0) hx hb d_L_cheapest_23 (by decide) ?_
  exact W.iret (v := 0) hx hb hr (fun t ht hW => ⟨⟨0, (), rfl, rfl, by have h9 := hP; rw [← ht] at h9; exact h9⟩, hS.F ht⟩) hS.2.2 d_L_cheapest_24
set_option maxHeartbeats 4000000 in
set_option maxRecDepth 100000 in
theorem l_cheapestX (l : Launch) (dC : Nat → ClassId) (dI : Nat → Nat → Nat) (cI cJ cZ cB : ClassId) (hl : l.stackTraces = false) (a0 aZ aO aG aP aW aK : Nat) (zc orr ol mp pl fa fb : Int32) (fZ : Nat → Option Nat) (nz : Nat) (x : Int32) (y z : Int32) (ou : Nat) (fU : Nat → Int64) (sz : Nat) (hx0 : x < 0 ∨ nI nz ≤ x) : Met l y_L_cheapest w_L_cheapest ({ frames := 8, cells := 1, slots := 6, locals := 130 }) (PCL (dC, dI) (TY cI cJ cZ cB) [.ref a0, .int x, .int y, .int z, .ref ou] [(a0, .inr (2, [.ref aZ, .int (nI nz), .ref aO, .int orr, .int ol, .int mp, .ref aG, .int pl, .int fa, .int fb, .ref aP, .ref aW, .ref aK])), (aZ, .inl (cZ, 6, .inr (.inr (.inr (.inr fZ))))), (ou, .inl (cJ, 1, .inr (.inl fU)))] sz (va_A [(a0, .inr (2, [.ref aZ, .int (nI nz), .ref aO, .int orr, .int ol, .int mp, .ref aG, .int pl, .int fa, .int fb, .ref aP, .ref aW, .ref aK])), (aZ, .inl (cZ, 6, .inr (.inr (.inr (.inr fZ))))), (ou, .inl (cJ, 1, .inr (.inl fU)))] sz)) (va_Qi (fun (r : Int32) (_ : Unit) => r = 1) (fun (_ : Unit) (t : State) => va_P (dC, dI) vwCl [(a0, .inr (2, [.ref aZ, .int (nI nz), .ref aO, .int orr, .int ol, .int mp, .ref aG, .int pl, .int fa, .int fb, .ref aP, .ref aW, .ref aK])), (aZ, .inl (cZ, 6, .inr (.inr (.inr (.inr fZ))))), (ou, .inl (cJ, 1, .inr (.inl fU)))] t.heap) (va_A [(a0, .inr (2, [.ref aZ, .int (nI nz), .ref aO, .int orr, .int ol, .int mp, .ref aG, .int pl, .int fa, .int fb, .ref aP, .ref aW, .ref aK])), (aZ, .inl (cZ, 6, .inr (.inr (.inr (.inr fZ))))), (ou, .inl (cJ, 1, .inr (.inl fU)))] sz)) 1 6 (va_A [(a0, .inr (2, [.ref aZ, .int (nI nz), .ref aO, .int orr, .int ol, .int mp, .ref aG, .int pl, .int fa, .int fb, .ref aP, .ref aW, .ref aK])), (aZ, .inl (cZ, 6, .inr (.inr (.inr (.inr fZ))))), (ou, .inl (cJ, 1, .inr (.inl fU)))] sz) := by
  refine met_ofWH (cc := b_L_cheapest) (maxL := 6) (ret := (some .int)) (by decide) rfl ?_
  intro p e s m args below meth c s₁ B hml hv
  obtain ⟨rfl, hsz, hP, hK, hD0, hE, hNc⟩ := hv
  have hx := B.exec
  have hb := B.bytes
  have hr := B.returns
  have hG : ∀ w ∈ GG, w.before _ s = true := fun w h => atoms_spec (ws := w_L_cheapest) B.pre w (List.mem_cons_of_mem _ h)
  have hown : s.vm.findClass R_L = some m.cls := findClass_of_methodNamed B.named
  have hlocks := B.notSynchronized
  subst hsz
  have hD := hD0.self (sz := s.heap.size)
  generalize hAe : (va_A [(a0, .inr (2, [.ref aZ, .int (nI nz), .ref aO, .int orr, .int ol, .int mp, .ref aG, .int pl, .int fa, .int fb, .ref aP, .ref aW, .ref aK])), (aZ, .inl (cZ, 6, .inr (.inr (.inr (.inr fZ))))), (ou, .inl (cJ, 1, .inr (.inl fU)))] s.heap.size) = A at hD hE ⊢
  have hA : ∀ q : Nat, s.heap.size ≤ q → A q := fun q h => by rw [← hAe]; exact Or.inr h
  have hS : va_S A s.heap s.heap [] := va_S.rf
  obtain ⟨H, hH⟩ : ∃ z, z = s.heap := ⟨_, rfl⟩
  rw [← hH] at hP
  have hS : va_S A s.heap H [] := by rw [hH]; exact hS
  rw [← hH]
  have hl9 := lv_entry ([.ref a0, .int x, .int y, .int z, .ref ou]) (n := 6) (Nat.le_of_ble_eq_true rfl)
  rw [lg_entry_eq]
  generalize (lg_sl ([.ref a0, .int x, .int y, .int z, .ref ou]) ++ List.replicate (6 - (lg_sl ([.ref a0, .int x, .int y, .int z, .ref ou])).length) Slot.unset).toArray = ls at hl9 ⊢
  have hl9 : lv_has ls 6 [(0, .ref a0), (1, .int x), (2, .int y), (3, .int z), (4, .ref ou)] := hl9
  have htab := vx_table (x := y_L_cheapest) B (atoms_spec (ws := w_L_cheapest) B.pre _ List.mem_cons_self)
  refine lv_aload hx hb d_L_cheapest_0 (lv_at hl9 4 rfl) ?_
  refine lv_iconst (v := 0) hx hb d_L_cheapest_2 (by decide) ?_
  refine lv_aload_n hx hb d_L_cheapest_3 rfl (lv_at hl9 0 rfl) ?_
  refine lv_iload_n hx hb d_L_cheapest_4 rfl (lv_at hl9 1 rfl) ?_
  refine lv_iload_n hx hb d_L_cheapest_5 rfl (lv_at hl9 2 rfl) ?_
  refine lv_iload_n hx hb d_L_cheapest_6 rfl (lv_at hl9 3 rfl) ?_
  have hPc := hP.sub (ws' := [(a0, .inr (2, [.ref aZ, .int (nI nz), .ref aO, .int orr, .int ol, .int mp, .ref aG, .int pl, .int fa, .int fb, .ref aP, .ref aW, .ref aK])), (aZ, .inl (cZ, 6, .inr (.inr (.inr (.inr fZ)))))]) [0, 1] rfl
  have hDc := hD.sub (ws' := [(a0, .inr (2, [.ref aZ, .int (nI nz), .ref aO, .int orr, .int ol, .int mp, .ref aG, .int pl, .int fa, .int fb, .ref aP, .ref aW, .ref aK])), (aZ, .inl (cZ, 6, .inr (.inr (.inr (.inr fZ)))))]) [0, 1] (by decide) rfl
  have hFc := va_A_nil hA hS.1
  refine vx_calli (vx_runV (C := R_C) (As := [.int x, .int y, .int z]) (rest := [.int 0, .ref ou]) ⟨hx, hb, hml, hown, hG⟩ (c_cheapestX l dC dI cI cJ cZ cB hl a0 aZ aO aG aP aW aK zc orr ol mp pl fa fb fZ nz x y z H.size hx0) (cwV 3 hG g_L_65 rfl rfl rfl (by decide +kernel) ⟨Nat.le_of_ble_eq_true rfl, Nat.le_of_ble_eq_true rfl⟩) ⟨PC.blind, va_recv hK hP (ci := 2) (q0 := 0) rfl rfl, PC.of hPc hK hDc hE hS hFc⟩ rfl rfl hl9.1 rfl (lv_room (Nat.le_of_ble_eq_true rfl)) d_L_cheapest_7 ⟨by first | exact Nat.le_of_ble_eq_true rfl | omega, by first | exact Nat.le_of_ble_eq_true rfl | omega⟩) hS (fun q _ h => hFc q h) hFc (fun q _ h => hFc q h) (fun E ce q9 u t H1 locs ht hvm hpx hB hz1 hk1 hS hce hcv hcl => ?_) (fun r2 u t H1 locs ht hvm hw hB hz1 hk1 hS => ?_)
  · have hE9 : E = "java/lang/IllegalArgumentException" := hB
    have hP := wp_kept hP hk1
    have hP : va_P (dC, dI) vwCl [(a0, .inr (2, [.ref aZ, .int (nI nz), .ref aO, .int orr, .int ol, .int mp, .ref aG, .int pl, .int fa, .int fb, .ref aP, .ref aW, .ref aK])), (aZ, .inl (cZ, 6, .inr (.inr (.inr (.inr fZ))))), (ou, .inl (cJ, 1, .inr (.inl fU)))] H1 := hP
    have hD : va_D A [(a0, .inr (2, [.ref aZ, .int (nI nz), .ref aO, .int orr, .int ol, .int mp, .ref aG, .int pl, .int fa, .int fb, .ref aP, .ref aW, .ref aK])), (aZ, .inl (cZ, 6, .inr (.inr (.inr (.inr fZ))))), (ou, .inl (cJ, 1, .inr (.inl fU)))] := hD
    subst hE9
    refine vx_catch (own := R_L) (name := "java/lang/IllegalArgumentException") hown [] ⟨0, 12, 15, 13⟩ [⟨0, 12, 19, 15⟩] htab (fun z hz => by simp at hz) (by decide) (by decide) (hG _ k_67) (hE.1.use k_78) hce hcv hcl ?_
    refine lv_astore (lv' := [(5, .ref q9), (0, .ref a0), (1, .int x), (2, .int y), (3, .int z), (4, .ref ou)]) hx hb d_L_cheapest_15 hl9 (by decide) rfl (fun ls hl9 => ?_)
    refine lv_iconst (v := 1) hx hb d_L_cheapest_17 (by decide) ?_
    exact W.iret (v := 1) hx hb hr (fun t ht hW => ⟨⟨1, (), rfl, rfl, by have h9 := hP; rw [← ht] at h9; exact h9⟩, hS.F ht⟩) hS.2.2 d_L_cheapest_18
  have hw := hw
  exact hw.elim
set_option maxHeartbeats 4000000 in
set_option maxRecDepth 100000 in
theorem l_cheapestY (l : Launch) (dC : Nat → ClassId) (dI : Nat → Nat → Nat) (cI cJ cZ cB : ClassId) (hl : l.stackTraces = false) (a0 aZ aO aG aP aW aK : Nat) (zc orr ol mp pl fa fb : Int32) (fZ : Nat → Option Nat) (za la wa : Nat) (zh zl zf zp zr zm zw zs : Int32) (nz k : Nat) (x y : Int32) (ou : Nat) (fU : Nat → Int64) (sz : Nat) (hk : k < nz) (hn : nz ≤ 6) (hz : fZ k = some za) (hbad : ((x < 1 ∨ 10 < x) ∨ (y < 1 ∨ 30 < y)) ∨ zm = -1) (hq0 : ((x < 1 ∨ 10 < x) ∨ (y < 1 ∨ 30 < y))) : Met l y_L_cheapest w_L_cheapest ({ frames := 9, cells := 3, slots := 18, locals := 152 }) (PCL (dC, dI) (TY cI cJ cZ cB) [.ref a0, .int (nI k), .int x, .int y, .ref ou] [(a0, .inr (2, [.ref aZ, .int (nI nz), .ref aO, .int orr, .int ol, .int mp, .ref aG, .int pl, .int fa, .int fb, .ref aP, .ref aW, .ref aK])), (aZ, .inl (cZ, 6, .inr (.inr (.inr (.inr fZ))))), (za, .inr (1, [.int zh, .int zl, .int zf, .int zp, .int zr, .int zm, .int zw, .ref la, .int zs, .ref wa])), (ou, .inl (cJ, 1, .inr (.inl fU)))] sz (va_A [(a0, .inr (2, [.ref aZ, .int (nI nz), .ref aO, .int orr, .int ol, .int mp, .ref aG, .int pl, .int fa, .int fb, .ref aP, .ref aW, .ref aK])), (aZ, .inl (cZ, 6, .inr (.inr (.inr (.inr fZ))))), (za, .inr (1, [.int zh, .int zl, .int zf, .int zp, .int zr, .int zm, .int zw, .ref la, .int zs, .ref wa])), (ou, .inl (cJ, 1, .inr (.inl fU)))] sz)) (va_Qi (fun (r : Int32) (_ : Unit) => r = 1) (fun (_ : Unit) (t : State) => va_P (dC, dI) vwCl [(a0, .inr (2, [.ref aZ, .int (nI nz), .ref aO, .int orr, .int ol, .int mp, .ref aG, .int pl, .int fa, .int fb, .ref aP, .ref aW, .ref aK])), (aZ, .inl (cZ, 6, .inr (.inr (.inr (.inr fZ))))), (za, .inr (1, [.int zh, .int zl, .int zf, .int zp, .int zr, .int zm, .int zw, .ref la, .int zs, .ref wa])), (ou, .inl (cJ, 1, .inr (.inl fU)))] t.heap) (va_A [(a0, .inr (2, [.ref aZ, .int (nI nz), .ref aO, .int orr, .int ol, .int mp, .ref aG, .int pl, .int fa, .int fb, .ref aP, .ref aW, .ref aK])), (aZ, .inl (cZ, 6, .inr (.inr (.inr (.inr fZ))))), (za, .inr (1, [.int zh, .int zl, .int zf, .int zp, .int zr, .int zm, .int zw, .ref la, .int zs, .ref wa])), (ou, .inl (cJ, 1, .inr (.inl fU)))] sz)) 3 18 (va_A [(a0, .inr (2, [.ref aZ, .int (nI nz), .ref aO, .int orr, .int ol, .int mp, .ref aG, .int pl, .int fa, .int fb, .ref aP, .ref aW, .ref aK])), (aZ, .inl (cZ, 6, .inr (.inr (.inr (.inr fZ))))), (za, .inr (1, [.int zh, .int zl, .int zf, .int zp, .int zr, .int zm, .int zw, .ref la, .int zs, .ref wa])), (ou, .inl (cJ, 1, .inr (.inl fU)))] sz) := by
  refine met_ofWH (cc := b_L_cheapest) (maxL := 6) (ret := (some .int)) (by decide) rfl ?_
  intro p e s m args below meth c s₁ B hml hv
  obtain ⟨rfl, hsz, hP, hK, hD0, hE, hNc⟩ := hv
  have hx := B.exec
  have hb := B.bytes
  have hr := B.returns
  have hG : ∀ w ∈ GG, w.before _ s = true := fun w h => atoms_spec (ws := w_L_cheapest) B.pre w (List.mem_cons_of_mem _ h)
  have hown : s.vm.findClass R_L = some m.cls := findClass_of_methodNamed B.named
  have hlocks := B.notSynchronized
  subst hsz
  have hD := hD0.self (sz := s.heap.size)
  generalize hAe : (va_A [(a0, .inr (2, [.ref aZ, .int (nI nz), .ref aO, .int orr, .int ol, .int mp, .ref aG, .int pl, .int fa, .int fb, .ref aP, .ref aW, .ref aK])), (aZ, .inl (cZ, 6, .inr (.inr (.inr (.inr fZ))))), (za, .inr (1, [.int zh, .int zl, .int zf, .int zp, .int zr, .int zm, .int zw, .ref la, .int zs, .ref wa])), (ou, .inl (cJ, 1, .inr (.inl fU)))] s.heap.size) = A at hD hE ⊢
  have hA : ∀ q : Nat, s.heap.size ≤ q → A q := fun q h => by rw [← hAe]; exact Or.inr h
  have hS : va_S A s.heap s.heap [] := va_S.rf
  obtain ⟨H, hH⟩ : ∃ z, z = s.heap := ⟨_, rfl⟩
  rw [← hH] at hP
  have hS : va_S A s.heap H [] := by rw [hH]; exact hS
  rw [← hH]
  have hl9 := lv_entry ([.ref a0, .int (nI k), .int x, .int y, .ref ou]) (n := 6) (Nat.le_of_ble_eq_true rfl)
  rw [lg_entry_eq]
  generalize (lg_sl ([.ref a0, .int (nI k), .int x, .int y, .ref ou]) ++ List.replicate (6 - (lg_sl ([.ref a0, .int (nI k), .int x, .int y, .ref ou])).length) Slot.unset).toArray = ls at hl9 ⊢
  have hl9 : lv_has ls 6 [(0, .ref a0), (1, .int (nI k)), (2, .int x), (3, .int y), (4, .ref ou)] := hl9
  have htab := vx_table (x := y_L_cheapest) B (atoms_spec (ws := w_L_cheapest) B.pre _ List.mem_cons_self)
  refine lv_aload hx hb d_L_cheapest_0 (lv_at hl9 4 rfl) ?_
  refine lv_iconst (v := 0) hx hb d_L_cheapest_2 (by decide) ?_
  refine lv_aload_n hx hb d_L_cheapest_3 rfl (lv_at hl9 0 rfl) ?_
  refine lv_iload_n hx hb d_L_cheapest_4 rfl (lv_at hl9 1 rfl) ?_
  refine lv_iload_n hx hb d_L_cheapest_5 rfl (lv_at hl9 2 rfl) ?_
  refine lv_iload_n hx hb d_L_cheapest_6 rfl (lv_at hl9 3 rfl) ?_
  have hPc := hP.sub (ws' := [(a0, .inr (2, [.ref aZ, .int (nI nz), .ref aO, .int orr, .int ol, .int mp, .ref aG, .int pl, .int fa, .int fb, .ref aP, .ref aW, .ref aK])), (aZ, .inl (cZ, 6, .inr (.inr (.inr (.inr fZ))))), (za, .inr (1, [.int zh, .int zl, .int zf, .int zp, .int zr, .int zm, .int zw, .ref la, .int zs, .ref wa]))]) [0, 1, 2] rfl
  have hDc := hD.sub (ws' := [(a0, .inr (2, [.ref aZ, .int (nI nz), .ref aO, .int orr, .int ol, .int mp, .ref aG, .int pl, .int fa, .int fb, .ref aP, .ref aW, .ref aK])), (aZ, .inl (cZ, 6, .inr (.inr (.inr (.inr fZ))))), (za, .inr (1, [.int zh, .int zl, .int zf, .int zp, .int zr, .int zm, .int zw, .ref la, .int zs, .ref wa]))]) [0, 1, 2] (by decide) rfl
  have hFc := va_A_nil hA hS.1
  refine vx_calli (vx_runV (C := R_C) (As := [.int (nI k), .int x, .int y]) (rest := [.int 0, .ref ou]) ⟨hx, hb, hml, hown, hG⟩ (c_cheapestT l dC dI cI cJ cZ cB hl a0 aZ aO aG aP aW aK zc orr ol mp pl fa fb fZ za la wa zh zl zf zp zr zm zw zs nz k x y H.size hk hn hz hbad) (cwV 3 hG g_L_65 rfl rfl rfl (by decide +kernel) ⟨Nat.le_of_ble_eq_true rfl, Nat.le_of_ble_eq_true rfl⟩) ⟨PC.blind, va_recv hK hP (ci := 2) (q0 := 0) rfl rfl, PC.of hPc hK hDc hE hS hFc⟩ rfl rfl hl9.1 rfl (lv_room (Nat.le_of_ble_eq_true rfl)) d_L_cheapest_7 ⟨by first | exact Nat.le_of_ble_eq_true rfl | omega, by first | exact Nat.le_of_ble_eq_true rfl | omega⟩) hS (fun q _ h => hFc q h) hFc (fun q _ h => hFc q h) (fun E ce q9 u t H1 locs ht hvm hpx hB hz1 hk1 hS hce hcv hcl => ?_) (fun r2 u t H1 locs ht hvm hw hB hz1 hk1 hS => ?_)
  · have hE9 : E = "java/lang/IllegalArgumentException" := hB.elim (fun h => h.1) (fun h => absurd hq0 h.2.1)
    have hP := wp_kept hP hk1
    have hP : va_P (dC, dI) vwCl [(a0, .inr (2, [.ref aZ, .int (nI nz), .ref aO, .int orr, .int ol, .int mp, .ref aG, .int pl, .int fa, .int fb, .ref aP, .ref aW, .ref aK])), (aZ, .inl (cZ, 6, .inr (.inr (.inr (.inr fZ))))), (za, .inr (1, [.int zh, .int zl, .int zf, .int zp, .int zr, .int zm, .int zw, .ref la, .int zs, .ref wa])), (ou, .inl (cJ, 1, .inr (.inl fU)))] H1 := hP
    have hD : va_D A [(a0, .inr (2, [.ref aZ, .int (nI nz), .ref aO, .int orr, .int ol, .int mp, .ref aG, .int pl, .int fa, .int fb, .ref aP, .ref aW, .ref aK])), (aZ, .inl (cZ, 6, .inr (.inr (.inr (.inr fZ))))), (za, .inr (1, [.int zh, .int zl, .int zf, .int zp, .int zr, .int zm, .int zw, .ref la, .int zs, .ref wa])), (ou, .inl (cJ, 1, .inr (.inl fU)))] := hD
    subst hE9
    refine vx_catch (own := R_L) (name := "java/lang/IllegalArgumentException") hown [] ⟨0, 12, 15, 13⟩ [⟨0, 12, 19, 15⟩] htab (fun z hz => by simp at hz) (by decide) (by decide) (hG _ k_67) (hE.1.use k_78) hce hcv hcl ?_
    refine lv_astore (lv' := [(5, .ref q9), (0, .ref a0), (1, .int (nI k)), (2, .int x), (3, .int y), (4, .ref ou)]) hx hb d_L_cheapest_15 hl9 (by decide) rfl (fun ls hl9 => ?_)
    refine lv_iconst (v := 1) hx hb d_L_cheapest_17 (by decide) ?_
    exact W.iret (v := 1) hx hb hr (fun t ht hW => ⟨⟨1, (), rfl, rfl, by have h9 := hP; rw [← ht] at h9; exact h9⟩, hS.F ht⟩) hS.2.2 d_L_cheapest_18
  have hw := hw
  exact hw.elim
set_option maxHeartbeats 4000000 in
set_option maxRecDepth 100000 in
theorem l_cheapestZ (l : Launch) (dC : Nat → ClassId) (dI : Nat → Nat → Nat) (cI cJ cZ cB : ClassId) (hl : l.stackTraces = false) (a0 aZ aO aG aP aW aK : Nat) (zc orr ol mp pl fa fb : Int32) (fZ : Nat → Option Nat) (za la wa : Nat) (zh zl zf zp zr zm zw zs : Int32) (nz k : Nat) (x y : Int32) (ou : Nat) (fU : Nat → Int64) (sz : Nat) (hk : k < nz) (hn : nz ≤ 6) (hz : fZ k = some za) (hbad : ((x < 1 ∨ 10 < x) ∨ (y < 1 ∨ 30 < y)) ∨ zm = -1) (hq0 : ¬ ((x < 1 ∨ 10 < x) ∨ (y < 1 ∨ 30 < y))) : Met l y_L_cheapest w_L_cheapest ({ frames := 9, cells := 3, slots := 18, locals := 152 }) (PCL (dC, dI) (TY cI cJ cZ cB) [.ref a0, .int (nI k), .int x, .int y, .ref ou] [(a0, .inr (2, [.ref aZ, .int (nI nz), .ref aO, .int orr, .int ol, .int mp, .ref aG, .int pl, .int fa, .int fb, .ref aP, .ref aW, .ref aK])), (aZ, .inl (cZ, 6, .inr (.inr (.inr (.inr fZ))))), (za, .inr (1, [.int zh, .int zl, .int zf, .int zp, .int zr, .int zm, .int zw, .ref la, .int zs, .ref wa])), (ou, .inl (cJ, 1, .inr (.inl fU)))] sz (va_A [(a0, .inr (2, [.ref aZ, .int (nI nz), .ref aO, .int orr, .int ol, .int mp, .ref aG, .int pl, .int fa, .int fb, .ref aP, .ref aW, .ref aK])), (aZ, .inl (cZ, 6, .inr (.inr (.inr (.inr fZ))))), (za, .inr (1, [.int zh, .int zl, .int zf, .int zp, .int zr, .int zm, .int zw, .ref la, .int zs, .ref wa])), (ou, .inl (cJ, 1, .inr (.inl fU)))] sz)) (va_Qi (fun (r : Int32) (_ : Unit) => r = 2) (fun (_ : Unit) (t : State) => va_P (dC, dI) vwCl [(a0, .inr (2, [.ref aZ, .int (nI nz), .ref aO, .int orr, .int ol, .int mp, .ref aG, .int pl, .int fa, .int fb, .ref aP, .ref aW, .ref aK])), (aZ, .inl (cZ, 6, .inr (.inr (.inr (.inr fZ))))), (za, .inr (1, [.int zh, .int zl, .int zf, .int zp, .int zr, .int zm, .int zw, .ref la, .int zs, .ref wa])), (ou, .inl (cJ, 1, .inr (.inl fU)))] t.heap) (va_A [(a0, .inr (2, [.ref aZ, .int (nI nz), .ref aO, .int orr, .int ol, .int mp, .ref aG, .int pl, .int fa, .int fb, .ref aP, .ref aW, .ref aK])), (aZ, .inl (cZ, 6, .inr (.inr (.inr (.inr fZ))))), (za, .inr (1, [.int zh, .int zl, .int zf, .int zp, .int zr, .int zm, .int zw, .ref la, .int zs, .ref wa])), (ou, .inl (cJ, 1, .inr (.inl fU)))] sz)) 3 18 (va_A [(a0, .inr (2, [.ref aZ, .int (nI nz), .ref aO, .int orr, .int ol, .int mp, .ref aG, .int pl, .int fa, .int fb, .ref aP, .ref aW, .ref aK])), (aZ, .inl (cZ, 6, .inr (.inr (.inr (.inr fZ))))), (za, .inr (1, [.int zh, .int zl, .int zf, .int zp, .int zr, .int zm, .int zw, .ref la, .int zs, .ref wa])), (ou, .inl (cJ, 1, .inr (.inl fU)))] sz) := by
  refine met_ofWH (cc := b_L_cheapest) (maxL := 6) (ret := (some .int)) (by decide) rfl ?_
  intro p e s m args below meth c s₁ B hml hv
  obtain ⟨rfl, hsz, hP, hK, hD0, hE, hNc⟩ := hv
  have hx := B.exec
  have hb := B.bytes
  have hr := B.returns
  have hG : ∀ w ∈ GG, w.before _ s = true := fun w h => atoms_spec (ws := w_L_cheapest) B.pre w (List.mem_cons_of_mem _ h)
  have hown : s.vm.findClass R_L = some m.cls := findClass_of_methodNamed B.named
  have hlocks := B.notSynchronized
  subst hsz
  have hD := hD0.self (sz := s.heap.size)
  generalize hAe : (va_A [(a0, .inr (2, [.ref aZ, .int (nI nz), .ref aO, .int orr, .int ol, .int mp, .ref aG, .int pl, .int fa, .int fb, .ref aP, .ref aW, .ref aK])), (aZ, .inl (cZ, 6, .inr (.inr (.inr (.inr fZ))))), (za, .inr (1, [.int zh, .int zl, .int zf, .int zp, .int zr, .int zm, .int zw, .ref la, .int zs, .ref wa])), (ou, .inl (cJ, 1, .inr (.inl fU)))] s.heap.size) = A at hD hE ⊢
  have hA : ∀ q : Nat, s.heap.size ≤ q → A q := fun q h => by rw [← hAe]; exact Or.inr h
  have hS : va_S A s.heap s.heap [] := va_S.rf
  obtain ⟨H, hH⟩ : ∃ z, z = s.heap := ⟨_, rfl⟩
  rw [← hH] at hP
  have hS : va_S A s.heap H [] := by rw [hH]; exact hS
  rw [← hH]
  have hl9 := lv_entry ([.ref a0, .int (nI k), .int x, .int y, .ref ou]) (n := 6) (Nat.le_of_ble_eq_true rfl)
  rw [lg_entry_eq]
  generalize (lg_sl ([.ref a0, .int (nI k), .int x, .int y, .ref ou]) ++ List.replicate (6 - (lg_sl ([.ref a0, .int (nI k), .int x, .int y, .ref ou])).length) Slot.unset).toArray = ls at hl9 ⊢
  have hl9 : lv_has ls 6 [(0, .ref a0), (1, .int (nI k)), (2, .int x), (3, .int y), (4, .ref ou)] := hl9
  have htab := vx_table (x := y_L_cheapest) B (atoms_spec (ws := w_L_cheapest) B.pre _ List.mem_cons_self)
  refine lv_aload hx hb d_L_cheapest_0 (lv_at hl9 4 rfl) ?_
  refine lv_iconst (v := 0) hx hb d_L_cheapest_2 (by decide) ?_
  refine lv_aload_n hx hb d_L_cheapest_3 rfl (lv_at hl9 0 rfl) ?_
  refine lv_iload_n hx hb d_L_cheapest_4 rfl (lv_at hl9 1 rfl) ?_
  refine lv_iload_n hx hb d_L_cheapest_5 rfl (lv_at hl9 2 rfl) ?_
  refine lv_iload_n hx hb d_L_cheapest_6 rfl (lv_at hl9 3 rfl) ?_
  have hPc := hP.sub (ws' := [(a0, .inr (2, [.ref aZ, .int (nI nz), .ref aO, .int orr, .int ol, .int mp, .ref aG, .int pl, .int fa, .int fb, .ref aP, .ref aW, .ref aK])), (aZ, .inl (cZ, 6, .inr (.inr (.inr (.inr fZ))))), (za, .inr (1, [.int zh, .int zl, .int zf, .int zp, .int zr, .int zm, .int zw, .ref la, .int zs, .ref wa]))]) [0, 1, 2] rfl
  have hDc := hD.sub (ws' := [(a0, .inr (2, [.ref aZ, .int (nI nz), .ref aO, .int orr, .int ol, .int mp, .ref aG, .int pl, .int fa, .int fb, .ref aP, .ref aW, .ref aK])), (aZ, .inl (cZ, 6, .inr (.inr (.inr (.inr fZ))))), (za, .inr (1, [.int zh, .int zl, .int zf, .int zp, .int zr, .int zm, .int zw, .ref la, .int zs, .ref wa]))]) [0, 1, 2] (by decide) rfl
  have hFc := va_A_nil hA hS.1
  refine vx_calli (vx_runV (C := R_C) (As := [.int (nI k), .int x, .int y]) (rest := [.int 0, .ref ou]) ⟨hx, hb, hml, hown, hG⟩ (c_cheapestT l dC dI cI cJ cZ cB hl a0 aZ aO aG aP aW aK zc orr ol mp pl fa fb fZ za la wa zh zl zf zp zr zm zw zs nz k x y H.size hk hn hz hbad) (cwV 3 hG g_L_65 rfl rfl rfl (by decide +kernel) ⟨Nat.le_of_ble_eq_true rfl, Nat.le_of_ble_eq_true rfl⟩) ⟨PC.blind, va_recv hK hP (ci := 2) (q0 := 0) rfl rfl, PC.of hPc hK hDc hE hS hFc⟩ rfl rfl hl9.1 rfl (lv_room (Nat.le_of_ble_eq_true rfl)) d_L_cheapest_7 ⟨by first | exact Nat.le_of_ble_eq_true rfl | omega, by first | exact Nat.le_of_ble_eq_true rfl | omega⟩) hS (fun q _ h => hFc q h) hFc (fun q _ h => hFc q h) (fun E ce q9 u t H1 locs ht hvm hpx hB hz1 hk1 hS hce hcv hcl => ?_) (fun r2 u t H1 locs ht hvm hw hB hz1 hk1 hS => ?_)
  · have hE9 : E = "java/lang/IllegalStateException" := hB.elim (fun h => absurd h.2 hq0) (fun h => h.1)
    have hP := wp_kept hP hk1
    have hP : va_P (dC, dI) vwCl [(a0, .inr (2, [.ref aZ, .int (nI nz), .ref aO, .int orr, .int ol, .int mp, .ref aG, .int pl, .int fa, .int fb, .ref aP, .ref aW, .ref aK])), (aZ, .inl (cZ, 6, .inr (.inr (.inr (.inr fZ))))), (za, .inr (1, [.int zh, .int zl, .int zf, .int zp, .int zr, .int zm, .int zw, .ref la, .int zs, .ref wa])), (ou, .inl (cJ, 1, .inr (.inl fU)))] H1 := hP
    have hD : va_D A [(a0, .inr (2, [.ref aZ, .int (nI nz), .ref aO, .int orr, .int ol, .int mp, .ref aG, .int pl, .int fa, .int fb, .ref aP, .ref aW, .ref aK])), (aZ, .inl (cZ, 6, .inr (.inr (.inr (.inr fZ))))), (za, .inr (1, [.int zh, .int zl, .int zf, .int zp, .int zr, .int zm, .int zw, .ref la, .int zs, .ref wa])), (ou, .inl (cJ, 1, .inr (.inl fU)))] := hD
    subst hE9
    refine vx_catch (own := R_L) (name := "java/lang/IllegalStateException") hown [⟨0, 12, 15, 13⟩] ⟨0, 12, 19, 15⟩ [] htab (fun z hz => by simp only [List.mem_singleton] at hz; subst hz; exact Or.inr ⟨by decide, "java/lang/IllegalArgumentException", hG _ k_67, hNc⟩) (by decide) (by decide) (hG _ k_68) (hE.1.use k_145) hce hcv hcl ?_
    refine lv_astore (lv' := [(5, .ref q9), (0, .ref a0), (1, .int (nI k)), (2, .int x), (3, .int y), (4, .ref ou)]) hx hb d_L_cheapest_19 hl9 (by decide) rfl (fun ls hl9 => ?_)
    refine lv_iconst (v := 2) hx hb d_L_cheapest_21 (by decide) ?_
    exact W.iret (v := 2) hx hb hr (fun t ht hW => ⟨⟨2, (), rfl, rfl, by have h9 := hP; rw [← ht] at h9; exact h9⟩, hS.F ht⟩) hS.2.2 d_L_cheapest_22
  have hw := hw
  exact hw.elim
set_option maxHeartbeats 4000000 in
set_option maxRecDepth 100000 in
theorem l_costs (l : Launch) (dC : Nat → ClassId) (dI : Nat → Nat → Nat) (cI cJ cZ cB : ClassId) (hl : l.stackTraces = false) (a0 aZ aO aG aP aW aK : Nat) (zc orr ol mp pl fa fb : Int32) (fZ : Nat → Option Nat) (fO fP : Nat → Int32) (za la wa : Nat) (zh zl zf zp zr zm zw zs : Int32) (nz k b nn mm S : Nat) (ou : Nat) (fU : Nat → Int64) (sz : Nat) (hk : k < nz) (hn : nz ≤ 6) (hz : fZ k = some za) (hb1 : b < 1440) (hn1 : 1 ≤ nn) (hnn : nn ≤ 10) (hm1 : 1 ≤ mm) (hmm : mm ≤ 30) (hzl : ¬ zl = 0) (hzh : ¬ zh = 0) (hS2 : S < 2 ^ nn) : Met l y_L_costs w_L_costs ({ frames := 9, cells := 4, slots := 24, locals := 157 }) (PCL (dC, dI) (TY cI cJ cZ cB) [.ref a0, .int (nI k), .int (nI nn), .int (nI mm), .int (nI S), .ref ou] [(a0, .inr (2, [.ref aZ, .int (nI nz), .ref aO, .int orr, .int ol, .int mp, .ref aG, .int pl, .int fa, .int fb, .ref aP, .ref aW, .ref aK])), (aZ, .inl (cZ, 6, .inr (.inr (.inr (.inr fZ))))), (aO, .inl (cI, 1440, .inl fO)), (aP, .inl (cI, 24, .inl fP)), (za, .inr (1, [.int zh, .int zl, .int zf, .int zp, .int zr, .int (nI b), .int zw, .ref la, .int zs, .ref wa])), (ou, .inl (cJ, 1, .inr (.inl fU)))] sz (va_A [(a0, .inr (2, [.ref aZ, .int (nI nz), .ref aO, .int orr, .int ol, .int mp, .ref aG, .int pl, .int fa, .int fb, .ref aP, .ref aW, .ref aK])), (aZ, .inl (cZ, 6, .inr (.inr (.inr (.inr fZ))))), (aO, .inl (cI, 1440, .inl fO)), (aP, .inl (cI, 24, .inl fP)), (za, .inr (1, [.int zh, .int zl, .int zf, .int zp, .int zr, .int (nI b), .int zw, .ref la, .int zs, .ref wa])), (ou, .inl (cJ, 1, .inr (.inl fU)))] sz)) (va_Qi (fun (r : Int32) (_ : Unit) => r = 0) (fun (_ : Unit) (t : State) => va_P (dC, dI) vwCl [(a0, .inr (2, [.ref aZ, .int (nI nz), .ref aO, .int orr, .int ol, .int mp, .ref aG, .int pl, .int fa, .int fb, .ref aP, .ref aW, .ref aK])), (aZ, .inl (cZ, 6, .inr (.inr (.inr (.inr fZ))))), (aO, .inl (cI, 1440, .inl fO)), (aP, .inl (cI, 24, .inl fP)), (za, .inr (1, [.int zh, .int zl, .int zf, .int zp, .int zr, .int (nI b), .int zw, .ref la, .int zs, .ref wa])), (ou, .inl (cJ, 1, .inr (.inl (vp_updL fU 0 (if zw ≤ (cso fO fP zl zh zp zf b nn mm S nn).1 then (cso fO fP zl zh zp zf b nn mm S nn).2 else -1)))))] t.heap) (va_A [(a0, .inr (2, [.ref aZ, .int (nI nz), .ref aO, .int orr, .int ol, .int mp, .ref aG, .int pl, .int fa, .int fb, .ref aP, .ref aW, .ref aK])), (aZ, .inl (cZ, 6, .inr (.inr (.inr (.inr fZ))))), (aO, .inl (cI, 1440, .inl fO)), (aP, .inl (cI, 24, .inl fP)), (za, .inr (1, [.int zh, .int zl, .int zf, .int zp, .int zr, .int (nI b), .int zw, .ref la, .int zs, .ref wa])), (ou, .inl (cJ, 1, .inr (.inl fU)))] sz)) 4 24 (va_A [(a0, .inr (2, [.ref aZ, .int (nI nz), .ref aO, .int orr, .int ol, .int mp, .ref aG, .int pl, .int fa, .int fb, .ref aP, .ref aW, .ref aK])), (aZ, .inl (cZ, 6, .inr (.inr (.inr (.inr fZ))))), (aO, .inl (cI, 1440, .inl fO)), (aP, .inl (cI, 24, .inl fP)), (za, .inr (1, [.int zh, .int zl, .int zf, .int zp, .int zr, .int (nI b), .int zw, .ref la, .int zs, .ref wa])), (ou, .inl (cJ, 1, .inr (.inl fU)))] sz) := by
  refine met_ofWH (cc := b_L_costs) (maxL := 7) (ret := (some .int)) (by decide) rfl ?_
  intro p e s m args below meth c s₁ B hml hv
  obtain ⟨rfl, hsz, hP, hK, hD0, hE, hNc⟩ := hv
  have hx := B.exec
  have hb := B.bytes
  have hr := B.returns
  have hG : ∀ w ∈ GG, w.before _ s = true := fun w h => atoms_spec (ws := w_L_costs) B.pre w (List.mem_cons_of_mem _ h)
  have hown : s.vm.findClass R_L = some m.cls := findClass_of_methodNamed B.named
  have hlocks := B.notSynchronized
  subst hsz
  have hD := hD0.self (sz := s.heap.size)
  generalize hAe : (va_A [(a0, .inr (2, [.ref aZ, .int (nI nz), .ref aO, .int orr, .int ol, .int mp, .ref aG, .int pl, .int fa, .int fb, .ref aP, .ref aW, .ref aK])), (aZ, .inl (cZ, 6, .inr (.inr (.inr (.inr fZ))))), (aO, .inl (cI, 1440, .inl fO)), (aP, .inl (cI, 24, .inl fP)), (za, .inr (1, [.int zh, .int zl, .int zf, .int zp, .int zr, .int (nI b), .int zw, .ref la, .int zs, .ref wa])), (ou, .inl (cJ, 1, .inr (.inl fU)))] s.heap.size) = A at hD hE ⊢
  have hA : ∀ q : Nat, s.heap.size ≤ q → A q := fun q h => by rw [← hAe]; exact Or.inr h
  have hS : va_S A s.heap s.heap [] := va_S.rf
  obtain ⟨H, hH⟩ : ∃ z, z = s.heap := ⟨_, rfl⟩
  rw [← hH] at hP
  have hS : va_S A s.heap H [] := by rw [hH]; exact hS
  rw [← hH]
  have hl9 := lv_entry ([.ref a0, .int (nI k), .int (nI nn), .int (nI mm), .int (nI S), .ref ou]) (n := 7) (Nat.le_of_ble_eq_true rfl)
  rw [lg_entry_eq]
  generalize (lg_sl ([.ref a0, .int (nI k), .int (nI nn), .int (nI mm), .int (nI S), .ref ou]) ++ List.replicate (7 - (lg_sl ([.ref a0, .int (nI k), .int (nI nn), .int (nI mm), .int (nI S), .ref ou])).length) Slot.unset).toArray = ls at hl9 ⊢
  have hl9 : lv_has ls 7 [(0, .ref a0), (1, .int (nI k)), (2, .int (nI nn)), (3, .int (nI mm)), (4, .int (nI S)), (5, .ref ou)] := hl9
  have htab := vx_table (x := y_L_costs) B (atoms_spec (ws := w_L_costs) B.pre _ List.mem_cons_self)
  refine lv_aload hx hb d_L_costs_0 (lv_at hl9 5 rfl) ?_
  refine lv_iconst (v := 0) hx hb d_L_costs_2 (by decide) ?_
  refine lv_aload_n hx hb d_L_costs_3 rfl (lv_at hl9 0 rfl) ?_
  refine lv_iload_n hx hb d_L_costs_4 rfl (lv_at hl9 1 rfl) ?_
  refine lv_iload_n hx hb d_L_costs_5 rfl (lv_at hl9 2 rfl) ?_
  refine lv_iload_n hx hb d_L_costs_6 rfl (lv_at hl9 3 rfl) ?_
  refine lv_iload hx hb d_L_costs_7 (lv_at hl9 4 rfl) ?_
  have hPc := hP.sub (ws' := [(a0, .inr (2, [.ref aZ, .int (nI nz), .ref aO, .int orr, .int ol, .int mp, .ref aG, .int pl, .int fa, .int fb, .ref aP, .ref aW, .ref aK])), (aZ, .inl (cZ, 6, .inr (.inr (.inr (.inr fZ))))), (aO, .inl (cI, 1440, .inl fO)), (aP, .inl (cI, 24, .inl fP)), (za, .inr (1, [.int zh, .int zl, .int zf, .int zp, .int zr, .int (nI b), .int zw, .ref la, .int zs, .ref wa]))]) [0, 1, 2, 3, 4] rfl
  have hDc := hD.sub (ws' := [(a0, .inr (2, [.ref aZ, .int (nI nz), .ref aO, .int orr, .int ol, .int mp, .ref aG, .int pl, .int fa, .int fb, .ref aP, .ref aW, .ref aK])), (aZ, .inl (cZ, 6, .inr (.inr (.inr (.inr fZ))))), (aO, .inl (cI, 1440, .inl fO)), (aP, .inl (cI, 24, .inl fP)), (za, .inr (1, [.int zh, .int zl, .int zf, .int zp, .int zr, .int (nI b), .int zw, .ref la, .int zs, .ref wa]))]) [0, 1, 2, 3, 4] (by decide) rfl
  have hFc := va_A_nil hA hS.1
  refine va_calll (va_runV (C := R_C) (As := [.int (nI k), .int (nI nn), .int (nI mm), .int (nI S)]) (rest := [.int 0, .ref ou]) ⟨hx, hb, hml, hown, hG⟩ (c_costs l dC dI cI cJ cZ cB hl a0 aZ aO aG aP aW aK zc orr ol mp pl fa fb fZ fO fP za la wa zh zl zf zp zr zm zw zs nz k b nn mm S H.size hk hn hz hb1 hn1 hnn hm1 hmm hzl hzh hS2) (cwV 4 hG g_L_68 rfl rfl rfl (by decide +kernel) ⟨Nat.le_of_ble_eq_true rfl, Nat.le_of_ble_eq_true rfl⟩) ⟨PC.blind, va_recv hK hP (ci := 2) (q0 := 0) rfl rfl, PC.of hPc hK hDc hE hS hFc⟩ rfl rfl hl9.1 rfl (lv_room (Nat.le_of_ble_eq_true rfl)) d_L_costs_9 ⟨by first | exact Nat.le_of_ble_eq_true rfl | omega, by first | exact Nat.le_of_ble_eq_true rfl | omega⟩) hS (fun q _ h => hFc q h) hFc (fun r2 u t H1 locs ht hvm hw hB hz1 hk1 hS => ?_)
  have hP := wp_kept hP hk1
  have hw : r2 = if zw ≤ (cso fO fP zl zh zp zf b nn mm S nn).1 then (cso fO fP zl zh zp zf b nn mm S nn).2 else -1 := hw
  subst hw
  refine va_last hx hb hK hP hD hS 5 1 rfl rfl (vp_in_nI (n := 0) (N := 1) (by decide) (by decide)) d_L_costs_12 (fun H locs hP hD hS => ?_)
  have hP : va_P (dC, dI) vwCl [(a0, .inr (2, [.ref aZ, .int (nI nz), .ref aO, .int orr, .int ol, .int mp, .ref aG, .int pl, .int fa, .int fb, .ref aP, .ref aW, .ref aK])), (aZ, .inl (cZ, 6, .inr (.inr (.inr (.inr fZ))))), (aO, .inl (cI, 1440, .inl fO)), (aP, .inl (cI, 24, .inl fP)), (za, .inr (1, [.int zh, .int zl, .int zf, .int zp, .int zr, .int (nI b), .int zw, .ref la, .int zs, .ref wa])), (ou, .inl (cJ, 1, .inr (.inl (vp_updL fU (0 : Int32).toNatClampNeg (if zw ≤ (cso fO fP zl zh zp zf b nn mm S nn).1 then (cso fO fP zl zh zp zf b nn mm S nn).2 else -1)))))] H := hP
  have hD : va_D A [(a0, .inr (2, [.ref aZ, .int (nI nz), .ref aO, .int orr, .int ol, .int mp, .ref aG, .int pl, .int fa, .int fb, .ref aP, .ref aW, .ref aK])), (aZ, .inl (cZ, 6, .inr (.inr (.inr (.inr fZ))))), (aO, .inl (cI, 1440, .inl fO)), (aP, .inl (cI, 24, .inl fP)), (za, .inr (1, [.int zh, .int zl, .int zf, .int zp, .int zr, .int (nI b), .int zw, .ref la, .int zs, .ref wa])), (ou, .inl (cJ, 1, .inr (.inl (vp_updL fU (0 : Int32).toNatClampNeg (if zw ≤ (cso fO fP zl zh zp zf b nn mm S nn).1 then (cso fO fP zl zh zp zf b nn mm S nn).2 else -1)))))] := hD
  refine lv_goto (tgt := 24) hx hb d_L_costs_13 (by decide) ?_
  refine lv_iconst (v := 0) hx hb d_L_costs_24 (by decide) ?_
  exact W.iret (v := 0) hx hb hr (fun t ht hW => ⟨⟨0, (), rfl, rfl, by have h9 := hP; rw [← ht] at h9; exact h9⟩, hS.F ht⟩) hS.2.2 d_L_costs_25
set_option maxHeartbeats 4000000 in
set_option maxRecDepth 100000 in
theorem l_costsX (l : Launch) (dC : Nat → ClassId) (dI : Nat → Nat → Nat) (cI cJ cZ cB : ClassId) (hl : l.stackTraces = false) (a0 aZ aO aG aP aW aK : Nat) (zc orr ol mp pl fa fb : Int32) (fZ : Nat → Option Nat) (nz : Nat) (x : Int32) (y z t9 : Int32) (ou : Nat) (fU : Nat → Int64) (sz : Nat) (hx0 : x < 0 ∨ nI nz ≤ x) : Met l y_L_costs w_L_costs ({ frames := 8, cells := 1, slots := 6, locals := 135 }) (PCL (dC, dI) (TY cI cJ cZ cB) [.ref a0, .int x, .int y, .int z, .int t9, .ref ou] [(a0, .inr (2, [.ref aZ, .int (nI nz), .ref aO, .int orr, .int ol, .int mp, .ref aG, .int pl, .int fa, .int fb, .ref aP, .ref aW, .ref aK])), (aZ, .inl (cZ, 6, .inr (.inr (.inr (.inr fZ))))), (ou, .inl (cJ, 1, .inr (.inl fU)))] sz (va_A [(a0, .inr (2, [.ref aZ, .int (nI nz), .ref aO, .int orr, .int ol, .int mp, .ref aG, .int pl, .int fa, .int fb, .ref aP, .ref aW, .ref aK])), (aZ, .inl (cZ, 6, .inr (.inr (.inr (.inr fZ))))), (ou, .inl (cJ, 1, .inr (.inl fU)))] sz)) (va_Qi (fun (r : Int32) (_ : Unit) => r = 1) (fun (_ : Unit) (t : State) => va_P (dC, dI) vwCl [(a0, .inr (2, [.ref aZ, .int (nI nz), .ref aO, .int orr, .int ol, .int mp, .ref aG, .int pl, .int fa, .int fb, .ref aP, .ref aW, .ref aK])), (aZ, .inl (cZ, 6, .inr (.inr (.inr (.inr fZ))))), (ou, .inl (cJ, 1, .inr (.inl fU)))] t.heap) (va_A [(a0, .inr (2, [.ref aZ, .int (nI nz), .ref aO, .int orr, .int ol, .int mp, .ref aG, .int pl, .int fa, .int fb, .ref aP, .ref aW, .ref aK])), (aZ, .inl (cZ, 6, .inr (.inr (.inr (.inr fZ))))), (ou, .inl (cJ, 1, .inr (.inl fU)))] sz)) 1 6 (va_A [(a0, .inr (2, [.ref aZ, .int (nI nz), .ref aO, .int orr, .int ol, .int mp, .ref aG, .int pl, .int fa, .int fb, .ref aP, .ref aW, .ref aK])), (aZ, .inl (cZ, 6, .inr (.inr (.inr (.inr fZ))))), (ou, .inl (cJ, 1, .inr (.inl fU)))] sz) := by
  refine met_ofWH (cc := b_L_costs) (maxL := 7) (ret := (some .int)) (by decide) rfl ?_
  intro p e s m args below meth c s₁ B hml hv
  obtain ⟨rfl, hsz, hP, hK, hD0, hE, hNc⟩ := hv
  have hx := B.exec
  have hb := B.bytes
  have hr := B.returns
  have hG : ∀ w ∈ GG, w.before _ s = true := fun w h => atoms_spec (ws := w_L_costs) B.pre w (List.mem_cons_of_mem _ h)
  have hown : s.vm.findClass R_L = some m.cls := findClass_of_methodNamed B.named
  have hlocks := B.notSynchronized
  subst hsz
  have hD := hD0.self (sz := s.heap.size)
  generalize hAe : (va_A [(a0, .inr (2, [.ref aZ, .int (nI nz), .ref aO, .int orr, .int ol, .int mp, .ref aG, .int pl, .int fa, .int fb, .ref aP, .ref aW, .ref aK])), (aZ, .inl (cZ, 6, .inr (.inr (.inr (.inr fZ))))), (ou, .inl (cJ, 1, .inr (.inl fU)))] s.heap.size) = A at hD hE ⊢
  have hA : ∀ q : Nat, s.heap.size ≤ q → A q := fun q h => by rw [← hAe]; exact Or.inr h
  have hS : va_S A s.heap s.heap [] := va_S.rf
  obtain ⟨H, hH⟩ : ∃ z, z = s.heap := ⟨_, rfl⟩
  rw [← hH] at hP
  have hS : va_S A s.heap H [] := by rw [hH]; exact hS
  rw [← hH]
  have hl9 := lv_entry ([.ref a0, .int x, .int y, .int z, .int t9, .ref ou]) (n := 7) (Nat.le_of_ble_eq_true rfl)
  rw [lg_entry_eq]
  generalize (lg_sl ([.ref a0, .int x, .int y, .int z, .int t9, .ref ou]) ++ List.replicate (7 - (lg_sl ([.ref a0, .int x, .int y, .int z, .int t9, .ref ou])).length) Slot.unset).toArray = ls at hl9 ⊢
  have hl9 : lv_has ls 7 [(0, .ref a0), (1, .int x), (2, .int y), (3, .int z), (4, .int t9), (5, .ref ou)] := hl9
  have htab := vx_table (x := y_L_costs) B (atoms_spec (ws := w_L_costs) B.pre _ List.mem_cons_self)
  refine lv_aload hx hb d_L_costs_0 (lv_at hl9 5 rfl) ?_
  refine lv_iconst (v := 0) hx hb d_L_costs_2 (by decide) ?_
  refine lv_aload_n hx hb d_L_costs_3 rfl (lv_at hl9 0 rfl) ?_
  refine lv_iload_n hx hb d_L_costs_4 rfl (lv_at hl9 1 rfl) ?_
  refine lv_iload_n hx hb d_L_costs_5 rfl (lv_at hl9 2 rfl) ?_
  refine lv_iload_n hx hb d_L_costs_6 rfl (lv_at hl9 3 rfl) ?_
  refine lv_iload hx hb d_L_costs_7 (lv_at hl9 4 rfl) ?_
  have hPc := hP.sub (ws' := [(a0, .inr (2, [.ref aZ, .int (nI nz), .ref aO, .int orr, .int ol, .int mp, .ref aG, .int pl, .int fa, .int fb, .ref aP, .ref aW, .ref aK])), (aZ, .inl (cZ, 6, .inr (.inr (.inr (.inr fZ)))))]) [0, 1] rfl
  have hDc := hD.sub (ws' := [(a0, .inr (2, [.ref aZ, .int (nI nz), .ref aO, .int orr, .int ol, .int mp, .ref aG, .int pl, .int fa, .int fb, .ref aP, .ref aW, .ref aK])), (aZ, .inl (cZ, 6, .inr (.inr (.inr (.inr fZ)))))]) [0, 1] (by decide) rfl
  have hFc := va_A_nil hA hS.1
  refine vx_calll (vx_runV (C := R_C) (As := [.int x, .int y, .int z, .int t9]) (rest := [.int 0, .ref ou]) ⟨hx, hb, hml, hown, hG⟩ (c_costsX l dC dI cI cJ cZ cB hl a0 aZ aO aG aP aW aK zc orr ol mp pl fa fb fZ nz x y z t9 H.size hx0) (cwV 4 hG g_L_68 rfl rfl rfl (by decide +kernel) ⟨Nat.le_of_ble_eq_true rfl, Nat.le_of_ble_eq_true rfl⟩) ⟨PC.blind, va_recv hK hP (ci := 2) (q0 := 0) rfl rfl, PC.of hPc hK hDc hE hS hFc⟩ rfl rfl hl9.1 rfl (lv_room (Nat.le_of_ble_eq_true rfl)) d_L_costs_9 ⟨by first | exact Nat.le_of_ble_eq_true rfl | omega, by first | exact Nat.le_of_ble_eq_true rfl | omega⟩) hS (fun q _ h => hFc q h) hFc (fun q _ h => hFc q h) (fun E ce q9 u t H1 locs ht hvm hpx hB hz1 hk1 hS hce hcv hcl => ?_) (fun r2 u t H1 locs ht hvm hw hB hz1 hk1 hS => ?_)
  · have hE9 : E = "java/lang/IllegalArgumentException" := hB
    have hP := wp_kept hP hk1
    have hP : va_P (dC, dI) vwCl [(a0, .inr (2, [.ref aZ, .int (nI nz), .ref aO, .int orr, .int ol, .int mp, .ref aG, .int pl, .int fa, .int fb, .ref aP, .ref aW, .ref aK])), (aZ, .inl (cZ, 6, .inr (.inr (.inr (.inr fZ))))), (ou, .inl (cJ, 1, .inr (.inl fU)))] H1 := hP
    have hD : va_D A [(a0, .inr (2, [.ref aZ, .int (nI nz), .ref aO, .int orr, .int ol, .int mp, .ref aG, .int pl, .int fa, .int fb, .ref aP, .ref aW, .ref aK])), (aZ, .inl (cZ, 6, .inr (.inr (.inr (.inr fZ))))), (ou, .inl (cJ, 1, .inr (.inl fU)))] := hD
    subst hE9
    refine vx_catch (own := R_L) (name := "java/lang/IllegalArgumentException") hown [] ⟨0, 13, 16, 13⟩ [⟨0, 13, 20, 15⟩] htab (fun z hz => by simp at hz) (by decide) (by decide) (hG _ k_67) (hE.1.use k_78) hce hcv hcl ?_
    refine lv_astore (lv' := [(6, .ref q9), (0, .ref a0), (1, .int x), (2, .int y), (3, .int z), (4, .int t9), (5, .ref ou)]) hx hb d_L_costs_16 hl9 (by decide) rfl (fun ls hl9 => ?_)
    refine lv_iconst (v := 1) hx hb d_L_costs_18 (by decide) ?_
    exact W.iret (v := 1) hx hb hr (fun t ht hW => ⟨⟨1, (), rfl, rfl, by have h9 := hP; rw [← ht] at h9; exact h9⟩, hS.F ht⟩) hS.2.2 d_L_costs_19
  have hw := hw
  exact hw.elim
set_option maxHeartbeats 4000000 in
set_option maxRecDepth 100000 in
theorem l_costsY (l : Launch) (dC : Nat → ClassId) (dI : Nat → Nat → Nat) (cI cJ cZ cB : ClassId) (hl : l.stackTraces = false) (a0 aZ aO aG aP aW aK : Nat) (zc orr ol mp pl fa fb : Int32) (fZ : Nat → Option Nat) (za la wa : Nat) (zh zl zf zp zr zm zw zs : Int32) (nz k : Nat) (x y sx : Int32) (ou : Nat) (fU : Nat → Int64) (sz : Nat) (hk : k < nz) (hn : nz ≤ 6) (hz : fZ k = some za) (hbad : (((x < 1 ∨ 10 < x) ∨ (y < 1 ∨ 30 < y)) ∨ (sx < 0 ∨ (1 <<< (x &&& 31)) - 1 < sx)) ∨ zm = -1) (hq0 : (((x < 1 ∨ 10 < x) ∨ (y < 1 ∨ 30 < y)) ∨ (sx < 0 ∨ (1 <<< (x &&& 31)) - 1 < sx))) : Met l y_L_costs w_L_costs ({ frames := 9, cells := 4, slots := 24, locals := 157 }) (PCL (dC, dI) (TY cI cJ cZ cB) [.ref a0, .int (nI k), .int x, .int y, .int sx, .ref ou] [(a0, .inr (2, [.ref aZ, .int (nI nz), .ref aO, .int orr, .int ol, .int mp, .ref aG, .int pl, .int fa, .int fb, .ref aP, .ref aW, .ref aK])), (aZ, .inl (cZ, 6, .inr (.inr (.inr (.inr fZ))))), (za, .inr (1, [.int zh, .int zl, .int zf, .int zp, .int zr, .int zm, .int zw, .ref la, .int zs, .ref wa])), (ou, .inl (cJ, 1, .inr (.inl fU)))] sz (va_A [(a0, .inr (2, [.ref aZ, .int (nI nz), .ref aO, .int orr, .int ol, .int mp, .ref aG, .int pl, .int fa, .int fb, .ref aP, .ref aW, .ref aK])), (aZ, .inl (cZ, 6, .inr (.inr (.inr (.inr fZ))))), (za, .inr (1, [.int zh, .int zl, .int zf, .int zp, .int zr, .int zm, .int zw, .ref la, .int zs, .ref wa])), (ou, .inl (cJ, 1, .inr (.inl fU)))] sz)) (va_Qi (fun (r : Int32) (_ : Unit) => r = 1) (fun (_ : Unit) (t : State) => va_P (dC, dI) vwCl [(a0, .inr (2, [.ref aZ, .int (nI nz), .ref aO, .int orr, .int ol, .int mp, .ref aG, .int pl, .int fa, .int fb, .ref aP, .ref aW, .ref aK])), (aZ, .inl (cZ, 6, .inr (.inr (.inr (.inr fZ))))), (za, .inr (1, [.int zh, .int zl, .int zf, .int zp, .int zr, .int zm, .int zw, .ref la, .int zs, .ref wa])), (ou, .inl (cJ, 1, .inr (.inl fU)))] t.heap) (va_A [(a0, .inr (2, [.ref aZ, .int (nI nz), .ref aO, .int orr, .int ol, .int mp, .ref aG, .int pl, .int fa, .int fb, .ref aP, .ref aW, .ref aK])), (aZ, .inl (cZ, 6, .inr (.inr (.inr (.inr fZ))))), (za, .inr (1, [.int zh, .int zl, .int zf, .int zp, .int zr, .int zm, .int zw, .ref la, .int zs, .ref wa])), (ou, .inl (cJ, 1, .inr (.inl fU)))] sz)) 4 24 (va_A [(a0, .inr (2, [.ref aZ, .int (nI nz), .ref aO, .int orr, .int ol, .int mp, .ref aG, .int pl, .int fa, .int fb, .ref aP, .ref aW, .ref aK])), (aZ, .inl (cZ, 6, .inr (.inr (.inr (.inr fZ))))), (za, .inr (1, [.int zh, .int zl, .int zf, .int zp, .int zr, .int zm, .int zw, .ref la, .int zs, .ref wa])), (ou, .inl (cJ, 1, .inr (.inl fU)))] sz) := by
  refine met_ofWH (cc := b_L_costs) (maxL := 7) (ret := (some .int)) (by decide) rfl ?_
  intro p e s m args below meth c s₁ B hml hv
  obtain ⟨rfl, hsz, hP, hK, hD0, hE, hNc⟩ := hv
  have hx := B.exec
  have hb := B.bytes
  have hr := B.returns
  have hG : ∀ w ∈ GG, w.before _ s = true := fun w h => atoms_spec (ws := w_L_costs) B.pre w (List.mem_cons_of_mem _ h)
  have hown : s.vm.findClass R_L = some m.cls := findClass_of_methodNamed B.named
  have hlocks := B.notSynchronized
  subst hsz
  have hD := hD0.self (sz := s.heap.size)
  generalize hAe : (va_A [(a0, .inr (2, [.ref aZ, .int (nI nz), .ref aO, .int orr, .int ol, .int mp, .ref aG, .int pl, .int fa, .int fb, .ref aP, .ref aW, .ref aK])), (aZ, .inl (cZ, 6, .inr (.inr (.inr (.inr fZ))))), (za, .inr (1, [.int zh, .int zl, .int zf, .int zp, .int zr, .int zm, .int zw, .ref la, .int zs, .ref wa])), (ou, .inl (cJ, 1, .inr (.inl fU)))] s.heap.size) = A at hD hE ⊢
  have hA : ∀ q : Nat, s.heap.size ≤ q → A q := fun q h => by rw [← hAe]; exact Or.inr h
  have hS : va_S A s.heap s.heap [] := va_S.rf
  obtain ⟨H, hH⟩ : ∃ z, z = s.heap := ⟨_, rfl⟩
  rw [← hH] at hP
  have hS : va_S A s.heap H [] := by rw [hH]; exact hS
  rw [← hH]
  have hl9 := lv_entry ([.ref a0, .int (nI k), .int x, .int y, .int sx, .ref ou]) (n := 7) (Nat.le_of_ble_eq_true rfl)
  rw [lg_entry_eq]
  generalize (lg_sl ([.ref a0, .int (nI k), .int x, .int y, .int sx, .ref ou]) ++ List.replicate (7 - (lg_sl ([.ref a0, .int (nI k), .int x, .int y, .int sx, .ref ou])).length) Slot.unset).toArray = ls at hl9 ⊢
  have hl9 : lv_has ls 7 [(0, .ref a0), (1, .int (nI k)), (2, .int x), (3, .int y), (4, .int sx), (5, .ref ou)] := hl9
  have htab := vx_table (x := y_L_costs) B (atoms_spec (ws := w_L_costs) B.pre _ List.mem_cons_self)
  refine lv_aload hx hb d_L_costs_0 (lv_at hl9 5 rfl) ?_
  refine lv_iconst (v := 0) hx hb d_L_costs_2 (by decide) ?_
  refine lv_aload_n hx hb d_L_costs_3 rfl (lv_at hl9 0 rfl) ?_
  refine lv_iload_n hx hb d_L_costs_4 rfl (lv_at hl9 1 rfl) ?_
  refine lv_iload_n hx hb d_L_costs_5 rfl (lv_at hl9 2 rfl) ?_
  refine lv_iload_n hx hb d_L_costs_6 rfl (lv_at hl9 3 rfl) ?_
  refine lv_iload hx hb d_L_costs_7 (lv_at hl9 4 rfl) ?_
  have hPc := hP.sub (ws' := [(a0, .inr (2, [.ref aZ, .int (nI nz), .ref aO, .int orr, .int ol, .int mp, .ref aG, .int pl, .int fa, .int fb, .ref aP, .ref aW, .ref aK])), (aZ, .inl (cZ, 6, .inr (.inr (.inr (.inr fZ))))), (za, .inr (1, [.int zh, .int zl, .int zf, .int zp, .int zr, .int zm, .int zw, .ref la, .int zs, .ref wa]))]) [0, 1, 2] rfl
  have hDc := hD.sub (ws' := [(a0, .inr (2, [.ref aZ, .int (nI nz), .ref aO, .int orr, .int ol, .int mp, .ref aG, .int pl, .int fa, .int fb, .ref aP, .ref aW, .ref aK])), (aZ, .inl (cZ, 6, .inr (.inr (.inr (.inr fZ))))), (za, .inr (1, [.int zh, .int zl, .int zf, .int zp, .int zr, .int zm, .int zw, .ref la, .int zs, .ref wa]))]) [0, 1, 2] (by decide) rfl
  have hFc := va_A_nil hA hS.1
  refine vx_calll (vx_runV (C := R_C) (As := [.int (nI k), .int x, .int y, .int sx]) (rest := [.int 0, .ref ou]) ⟨hx, hb, hml, hown, hG⟩ (c_costsT l dC dI cI cJ cZ cB hl a0 aZ aO aG aP aW aK zc orr ol mp pl fa fb fZ za la wa zh zl zf zp zr zm zw zs nz k x y sx H.size hk hn hz hbad) (cwV 4 hG g_L_68 rfl rfl rfl (by decide +kernel) ⟨Nat.le_of_ble_eq_true rfl, Nat.le_of_ble_eq_true rfl⟩) ⟨PC.blind, va_recv hK hP (ci := 2) (q0 := 0) rfl rfl, PC.of hPc hK hDc hE hS hFc⟩ rfl rfl hl9.1 rfl (lv_room (Nat.le_of_ble_eq_true rfl)) d_L_costs_9 ⟨by first | exact Nat.le_of_ble_eq_true rfl | omega, by first | exact Nat.le_of_ble_eq_true rfl | omega⟩) hS (fun q _ h => hFc q h) hFc (fun q _ h => hFc q h) (fun E ce q9 u t H1 locs ht hvm hpx hB hz1 hk1 hS hce hcv hcl => ?_) (fun r2 u t H1 locs ht hvm hw hB hz1 hk1 hS => ?_)
  · have hE9 : E = "java/lang/IllegalArgumentException" := hB.elim (fun h => h.1) (fun h => absurd hq0 h.2.1)
    have hP := wp_kept hP hk1
    have hP : va_P (dC, dI) vwCl [(a0, .inr (2, [.ref aZ, .int (nI nz), .ref aO, .int orr, .int ol, .int mp, .ref aG, .int pl, .int fa, .int fb, .ref aP, .ref aW, .ref aK])), (aZ, .inl (cZ, 6, .inr (.inr (.inr (.inr fZ))))), (za, .inr (1, [.int zh, .int zl, .int zf, .int zp, .int zr, .int zm, .int zw, .ref la, .int zs, .ref wa])), (ou, .inl (cJ, 1, .inr (.inl fU)))] H1 := hP
    have hD : va_D A [(a0, .inr (2, [.ref aZ, .int (nI nz), .ref aO, .int orr, .int ol, .int mp, .ref aG, .int pl, .int fa, .int fb, .ref aP, .ref aW, .ref aK])), (aZ, .inl (cZ, 6, .inr (.inr (.inr (.inr fZ))))), (za, .inr (1, [.int zh, .int zl, .int zf, .int zp, .int zr, .int zm, .int zw, .ref la, .int zs, .ref wa])), (ou, .inl (cJ, 1, .inr (.inl fU)))] := hD
    subst hE9
    refine vx_catch (own := R_L) (name := "java/lang/IllegalArgumentException") hown [] ⟨0, 13, 16, 13⟩ [⟨0, 13, 20, 15⟩] htab (fun z hz => by simp at hz) (by decide) (by decide) (hG _ k_67) (hE.1.use k_78) hce hcv hcl ?_
    refine lv_astore (lv' := [(6, .ref q9), (0, .ref a0), (1, .int (nI k)), (2, .int x), (3, .int y), (4, .int sx), (5, .ref ou)]) hx hb d_L_costs_16 hl9 (by decide) rfl (fun ls hl9 => ?_)
    refine lv_iconst (v := 1) hx hb d_L_costs_18 (by decide) ?_
    exact W.iret (v := 1) hx hb hr (fun t ht hW => ⟨⟨1, (), rfl, rfl, by have h9 := hP; rw [← ht] at h9; exact h9⟩, hS.F ht⟩) hS.2.2 d_L_costs_19
  have hw := hw
  exact hw.elim
set_option maxHeartbeats 4000000 in
set_option maxRecDepth 100000 in
theorem l_costsZ (l : Launch) (dC : Nat → ClassId) (dI : Nat → Nat → Nat) (cI cJ cZ cB : ClassId) (hl : l.stackTraces = false) (a0 aZ aO aG aP aW aK : Nat) (zc orr ol mp pl fa fb : Int32) (fZ : Nat → Option Nat) (za la wa : Nat) (zh zl zf zp zr zm zw zs : Int32) (nz k : Nat) (x y sx : Int32) (ou : Nat) (fU : Nat → Int64) (sz : Nat) (hk : k < nz) (hn : nz ≤ 6) (hz : fZ k = some za) (hbad : (((x < 1 ∨ 10 < x) ∨ (y < 1 ∨ 30 < y)) ∨ (sx < 0 ∨ (1 <<< (x &&& 31)) - 1 < sx)) ∨ zm = -1) (hq0 : ¬ (((x < 1 ∨ 10 < x) ∨ (y < 1 ∨ 30 < y)) ∨ (sx < 0 ∨ (1 <<< (x &&& 31)) - 1 < sx))) : Met l y_L_costs w_L_costs ({ frames := 9, cells := 4, slots := 24, locals := 157 }) (PCL (dC, dI) (TY cI cJ cZ cB) [.ref a0, .int (nI k), .int x, .int y, .int sx, .ref ou] [(a0, .inr (2, [.ref aZ, .int (nI nz), .ref aO, .int orr, .int ol, .int mp, .ref aG, .int pl, .int fa, .int fb, .ref aP, .ref aW, .ref aK])), (aZ, .inl (cZ, 6, .inr (.inr (.inr (.inr fZ))))), (za, .inr (1, [.int zh, .int zl, .int zf, .int zp, .int zr, .int zm, .int zw, .ref la, .int zs, .ref wa])), (ou, .inl (cJ, 1, .inr (.inl fU)))] sz (va_A [(a0, .inr (2, [.ref aZ, .int (nI nz), .ref aO, .int orr, .int ol, .int mp, .ref aG, .int pl, .int fa, .int fb, .ref aP, .ref aW, .ref aK])), (aZ, .inl (cZ, 6, .inr (.inr (.inr (.inr fZ))))), (za, .inr (1, [.int zh, .int zl, .int zf, .int zp, .int zr, .int zm, .int zw, .ref la, .int zs, .ref wa])), (ou, .inl (cJ, 1, .inr (.inl fU)))] sz)) (va_Qi (fun (r : Int32) (_ : Unit) => r = 2) (fun (_ : Unit) (t : State) => va_P (dC, dI) vwCl [(a0, .inr (2, [.ref aZ, .int (nI nz), .ref aO, .int orr, .int ol, .int mp, .ref aG, .int pl, .int fa, .int fb, .ref aP, .ref aW, .ref aK])), (aZ, .inl (cZ, 6, .inr (.inr (.inr (.inr fZ))))), (za, .inr (1, [.int zh, .int zl, .int zf, .int zp, .int zr, .int zm, .int zw, .ref la, .int zs, .ref wa])), (ou, .inl (cJ, 1, .inr (.inl fU)))] t.heap) (va_A [(a0, .inr (2, [.ref aZ, .int (nI nz), .ref aO, .int orr, .int ol, .int mp, .ref aG, .int pl, .int fa, .int fb, .ref aP, .ref aW, .ref aK])), (aZ, .inl (cZ, 6, .inr (.inr (.inr (.inr fZ))))), (za, .inr (1, [.int zh, .int zl, .int zf, .int zp, .int zr, .int zm, .int zw, .ref la, .int zs, .ref wa])), (ou, .inl (cJ, 1, .inr (.inl fU)))] sz)) 4 24 (va_A [(a0, .inr (2, [.ref aZ, .int (nI nz), .ref aO, .int orr, .int ol, .int mp, .ref aG, .int pl, .int fa, .int fb, .ref aP, .ref aW, .ref aK])), (aZ, .inl (cZ, 6, .inr (.inr (.inr (.inr fZ))))), (za, .inr (1, [.int zh, .int zl, .int zf, .int zp, .int zr, .int zm, .int zw, .ref la, .int zs, .ref wa])), (ou, .inl (cJ, 1, .inr (.inl fU)))] sz) := by
  refine met_ofWH (cc := b_L_costs) (maxL := 7) (ret := (some .int)) (by decide) rfl ?_
  intro p e s m args below meth c s₁ B hml hv
  obtain ⟨rfl, hsz, hP, hK, hD0, hE, hNc⟩ := hv
  have hx := B.exec
  have hb := B.bytes
  have hr := B.returns
  have hG : ∀ w ∈ GG, w.before _ s = true := fun w h => atoms_spec (ws := w_L_costs) B.pre w (List.mem_cons_of_mem _ h)
  have hown : s.vm.findClass R_L = some m.cls := findClass_of_methodNamed B.named
  have hlocks := B.notSynchronized
  subst hsz
  have hD := hD0.self (sz := s.heap.size)
  generalize hAe : (va_A [(a0, .inr (2, [.ref aZ, .int (nI nz), .ref aO, .int orr, .int ol, .int mp, .ref aG, .int pl, .int fa, .int fb, .ref aP, .ref aW, .ref aK])), (aZ, .inl (cZ, 6, .inr (.inr (.inr (.inr fZ))))), (za, .inr (1, [.int zh, .int zl, .int zf, .int zp, .int zr, .int zm, .int zw, .ref la, .int zs, .ref wa])), (ou, .inl (cJ, 1, .inr (.inl fU)))] s.heap.size) = A at hD hE ⊢
  have hA : ∀ q : Nat, s.heap.size ≤ q → A q := fun q h => by rw [← hAe]; exact Or.inr h
  have hS : va_S A s.heap s.heap [] := va_S.rf
  obtain ⟨H, hH⟩ : ∃ z, z = s.heap := ⟨_, rfl⟩
  rw [← hH] at hP
  have hS : va_S A s.heap H [] := by rw [hH]; exact hS
  rw [← hH]
  have hl9 := lv_entry ([.ref a0, .int (nI k), .int x, .int y, .int sx, .ref ou]) (n := 7) (Nat.le_of_ble_eq_true rfl)
  rw [lg_entry_eq]
  generalize (lg_sl ([.ref a0, .int (nI k), .int x, .int y, .int sx, .ref ou]) ++ List.replicate (7 - (lg_sl ([.ref a0, .int (nI k), .int x, .int y, .int sx, .ref ou])).length) Slot.unset).toArray = ls at hl9 ⊢
  have hl9 : lv_has ls 7 [(0, .ref a0), (1, .int (nI k)), (2, .int x), (3, .int y), (4, .int sx), (5, .ref ou)] := hl9
  have htab := vx_table (x := y_L_costs) B (atoms_spec (ws := w_L_costs) B.pre _ List.mem_cons_self)
  refine lv_aload hx hb d_L_costs_0 (lv_at hl9 5 rfl) ?_
  refine lv_iconst (v := 0) hx hb d_L_costs_2 (by decide) ?_
  refine lv_aload_n hx hb d_L_costs_3 rfl (lv_at hl9 0 rfl) ?_
  refine lv_iload_n hx hb d_L_costs_4 rfl (lv_at hl9 1 rfl) ?_
  refine lv_iload_n hx hb d_L_costs_5 rfl (lv_at hl9 2 rfl) ?_
  refine lv_iload_n hx hb d_L_costs_6 rfl (lv_at hl9 3 rfl) ?_
  refine lv_iload hx hb d_L_costs_7 (lv_at hl9 4 rfl) ?_
  have hPc := hP.sub (ws' := [(a0, .inr (2, [.ref aZ, .int (nI nz), .ref aO, .int orr, .int ol, .int mp, .ref aG, .int pl, .int fa, .int fb, .ref aP, .ref aW, .ref aK])), (aZ, .inl (cZ, 6, .inr (.inr (.inr (.inr fZ))))), (za, .inr (1, [.int zh, .int zl, .int zf, .int zp, .int zr, .int zm, .int zw, .ref la, .int zs, .ref wa]))]) [0, 1, 2] rfl
  have hDc := hD.sub (ws' := [(a0, .inr (2, [.ref aZ, .int (nI nz), .ref aO, .int orr, .int ol, .int mp, .ref aG, .int pl, .int fa, .int fb, .ref aP, .ref aW, .ref aK])), (aZ, .inl (cZ, 6, .inr (.inr (.inr (.inr fZ))))), (za, .inr (1, [.int zh, .int zl, .int zf, .int zp, .int zr, .int zm, .int zw, .ref la, .int zs, .ref wa]))]) [0, 1, 2] (by decide) rfl
  have hFc := va_A_nil hA hS.1
  refine vx_calll (vx_runV (C := R_C) (As := [.int (nI k), .int x, .int y, .int sx]) (rest := [.int 0, .ref ou]) ⟨hx, hb, hml, hown, hG⟩ (c_costsT l dC dI cI cJ cZ cB hl a0 aZ aO aG aP aW aK zc orr ol mp pl fa fb fZ za la wa zh zl zf zp zr zm zw zs nz k x y sx H.size hk hn hz hbad) (cwV 4 hG g_L_68 rfl rfl rfl (by decide +kernel) ⟨Nat.le_of_ble_eq_true rfl, Nat.le_of_ble_eq_true rfl⟩) ⟨PC.blind, va_recv hK hP (ci := 2) (q0 := 0) rfl rfl, PC.of hPc hK hDc hE hS hFc⟩ rfl rfl hl9.1 rfl (lv_room (Nat.le_of_ble_eq_true rfl)) d_L_costs_9 ⟨by first | exact Nat.le_of_ble_eq_true rfl | omega, by first | exact Nat.le_of_ble_eq_true rfl | omega⟩) hS (fun q _ h => hFc q h) hFc (fun q _ h => hFc q h) (fun E ce q9 u t H1 locs ht hvm hpx hB hz1 hk1 hS hce hcv hcl => ?_) (fun r2 u t H1 locs ht hvm hw hB hz1 hk1 hS => ?_)
  · have hE9 : E = "java/lang/IllegalStateException" := hB.elim (fun h => absurd h.2 hq0) (fun h => h.1)
    have hP := wp_kept hP hk1
    have hP : va_P (dC, dI) vwCl [(a0, .inr (2, [.ref aZ, .int (nI nz), .ref aO, .int orr, .int ol, .int mp, .ref aG, .int pl, .int fa, .int fb, .ref aP, .ref aW, .ref aK])), (aZ, .inl (cZ, 6, .inr (.inr (.inr (.inr fZ))))), (za, .inr (1, [.int zh, .int zl, .int zf, .int zp, .int zr, .int zm, .int zw, .ref la, .int zs, .ref wa])), (ou, .inl (cJ, 1, .inr (.inl fU)))] H1 := hP
    have hD : va_D A [(a0, .inr (2, [.ref aZ, .int (nI nz), .ref aO, .int orr, .int ol, .int mp, .ref aG, .int pl, .int fa, .int fb, .ref aP, .ref aW, .ref aK])), (aZ, .inl (cZ, 6, .inr (.inr (.inr (.inr fZ))))), (za, .inr (1, [.int zh, .int zl, .int zf, .int zp, .int zr, .int zm, .int zw, .ref la, .int zs, .ref wa])), (ou, .inl (cJ, 1, .inr (.inl fU)))] := hD
    subst hE9
    refine vx_catch (own := R_L) (name := "java/lang/IllegalStateException") hown [⟨0, 13, 16, 13⟩] ⟨0, 13, 20, 15⟩ [] htab (fun z hz => by simp only [List.mem_singleton] at hz; subst hz; exact Or.inr ⟨by decide, "java/lang/IllegalArgumentException", hG _ k_67, hNc⟩) (by decide) (by decide) (hG _ k_68) (hE.1.use k_145) hce hcv hcl ?_
    refine lv_astore (lv' := [(6, .ref q9), (0, .ref a0), (1, .int (nI k)), (2, .int x), (3, .int y), (4, .int sx), (5, .ref ou)]) hx hb d_L_costs_20 hl9 (by decide) rfl (fun ls hl9 => ?_)
    refine lv_iconst (v := 2) hx hb d_L_costs_22 (by decide) ?_
    exact W.iret (v := 2) hx hb hr (fun t ht hW => ⟨⟨2, (), rfl, rfl, by have h9 := hP; rw [← ht] at h9; exact h9⟩, hS.F ht⟩) hS.2.2 d_L_costs_23
  have hw := hw
  exact hw.elim
set_option maxHeartbeats 4000000 in
set_option maxRecDepth 100000 in
theorem l_late (l : Launch) (dC : Nat → ClassId) (dI : Nat → Nat → Nat) (cI cJ cZ cB : ClassId) (a0 aZ aO aG aP aW aK : Nat) (zc orr ol mp pl fa fb : Int32) (fZ : Nat → Option Nat) (fO fG g0 g1 : Nat → Int32) (nz k : Nat) (zs0 zs1 : List ZD) (za la wa : Nat) (zh zl zf zp zr zm zw zs : Int32) (ea eb : Int64) (fT : Nat → Int32) (ou : Nat) (fU : Nat → Int64) (sz : Nat) (hn : nz ≤ 6) (hok : plOk fZ nz zs0) (hto : plTo fO mp nz zs0 fG g0 pl zs1 g1) (hk : k < nz) (hz : fZ k = some za) (hs1 : zs1[k]? = some ((za, la, wa), (zh, zl, zf, zp, zr, zm, zw, zs), (ea, eb), fT)) (hzm : zm = -1 ∨ ∃ b, b < 1440 ∧ zm = nI b) : Met l y_L_late w_L_late ({ frames := 9, cells := 0, slots := 0, locals := 159 }) (PCL (dC, dI) (TY cI cJ cZ cB) [.ref a0, .int (nI k), .ref ou] ([(a0, .inr (2, [.ref aZ, .int (nI nz), .ref aO, .int orr, .int ol, .int mp, .ref aG, .int pl, .int fa, .int fb, .ref aP, .ref aW, .ref aK])), (aZ, .inl (cZ, 6, .inr (.inr (.inr (.inr fZ))))), (aO, .inl (cI, 1440, .inl fO)), (aG, .inl (cI, 1440, .inl fG)), (ou, .inl (cJ, 1, .inr (.inl fU)))] ++ (zs0.flatMap (tri cI))) sz (va_A ([(a0, .inr (2, [.ref aZ, .int (nI nz), .ref aO, .int orr, .int ol, .int mp, .ref aG, .int pl, .int fa, .int fb, .ref aP, .ref aW, .ref aK])), (aZ, .inl (cZ, 6, .inr (.inr (.inr (.inr fZ))))), (aO, .inl (cI, 1440, .inl fO)), (aG, .inl (cI, 1440, .inl fG)), (ou, .inl (cJ, 1, .inr (.inl fU)))] ++ (zs0.flatMap (tri cI))) sz)) (va_Qi (fun (r : Int32) (_ : Unit) => r = 0) (fun (_ : Unit) (t : State) => va_P (dC, dI) vwCl ([(a0, .inr (2, [.ref aZ, .int (nI nz), .ref aO, .int orr, .int ol, .int mp, .ref aG, .int 1, .int fa, .int fb, .ref aP, .ref aW, .ref aK])), (aZ, .inl (cZ, 6, .inr (.inr (.inr (.inr fZ))))), (aO, .inl (cI, 1440, .inl fO)), (aG, .inl (cI, 1440, .inl g1)), (ou, .inl (cJ, 1, .inr (.inl (vp_updL fU 0 (if ¬ zm = -1 ∧ fT zm.toNatClampNeg < zw then (1 : Int64) else 0)))))] ++ (zs1.flatMap (tri cI))) t.heap) (va_A ([(a0, .inr (2, [.ref aZ, .int (nI nz), .ref aO, .int orr, .int ol, .int mp, .ref aG, .int pl, .int fa, .int fb, .ref aP, .ref aW, .ref aK])), (aZ, .inl (cZ, 6, .inr (.inr (.inr (.inr fZ))))), (aO, .inl (cI, 1440, .inl fO)), (aG, .inl (cI, 1440, .inl fG)), (ou, .inl (cJ, 1, .inr (.inl fU)))] ++ (zs0.flatMap (tri cI))) sz)) 0 0 (va_A ([(a0, .inr (2, [.ref aZ, .int (nI nz), .ref aO, .int orr, .int ol, .int mp, .ref aG, .int pl, .int fa, .int fb, .ref aP, .ref aW, .ref aK])), (aZ, .inl (cZ, 6, .inr (.inr (.inr (.inr fZ))))), (aO, .inl (cI, 1440, .inl fO)), (aG, .inl (cI, 1440, .inl fG)), (ou, .inl (cJ, 1, .inr (.inl fU)))] ++ (zs0.flatMap (tri cI))) sz) := by
  refine met_ofWH (cc := b_L_late) (maxL := 4) (ret := (some .int)) (by decide) rfl ?_
  intro p e s m args below meth c s₁ B hml hv
  obtain ⟨rfl, hsz, hP, hK, hD0, hE, hNc⟩ := hv
  have hx := B.exec
  have hb := B.bytes
  have hr := B.returns
  have hG : ∀ w ∈ GG, w.before _ s = true := fun w h => atoms_spec (ws := w_L_late) B.pre w (List.mem_cons_of_mem _ h)
  have hown : s.vm.findClass R_L = some m.cls := findClass_of_methodNamed B.named
  have hlocks := B.notSynchronized
  subst hsz
  have hD := hD0.self (sz := s.heap.size)
  generalize hAe : (va_A ([(a0, .inr (2, [.ref aZ, .int (nI nz), .ref aO, .int orr, .int ol, .int mp, .ref aG, .int pl, .int fa, .int fb, .ref aP, .ref aW, .ref aK])), (aZ, .inl (cZ, 6, .inr (.inr (.inr (.inr fZ))))), (aO, .inl (cI, 1440, .inl fO)), (aG, .inl (cI, 1440, .inl fG)), (ou, .inl (cJ, 1, .inr (.inl fU)))] ++ (zs0.flatMap (tri cI))) s.heap.size) = A at hD hE ⊢
  have hA : ∀ q : Nat, s.heap.size ≤ q → A q := fun q h => by rw [← hAe]; exact Or.inr h
  have hS : va_S A s.heap s.heap [] := va_S.rf
  obtain ⟨H, hH⟩ : ∃ z, z = s.heap := ⟨_, rfl⟩
  rw [← hH] at hP
  have hS : va_S A s.heap H [] := by rw [hH]; exact hS
  rw [← hH]
  have hl9 := lv_entry ([.ref a0, .int (nI k), .ref ou]) (n := 4) (Nat.le_of_ble_eq_true rfl)
  rw [lg_entry_eq]
  generalize (lg_sl ([.ref a0, .int (nI k), .ref ou]) ++ List.replicate (4 - (lg_sl ([.ref a0, .int (nI k), .ref ou])).length) Slot.unset).toArray = ls at hl9 ⊢
  have hl9 : lv_has ls 4 [(0, .ref a0), (1, .int (nI k)), (2, .ref ou)] := hl9
  have htab := vx_table (x := y_L_late) B (atoms_spec (ws := w_L_late) B.pre _ List.mem_cons_self)
  refine lv_aload_n hx hb d_L_late_0 rfl (lv_at hl9 2 rfl) ?_
  refine lv_iconst (v := 0) hx hb d_L_late_1 (by decide) ?_
  refine lv_aload_n hx hb d_L_late_2 rfl (lv_at hl9 0 rfl) ?_
  refine lv_iload_n hx hb d_L_late_3 rfl (lv_at hl9 1 rfl) ?_
  have hPc := hP.part (cx := [(a0, .inr (2, [.ref aZ, .int (nI nz), .ref aO, .int orr, .int ol, .int mp, .ref aG, .int pl, .int fa, .int fb, .ref aP, .ref aW, .ref aK])), (aZ, .inl (cZ, 6, .inr (.inr (.inr (.inr fZ))))), (aO, .inl (cI, 1440, .inl fO)), (aG, .inl (cI, 1440, .inl fG))]) [0, 1, 2, 3] rfl
  have hDc := hD.part (cx := [(a0, .inr (2, [.ref aZ, .int (nI nz), .ref aO, .int orr, .int ol, .int mp, .ref aG, .int pl, .int fa, .int fb, .ref aP, .ref aW, .ref aK])), (aZ, .inl (cZ, 6, .inr (.inr (.inr (.inr fZ))))), (aO, .inl (cI, 1440, .inl fO)), (aG, .inl (cI, 1440, .inl fG))]) [0, 1, 2, 3] (by decide) rfl
  have hFc := va_freeP (cx := [(a0, .inr (2, [.ref aZ, .int (nI nz), .ref aO, .int orr, .int ol, .int mp, .ref aG, .int pl, .int fa, .int fb, .ref aP, .ref aW, .ref aK])), (aZ, .inl (cZ, 6, .inr (.inr (.inr (.inr fZ))))), (aO, .inl (cI, 1440, .inl fO)), (aG, .inl (cI, 1440, .inl fG))]) hD hS hA [0, 1, 2, 3] rfl
  refine va_calli (va_runV (C := R_C) (As := [.int (nI k)]) (rest := [.int 0, .ref ou]) ⟨hx, hb, hml, hown, hG⟩ (c_late l dC dI cI cJ cZ cB a0 aZ aO aG aP aW aK zc orr ol mp pl fa fb fZ fO fG g0 g1 nz k zs0 zs1 za la wa zh zl zf zp zr zm zw zs ea eb fT H.size hn hok hto hk hz hs1 hzm) (cwV 1 hG g_L_35 rfl rfl rfl (by decide +kernel) ⟨Nat.le_of_ble_eq_true rfl, Nat.le_of_ble_eq_true rfl⟩) ⟨PC.blind, va_recv hK hP (ci := 2) (q0 := 0) rfl rfl, PC.of hPc hK hDc hE hS hFc⟩ rfl rfl hl9.1 rfl (lv_room (Nat.le_of_ble_eq_true rfl)) d_L_late_4 ⟨by first | exact Nat.le_of_ble_eq_true rfl | omega, by first | exact Nat.le_of_ble_eq_true rfl | omega⟩) hS (fun q _ h => hFc q h) hFc (fun r2 u t H1 locs ht hvm hw hB hz1 hk1 hS => ?_)
  rw [ht] at hB
  obtain ⟨hP, hD⟩ := jsetP (wc := [(a0, .inr (2, [.ref aZ, .int (nI nz), .ref aO, .int orr, .int ol, .int mp, .ref aG, .int pl, .int fa, .int fb, .ref aP, .ref aW, .ref aK])), (aZ, .inl (cZ, 6, .inr (.inr (.inr (.inr fZ))))), (aO, .inl (cI, 1440, .inl fO)), (aG, .inl (cI, 1440, .inl fG))]) (w1 := [(a0, .inr (2, [.ref aZ, .int (nI nz), .ref aO, .int orr, .int ol, .int mp, .ref aG, .int 1, .int fa, .int fb, .ref aP, .ref aW, .ref aK])), (aZ, .inl (cZ, 6, .inr (.inr (.inr (.inr fZ))))), (aO, .inl (cI, 1440, .inl fO)), (aG, .inl (cI, 1440, .inl g1))]) (pl1 := (zs1.flatMap (tri cI))) [0, 1, 2, 3] rfl rfl (adr_eq (B1 := []) (B := []) rfl (plTo_ad hto)) hP hD hk1 hB
  have hP : va_P (dC, dI) vwCl ([(a0, .inr (2, [.ref aZ, .int (nI nz), .ref aO, .int orr, .int ol, .int mp, .ref aG, .int 1, .int fa, .int fb, .ref aP, .ref aW, .ref aK])), (aZ, .inl (cZ, 6, .inr (.inr (.inr (.inr fZ))))), (aO, .inl (cI, 1440, .inl fO)), (aG, .inl (cI, 1440, .inl g1)), (ou, .inl (cJ, 1, .inr (.inl fU)))] ++ (zs1.flatMap (tri cI))) H1 := hP
  have hD : va_D A ([(a0, .inr (2, [.ref aZ, .int (nI nz), .ref aO, .int orr, .int ol, .int mp, .ref aG, .int 1, .int fa, .int fb, .ref aP, .ref aW, .ref aK])), (aZ, .inl (cZ, 6, .inr (.inr (.inr (.inr fZ))))), (aO, .inl (cI, 1440, .inl fO)), (aG, .inl (cI, 1440, .inl g1)), (ou, .inl (cJ, 1, .inr (.inl fU)))] ++ (zs1.flatMap (tri cI))) := hD
  have hw : r2 = if ¬ zm = -1 ∧ fT zm.toNatClampNeg < zw then 1 else 0 := hw
  subst hw
  by_cases hC : ¬ zm = -1 ∧ fT zm.toNatClampNeg < zw
  · rw [show (if ¬ zm = -1 ∧ fT zm.toNatClampNeg < zw then (1 : Int32) else 0) = 1 from if_pos hC]
    refine lv_if_eq (tgt := 14) hx hb d_L_late_7 (by decide) (fun c1 => absurd c1 (by decide)) (fun c1 => ?_)
    refine lv_lconst (v := 1) hx hb d_L_late_10 (by decide) ?_
    refine lv_goto (tgt := 15) hx hb d_L_late_11 (by decide) ?_
    refine va_last hx hb hK hP hD hS 4 1 rfl rfl (vp_in_nI (n := 0) (N := 1) (by decide) (by decide)) d_L_late_15 (fun H locs hP hD hS => ?_)
    have hP : va_P (dC, dI) vwCl ([(a0, .inr (2, [.ref aZ, .int (nI nz), .ref aO, .int orr, .int ol, .int mp, .ref aG, .int 1, .int fa, .int fb, .ref aP, .ref aW, .ref aK])), (aZ, .inl (cZ, 6, .inr (.inr (.inr (.inr fZ))))), (aO, .inl (cI, 1440, .inl fO)), (aG, .inl (cI, 1440, .inl g1)), (ou, .inl (cJ, 1, .inr (.inl (vp_updL fU (0 : Int32).toNatClampNeg 1))))] ++ (zs1.flatMap (tri cI))) H := hP
    have hD : va_D A ([(a0, .inr (2, [.ref aZ, .int (nI nz), .ref aO, .int orr, .int ol, .int mp, .ref aG, .int 1, .int fa, .int fb, .ref aP, .ref aW, .ref aK])), (aZ, .inl (cZ, 6, .inr (.inr (.inr (.inr fZ))))), (aO, .inl (cI, 1440, .inl fO)), (aG, .inl (cI, 1440, .inl g1)), (ou, .inl (cJ, 1, .inr (.inl (vp_updL fU (0 : Int32).toNatClampNeg 1))))] ++ (zs1.flatMap (tri cI))) := hD
    refine lv_goto (tgt := 22) hx hb d_L_late_16 (by decide) ?_
    refine lv_iconst (v := 0) hx hb d_L_late_22 (by decide) ?_
    have eC : (if ¬ zm = -1 ∧ fT zm.toNatClampNeg < zw then (1 : Int64) else 0) = 1 := if_pos hC
    have hP : va_P (dC, dI) vwCl ([(a0, .inr (2, [.ref aZ, .int (nI nz), .ref aO, .int orr, .int ol, .int mp, .ref aG, .int 1, .int fa, .int fb, .ref aP, .ref aW, .ref aK])), (aZ, .inl (cZ, 6, .inr (.inr (.inr (.inr fZ))))), (aO, .inl (cI, 1440, .inl fO)), (aG, .inl (cI, 1440, .inl g1)), (ou, .inl (cJ, 1, .inr (.inl (vp_updL fU 0 (if ¬ zm = -1 ∧ fT zm.toNatClampNeg < zw then (1 : Int64) else 0)))))] ++ (zs1.flatMap (tri cI))) H := by rw [eC]; exact hP
    exact W.iret (v := 0) hx hb hr (fun t ht hW => ⟨⟨0, (), rfl, rfl, by have h9 := hP; rw [← ht] at h9; exact h9⟩, hS.F ht⟩) hS.2.2 d_L_late_23
  · rw [show (if ¬ zm = -1 ∧ fT zm.toNatClampNeg < zw then (1 : Int32) else 0) = 0 from if_neg hC]
    refine lv_if_eq (tgt := 14) hx hb d_L_late_7 (by decide) (fun c1 => ?_) (fun c1 => absurd c1 (by decide))
    refine lv_lconst (v := 0) hx hb d_L_late_14 (by decide) ?_
    refine va_last hx hb hK hP hD hS 4 1 rfl rfl (vp_in_nI (n := 0) (N := 1) (by decide) (by decide)) d_L_late_15 (fun H locs hP hD hS => ?_)
    have hP : va_P (dC, dI) vwCl ([(a0, .inr (2, [.ref aZ, .int (nI nz), .ref aO, .int orr, .int ol, .int mp, .ref aG, .int 1, .int fa, .int fb, .ref aP, .ref aW, .ref aK])), (aZ, .inl (cZ, 6, .inr (.inr (.inr (.inr fZ))))), (aO, .inl (cI, 1440, .inl fO)), (aG, .inl (cI, 1440, .inl g1)), (ou, .inl (cJ, 1, .inr (.inl (vp_updL fU (0 : Int32).toNatClampNeg 0))))] ++ (zs1.flatMap (tri cI))) H := hP
    have hD : va_D A ([(a0, .inr (2, [.ref aZ, .int (nI nz), .ref aO, .int orr, .int ol, .int mp, .ref aG, .int 1, .int fa, .int fb, .ref aP, .ref aW, .ref aK])), (aZ, .inl (cZ, 6, .inr (.inr (.inr (.inr fZ))))), (aO, .inl (cI, 1440, .inl fO)), (aG, .inl (cI, 1440, .inl g1)), (ou, .inl (cJ, 1, .inr (.inl (vp_updL fU (0 : Int32).toNatClampNeg 0))))] ++ (zs1.flatMap (tri cI))) := hD
    refine lv_goto (tgt := 22) hx hb d_L_late_16 (by decide) ?_
    refine lv_iconst (v := 0) hx hb d_L_late_22 (by decide) ?_
    have eC : (if ¬ zm = -1 ∧ fT zm.toNatClampNeg < zw then (1 : Int64) else 0) = 0 := if_neg hC
    have hP : va_P (dC, dI) vwCl ([(a0, .inr (2, [.ref aZ, .int (nI nz), .ref aO, .int orr, .int ol, .int mp, .ref aG, .int 1, .int fa, .int fb, .ref aP, .ref aW, .ref aK])), (aZ, .inl (cZ, 6, .inr (.inr (.inr (.inr fZ))))), (aO, .inl (cI, 1440, .inl fO)), (aG, .inl (cI, 1440, .inl g1)), (ou, .inl (cJ, 1, .inr (.inl (vp_updL fU 0 (if ¬ zm = -1 ∧ fT zm.toNatClampNeg < zw then (1 : Int64) else 0)))))] ++ (zs1.flatMap (tri cI))) H := by rw [eC]; exact hP
    exact W.iret (v := 0) hx hb hr (fun t ht hW => ⟨⟨0, (), rfl, rfl, by have h9 := hP; rw [← ht] at h9; exact h9⟩, hS.F ht⟩) hS.2.2 d_L_late_23
