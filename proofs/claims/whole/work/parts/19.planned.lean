/-- in how many of the first n minutes from b on it is less warm than zw -/
def cld (T : Nat → Int32) (zw : Int32) (b : Nat) : Nat → Nat
  | 0 => 0
  | n + 1 => cld T zw b n + (if T (b + n) < zw then 1 else 0)
theorem cld_le (T : Nat → Int32) (zw : Int32) (b : Nat) : ∀ n, cld T zw b n ≤ n
  | 0 => Nat.le_refl _
  | n + 1 => by
    have := cld_le T zw b n
    show cld T zw b n + (if _ then _ else _) ≤ n + 1
    split <;> omega
theorem g_C_107 : GoodIn GG (wsV R_C 107 R_C y_C_makePlan w_C_makePlan) := goodG (List.forall_mem_append.mpr ⟨List.forall_mem_cons.mpr ⟨k_267, List.forall_mem_cons.mpr ⟨k_269, List.forall_mem_cons.mpr ⟨ks_3, List.forall_mem_cons.mpr ⟨k_1, fun _ h => absurd h List.not_mem_nil⟩⟩⟩⟩, List.forall_mem_cons.mpr ⟨k_270, fun _ h => h⟩⟩)
theorem g_C_126 : GoodIn GG w_E_wholeMinutes := goodG (List.forall_mem_cons.mpr ⟨k_382, fun _ h => h⟩)
set_option maxHeartbeats 4000000 in
set_option maxRecDepth 100000 in
theorem c_plannedZone (l : Launch) (dC : Nat → ClassId) (dI : Nat → Nat → Nat) (cI cJ cZ cB : ClassId) (a0 aZ aO aG aP aW aK : Nat) (zc orr ol mp pl fa fb : Int32) (fZ : Nat → Option Nat) (fO fG g0 g1 : Nat → Int32) (nz k : Nat) (zs0 zs1 : List ZD) (za : Nat) (sz : Nat) (hn : nz ≤ 6) (hok : plOk fZ nz zs0) (hto : plTo fO mp nz zs0 fG g0 pl zs1 g1) (hk : k < nz) (hz : fZ k = some za) : Met l y_C_plannedZone w_C_plannedZone ({ frames := 7, cells := 0, slots := 0, locals := 115 }) (PC (dC, dI) (TY cI cJ cZ cB) [.ref a0, .int (nI k)] ([(a0, .inr (2, [.ref aZ, .int (nI nz), .ref aO, .int orr, .int ol, .int mp, .ref aG, .int pl, .int fa, .int fb, .ref aP, .ref aW, .ref aK])), (aZ, .inl (cZ, 6, .inr (.inr (.inr (.inr fZ))))), (aO, .inl (cI, 1440, .inl fO)), (aG, .inl (cI, 1440, .inl fG))] ++ (zs0.flatMap (tri cI))) sz (va_A ([(a0, .inr (2, [.ref aZ, .int (nI nz), .ref aO, .int orr, .int ol, .int mp, .ref aG, .int pl, .int fa, .int fb, .ref aP, .ref aW, .ref aK])), (aZ, .inl (cZ, 6, .inr (.inr (.inr (.inr fZ))))), (aO, .inl (cI, 1440, .inl fO)), (aG, .inl (cI, 1440, .inl fG))] ++ (zs0.flatMap (tri cI))) sz)) (va_Qq (fun (r : Option Nat) (_ : Unit) => r = some za) (fun (_ : Unit) (t : State) => va_P (dC, dI) vwCl ([(a0, .inr (2, [.ref aZ, .int (nI nz), .ref aO, .int orr, .int ol, .int mp, .ref aG, .int 1, .int fa, .int fb, .ref aP, .ref aW, .ref aK])), (aZ, .inl (cZ, 6, .inr (.inr (.inr (.inr fZ))))), (aO, .inl (cI, 1440, .inl fO)), (aG, .inl (cI, 1440, .inl g1))] ++ (zs1.flatMap (tri cI))) t.heap) (va_A ([(a0, .inr (2, [.ref aZ, .int (nI nz), .ref aO, .int orr, .int ol, .int mp, .ref aG, .int pl, .int fa, .int fb, .ref aP, .ref aW, .ref aK])), (aZ, .inl (cZ, 6, .inr (.inr (.inr (.inr fZ))))), (aO, .inl (cI, 1440, .inl fO)), (aG, .inl (cI, 1440, .inl fG))] ++ (zs0.flatMap (tri cI))) sz)) 0 0 (va_A ([(a0, .inr (2, [.ref aZ, .int (nI nz), .ref aO, .int orr, .int ol, .int mp, .ref aG, .int pl, .int fa, .int fb, .ref aP, .ref aW, .ref aK])), (aZ, .inl (cZ, 6, .inr (.inr (.inr (.inr fZ))))), (aO, .inl (cI, 1440, .inl fO)), (aG, .inl (cI, 1440, .inl fG))] ++ (zs0.flatMap (tri cI))) sz) := by
  refine Met.ofW (cc := b_C_plannedZone) (maxL := 3) (ret := (some (.object "StartTimes$Zone"))) (by decide) rfl ?_
  intro p e s m args below meth c s₁ B hml hv
  obtain ⟨rfl, hsz, hP, hK, hD0, hE⟩ := hv
  have hx := B.exec
  have hb := B.bytes
  have hr := B.returns
  have hG : ∀ w ∈ GG, w.before _ s = true := fun w h => atoms_spec (ws := w_C_plannedZone) B.pre w (List.mem_cons_of_mem _ h)
  have hown : s.vm.findClass R_C = some m.cls := findClass_of_methodNamed B.named
  have hlocks := B.notSynchronized
  subst hsz
  have hD := hD0.self (sz := s.heap.size)
  generalize hAe : (va_A ([(a0, .inr (2, [.ref aZ, .int (nI nz), .ref aO, .int orr, .int ol, .int mp, .ref aG, .int pl, .int fa, .int fb, .ref aP, .ref aW, .ref aK])), (aZ, .inl (cZ, 6, .inr (.inr (.inr (.inr fZ))))), (aO, .inl (cI, 1440, .inl fO)), (aG, .inl (cI, 1440, .inl fG))] ++ (zs0.flatMap (tri cI))) s.heap.size) = A at hD hE ⊢
  have hA : ∀ q : Nat, s.heap.size ≤ q → A q := fun q h => by rw [← hAe]; exact Or.inr h
  have hS : va_S A s.heap s.heap [] := va_S.rf
  obtain ⟨H, hH⟩ : ∃ z, z = s.heap := ⟨_, rfl⟩
  rw [← hH] at hP
  have hS : va_S A s.heap H [] := by rw [hH]; exact hS
  rw [← hH]
  have hl9 := lv_entry ([.ref a0, .int (nI k)]) (n := 3) (Nat.le_of_ble_eq_true rfl)
  rw [lg_entry_eq]
  generalize (lg_sl ([.ref a0, .int (nI k)]) ++ List.replicate (3 - (lg_sl ([.ref a0, .int (nI k)])).length) Slot.unset).toArray = ls at hl9 ⊢
  have hl9 : lv_has ls 3 [(0, .ref a0), (1, .int (nI k))] := hl9
  refine lv_aload_n hx hb d_C_plannedZone_0 rfl (lv_at hl9 0 rfl) ?_
  refine lv_iload_n hx hb d_C_plannedZone_1 rfl (lv_at hl9 1 rfl) ?_
  have hPc := hP.sub (ws' := [(a0, .inr (2, [.ref aZ, .int (nI nz), .ref aO, .int orr, .int ol, .int mp, .ref aG, .int pl, .int fa, .int fb, .ref aP, .ref aW, .ref aK])), (aZ, .inl (cZ, 6, .inr (.inr (.inr (.inr fZ)))))]) [0, 1] rfl
  have hDc := hD.sub (ws' := [(a0, .inr (2, [.ref aZ, .int (nI nz), .ref aO, .int orr, .int ol, .int mp, .ref aG, .int pl, .int fa, .int fb, .ref aP, .ref aW, .ref aK])), (aZ, .inl (cZ, 6, .inr (.inr (.inr (.inr fZ)))))]) [0, 1] (by decide) rfl
  have hFc := va_A_nil hA hS.1
  refine va_callq (va_runV (C := R_C) (As := [.int (nI k)]) (rest := []) ⟨hx, hb, hml, hown, hG⟩ (c_knownZone l dC dI cI cJ cZ cB a0 aZ aO aG aP aW aK (nI nz) orr ol mp pl fa fb fZ nz k za H.size hk hn hz) (cwV 1 hG g_C_70 rfl rfl rfl (by decide +kernel) ⟨Nat.le_of_ble_eq_true rfl, Nat.le_of_ble_eq_true rfl⟩) ⟨PC.blind, va_recv hK hP (ci := 2) (q0 := 0) rfl rfl, PC.of hPc hK hDc hE hS hFc⟩ rfl rfl hl9.1 rfl (lv_room (Nat.le_of_ble_eq_true rfl)) d_C_plannedZone_2 ⟨by first | exact Nat.le_of_ble_eq_true rfl | omega, by first | exact Nat.le_of_ble_eq_true rfl | omega⟩) hS (fun q _ h => hFc q h) hFc (fun r2 u t H1 locs ht hvm hw hB hz1 hk1 hS => ?_)
  have hP := wp_kept hP hk1
  have hw : r2 = some za := hw
  subst hw
  refine W.eq (g2 := F0 m 5 ls [.ref za]) rfl ?_
  refine lv_astore_n (lv' := [(2, .ref za), (0, .ref a0), (1, .int (nI k))]) hx hb d_C_plannedZone_5 rfl hl9 (by decide) rfl (fun ls hl9 => ?_)
  refine lv_aload_n hx hb d_C_plannedZone_6 rfl (lv_at hl9 1 rfl) ?_
  have hFc := free_all hD hS hA
  refine va_callv (va_runV (C := R_C) (As := []) (rest := []) ⟨hx, hb, hml, hown, hG⟩ (c_makePlan l dC dI cI cJ cZ cB a0 aZ aO aG aP aW aK (nI nz) orr ol mp pl fa fb fZ fO fG g0 g1 nz zs0 zs1 H1.size hn hok hto) (cwV 0 hG g_C_107 rfl rfl rfl (by decide +kernel) ⟨Nat.le_of_ble_eq_true rfl, Nat.le_of_ble_eq_true rfl⟩) ⟨PC.blind, va_recv hK hP (ci := 2) (q0 := 0) rfl rfl, PC.of hP hK hD hE hS hFc⟩ rfl rfl hl9.1 rfl (lv_room (Nat.le_of_ble_eq_true rfl)) d_C_plannedZone_7 ⟨by first | exact Nat.le_of_ble_eq_true rfl | omega, by first | exact Nat.le_of_ble_eq_true rfl | omega⟩) hS (fun q _ h => hFc q h) hFc (fun u t H3 locs ht hvm hw hB hz1 hk1 hS => ?_)
  rw [ht] at hB
  have hP : va_P (dC, dI) vwCl ([(a0, .inr (2, [.ref aZ, .int (nI nz), .ref aO, .int orr, .int ol, .int mp, .ref aG, .int 1, .int fa, .int fb, .ref aP, .ref aW, .ref aK])), (aZ, .inl (cZ, 6, .inr (.inr (.inr (.inr fZ))))), (aO, .inl (cI, 1440, .inl fO)), (aG, .inl (cI, 1440, .inl g1))] ++ (zs1.flatMap (tri cI))) H3 := hB
  have hD : va_D A ([(a0, .inr (2, [.ref aZ, .int (nI nz), .ref aO, .int orr, .int ol, .int mp, .ref aG, .int 1, .int fa, .int fb, .ref aP, .ref aW, .ref aK])), (aZ, .inl (cZ, 6, .inr (.inr (.inr (.inr fZ))))), (aO, .inl (cI, 1440, .inl fO)), (aG, .inl (cI, 1440, .inl g1))] ++ (zs1.flatMap (tri cI))) := wd_fst (adr_eq (B1 := [(a0, .inr (2, [.ref aZ, .int (nI nz), .ref aO, .int orr, .int ol, .int mp, .ref aG, .int 1, .int fa, .int fb, .ref aP, .ref aW, .ref aK])), (aZ, .inl (cZ, 6, .inr (.inr (.inr (.inr fZ))))), (aO, .inl (cI, 1440, .inl fO)), (aG, .inl (cI, 1440, .inl g1))]) (B := [(a0, .inr (2, [.ref aZ, .int (nI nz), .ref aO, .int orr, .int ol, .int mp, .ref aG, .int pl, .int fa, .int fb, .ref aP, .ref aW, .ref aK])), (aZ, .inl (cZ, 6, .inr (.inr (.inr (.inr fZ))))), (aO, .inl (cI, 1440, .inl fO)), (aG, .inl (cI, 1440, .inl fG))]) rfl (plTo_ad hto)) hD
  refine lv_aload_n hx hb d_C_plannedZone_10 rfl (lv_at hl9 0 rfl) ?_
  exact W.aret hx hb hr (Or.inl ⟨_, rfl⟩) (va_rf_or (some za)) (fun t ht hW => ⟨⟨(some za), (), rfl, rfl, by have h9 := hP; rw [← ht] at h9; exact h9⟩, hS.F ht⟩) hS.2.2 d_C_plannedZone_11
set_option maxHeartbeats 4000000 in
set_option maxRecDepth 100000 in
theorem c_used (l : Launch) (dC : Nat → ClassId) (dI : Nat → Nat → Nat) (cI cJ cZ cB : ClassId) (hl : l.stackTraces = false) (a0 aZ aO aG aP aW aK : Nat) (zc orr ol mp pl fa fb : Int32) (fZ : Nat → Option Nat) (fO fG g0 g1 : Nat → Int32) (nz : Nat) (zs0 zs1 : List ZD) (y : Int32) (sz : Nat) (hn : nz ≤ 6) (hok : plOk fZ nz zs0) (hto : plTo fO mp nz zs0 fG g0 pl zs1 g1) (hy : ¬ (y < 0 ∨ 1439 < y)) : Met l y_C_used w_C_used ({ frames := 7, cells := 1, slots := 6, locals := 115 }) (PC (dC, dI) (TY cI cJ cZ cB) [.ref a0, .int y] ([(a0, .inr (2, [.ref aZ, .int (nI nz), .ref aO, .int orr, .int ol, .int mp, .ref aG, .int pl, .int fa, .int fb, .ref aP, .ref aW, .ref aK])), (aZ, .inl (cZ, 6, .inr (.inr (.inr (.inr fZ))))), (aO, .inl (cI, 1440, .inl fO)), (aG, .inl (cI, 1440, .inl fG))] ++ (zs0.flatMap (tri cI))) sz (va_A ([(a0, .inr (2, [.ref aZ, .int (nI nz), .ref aO, .int orr, .int ol, .int mp, .ref aG, .int pl, .int fa, .int fb, .ref aP, .ref aW, .ref aK])), (aZ, .inl (cZ, 6, .inr (.inr (.inr (.inr fZ))))), (aO, .inl (cI, 1440, .inl fO)), (aG, .inl (cI, 1440, .inl fG))] ++ (zs0.flatMap (tri cI))) sz)) (va_Qi (fun (r : Int32) (_ : Unit) => r = g1 y.toNatClampNeg) (fun (_ : Unit) (t : State) => va_P (dC, dI) vwCl ([(a0, .inr (2, [.ref aZ, .int (nI nz), .ref aO, .int orr, .int ol, .int mp, .ref aG, .int 1, .int fa, .int fb, .ref aP, .ref aW, .ref aK])), (aZ, .inl (cZ, 6, .inr (.inr (.inr (.inr fZ))))), (aO, .inl (cI, 1440, .inl fO)), (aG, .inl (cI, 1440, .inl g1))] ++ (zs1.flatMap (tri cI))) t.heap) (va_A ([(a0, .inr (2, [.ref aZ, .int (nI nz), .ref aO, .int orr, .int ol, .int mp, .ref aG, .int pl, .int fa, .int fb, .ref aP, .ref aW, .ref aK])), (aZ, .inl (cZ, 6, .inr (.inr (.inr (.inr fZ))))), (aO, .inl (cI, 1440, .inl fO)), (aG, .inl (cI, 1440, .inl fG))] ++ (zs0.flatMap (tri cI))) sz)) 1 6 (va_A ([(a0, .inr (2, [.ref aZ, .int (nI nz), .ref aO, .int orr, .int ol, .int mp, .ref aG, .int pl, .int fa, .int fb, .ref aP, .ref aW, .ref aK])), (aZ, .inl (cZ, 6, .inr (.inr (.inr (.inr fZ))))), (aO, .inl (cI, 1440, .inl fO)), (aG, .inl (cI, 1440, .inl fG))] ++ (zs0.flatMap (tri cI))) sz) := by
  refine Met.ofW (cc := b_C_used) (maxL := 2) (ret := (some .int)) (by decide) rfl ?_
  intro p e s m args below meth c s₁ B hml hv
  obtain ⟨rfl, hsz, hP, hK, hD0, hE⟩ := hv
  have hx := B.exec
  have hb := B.bytes
  have hr := B.returns
  have hG : ∀ w ∈ GG, w.before _ s = true := fun w h => atoms_spec (ws := w_C_used) B.pre w (List.mem_cons_of_mem _ h)
  have hown : s.vm.findClass R_C = some m.cls := findClass_of_methodNamed B.named
  have hlocks := B.notSynchronized
  subst hsz
  have hD := hD0.self (sz := s.heap.size)
  generalize hAe : (va_A ([(a0, .inr (2, [.ref aZ, .int (nI nz), .ref aO, .int orr, .int ol, .int mp, .ref aG, .int pl, .int fa, .int fb, .ref aP, .ref aW, .ref aK])), (aZ, .inl (cZ, 6, .inr (.inr (.inr (.inr fZ))))), (aO, .inl (cI, 1440, .inl fO)), (aG, .inl (cI, 1440, .inl fG))] ++ (zs0.flatMap (tri cI))) s.heap.size) = A at hD hE ⊢
  have hA : ∀ q : Nat, s.heap.size ≤ q → A q := fun q h => by rw [← hAe]; exact Or.inr h
  have hS : va_S A s.heap s.heap [] := va_S.rf
  obtain ⟨H, hH⟩ : ∃ z, z = s.heap := ⟨_, rfl⟩
  rw [← hH] at hP
  have hS : va_S A s.heap H [] := by rw [hH]; exact hS
  rw [← hH]
  have hl9 := lv_entry ([.ref a0, .int y]) (n := 2) (Nat.le_of_ble_eq_true rfl)
  rw [lg_entry_eq]
  generalize (lg_sl ([.ref a0, .int y]) ++ List.replicate (2 - (lg_sl ([.ref a0, .int y])).length) Slot.unset).toArray = ls at hl9 ⊢
  have hl9 : lv_has ls 2 [(0, .ref a0), (1, .int y)] := hl9
  have hin : vp_in y 1440 := in_bd hy (by decide)
  refine lv_iload_n hx hb d_C_used_0 rfl (lv_at hl9 1 rfl) ?_
  refine lv_iconst (v := 0) hx hb d_C_used_1 (by decide) ?_
  refine lv_sipush (v := 1439) hx hb d_C_used_2 (by decide) ?_
  have hPc := hP.sub (ws' := []) [] rfl
  have hDc := hD.sub (ws' := []) [] (by decide) rfl
  have hFc := va_A_nil hA hS.1
  refine vx_callv (vx_runS (As := [.int y, .int 0, .int 1439]) (rest := []) ⟨hx, hb, hml, hown, hG⟩ (c_checkBounds l dC dI cI cJ cZ cB hl y 0 1439 H.size ) (cwS 3 hG g_C_56 rfl rfl rfl (by decide +kernel) ⟨Nat.le_of_ble_eq_true rfl, Nat.le_of_ble_eq_true rfl⟩) ⟨PC.blind, PC.of hPc hK hDc hE hS hFc⟩ rfl rfl hl9.1 rfl (lv_room (Nat.le_of_ble_eq_true rfl)) d_C_used_5 ⟨by first | exact Nat.le_of_ble_eq_true rfl | omega, by first | exact Nat.le_of_ble_eq_true rfl | omega⟩) hS (fun q _ h => hFc q h) hFc (fun q _ h => hFc q h) (fun E ce q9 u t H1 locs ht hvm hpx hB hz1 hk1 hS hce hcv hcl => ?_) (fun u t H1 locs ht hvm hw hB hz1 hk1 hS => ?_)
  · exact absurd hB.2 hy
  have hw := hw
  have hP := wp_kept hP hk1
  have hq3 : ¬ (y < 0 ∨ 1439 < y) := hw
  refine lv_aload_n hx hb d_C_used_8 rfl (lv_at hl9 0 rfl) ?_
  have hFc := free_all hD hS hA
  refine va_callv (va_runV (C := R_C) (As := []) (rest := []) ⟨hx, hb, hml, hown, hG⟩ (c_makePlan l dC dI cI cJ cZ cB a0 aZ aO aG aP aW aK (nI nz) orr ol mp pl fa fb fZ fO fG g0 g1 nz zs0 zs1 H1.size hn hok hto) (cwV 0 hG g_C_107 rfl rfl rfl (by decide +kernel) ⟨Nat.le_of_ble_eq_true rfl, Nat.le_of_ble_eq_true rfl⟩) ⟨PC.blind, va_recv hK hP (ci := 2) (q0 := 0) rfl rfl, PC.of hP hK hD hE hS hFc⟩ rfl rfl hl9.1 rfl (lv_room (Nat.le_of_ble_eq_true rfl)) d_C_used_9 ⟨by first | exact Nat.le_of_ble_eq_true rfl | omega, by first | exact Nat.le_of_ble_eq_true rfl | omega⟩) hS (fun q _ h => hFc q h) hFc (fun u t H4 locs ht hvm hw hB hz1 hk1 hS => ?_)
  rw [ht] at hB
  have hP : va_P (dC, dI) vwCl ([(a0, .inr (2, [.ref aZ, .int (nI nz), .ref aO, .int orr, .int ol, .int mp, .ref aG, .int 1, .int fa, .int fb, .ref aP, .ref aW, .ref aK])), (aZ, .inl (cZ, 6, .inr (.inr (.inr (.inr fZ))))), (aO, .inl (cI, 1440, .inl fO)), (aG, .inl (cI, 1440, .inl g1))] ++ (zs1.flatMap (tri cI))) H4 := hB
  have hD : va_D A ([(a0, .inr (2, [.ref aZ, .int (nI nz), .ref aO, .int orr, .int ol, .int mp, .ref aG, .int 1, .int fa, .int fb, .ref aP, .ref aW, .ref aK])), (aZ, .inl (cZ, 6, .inr (.inr (.inr (.inr fZ))))), (aO, .inl (cI, 1440, .inl fO)), (aG, .inl (cI, 1440, .inl g1))] ++ (zs1.flatMap (tri cI))) := wd_fst (adr_eq (B1 := [(a0, .inr (2, [.ref aZ, .int (nI nz), .ref aO, .int orr, .int ol, .int mp, .ref aG, .int 1, .int fa, .int fb, .ref aP, .ref aW, .ref aK])), (aZ, .inl (cZ, 6, .inr (.inr (.inr (.inr fZ))))), (aO, .inl (cI, 1440, .inl fO)), (aG, .inl (cI, 1440, .inl g1))]) (B := [(a0, .inr (2, [.ref aZ, .int (nI nz), .ref aO, .int orr, .int ol, .int mp, .ref aG, .int pl, .int fa, .int fb, .ref aP, .ref aW, .ref aK])), (aZ, .inl (cZ, 6, .inr (.inr (.inr (.inr fZ))))), (aO, .inl (cI, 1440, .inl fO)), (aG, .inl (cI, 1440, .inl fG))]) rfl (plTo_ad hto)) hD
  refine lv_aload_n hx hb d_C_used_12 rfl (lv_at hl9 0 rfl) ?_
  refine va_get (D := (dC, dI)) (ci := 2) (v := .ref aG) (C := R_C) (T := F_C) (N := 13) hx hb hG i_C hown hK hP 0 rfl rfl 6 (by decide) (hG _ k_28) (fun _ h9 => h9) rfl d_C_used_13 ?_
  refine lv_iload_n hx hb d_C_used_16 rfl (lv_at hl9 1 rfl) ?_
  refine va_iald hx hb hK hP 3 0 rfl rfl (hin) d_C_used_17 ?_
  exact W.iret (v := (g1 y.toNatClampNeg)) hx hb hr (fun t ht hW => ⟨⟨(g1 y.toNatClampNeg), (), rfl, rfl, by have h9 := hP; rw [← ht] at h9; exact h9⟩, hS.F ht⟩) hS.2.2 d_C_used_18
set_option maxHeartbeats 4000000 in
set_option maxRecDepth 100000 in
theorem c_usedX (l : Launch) (dC : Nat → ClassId) (dI : Nat → Nat → Nat) (cI cJ cZ cB : ClassId) (hl : l.stackTraces = false) (a0 : Nat) (y : Int32) (sz : Nat) (hy : (y < 0 ∨ 1439 < y)) : vx_Met l y_C_used w_C_used ({ frames := 7, cells := 1, slots := 6, locals := 115 }) (PC (dC, dI) (TY cI cJ cZ cB) [.ref a0, .int y] [] sz (va_A [] sz)) (va_Qi (fun (r : Int32) (_ : Unit) => False) (fun (_ : Unit) (_ : State) => True) (va_A [] sz)) (vx_X (fun (_ : Unit) => True) (fun (E : String) (_ : Unit) (_ : State) => E = "java/lang/IllegalArgumentException") (va_A [] sz)) 1 6 (va_A [] sz) := by
  refine vx_ofW (cc := b_C_used) (maxL := 2) (ret := (some .int)) (by decide) rfl ?_
  intro p e s m args below meth c s₁ B hml hnx hv
  obtain ⟨rfl, hsz, hP, hK, hD0, hE⟩ := hv
  have hx := B.exec
  have hb := B.bytes
  have hr := B.returns
  have hG : ∀ w ∈ GG, w.before _ s = true := fun w h => atoms_spec (ws := w_C_used) B.pre w (List.mem_cons_of_mem _ h)
  have hown : s.vm.findClass R_C = some m.cls := findClass_of_methodNamed B.named
  have hlocks := B.notSynchronized
  subst hsz
  generalize hAe : (va_A [] s.heap.size) = A at hE ⊢
  have hA : ∀ q : Nat, s.heap.size ≤ q → A q := fun q h => by rw [← hAe]; exact Or.inr h
  have hS : va_S A s.heap s.heap [] := va_S.rf
  have hD := hD0
  obtain ⟨H, hH⟩ : ∃ z, z = s.heap := ⟨_, rfl⟩
  rw [← hH] at hP
  have hS : va_S A s.heap H [] := by rw [hH]; exact hS
  rw [← hH]
  have hl9 := lv_entry ([.ref a0, .int y]) (n := 2) (Nat.le_of_ble_eq_true rfl)
  rw [lg_entry_eq]
  generalize (lg_sl ([.ref a0, .int y]) ++ List.replicate (2 - (lg_sl ([.ref a0, .int y])).length) Slot.unset).toArray = ls at hl9 ⊢
  have hl9 : lv_has ls 2 [(0, .ref a0), (1, .int y)] := hl9
  refine lv_iload_n hx hb d_C_used_0 rfl (lv_at hl9 1 rfl) ?_
  refine lv_iconst (v := 0) hx hb d_C_used_1 (by decide) ?_
  refine lv_sipush (v := 1439) hx hb d_C_used_2 (by decide) ?_
  have hPc := hP.sub (ws' := []) [] rfl
  have hDc := hD.sub (ws' := []) [] (by decide) rfl
  have hFc := va_A_nil hA hS.1
  refine vx_callv (vx_runS (As := [.int y, .int 0, .int 1439]) (rest := []) ⟨hx, hb, hml, hown, hG⟩ (c_checkBounds l dC dI cI cJ cZ cB hl y 0 1439 H.size ) (cwS 3 hG g_C_56 rfl rfl rfl (by decide +kernel) ⟨Nat.le_of_ble_eq_true rfl, Nat.le_of_ble_eq_true rfl⟩) ⟨PC.blind, PC.of hPc hK hDc hE hS hFc⟩ rfl rfl hl9.1 rfl (lv_room (Nat.le_of_ble_eq_true rfl)) d_C_used_5 ⟨by first | exact Nat.le_of_ble_eq_true rfl | omega, by first | exact Nat.le_of_ble_eq_true rfl | omega⟩) hS (fun q _ h => hFc q h) hFc (fun q _ h => hFc q h) (fun E ce q9 u t H1 locs ht hvm hpx hB hz1 hk1 hS hce hcv hcl => ?_) (fun u t H1 locs ht hvm hw hB hz1 hk1 hS => ?_)
  · exact vx_out (fun x hx => (hnx x hx).elim) hlocks hce hcv hcl (fun t ht ha => ⟨(), trivial, hB.1, hS.F ht⟩) hS.2.2 (by first | exact Nat.le_of_ble_eq_true rfl | omega) (by first | exact Nat.le_of_ble_eq_true rfl | omega)
  have hw := hw
  have hP := wp_kept hP hk1
  have hq3 : ¬ (y < 0 ∨ 1439 < y) := hw
  exact absurd hy hw
set_option maxHeartbeats 4000000 in
set_option maxRecDepth 100000 in
theorem c_start (l : Launch) (dC : Nat → ClassId) (dI : Nat → Nat → Nat) (cI cJ cZ cB : ClassId) (a0 aZ aO aG aP aW aK : Nat) (zc orr ol mp pl fa fb : Int32) (fZ : Nat → Option Nat) (fO fG g0 g1 : Nat → Int32) (nz k : Nat) (zs0 zs1 : List ZD) (za la wa : Nat) (zh zl zf zp zr zm zw zs : Int32) (ea eb : Int64) (fT : Nat → Int32) (sz : Nat) (hn : nz ≤ 6) (hok : plOk fZ nz zs0) (hto : plTo fO mp nz zs0 fG g0 pl zs1 g1) (hk : k < nz) (hz : fZ k = some za) (hs1 : zs1[k]? = some ((za, la, wa), (zh, zl, zf, zp, zr, zm, zw, zs), (ea, eb), fT)) : Met l y_C_start w_C_start ({ frames := 8, cells := 0, slots := 0, locals := 137 }) (PC (dC, dI) (TY cI cJ cZ cB) [.ref a0, .int (nI k)] ([(a0, .inr (2, [.ref aZ, .int (nI nz), .ref aO, .int orr, .int ol, .int mp, .ref aG, .int pl, .int fa, .int fb, .ref aP, .ref aW, .ref aK])), (aZ, .inl (cZ, 6, .inr (.inr (.inr (.inr fZ))))), (aO, .inl (cI, 1440, .inl fO)), (aG, .inl (cI, 1440, .inl fG))] ++ (zs0.flatMap (tri cI))) sz (va_A ([(a0, .inr (2, [.ref aZ, .int (nI nz), .ref aO, .int orr, .int ol, .int mp, .ref aG, .int pl, .int fa, .int fb, .ref aP, .ref aW, .ref aK])), (aZ, .inl (cZ, 6, .inr (.inr (.inr (.inr fZ))))), (aO, .inl (cI, 1440, .inl fO)), (aG, .inl (cI, 1440, .inl fG))] ++ (zs0.flatMap (tri cI))) sz)) (va_Qi (fun (r : Int32) (_ : Unit) => r = zs) (fun (_ : Unit) (t : State) => va_P (dC, dI) vwCl ([(a0, .inr (2, [.ref aZ, .int (nI nz), .ref aO, .int orr, .int ol, .int mp, .ref aG, .int 1, .int fa, .int fb, .ref aP, .ref aW, .ref aK])), (aZ, .inl (cZ, 6, .inr (.inr (.inr (.inr fZ))))), (aO, .inl (cI, 1440, .inl fO)), (aG, .inl (cI, 1440, .inl g1))] ++ (zs1.flatMap (tri cI))) t.heap) (va_A ([(a0, .inr (2, [.ref aZ, .int (nI nz), .ref aO, .int orr, .int ol, .int mp, .ref aG, .int pl, .int fa, .int fb, .ref aP, .ref aW, .ref aK])), (aZ, .inl (cZ, 6, .inr (.inr (.inr (.inr fZ))))), (aO, .inl (cI, 1440, .inl fO)), (aG, .inl (cI, 1440, .inl fG))] ++ (zs0.flatMap (tri cI))) sz)) 0 0 (va_A ([(a0, .inr (2, [.ref aZ, .int (nI nz), .ref aO, .int orr, .int ol, .int mp, .ref aG, .int pl, .int fa, .int fb, .ref aP, .ref aW, .ref aK])), (aZ, .inl (cZ, 6, .inr (.inr (.inr (.inr fZ))))), (aO, .inl (cI, 1440, .inl fO)), (aG, .inl (cI, 1440, .inl fG))] ++ (zs0.flatMap (tri cI))) sz) := by
  refine Met.ofW (cc := b_C_start) (maxL := 2) (ret := (some .int)) (by decide) rfl ?_
  intro p e s m args below meth c s₁ B hml hv
  obtain ⟨rfl, hsz, hP, hK, hD0, hE⟩ := hv
  have hx := B.exec
  have hb := B.bytes
  have hr := B.returns
  have hG : ∀ w ∈ GG, w.before _ s = true := fun w h => atoms_spec (ws := w_C_start) B.pre w (List.mem_cons_of_mem _ h)
  have hown : s.vm.findClass R_C = some m.cls := findClass_of_methodNamed B.named
  have hlocks := B.notSynchronized
  subst hsz
  have hD := hD0.self (sz := s.heap.size)
  generalize hAe : (va_A ([(a0, .inr (2, [.ref aZ, .int (nI nz), .ref aO, .int orr, .int ol, .int mp, .ref aG, .int pl, .int fa, .int fb, .ref aP, .ref aW, .ref aK])), (aZ, .inl (cZ, 6, .inr (.inr (.inr (.inr fZ))))), (aO, .inl (cI, 1440, .inl fO)), (aG, .inl (cI, 1440, .inl fG))] ++ (zs0.flatMap (tri cI))) s.heap.size) = A at hD hE ⊢
  have hA : ∀ q : Nat, s.heap.size ≤ q → A q := fun q h => by rw [← hAe]; exact Or.inr h
  have hS : va_S A s.heap s.heap [] := va_S.rf
  obtain ⟨H, hH⟩ : ∃ z, z = s.heap := ⟨_, rfl⟩
  rw [← hH] at hP
  have hS : va_S A s.heap H [] := by rw [hH]; exact hS
  rw [← hH]
  have hl9 := lv_entry ([.ref a0, .int (nI k)]) (n := 2) (Nat.le_of_ble_eq_true rfl)
  rw [lg_entry_eq]
  generalize (lg_sl ([.ref a0, .int (nI k)]) ++ List.replicate (2 - (lg_sl ([.ref a0, .int (nI k)])).length) Slot.unset).toArray = ls at hl9 ⊢
  have hl9 : lv_has ls 2 [(0, .ref a0), (1, .int (nI k))] := hl9
  refine lv_aload_n hx hb d_C_start_0 rfl (lv_at hl9 0 rfl) ?_
  refine lv_iload_n hx hb d_C_start_1 rfl (lv_at hl9 1 rfl) ?_
  have hFc := free_all hD hS hA
  refine va_callq (va_runV (C := R_C) (As := [.int (nI k)]) (rest := []) ⟨hx, hb, hml, hown, hG⟩ (c_plannedZone l dC dI cI cJ cZ cB a0 aZ aO aG aP aW aK (nI nz) orr ol mp pl fa fb fZ fO fG g0 g1 nz k zs0 zs1 za H.size hn hok hto hk hz) (cwV 1 hG g_C_94 rfl rfl rfl (by decide +kernel) ⟨Nat.le_of_ble_eq_true rfl, Nat.le_of_ble_eq_true rfl⟩) ⟨PC.blind, va_recv hK hP (ci := 2) (q0 := 0) rfl rfl, PC.of hP hK hD hE hS hFc⟩ rfl rfl hl9.1 rfl (lv_room (Nat.le_of_ble_eq_true rfl)) d_C_start_2 ⟨by first | exact Nat.le_of_ble_eq_true rfl | omega, by first | exact Nat.le_of_ble_eq_true rfl | omega⟩) hS (fun q _ h => hFc q h) hFc (fun r2 u t H1 locs ht hvm hw hB hz1 hk1 hS => ?_)
  rw [ht] at hB
  have hP : va_P (dC, dI) vwCl ([(a0, .inr (2, [.ref aZ, .int (nI nz), .ref aO, .int orr, .int ol, .int mp, .ref aG, .int 1, .int fa, .int fb, .ref aP, .ref aW, .ref aK])), (aZ, .inl (cZ, 6, .inr (.inr (.inr (.inr fZ))))), (aO, .inl (cI, 1440, .inl fO)), (aG, .inl (cI, 1440, .inl g1))] ++ (zs1.flatMap (tri cI))) H1 := hB
  have hD : va_D A ([(a0, .inr (2, [.ref aZ, .int (nI nz), .ref aO, .int orr, .int ol, .int mp, .ref aG, .int 1, .int fa, .int fb, .ref aP, .ref aW, .ref aK])), (aZ, .inl (cZ, 6, .inr (.inr (.inr (.inr fZ))))), (aO, .inl (cI, 1440, .inl fO)), (aG, .inl (cI, 1440, .inl g1))] ++ (zs1.flatMap (tri cI))) := wd_fst (adr_eq (B1 := [(a0, .inr (2, [.ref aZ, .int (nI nz), .ref aO, .int orr, .int ol, .int mp, .ref aG, .int 1, .int fa, .int fb, .ref aP, .ref aW, .ref aK])), (aZ, .inl (cZ, 6, .inr (.inr (.inr (.inr fZ))))), (aO, .inl (cI, 1440, .inl fO)), (aG, .inl (cI, 1440, .inl g1))]) (B := [(a0, .inr (2, [.ref aZ, .int (nI nz), .ref aO, .int orr, .int ol, .int mp, .ref aG, .int pl, .int fa, .int fb, .ref aP, .ref aW, .ref aK])), (aZ, .inl (cZ, 6, .inr (.inr (.inr (.inr fZ))))), (aO, .inl (cI, 1440, .inl fO)), (aG, .inl (cI, 1440, .inl fG))]) rfl (plTo_ad hto)) hD
  have hw : r2 = some za := hw
  subst hw
  refine W.eq (g2 := F0 m 5 ls [.ref za]) rfl ?_
  have hPf := hP
  have hDf := hD
  have hP : va_P (dC, dI) vwCl [(za, .inr (1, [.int zh, .int zl, .int zf, .int zp, .int zr, .int zm, .int zw, .ref la, .int zs, .ref wa])), (la, .inr (0, [.long ea, .long eb])), (wa, .inl (cI, 1441, .inl fT))] H1 := zone_P hPf hs1
  have hD : va_D A [(za, .inr (1, [.int zh, .int zl, .int zf, .int zp, .int zr, .int zm, .int zw, .ref la, .int zs, .ref wa])), (la, .inr (0, [.long ea, .long eb])), (wa, .inl (cI, 1441, .inl fT))] := zone_D hDf hs1
  refine va_getN (D := (dC, dI)) (ci := 1) (v := .int zs) (C := R_Z) (T := F_Z) (N := 10) hx hb hG i_Z hown hK hP 0 rfl rfl 8 (by decide) (hE.1.use k_196) (fun _ h9 => h9) rfl d_C_start_5 ?_
  exact W.iret (v := zs) hx hb hr (fun t ht hW => ⟨⟨zs, (), rfl, rfl, by have h9 := hPf; rw [← ht] at h9; exact h9⟩, hS.F ht⟩) hS.2.2 d_C_start_8
set_option maxHeartbeats 4000000 in
set_option maxRecDepth 100000 in
theorem c_at (l : Launch) (dC : Nat → ClassId) (dI : Nat → Nat → Nat) (cI cJ cZ cB : ClassId) (hl : l.stackTraces = false) (a0 aZ aO aG aP aW aK : Nat) (zc orr ol mp pl fa fb : Int32) (fZ : Nat → Option Nat) (fO fG g0 g1 : Nat → Int32) (nz k : Nat) (zs0 zs1 : List ZD) (za la wa : Nat) (zh zl zf zp zr zm zw zs : Int32) (ea eb : Int64) (fT : Nat → Int32) (y : Int32) (sz : Nat) (hn : nz ≤ 6) (hok : plOk fZ nz zs0) (hto : plTo fO mp nz zs0 fG g0 pl zs1 g1) (hk : k < nz) (hz : fZ k = some za) (hs1 : zs1[k]? = some ((za, la, wa), (zh, zl, zf, zp, zr, zm, zw, zs), (ea, eb), fT)) (hy : ¬ (y < 0 ∨ 1440 < y)) : Met l y_C_at w_C_at ({ frames := 8, cells := 1, slots := 6, locals := 137 }) (PC (dC, dI) (TY cI cJ cZ cB) [.ref a0, .int (nI k), .int y] ([(a0, .inr (2, [.ref aZ, .int (nI nz), .ref aO, .int orr, .int ol, .int mp, .ref aG, .int pl, .int fa, .int fb, .ref aP, .ref aW, .ref aK])), (aZ, .inl (cZ, 6, .inr (.inr (.inr (.inr fZ))))), (aO, .inl (cI, 1440, .inl fO)), (aG, .inl (cI, 1440, .inl fG))] ++ (zs0.flatMap (tri cI))) sz (va_A ([(a0, .inr (2, [.ref aZ, .int (nI nz), .ref aO, .int orr, .int ol, .int mp, .ref aG, .int pl, .int fa, .int fb, .ref aP, .ref aW, .ref aK])), (aZ, .inl (cZ, 6, .inr (.inr (.inr (.inr fZ))))), (aO, .inl (cI, 1440, .inl fO)), (aG, .inl (cI, 1440, .inl fG))] ++ (zs0.flatMap (tri cI))) sz)) (va_Qi (fun (r : Int32) (_ : Unit) => r = fT y.toNatClampNeg) (fun (_ : Unit) (t : State) => va_P (dC, dI) vwCl ([(a0, .inr (2, [.ref aZ, .int (nI nz), .ref aO, .int orr, .int ol, .int mp, .ref aG, .int 1, .int fa, .int fb, .ref aP, .ref aW, .ref aK])), (aZ, .inl (cZ, 6, .inr (.inr (.inr (.inr fZ))))), (aO, .inl (cI, 1440, .inl fO)), (aG, .inl (cI, 1440, .inl g1))] ++ (zs1.flatMap (tri cI))) t.heap) (va_A ([(a0, .inr (2, [.ref aZ, .int (nI nz), .ref aO, .int orr, .int ol, .int mp, .ref aG, .int pl, .int fa, .int fb, .ref aP, .ref aW, .ref aK])), (aZ, .inl (cZ, 6, .inr (.inr (.inr (.inr fZ))))), (aO, .inl (cI, 1440, .inl fO)), (aG, .inl (cI, 1440, .inl fG))] ++ (zs0.flatMap (tri cI))) sz)) 1 6 (va_A ([(a0, .inr (2, [.ref aZ, .int (nI nz), .ref aO, .int orr, .int ol, .int mp, .ref aG, .int pl, .int fa, .int fb, .ref aP, .ref aW, .ref aK])), (aZ, .inl (cZ, 6, .inr (.inr (.inr (.inr fZ))))), (aO, .inl (cI, 1440, .inl fO)), (aG, .inl (cI, 1440, .inl fG))] ++ (zs0.flatMap (tri cI))) sz) := by
  refine Met.ofW (cc := b_C_at) (maxL := 3) (ret := (some .int)) (by decide) rfl ?_
  intro p e s m args below meth c s₁ B hml hv
  obtain ⟨rfl, hsz, hP, hK, hD0, hE⟩ := hv
  have hx := B.exec
  have hb := B.bytes
  have hr := B.returns
  have hG : ∀ w ∈ GG, w.before _ s = true := fun w h => atoms_spec (ws := w_C_at) B.pre w (List.mem_cons_of_mem _ h)
  have hown : s.vm.findClass R_C = some m.cls := findClass_of_methodNamed B.named
  have hlocks := B.notSynchronized
  subst hsz
  have hD := hD0.self (sz := s.heap.size)
  generalize hAe : (va_A ([(a0, .inr (2, [.ref aZ, .int (nI nz), .ref aO, .int orr, .int ol, .int mp, .ref aG, .int pl, .int fa, .int fb, .ref aP, .ref aW, .ref aK])), (aZ, .inl (cZ, 6, .inr (.inr (.inr (.inr fZ))))), (aO, .inl (cI, 1440, .inl fO)), (aG, .inl (cI, 1440, .inl fG))] ++ (zs0.flatMap (tri cI))) s.heap.size) = A at hD hE ⊢
  have hA : ∀ q : Nat, s.heap.size ≤ q → A q := fun q h => by rw [← hAe]; exact Or.inr h
  have hS : va_S A s.heap s.heap [] := va_S.rf
  obtain ⟨H, hH⟩ : ∃ z, z = s.heap := ⟨_, rfl⟩
  rw [← hH] at hP
  have hS : va_S A s.heap H [] := by rw [hH]; exact hS
  rw [← hH]
  have hl9 := lv_entry ([.ref a0, .int (nI k), .int y]) (n := 3) (Nat.le_of_ble_eq_true rfl)
  rw [lg_entry_eq]
  generalize (lg_sl ([.ref a0, .int (nI k), .int y]) ++ List.replicate (3 - (lg_sl ([.ref a0, .int (nI k), .int y])).length) Slot.unset).toArray = ls at hl9 ⊢
  have hl9 : lv_has ls 3 [(0, .ref a0), (1, .int (nI k)), (2, .int y)] := hl9
  refine lv_iload_n hx hb d_C_at_0 rfl (lv_at hl9 2 rfl) ?_
  refine lv_iconst (v := 0) hx hb d_C_at_1 (by decide) ?_
  refine lv_sipush (v := 1440) hx hb d_C_at_2 (by decide) ?_
  have hin : vp_in y 1441 := in_bd hy (by decide)
  have hPc := hP.sub (ws' := []) [] rfl
  have hDc := hD.sub (ws' := []) [] (by decide) rfl
  have hFc := va_A_nil hA hS.1
  refine vx_callv (vx_runS (As := [.int y, .int 0, .int 1440]) (rest := []) ⟨hx, hb, hml, hown, hG⟩ (c_checkBounds l dC dI cI cJ cZ cB hl y 0 1440 H.size ) (cwS 3 hG g_C_56 rfl rfl rfl (by decide +kernel) ⟨Nat.le_of_ble_eq_true rfl, Nat.le_of_ble_eq_true rfl⟩) ⟨PC.blind, PC.of hPc hK hDc hE hS hFc⟩ rfl rfl hl9.1 rfl (lv_room (Nat.le_of_ble_eq_true rfl)) d_C_at_5 ⟨by first | exact Nat.le_of_ble_eq_true rfl | omega, by first | exact Nat.le_of_ble_eq_true rfl | omega⟩) hS (fun q _ h => hFc q h) hFc (fun q _ h => hFc q h) (fun E ce q9 u t H1 locs ht hvm hpx hB hz1 hk1 hS hce hcv hcl => ?_) (fun u t H1 locs ht hvm hw hB hz1 hk1 hS => ?_)
  · exact absurd hB.2 hy
  have hw := hw
  have hP := wp_kept hP hk1
  have hq3 : ¬ (y < 0 ∨ 1440 < y) := hw
  refine lv_aload_n hx hb d_C_at_8 rfl (lv_at hl9 0 rfl) ?_
  refine lv_iload_n hx hb d_C_at_9 rfl (lv_at hl9 1 rfl) ?_
  have hFc := free_all hD hS hA
  refine va_callq (va_runV (C := R_C) (As := [.int (nI k)]) (rest := []) ⟨hx, hb, hml, hown, hG⟩ (c_plannedZone l dC dI cI cJ cZ cB a0 aZ aO aG aP aW aK (nI nz) orr ol mp pl fa fb fZ fO fG g0 g1 nz k zs0 zs1 za H1.size hn hok hto hk hz) (cwV 1 hG g_C_94 rfl rfl rfl (by decide +kernel) ⟨Nat.le_of_ble_eq_true rfl, Nat.le_of_ble_eq_true rfl⟩) ⟨PC.blind, va_recv hK hP (ci := 2) (q0 := 0) rfl rfl, PC.of hP hK hD hE hS hFc⟩ rfl rfl hl9.1 rfl (lv_room (Nat.le_of_ble_eq_true rfl)) d_C_at_10 ⟨by first | exact Nat.le_of_ble_eq_true rfl | omega, by first | exact Nat.le_of_ble_eq_true rfl | omega⟩) hS (fun q _ h => hFc q h) hFc (fun r5 u t H4 locs ht hvm hw hB hz1 hk1 hS => ?_)
  rw [ht] at hB
  have hP : va_P (dC, dI) vwCl ([(a0, .inr (2, [.ref aZ, .int (nI nz), .ref aO, .int orr, .int ol, .int mp, .ref aG, .int 1, .int fa, .int fb, .ref aP, .ref aW, .ref aK])), (aZ, .inl (cZ, 6, .inr (.inr (.inr (.inr fZ))))), (aO, .inl (cI, 1440, .inl fO)), (aG, .inl (cI, 1440, .inl g1))] ++ (zs1.flatMap (tri cI))) H4 := hB
  have hD : va_D A ([(a0, .inr (2, [.ref aZ, .int (nI nz), .ref aO, .int orr, .int ol, .int mp, .ref aG, .int 1, .int fa, .int fb, .ref aP, .ref aW, .ref aK])), (aZ, .inl (cZ, 6, .inr (.inr (.inr (.inr fZ))))), (aO, .inl (cI, 1440, .inl fO)), (aG, .inl (cI, 1440, .inl g1))] ++ (zs1.flatMap (tri cI))) := wd_fst (adr_eq (B1 := [(a0, .inr (2, [.ref aZ, .int (nI nz), .ref aO, .int orr, .int ol, .int mp, .ref aG, .int 1, .int fa, .int fb, .ref aP, .ref aW, .ref aK])), (aZ, .inl (cZ, 6, .inr (.inr (.inr (.inr fZ))))), (aO, .inl (cI, 1440, .inl fO)), (aG, .inl (cI, 1440, .inl g1))]) (B := [(a0, .inr (2, [.ref aZ, .int (nI nz), .ref aO, .int orr, .int ol, .int mp, .ref aG, .int pl, .int fa, .int fb, .ref aP, .ref aW, .ref aK])), (aZ, .inl (cZ, 6, .inr (.inr (.inr (.inr fZ))))), (aO, .inl (cI, 1440, .inl fO)), (aG, .inl (cI, 1440, .inl fG))]) rfl (plTo_ad hto)) hD
  have hw : r5 = some za := hw
  subst hw
  refine W.eq (g2 := F0 m 13 ls [.ref za]) rfl ?_
  have hPf := hP
  have hDf := hD
  have hP : va_P (dC, dI) vwCl [(za, .inr (1, [.int zh, .int zl, .int zf, .int zp, .int zr, .int zm, .int zw, .ref la, .int zs, .ref wa])), (la, .inr (0, [.long ea, .long eb])), (wa, .inl (cI, 1441, .inl fT))] H4 := zone_P hPf hs1
  have hD : va_D A [(za, .inr (1, [.int zh, .int zl, .int zf, .int zp, .int zr, .int zm, .int zw, .ref la, .int zs, .ref wa])), (la, .inr (0, [.long ea, .long eb])), (wa, .inl (cI, 1441, .inl fT))] := zone_D hDf hs1
  refine va_getN (D := (dC, dI)) (ci := 1) (v := .ref wa) (C := R_Z) (T := F_Z) (N := 10) hx hb hG i_Z hown hK hP 0 rfl rfl 9 (by decide) (hE.1.use k_198) (fun _ h9 => h9) rfl d_C_at_13 ?_
  refine lv_iload_n hx hb d_C_at_16 rfl (lv_at hl9 2 rfl) ?_
  refine va_iald hx hb hK hP 2 0 rfl rfl (hin) d_C_at_17 ?_
  exact W.iret (v := (fT y.toNatClampNeg)) hx hb hr (fun t ht hW => ⟨⟨(fT y.toNatClampNeg), (), rfl, rfl, by have h9 := hPf; rw [← ht] at h9; exact h9⟩, hS.F ht⟩) hS.2.2 d_C_at_18
set_option maxHeartbeats 4000000 in
set_option maxRecDepth 100000 in
theorem c_atT (l : Launch) (dC : Nat → ClassId) (dI : Nat → Nat → Nat) (cI cJ cZ cB : ClassId) (hl : l.stackTraces = false) (a0 : Nat) (x y : Int32) (sz : Nat) (hy : (y < 0 ∨ 1440 < y)) : vx_Met l y_C_at w_C_at ({ frames := 8, cells := 1, slots := 6, locals := 137 }) (PC (dC, dI) (TY cI cJ cZ cB) [.ref a0, .int x, .int y] [] sz (va_A [] sz)) (va_Qi (fun (r : Int32) (_ : Unit) => False) (fun (_ : Unit) (_ : State) => True) (va_A [] sz)) (vx_X (fun (_ : Unit) => True) (fun (E : String) (_ : Unit) (_ : State) => E = "java/lang/IllegalArgumentException") (va_A [] sz)) 1 6 (va_A [] sz) := by
  refine vx_ofW (cc := b_C_at) (maxL := 3) (ret := (some .int)) (by decide) rfl ?_
  intro p e s m args below meth c s₁ B hml hnx hv
  obtain ⟨rfl, hsz, hP, hK, hD0, hE⟩ := hv
  have hx := B.exec
  have hb := B.bytes
  have hr := B.returns
  have hG : ∀ w ∈ GG, w.before _ s = true := fun w h => atoms_spec (ws := w_C_at) B.pre w (List.mem_cons_of_mem _ h)
  have hown : s.vm.findClass R_C = some m.cls := findClass_of_methodNamed B.named
  have hlocks := B.notSynchronized
  subst hsz
  generalize hAe : (va_A [] s.heap.size) = A at hE ⊢
  have hA : ∀ q : Nat, s.heap.size ≤ q → A q := fun q h => by rw [← hAe]; exact Or.inr h
  have hS : va_S A s.heap s.heap [] := va_S.rf
  have hD := hD0
  obtain ⟨H, hH⟩ : ∃ z, z = s.heap := ⟨_, rfl⟩
  rw [← hH] at hP
  have hS : va_S A s.heap H [] := by rw [hH]; exact hS
  rw [← hH]
  have hl9 := lv_entry ([.ref a0, .int x, .int y]) (n := 3) (Nat.le_of_ble_eq_true rfl)
  rw [lg_entry_eq]
  generalize (lg_sl ([.ref a0, .int x, .int y]) ++ List.replicate (3 - (lg_sl ([.ref a0, .int x, .int y])).length) Slot.unset).toArray = ls at hl9 ⊢
  have hl9 : lv_has ls 3 [(0, .ref a0), (1, .int x), (2, .int y)] := hl9
  refine lv_iload_n hx hb d_C_at_0 rfl (lv_at hl9 2 rfl) ?_
  refine lv_iconst (v := 0) hx hb d_C_at_1 (by decide) ?_
  refine lv_sipush (v := 1440) hx hb d_C_at_2 (by decide) ?_
  have hPc := hP.sub (ws' := []) [] rfl
  have hDc := hD.sub (ws' := []) [] (by decide) rfl
  have hFc := va_A_nil hA hS.1
  refine vx_callv (vx_runS (As := [.int y, .int 0, .int 1440]) (rest := []) ⟨hx, hb, hml, hown, hG⟩ (c_checkBounds l dC dI cI cJ cZ cB hl y 0 1440 H.size ) (cwS 3 hG g_C_56 rfl rfl rfl (by decide +kernel) ⟨Nat.le_of_ble_eq_true rfl, Nat.le_of_ble_eq_true rfl⟩) ⟨PC.blind, PC.of hPc hK hDc hE hS hFc⟩ rfl rfl hl9.1 rfl (lv_room (Nat.le_of_ble_eq_true rfl)) d_C_at_5 ⟨by first | exact Nat.le_of_ble_eq_true rfl | omega, by first | exact Nat.le_of_ble_eq_true rfl | omega⟩) hS (fun q _ h => hFc q h) hFc (fun q _ h => hFc q h) (fun E ce q9 u t H1 locs ht hvm hpx hB hz1 hk1 hS hce hcv hcl => ?_) (fun u t H1 locs ht hvm hw hB hz1 hk1 hS => ?_)
  · exact vx_out (fun x hx => (hnx x hx).elim) hlocks hce hcv hcl (fun t ht ha => ⟨(), trivial, hB.1, hS.F ht⟩) hS.2.2 (by first | exact Nat.le_of_ble_eq_true rfl | omega) (by first | exact Nat.le_of_ble_eq_true rfl | omega)
  have hw := hw
  have hP := wp_kept hP hk1
  have hq3 : ¬ (y < 0 ∨ 1440 < y) := hw
  exact absurd hy hw
set_option maxHeartbeats 4000000 in
set_option maxRecDepth 100000 in
theorem c_late (l : Launch) (dC : Nat → ClassId) (dI : Nat → Nat → Nat) (cI cJ cZ cB : ClassId) (a0 aZ aO aG aP aW aK : Nat) (zc orr ol mp pl fa fb : Int32) (fZ : Nat → Option Nat) (fO fG g0 g1 : Nat → Int32) (nz k : Nat) (zs0 zs1 : List ZD) (za la wa : Nat) (zh zl zf zp zr zm zw zs : Int32) (ea eb : Int64) (fT : Nat → Int32) (sz : Nat) (hn : nz ≤ 6) (hok : plOk fZ nz zs0) (hto : plTo fO mp nz zs0 fG g0 pl zs1 g1) (hk : k < nz) (hz : fZ k = some za) (hs1 : zs1[k]? = some ((za, la, wa), (zh, zl, zf, zp, zr, zm, zw, zs), (ea, eb), fT)) (hzm : zm = -1 ∨ ∃ b, b < 1440 ∧ zm = nI b) : Met l y_C_late w_C_late ({ frames := 8, cells := 0, slots := 0, locals := 137 }) (PC (dC, dI) (TY cI cJ cZ cB) [.ref a0, .int (nI k)] ([(a0, .inr (2, [.ref aZ, .int (nI nz), .ref aO, .int orr, .int ol, .int mp, .ref aG, .int pl, .int fa, .int fb, .ref aP, .ref aW, .ref aK])), (aZ, .inl (cZ, 6, .inr (.inr (.inr (.inr fZ))))), (aO, .inl (cI, 1440, .inl fO)), (aG, .inl (cI, 1440, .inl fG))] ++ (zs0.flatMap (tri cI))) sz (va_A ([(a0, .inr (2, [.ref aZ, .int (nI nz), .ref aO, .int orr, .int ol, .int mp, .ref aG, .int pl, .int fa, .int fb, .ref aP, .ref aW, .ref aK])), (aZ, .inl (cZ, 6, .inr (.inr (.inr (.inr fZ))))), (aO, .inl (cI, 1440, .inl fO)), (aG, .inl (cI, 1440, .inl fG))] ++ (zs0.flatMap (tri cI))) sz)) (va_Qi (fun (r : Int32) (_ : Unit) => r = if ¬ zm = -1 ∧ fT zm.toNatClampNeg < zw then 1 else 0) (fun (_ : Unit) (t : State) => va_P (dC, dI) vwCl ([(a0, .inr (2, [.ref aZ, .int (nI nz), .ref aO, .int orr, .int ol, .int mp, .ref aG, .int 1, .int fa, .int fb, .ref aP, .ref aW, .ref aK])), (aZ, .inl (cZ, 6, .inr (.inr (.inr (.inr fZ))))), (aO, .inl (cI, 1440, .inl fO)), (aG, .inl (cI, 1440, .inl g1))] ++ (zs1.flatMap (tri cI))) t.heap) (va_A ([(a0, .inr (2, [.ref aZ, .int (nI nz), .ref aO, .int orr, .int ol, .int mp, .ref aG, .int pl, .int fa, .int fb, .ref aP, .ref aW, .ref aK])), (aZ, .inl (cZ, 6, .inr (.inr (.inr (.inr fZ))))), (aO, .inl (cI, 1440, .inl fO)), (aG, .inl (cI, 1440, .inl fG))] ++ (zs0.flatMap (tri cI))) sz)) 0 0 (va_A ([(a0, .inr (2, [.ref aZ, .int (nI nz), .ref aO, .int orr, .int ol, .int mp, .ref aG, .int pl, .int fa, .int fb, .ref aP, .ref aW, .ref aK])), (aZ, .inl (cZ, 6, .inr (.inr (.inr (.inr fZ))))), (aO, .inl (cI, 1440, .inl fO)), (aG, .inl (cI, 1440, .inl fG))] ++ (zs0.flatMap (tri cI))) sz) := by
  refine Met.ofW (cc := b_C_late) (maxL := 3) (ret := (some .boolean)) (by decide) rfl ?_
  intro p e s m args below meth c s₁ B hml hv
  obtain ⟨rfl, hsz, hP, hK, hD0, hE⟩ := hv
  have hx := B.exec
  have hb := B.bytes
  have hr := B.returns
  have hG : ∀ w ∈ GG, w.before _ s = true := fun w h => atoms_spec (ws := w_C_late) B.pre w (List.mem_cons_of_mem _ h)
  have hown : s.vm.findClass R_C = some m.cls := findClass_of_methodNamed B.named
  have hlocks := B.notSynchronized
  subst hsz
  have hD := hD0.self (sz := s.heap.size)
  generalize hAe : (va_A ([(a0, .inr (2, [.ref aZ, .int (nI nz), .ref aO, .int orr, .int ol, .int mp, .ref aG, .int pl, .int fa, .int fb, .ref aP, .ref aW, .ref aK])), (aZ, .inl (cZ, 6, .inr (.inr (.inr (.inr fZ))))), (aO, .inl (cI, 1440, .inl fO)), (aG, .inl (cI, 1440, .inl fG))] ++ (zs0.flatMap (tri cI))) s.heap.size) = A at hD hE ⊢
  have hA : ∀ q : Nat, s.heap.size ≤ q → A q := fun q h => by rw [← hAe]; exact Or.inr h
  have hS : va_S A s.heap s.heap [] := va_S.rf
  obtain ⟨H, hH⟩ : ∃ z, z = s.heap := ⟨_, rfl⟩
  rw [← hH] at hP
  have hS : va_S A s.heap H [] := by rw [hH]; exact hS
  rw [← hH]
  have hl9 := lv_entry ([.ref a0, .int (nI k)]) (n := 3) (Nat.le_of_ble_eq_true rfl)
  rw [lg_entry_eq]
  generalize (lg_sl ([.ref a0, .int (nI k)]) ++ List.replicate (3 - (lg_sl ([.ref a0, .int (nI k)])).length) Slot.unset).toArray = ls at hl9 ⊢
  have hl9 : lv_has ls 3 [(0, .ref a0), (1, .int (nI k))] := hl9
  refine lv_aload_n hx hb d_C_late_0 rfl (lv_at hl9 0 rfl) ?_
  refine lv_iload_n hx hb d_C_late_1 rfl (lv_at hl9 1 rfl) ?_
  have hFc := free_all hD hS hA
  refine va_callq (va_runV (C := R_C) (As := [.int (nI k)]) (rest := []) ⟨hx, hb, hml, hown, hG⟩ (c_plannedZone l dC dI cI cJ cZ cB a0 aZ aO aG aP aW aK (nI nz) orr ol mp pl fa fb fZ fO fG g0 g1 nz k zs0 zs1 za H.size hn hok hto hk hz) (cwV 1 hG g_C_94 rfl rfl rfl (by decide +kernel) ⟨Nat.le_of_ble_eq_true rfl, Nat.le_of_ble_eq_true rfl⟩) ⟨PC.blind, va_recv hK hP (ci := 2) (q0 := 0) rfl rfl, PC.of hP hK hD hE hS hFc⟩ rfl rfl hl9.1 rfl (lv_room (Nat.le_of_ble_eq_true rfl)) d_C_late_2 ⟨by first | exact Nat.le_of_ble_eq_true rfl | omega, by first | exact Nat.le_of_ble_eq_true rfl | omega⟩) hS (fun q _ h => hFc q h) hFc (fun r2 u t H1 locs ht hvm hw hB hz1 hk1 hS => ?_)
  rw [ht] at hB
  have hP : va_P (dC, dI) vwCl ([(a0, .inr (2, [.ref aZ, .int (nI nz), .ref aO, .int orr, .int ol, .int mp, .ref aG, .int 1, .int fa, .int fb, .ref aP, .ref aW, .ref aK])), (aZ, .inl (cZ, 6, .inr (.inr (.inr (.inr fZ))))), (aO, .inl (cI, 1440, .inl fO)), (aG, .inl (cI, 1440, .inl g1))] ++ (zs1.flatMap (tri cI))) H1 := hB
  have hD : va_D A ([(a0, .inr (2, [.ref aZ, .int (nI nz), .ref aO, .int orr, .int ol, .int mp, .ref aG, .int 1, .int fa, .int fb, .ref aP, .ref aW, .ref aK])), (aZ, .inl (cZ, 6, .inr (.inr (.inr (.inr fZ))))), (aO, .inl (cI, 1440, .inl fO)), (aG, .inl (cI, 1440, .inl g1))] ++ (zs1.flatMap (tri cI))) := wd_fst (adr_eq (B1 := [(a0, .inr (2, [.ref aZ, .int (nI nz), .ref aO, .int orr, .int ol, .int mp, .ref aG, .int 1, .int fa, .int fb, .ref aP, .ref aW, .ref aK])), (aZ, .inl (cZ, 6, .inr (.inr (.inr (.inr fZ))))), (aO, .inl (cI, 1440, .inl fO)), (aG, .inl (cI, 1440, .inl g1))]) (B := [(a0, .inr (2, [.ref aZ, .int (nI nz), .ref aO, .int orr, .int ol, .int mp, .ref aG, .int pl, .int fa, .int fb, .ref aP, .ref aW, .ref aK])), (aZ, .inl (cZ, 6, .inr (.inr (.inr (.inr fZ))))), (aO, .inl (cI, 1440, .inl fO)), (aG, .inl (cI, 1440, .inl fG))]) rfl (plTo_ad hto)) hD
  have hw : r2 = some za := hw
  subst hw
  refine W.eq (g2 := F0 m 5 ls [.ref za]) rfl ?_
  have hPf := hP
  have hDf := hD
  have hP : va_P (dC, dI) vwCl [(za, .inr (1, [.int zh, .int zl, .int zf, .int zp, .int zr, .int zm, .int zw, .ref la, .int zs, .ref wa])), (la, .inr (0, [.long ea, .long eb])), (wa, .inl (cI, 1441, .inl fT))] H1 := zone_P hPf hs1
  have hD : va_D A [(za, .inr (1, [.int zh, .int zl, .int zf, .int zp, .int zr, .int zm, .int zw, .ref la, .int zs, .ref wa])), (la, .inr (0, [.long ea, .long eb])), (wa, .inl (cI, 1441, .inl fT))] := zone_D hDf hs1
  refine lv_astore_n (lv' := [(2, .ref za), (0, .ref a0), (1, .int (nI k))]) hx hb d_C_late_5 rfl hl9 (by decide) rfl (fun ls hl9 => ?_)
  refine lv_aload_n hx hb d_C_late_6 rfl (lv_at hl9 0 rfl) ?_
  have hPc := hP.sub (ws' := [(za, .inr (1, [.int zh, .int zl, .int zf, .int zp, .int zr, .int zm, .int zw, .ref la, .int zs, .ref wa]))]) [0] rfl
  have hDc := hD.sub (ws' := [(za, .inr (1, [.int zh, .int zl, .int zf, .int zp, .int zr, .int zm, .int zw, .ref la, .int zs, .ref wa]))]) [0] (by decide) rfl
  have hFc := va_A_nil hA hS.1
  refine va_calli (va_runVN (C := R_Z) (As := []) (rest := []) ⟨hx, hb, hml, hown, hG⟩ (c_wantsWarmth l dC dI cI cJ cZ cB za la wa zh zl zf zp zr zm zw zs H1.size ) ⟨va_cnB (host := "StartTimes") 0 hG g_C_100 rfl rfl rfl (hE.1.1 _ k_283 rfl) (hG _ k_8) (by decide +kernel) ⟨Nat.le_of_ble_eq_true rfl, Nat.le_of_ble_eq_true rfl⟩, hG _ k_285, hG _ ks_7⟩ ⟨PC.blind, va_recv hK hP (ci := 1) (q0 := 0) rfl rfl, PC.of hPc hK hDc hE hS hFc⟩ rfl rfl hl9.1 rfl (lv_room (Nat.le_of_ble_eq_true rfl)) d_C_late_7 ⟨by first | exact Nat.le_of_ble_eq_true rfl | omega, by first | exact Nat.le_of_ble_eq_true rfl | omega⟩) hS (fun q _ h => hFc q h) hFc (fun r4 u t H3 locs ht hvm hw hB hz1 hk1 hS => ?_)
  have hP := wp_kept hP hk1
  have hPf := wp_kept hPf hk1
  have hw : r4 = if zm = -1 then 0 else 1 := hw
  subst hw
  rcases hzm with hzm | ⟨b, hb1, hzm⟩
  · rw [show (if zm = -1 then (0 : Int32) else 1) = 0 from if_pos hzm]
    refine lv_if_eq (tgt := 33) hx hb d_C_late_10 (by decide) (fun c1 => ?_) (fun c1 => ?_)
    · refine lv_iconst (v := 0) hx hb d_C_late_33 (by decide) ?_
      exact W.zret (v := 0) hx hb hr rfl (fun t ht hW => ⟨⟨0, (), rfl, by rw [if_neg (fun h => h.1 hzm)], by have h9 := hPf; rw [← ht] at h9; exact h9⟩, hS.F ht⟩) hS.2.2 d_C_late_34
    · exact absurd rfl c1
  · have nzm : ¬ zm = -1 := by rw [hzm]; exact nb_ne hb1
    rw [show (if zm = -1 then (0 : Int32) else 1) = 1 from if_neg nzm]
    refine lv_if_eq (tgt := 33) hx hb d_C_late_10 (by decide) (fun c1 => ?_) (fun c1 => ?_)
    · exact absurd c1 (by decide)
    · have hin : vp_in zm 1441 := by rw [hzm]; exact vp_in_nI (by omega) (by omega)
      refine lv_aload_n hx hb d_C_late_13 rfl (lv_at hl9 0 rfl) ?_
      refine va_getN (D := (dC, dI)) (ci := 1) (v := .ref wa) (C := R_Z) (T := F_Z) (N := 10) hx hb hG i_Z hown hK hP 0 rfl rfl 9 (by decide) (hE.1.use k_198) (fun _ h9 => h9) rfl d_C_late_14 ?_
      refine lv_aload_n hx hb d_C_late_17 rfl (lv_at hl9 0 rfl) ?_
      refine va_getN (D := (dC, dI)) (ci := 1) (v := .int zm) (C := R_Z) (T := F_Z) (N := 10) hx hb hG i_Z hown hK hP 0 rfl rfl 5 (by decide) (hE.1.use k_190) (fun _ h9 => h9) rfl d_C_late_18 ?_
      refine va_iald hx hb hK hP 2 0 rfl rfl (hin) d_C_late_21 ?_
      refine lv_aload_n hx hb d_C_late_22 rfl (lv_at hl9 0 rfl) ?_
      refine va_getN (D := (dC, dI)) (ci := 1) (v := .int zw) (C := R_Z) (T := F_Z) (N := 10) hx hb hG i_Z hown hK hP 0 rfl rfl 6 (by decide) (hE.1.use k_192) (fun _ h9 => h9) rfl d_C_late_23 ?_
      refine lv_icmp_ge (tgt := 33) hx hb d_C_late_26 (by decide) (fun c2 => ?_) (fun c2 => ?_)
      · refine lv_iconst (v := 0) hx hb d_C_late_33 (by decide) ?_
        exact W.zret (v := 0) hx hb hr rfl (fun t ht hW => ⟨⟨0, (), rfl, by rw [if_neg (fun h => Int32.not_le.mpr h.2 c2)], by have h9 := hPf; rw [← ht] at h9; exact h9⟩, hS.F ht⟩) hS.2.2 d_C_late_34
      · refine lv_iconst (v := 1) hx hb d_C_late_29 (by decide) ?_
        refine lv_goto (tgt := 34) hx hb d_C_late_30 (by decide) ?_
        exact W.zret (v := 1) hx hb hr rfl (fun t ht hW => ⟨⟨1, (), rfl, by rw [if_pos ⟨nzm, Int32.not_le.mp c2⟩], by have h9 := hPf; rw [← ht] at h9; exact h9⟩, hS.F ht⟩) hS.2.2 d_C_late_34
set_option maxHeartbeats 4000000 in
set_option maxRecDepth 100000 in
theorem c_cold (l : Launch) (dC : Nat → ClassId) (dI : Nat → Nat → Nat) (cI cJ cZ cB : ClassId) (a0 aZ aO aG aP aW aK : Nat) (zc orr ol mp pl fa fb : Int32) (fZ : Nat → Option Nat) (fO fG g0 g1 : Nat → Int32) (nz k : Nat) (zs0 zs1 : List ZD) (za la wa : Nat) (zh zl zf zp zr zm zw zs : Int32) (ea eb : Int64) (fT : Nat → Int32) (sz : Nat) (hn : nz ≤ 6) (hok : plOk fZ nz zs0) (hto : plTo fO mp nz zs0 fG g0 pl zs1 g1) (hk : k < nz) (hz : fZ k = some za) (hs1 : zs1[k]? = some ((za, la, wa), (zh, zl, zf, zp, zr, zm, zw, zs), (ea, eb), fT)) (hzm : zm = -1 ∨ ∃ b, b < 1440 ∧ zm = nI b) : Met l y_C_cold w_C_cold ({ frames := 8, cells := 0, slots := 0, locals := 137 }) (PC (dC, dI) (TY cI cJ cZ cB) [.ref a0, .int (nI k)] ([(a0, .inr (2, [.ref aZ, .int (nI nz), .ref aO, .int orr, .int ol, .int mp, .ref aG, .int pl, .int fa, .int fb, .ref aP, .ref aW, .ref aK])), (aZ, .inl (cZ, 6, .inr (.inr (.inr (.inr fZ))))), (aO, .inl (cI, 1440, .inl fO)), (aG, .inl (cI, 1440, .inl fG))] ++ (zs0.flatMap (tri cI))) sz (va_A ([(a0, .inr (2, [.ref aZ, .int (nI nz), .ref aO, .int orr, .int ol, .int mp, .ref aG, .int pl, .int fa, .int fb, .ref aP, .ref aW, .ref aK])), (aZ, .inl (cZ, 6, .inr (.inr (.inr (.inr fZ))))), (aO, .inl (cI, 1440, .inl fO)), (aG, .inl (cI, 1440, .inl fG))] ++ (zs0.flatMap (tri cI))) sz)) (va_Qi (fun (r : Int32) (_ : Unit) => r = if zm = -1 then 0 else nI (cld fT zw zm.toNatClampNeg (1440 - zm.toNatClampNeg))) (fun (_ : Unit) (t : State) => va_P (dC, dI) vwCl ([(a0, .inr (2, [.ref aZ, .int (nI nz), .ref aO, .int orr, .int ol, .int mp, .ref aG, .int 1, .int fa, .int fb, .ref aP, .ref aW, .ref aK])), (aZ, .inl (cZ, 6, .inr (.inr (.inr (.inr fZ))))), (aO, .inl (cI, 1440, .inl fO)), (aG, .inl (cI, 1440, .inl g1))] ++ (zs1.flatMap (tri cI))) t.heap) (va_A ([(a0, .inr (2, [.ref aZ, .int (nI nz), .ref aO, .int orr, .int ol, .int mp, .ref aG, .int pl, .int fa, .int fb, .ref aP, .ref aW, .ref aK])), (aZ, .inl (cZ, 6, .inr (.inr (.inr (.inr fZ))))), (aO, .inl (cI, 1440, .inl fO)), (aG, .inl (cI, 1440, .inl fG))] ++ (zs0.flatMap (tri cI))) sz)) 0 0 (va_A ([(a0, .inr (2, [.ref aZ, .int (nI nz), .ref aO, .int orr, .int ol, .int mp, .ref aG, .int pl, .int fa, .int fb, .ref aP, .ref aW, .ref aK])), (aZ, .inl (cZ, 6, .inr (.inr (.inr (.inr fZ))))), (aO, .inl (cI, 1440, .inl fO)), (aG, .inl (cI, 1440, .inl fG))] ++ (zs0.flatMap (tri cI))) sz) := by
  refine Met.ofW (cc := b_C_cold) (maxL := 5) (ret := (some .int)) (by decide) rfl ?_
  intro p e s m args below meth c s₁ B hml hv
  obtain ⟨rfl, hsz, hP, hK, hD0, hE⟩ := hv
  have hx := B.exec
  have hb := B.bytes
  have hr := B.returns
  have hG : ∀ w ∈ GG, w.before _ s = true := fun w h => atoms_spec (ws := w_C_cold) B.pre w (List.mem_cons_of_mem _ h)
  have hown : s.vm.findClass R_C = some m.cls := findClass_of_methodNamed B.named
  have hlocks := B.notSynchronized
  subst hsz
  have hD := hD0.self (sz := s.heap.size)
  generalize hAe : (va_A ([(a0, .inr (2, [.ref aZ, .int (nI nz), .ref aO, .int orr, .int ol, .int mp, .ref aG, .int pl, .int fa, .int fb, .ref aP, .ref aW, .ref aK])), (aZ, .inl (cZ, 6, .inr (.inr (.inr (.inr fZ))))), (aO, .inl (cI, 1440, .inl fO)), (aG, .inl (cI, 1440, .inl fG))] ++ (zs0.flatMap (tri cI))) s.heap.size) = A at hD hE ⊢
  have hA : ∀ q : Nat, s.heap.size ≤ q → A q := fun q h => by rw [← hAe]; exact Or.inr h
  have hS : va_S A s.heap s.heap [] := va_S.rf
  obtain ⟨H, hH⟩ : ∃ z, z = s.heap := ⟨_, rfl⟩
  rw [← hH] at hP
  have hS : va_S A s.heap H [] := by rw [hH]; exact hS
  rw [← hH]
  have hl9 := lv_entry ([.ref a0, .int (nI k)]) (n := 5) (Nat.le_of_ble_eq_true rfl)
  rw [lg_entry_eq]
  generalize (lg_sl ([.ref a0, .int (nI k)]) ++ List.replicate (5 - (lg_sl ([.ref a0, .int (nI k)])).length) Slot.unset).toArray = ls at hl9 ⊢
  have hl9 : lv_has ls 5 [(0, .ref a0), (1, .int (nI k))] := hl9
  refine lv_aload_n hx hb d_C_cold_0 rfl (lv_at hl9 0 rfl) ?_
  refine lv_iload_n hx hb d_C_cold_1 rfl (lv_at hl9 1 rfl) ?_
  have hFc := free_all hD hS hA
  refine va_callq (va_runV (C := R_C) (As := [.int (nI k)]) (rest := []) ⟨hx, hb, hml, hown, hG⟩ (c_plannedZone l dC dI cI cJ cZ cB a0 aZ aO aG aP aW aK (nI nz) orr ol mp pl fa fb fZ fO fG g0 g1 nz k zs0 zs1 za H.size hn hok hto hk hz) (cwV 1 hG g_C_94 rfl rfl rfl (by decide +kernel) ⟨Nat.le_of_ble_eq_true rfl, Nat.le_of_ble_eq_true rfl⟩) ⟨PC.blind, va_recv hK hP (ci := 2) (q0 := 0) rfl rfl, PC.of hP hK hD hE hS hFc⟩ rfl rfl hl9.1 rfl (lv_room (Nat.le_of_ble_eq_true rfl)) d_C_cold_2 ⟨by first | exact Nat.le_of_ble_eq_true rfl | omega, by first | exact Nat.le_of_ble_eq_true rfl | omega⟩) hS (fun q _ h => hFc q h) hFc (fun r2 u t H1 locs ht hvm hw hB hz1 hk1 hS => ?_)
  rw [ht] at hB
  have hP : va_P (dC, dI) vwCl ([(a0, .inr (2, [.ref aZ, .int (nI nz), .ref aO, .int orr, .int ol, .int mp, .ref aG, .int 1, .int fa, .int fb, .ref aP, .ref aW, .ref aK])), (aZ, .inl (cZ, 6, .inr (.inr (.inr (.inr fZ))))), (aO, .inl (cI, 1440, .inl fO)), (aG, .inl (cI, 1440, .inl g1))] ++ (zs1.flatMap (tri cI))) H1 := hB
  have hD : va_D A ([(a0, .inr (2, [.ref aZ, .int (nI nz), .ref aO, .int orr, .int ol, .int mp, .ref aG, .int 1, .int fa, .int fb, .ref aP, .ref aW, .ref aK])), (aZ, .inl (cZ, 6, .inr (.inr (.inr (.inr fZ))))), (aO, .inl (cI, 1440, .inl fO)), (aG, .inl (cI, 1440, .inl g1))] ++ (zs1.flatMap (tri cI))) := wd_fst (adr_eq (B1 := [(a0, .inr (2, [.ref aZ, .int (nI nz), .ref aO, .int orr, .int ol, .int mp, .ref aG, .int 1, .int fa, .int fb, .ref aP, .ref aW, .ref aK])), (aZ, .inl (cZ, 6, .inr (.inr (.inr (.inr fZ))))), (aO, .inl (cI, 1440, .inl fO)), (aG, .inl (cI, 1440, .inl g1))]) (B := [(a0, .inr (2, [.ref aZ, .int (nI nz), .ref aO, .int orr, .int ol, .int mp, .ref aG, .int pl, .int fa, .int fb, .ref aP, .ref aW, .ref aK])), (aZ, .inl (cZ, 6, .inr (.inr (.inr (.inr fZ))))), (aO, .inl (cI, 1440, .inl fO)), (aG, .inl (cI, 1440, .inl fG))]) rfl (plTo_ad hto)) hD
  have hw : r2 = some za := hw
  subst hw
  refine W.eq (g2 := F0 m 5 ls [.ref za]) rfl ?_
  have hPf := hP
  have hDf := hD
  have hP : va_P (dC, dI) vwCl [(za, .inr (1, [.int zh, .int zl, .int zf, .int zp, .int zr, .int zm, .int zw, .ref la, .int zs, .ref wa])), (la, .inr (0, [.long ea, .long eb])), (wa, .inl (cI, 1441, .inl fT))] H1 := zone_P hPf hs1
  have hD : va_D A [(za, .inr (1, [.int zh, .int zl, .int zf, .int zp, .int zr, .int zm, .int zw, .ref la, .int zs, .ref wa])), (la, .inr (0, [.long ea, .long eb])), (wa, .inl (cI, 1441, .inl fT))] := zone_D hDf hs1
  refine lv_astore_n (lv' := [(2, .ref za), (0, .ref a0), (1, .int (nI k))]) hx hb d_C_cold_5 rfl hl9 (by decide) rfl (fun ls hl9 => ?_)
  refine lv_aload_n hx hb d_C_cold_6 rfl (lv_at hl9 0 rfl) ?_
  have hPc := hP.sub (ws' := [(za, .inr (1, [.int zh, .int zl, .int zf, .int zp, .int zr, .int zm, .int zw, .ref la, .int zs, .ref wa]))]) [0] rfl
  have hDc := hD.sub (ws' := [(za, .inr (1, [.int zh, .int zl, .int zf, .int zp, .int zr, .int zm, .int zw, .ref la, .int zs, .ref wa]))]) [0] (by decide) rfl
  have hFc := va_A_nil hA hS.1
  refine va_calli (va_runVN (C := R_Z) (As := []) (rest := []) ⟨hx, hb, hml, hown, hG⟩ (c_wantsWarmth l dC dI cI cJ cZ cB za la wa zh zl zf zp zr zm zw zs H1.size ) ⟨va_cnB (host := "StartTimes") 0 hG g_C_100 rfl rfl rfl (hE.1.1 _ k_283 rfl) (hG _ k_8) (by decide +kernel) ⟨Nat.le_of_ble_eq_true rfl, Nat.le_of_ble_eq_true rfl⟩, hG _ k_285, hG _ ks_7⟩ ⟨PC.blind, va_recv hK hP (ci := 1) (q0 := 0) rfl rfl, PC.of hPc hK hDc hE hS hFc⟩ rfl rfl hl9.1 rfl (lv_room (Nat.le_of_ble_eq_true rfl)) d_C_cold_7 ⟨by first | exact Nat.le_of_ble_eq_true rfl | omega, by first | exact Nat.le_of_ble_eq_true rfl | omega⟩) hS (fun q _ h => hFc q h) hFc (fun r4 u t H3 locs ht hvm hw hB hz1 hk1 hS => ?_)
  have hP := wp_kept hP hk1
  have hPf := wp_kept hPf hk1
  have hw : r4 = if zm = -1 then 0 else 1 := hw
  subst hw
  rcases hzm with hzm | ⟨b, hb1, hzm⟩
  · rw [show (if zm = -1 then (0 : Int32) else 1) = 0 from if_pos hzm]
    refine lv_if_ne (tgt := 15) hx hb d_C_cold_10 (by decide) (fun c1 => ?_) (fun c1 => ?_)
    · exact absurd rfl c1
    · refine lv_iconst (v := 0) hx hb d_C_cold_13 (by decide) ?_
      exact W.iret (v := 0) hx hb hr (fun t ht hW => ⟨⟨0, (), rfl, by rw [if_pos hzm], by have h9 := hPf; rw [← ht] at h9; exact h9⟩, hS.F ht⟩) hS.2.2 d_C_cold_14
  · have nzm : ¬ zm = -1 := by rw [hzm]; exact nb_ne hb1
    rw [show (if zm = -1 then (0 : Int32) else 1) = 1 from if_neg nzm]
    refine lv_if_ne (tgt := 15) hx hb d_C_cold_10 (by decide) (fun c1 => ?_) (fun c1 => ?_)
    · have ebz : zm.toNatClampNeg = b := by rw [hzm, nI_clamp (by omega)]
      refine lv_iconst (v := 0) hx hb d_C_cold_15 (by decide) ?_
      refine lv_istore_n (lv' := [(3, .int 0), (2, .ref za), (0, .ref a0), (1, .int (nI k))]) hx hb d_C_cold_16 rfl hl9 (by decide) rfl (fun ls hl9 => ?_)
      refine lv_aload_n hx hb d_C_cold_17 rfl (lv_at hl9 1 rfl) ?_
      refine va_getN (D := (dC, dI)) (ci := 1) (v := .int zm) (C := R_Z) (T := F_Z) (N := 10) hx hb hG i_Z hown hK hP 0 rfl rfl 5 (by decide) (hE.1.use k_190) (fun _ h9 => h9) rfl d_C_cold_18 ?_
      refine lv_istore (lv' := [(4, .int zm), (3, .int 0), (2, .ref za), (0, .ref a0), (1, .int (nI k))]) hx hb d_C_cold_21 hl9 (by decide) rfl (fun ls hl9 => ?_)
      have lp : ∀ (n : Nat) (i : Nat), b ≤ i → i ≤ 1440 → 1441 ≤ i + n → ∀ (H : Heap) (locs : List Loc) (ls : Array Slot), va_P (dC, dI) vwCl [(za, .inr (1, [.int zh, .int zl, .int zf, .int zp, .int zr, .int zm, .int zw, .ref la, .int zs, .ref wa])), (la, .inr (0, [.long ea, .long eb])), (wa, .inl (cI, 1441, .inl fT))] H → va_D A [(za, .inr (1, [.int zh, .int zl, .int zf, .int zp, .int zr, .int zm, .int zw, .ref la, .int zs, .ref wa])), (la, .inr (0, [.long ea, .long eb])), (wa, .inl (cI, 1441, .inl fT))] → va_S A s.heap H locs → lv_has ls 5 [(3, .int (nI (cld fT zw b (i - b)))), (4, .int (nI i)), (2, .ref za)] → va_P (dC, dI) vwCl ([(a0, .inr (2, [.ref aZ, .int (nI nz), .ref aO, .int orr, .int ol, .int mp, .ref aG, .int 1, .int fa, .int fb, .ref aP, .ref aW, .ref aK])), (aZ, .inl (cZ, 6, .inr (.inr (.inr (.inr fZ))))), (aO, .inl (cI, 1440, .inl fO)), (aG, .inl (cI, 1440, .inl g1))] ++ (zs1.flatMap (tri cI))) H → W p l e (headSpec w_C_cold ({ frames := 8, cells := 0, slots := 0, locals := 137 })).room s m ([.ref a0, .int (nI k)] : List Value).toArray below meth c H locs 0 0 (MQ below (va_Qi (fun (r : Int32) (_ : Unit) => r = if zm = -1 then 0 else nI (cld fT zw zm.toNatClampNeg (1440 - zm.toNatClampNeg))) (fun (_ : Unit) (t : State) => va_P (dC, dI) vwCl ([(a0, .inr (2, [.ref aZ, .int (nI nz), .ref aO, .int orr, .int ol, .int mp, .ref aG, .int 1, .int fa, .int fb, .ref aP, .ref aW, .ref aK])), (aZ, .inl (cZ, 6, .inr (.inr (.inr (.inr fZ))))), (aO, .inl (cI, 1440, .inl fO)), (aG, .inl (cI, 1440, .inl g1))] ++ (zs1.flatMap (tri cI))) t.heap) A) ([.ref a0, .int (nI k)] : List Value).toArray s 0 0 A) (F0 m 23 ls []) := by
        intro n
        induction n with
        | zero =>
          intro i hbi hi hin
          exact absurd hin (by omega)
        | succ n ih =>
          intro i hbi hi hin H locs ls hP hD hS hl9 hPf
          refine lv_iload hx hb d_C_cold_23 (lv_at hl9 1 rfl) ?_
          refine lv_sipush (v := 1440) hx hb d_C_cold_25 (by decide) ?_
          refine lv_icmp_ge (tgt := 54) hx hb d_C_cold_28 (by decide) (fun c2 => ?_) (fun c2 => ?_)
          · have e9 : i = 1440 := by have := ge_of_c (i := i) (b := 1440) (by omega) (by decide) c2; omega
            refine lv_iload_n hx hb d_C_cold_54 rfl (lv_at hl9 0 rfl) ?_
            exact W.iret (v := (nI (cld fT zw b (i - b)))) hx hb hr (fun t ht hW => ⟨⟨(nI (cld fT zw b (i - b))), (), rfl, by rw [if_neg nzm, ebz, e9], by have h9 := hPf; rw [← ht] at h9; exact h9⟩, hS.F ht⟩) hS.2.2 d_C_cold_55
          · have e9 : i < 1440 := lt_of_c (b := 1440) (by omega) (by decide) c2
            have hin2 : vp_in (nI i) 1441 := vp_in_nI (by omega) (by omega)
            refine lv_aload_n hx hb d_C_cold_31 rfl (lv_at hl9 2 rfl) ?_
            refine va_getN (D := (dC, dI)) (ci := 1) (v := .ref wa) (C := R_Z) (T := F_Z) (N := 10) hx hb hG i_Z hown hK hP 0 rfl rfl 9 (by decide) (hE.1.use k_198) (fun _ h9 => h9) rfl d_C_cold_32 ?_
            refine lv_iload hx hb d_C_cold_35 (lv_at hl9 1 rfl) ?_
            refine va_iald hx hb hK hP 2 0 rfl rfl (hin2) d_C_cold_37 ?_
            refine lv_aload_n hx hb d_C_cold_38 rfl (lv_at hl9 2 rfl) ?_
            refine va_getN (D := (dC, dI)) (ci := 1) (v := .int zw) (C := R_Z) (T := F_Z) (N := 10) hx hb hG i_Z hown hK hP 0 rfl rfl 6 (by decide) (hE.1.use k_192) (fun _ h9 => h9) rfl d_C_cold_39 ?_
            rw [nI_clamp (n := i) (by omega)]
            refine lv_icmp_ge (tgt := 48) hx hb d_C_cold_42 (by decide) (fun c3 => ?_) (fun c3 => ?_)
            · have e8 : nI (cld fT zw b (i - b)) = nI (cld fT zw b (i + 1 - b)) := by rw [show cld fT zw b (i + 1 - b) = cld fT zw b (i - b) + (if fT i < zw then 1 else 0) from by rw [show i + 1 - b = (i - b) + 1 by omega]; show cld fT zw b (i - b) + (if fT (b + (i - b)) < zw then 1 else 0) = _; rw [show b + (i - b) = i by omega], if_neg (Int32.not_lt.mpr c3), Nat.add_zero]
              refine lv_iinc (v := ((nI i) + 1)) (lv' := [(4, .int ((nI i) + 1)), (3, .int (nI (cld fT zw b (i - b)))), (2, .ref za)]) hx hb d_C_cold_48 hl9 (k := 1) rfl rfl (by decide) rfl (fun ls hl9 => ?_)
              refine lv_goto (tgt := 23) hx hb d_C_cold_51 (by decide) ?_
              rw [nI_1 i, e8] at hl9
              exact ih (i + 1) (by omega) (by omega) (by omega) _ _ ls hP hD hS (lv_sub hl9 [1, 0, 2] rfl) hPf
            · refine lv_iinc (v := ((nI (cld fT zw b (i - b))) + 1)) (lv' := [(3, .int ((nI (cld fT zw b (i - b))) + 1)), (4, .int (nI i)), (2, .ref za)]) hx hb d_C_cold_45 hl9 (k := 0) rfl rfl (by decide) rfl (fun ls hl9 => ?_)
              have e8 : nI (cld fT zw b (i - b)) + 1 = nI (cld fT zw b (i + 1 - b)) := by rw [show cld fT zw b (i + 1 - b) = cld fT zw b (i - b) + (if fT i < zw then 1 else 0) from by rw [show i + 1 - b = (i - b) + 1 by omega]; show cld fT zw b (i - b) + (if fT (b + (i - b)) < zw then 1 else 0) = _; rw [show b + (i - b) = i by omega], if_pos (Int32.not_le.mp c3), nI_1]
              refine lv_iinc (v := ((nI i) + 1)) (lv' := [(4, .int ((nI i) + 1)), (3, .int ((nI (cld fT zw b (i - b))) + 1)), (2, .ref za)]) hx hb d_C_cold_48 hl9 (k := 1) rfl rfl (by decide) rfl (fun ls hl9 => ?_)
              refine lv_goto (tgt := 23) hx hb d_C_cold_51 (by decide) ?_
              rw [nI_1 i, e8] at hl9
              exact ih (i + 1) (by omega) (by omega) (by omega) _ _ ls hP hD hS (lv_sub hl9 [1, 0, 2] rfl) hPf
      have hl9 : lv_has ls 5 [(4, .int (nI b)), (3, .int (nI (cld fT zw b (b - b)))), (2, .ref za)] := by rw [Nat.sub_self, ← hzm]; exact lv_sub hl9 [0, 1, 2] rfl
      exact lp (1441 - b) b (Nat.le_refl b) (by omega) (by omega) _ _ ls hP hD hS (lv_sub hl9 [1, 0, 2] rfl) hPf
    · exact absurd c1 (by decide)
set_option maxHeartbeats 4000000 in
set_option maxRecDepth 100000 in
theorem c_taught (l : Launch) (dC : Nat → ClassId) (dI : Nat → Nat → Nat) (cI cJ cZ cB : ClassId) (a0 aZ aO aG aP aW aK : Nat) (zc orr ol mp pl fa fb : Int32) (fZ : Nat → Option Nat) (fO fG g0 g1 : Nat → Int32) (nz k : Nat) (zs0 zs1 : List ZD) (za la wa : Nat) (zh zl zf zp zr zm zw zs : Int32) (ea eb : Int64) (fT : Nat → Int32) (sz : Nat) (hn : nz ≤ 6) (hok : plOk fZ nz zs0) (hto : plTo fO mp nz zs0 fG g0 pl zs1 g1) (hk : k < nz) (hz : fZ k = some za) (hs1 : zs1[k]? = some ((za, la, wa), (zh, zl, zf, zp, zr, zm, zw, zs), (ea, eb), fT)) (hzm : zm = -1 ∨ ∃ b, b < 1440 ∧ zm = nI b) (hne : ¬ eb = 0) : Met l y_C_taught w_C_taught ({ frames := 8, cells := 0, slots := 0, locals := 137 }) (PC (dC, dI) (TY cI cJ cZ cB) [.ref a0, .int (nI k)] ([(a0, .inr (2, [.ref aZ, .int (nI nz), .ref aO, .int orr, .int ol, .int mp, .ref aG, .int pl, .int fa, .int fb, .ref aP, .ref aW, .ref aK])), (aZ, .inl (cZ, 6, .inr (.inr (.inr (.inr fZ))))), (aO, .inl (cI, 1440, .inl fO)), (aG, .inl (cI, 1440, .inl fG))] ++ (zs0.flatMap (tri cI))) sz (va_A ([(a0, .inr (2, [.ref aZ, .int (nI nz), .ref aO, .int orr, .int ol, .int mp, .ref aG, .int pl, .int fa, .int fb, .ref aP, .ref aW, .ref aK])), (aZ, .inl (cZ, 6, .inr (.inr (.inr (.inr fZ))))), (aO, .inl (cI, 1440, .inl fO)), (aG, .inl (cI, 1440, .inl fG))] ++ (zs0.flatMap (tri cI))) sz)) (va_Qi (fun (r : Int32) (_ : Unit) => r = if zm = -1 then -1 else (if 0 < (if 1439 < (zs - (ea / eb).toInt32) then 1439 else (zs - (ea / eb).toInt32)) then (if 1439 < (zs - (ea / eb).toInt32) then 1439 else (zs - (ea / eb).toInt32)) else 0)) (fun (_ : Unit) (t : State) => va_P (dC, dI) vwCl ([(a0, .inr (2, [.ref aZ, .int (nI nz), .ref aO, .int orr, .int ol, .int mp, .ref aG, .int 1, .int fa, .int fb, .ref aP, .ref aW, .ref aK])), (aZ, .inl (cZ, 6, .inr (.inr (.inr (.inr fZ))))), (aO, .inl (cI, 1440, .inl fO)), (aG, .inl (cI, 1440, .inl g1))] ++ (zs1.flatMap (tri cI))) t.heap) (va_A ([(a0, .inr (2, [.ref aZ, .int (nI nz), .ref aO, .int orr, .int ol, .int mp, .ref aG, .int pl, .int fa, .int fb, .ref aP, .ref aW, .ref aK])), (aZ, .inl (cZ, 6, .inr (.inr (.inr (.inr fZ))))), (aO, .inl (cI, 1440, .inl fO)), (aG, .inl (cI, 1440, .inl fG))] ++ (zs0.flatMap (tri cI))) sz)) 0 0 (va_A ([(a0, .inr (2, [.ref aZ, .int (nI nz), .ref aO, .int orr, .int ol, .int mp, .ref aG, .int pl, .int fa, .int fb, .ref aP, .ref aW, .ref aK])), (aZ, .inl (cZ, 6, .inr (.inr (.inr (.inr fZ))))), (aO, .inl (cI, 1440, .inl fO)), (aG, .inl (cI, 1440, .inl fG))] ++ (zs0.flatMap (tri cI))) sz) := by
  refine Met.ofW (cc := b_C_taught) (maxL := 4) (ret := (some .int)) (by decide) rfl ?_
  intro p e s m args below meth c s₁ B hml hv
  obtain ⟨rfl, hsz, hP, hK, hD0, hE⟩ := hv
  have hx := B.exec
  have hb := B.bytes
  have hr := B.returns
  have hG : ∀ w ∈ GG, w.before _ s = true := fun w h => atoms_spec (ws := w_C_taught) B.pre w (List.mem_cons_of_mem _ h)
  have hown : s.vm.findClass R_C = some m.cls := findClass_of_methodNamed B.named
  have hlocks := B.notSynchronized
  subst hsz
  have hD := hD0.self (sz := s.heap.size)
  generalize hAe : (va_A ([(a0, .inr (2, [.ref aZ, .int (nI nz), .ref aO, .int orr, .int ol, .int mp, .ref aG, .int pl, .int fa, .int fb, .ref aP, .ref aW, .ref aK])), (aZ, .inl (cZ, 6, .inr (.inr (.inr (.inr fZ))))), (aO, .inl (cI, 1440, .inl fO)), (aG, .inl (cI, 1440, .inl fG))] ++ (zs0.flatMap (tri cI))) s.heap.size) = A at hD hE ⊢
  have hA : ∀ q : Nat, s.heap.size ≤ q → A q := fun q h => by rw [← hAe]; exact Or.inr h
  have hS : va_S A s.heap s.heap [] := va_S.rf
  obtain ⟨H, hH⟩ : ∃ z, z = s.heap := ⟨_, rfl⟩
  rw [← hH] at hP
  have hS : va_S A s.heap H [] := by rw [hH]; exact hS
  rw [← hH]
  have hl9 := lv_entry ([.ref a0, .int (nI k)]) (n := 4) (Nat.le_of_ble_eq_true rfl)
  rw [lg_entry_eq]
  generalize (lg_sl ([.ref a0, .int (nI k)]) ++ List.replicate (4 - (lg_sl ([.ref a0, .int (nI k)])).length) Slot.unset).toArray = ls at hl9 ⊢
  have hl9 : lv_has ls 4 [(0, .ref a0), (1, .int (nI k))] := hl9
  refine lv_aload_n hx hb d_C_taught_0 rfl (lv_at hl9 0 rfl) ?_
  refine lv_iload_n hx hb d_C_taught_1 rfl (lv_at hl9 1 rfl) ?_
  have hFc := free_all hD hS hA
  refine va_callq (va_runV (C := R_C) (As := [.int (nI k)]) (rest := []) ⟨hx, hb, hml, hown, hG⟩ (c_plannedZone l dC dI cI cJ cZ cB a0 aZ aO aG aP aW aK (nI nz) orr ol mp pl fa fb fZ fO fG g0 g1 nz k zs0 zs1 za H.size hn hok hto hk hz) (cwV 1 hG g_C_94 rfl rfl rfl (by decide +kernel) ⟨Nat.le_of_ble_eq_true rfl, Nat.le_of_ble_eq_true rfl⟩) ⟨PC.blind, va_recv hK hP (ci := 2) (q0 := 0) rfl rfl, PC.of hP hK hD hE hS hFc⟩ rfl rfl hl9.1 rfl (lv_room (Nat.le_of_ble_eq_true rfl)) d_C_taught_2 ⟨by first | exact Nat.le_of_ble_eq_true rfl | omega, by first | exact Nat.le_of_ble_eq_true rfl | omega⟩) hS (fun q _ h => hFc q h) hFc (fun r2 u t H1 locs ht hvm hw hB hz1 hk1 hS => ?_)
  rw [ht] at hB
  have hP : va_P (dC, dI) vwCl ([(a0, .inr (2, [.ref aZ, .int (nI nz), .ref aO, .int orr, .int ol, .int mp, .ref aG, .int 1, .int fa, .int fb, .ref aP, .ref aW, .ref aK])), (aZ, .inl (cZ, 6, .inr (.inr (.inr (.inr fZ))))), (aO, .inl (cI, 1440, .inl fO)), (aG, .inl (cI, 1440, .inl g1))] ++ (zs1.flatMap (tri cI))) H1 := hB
  have hD : va_D A ([(a0, .inr (2, [.ref aZ, .int (nI nz), .ref aO, .int orr, .int ol, .int mp, .ref aG, .int 1, .int fa, .int fb, .ref aP, .ref aW, .ref aK])), (aZ, .inl (cZ, 6, .inr (.inr (.inr (.inr fZ))))), (aO, .inl (cI, 1440, .inl fO)), (aG, .inl (cI, 1440, .inl g1))] ++ (zs1.flatMap (tri cI))) := wd_fst (adr_eq (B1 := [(a0, .inr (2, [.ref aZ, .int (nI nz), .ref aO, .int orr, .int ol, .int mp, .ref aG, .int 1, .int fa, .int fb, .ref aP, .ref aW, .ref aK])), (aZ, .inl (cZ, 6, .inr (.inr (.inr (.inr fZ))))), (aO, .inl (cI, 1440, .inl fO)), (aG, .inl (cI, 1440, .inl g1))]) (B := [(a0, .inr (2, [.ref aZ, .int (nI nz), .ref aO, .int orr, .int ol, .int mp, .ref aG, .int pl, .int fa, .int fb, .ref aP, .ref aW, .ref aK])), (aZ, .inl (cZ, 6, .inr (.inr (.inr (.inr fZ))))), (aO, .inl (cI, 1440, .inl fO)), (aG, .inl (cI, 1440, .inl fG))]) rfl (plTo_ad hto)) hD
  have hw : r2 = some za := hw
  subst hw
  refine W.eq (g2 := F0 m 5 ls [.ref za]) rfl ?_
  have hPf := hP
  have hDf := hD
  have hP : va_P (dC, dI) vwCl [(za, .inr (1, [.int zh, .int zl, .int zf, .int zp, .int zr, .int zm, .int zw, .ref la, .int zs, .ref wa])), (la, .inr (0, [.long ea, .long eb])), (wa, .inl (cI, 1441, .inl fT))] H1 := zone_P hPf hs1
  have hD : va_D A [(za, .inr (1, [.int zh, .int zl, .int zf, .int zp, .int zr, .int zm, .int zw, .ref la, .int zs, .ref wa])), (la, .inr (0, [.long ea, .long eb])), (wa, .inl (cI, 1441, .inl fT))] := zone_D hDf hs1
  refine lv_astore_n (lv' := [(2, .ref za), (0, .ref a0), (1, .int (nI k))]) hx hb d_C_taught_5 rfl hl9 (by decide) rfl (fun ls hl9 => ?_)
  refine lv_aload_n hx hb d_C_taught_6 rfl (lv_at hl9 0 rfl) ?_
  have hPc := hP.sub (ws' := [(za, .inr (1, [.int zh, .int zl, .int zf, .int zp, .int zr, .int zm, .int zw, .ref la, .int zs, .ref wa]))]) [0] rfl
  have hDc := hD.sub (ws' := [(za, .inr (1, [.int zh, .int zl, .int zf, .int zp, .int zr, .int zm, .int zw, .ref la, .int zs, .ref wa]))]) [0] (by decide) rfl
  have hFc := va_A_nil hA hS.1
  refine va_calli (va_runVN (C := R_Z) (As := []) (rest := []) ⟨hx, hb, hml, hown, hG⟩ (c_wantsWarmth l dC dI cI cJ cZ cB za la wa zh zl zf zp zr zm zw zs H1.size ) ⟨va_cnB (host := "StartTimes") 0 hG g_C_100 rfl rfl rfl (hE.1.1 _ k_283 rfl) (hG _ k_8) (by decide +kernel) ⟨Nat.le_of_ble_eq_true rfl, Nat.le_of_ble_eq_true rfl⟩, hG _ k_285, hG _ ks_7⟩ ⟨PC.blind, va_recv hK hP (ci := 1) (q0 := 0) rfl rfl, PC.of hPc hK hDc hE hS hFc⟩ rfl rfl hl9.1 rfl (lv_room (Nat.le_of_ble_eq_true rfl)) d_C_taught_7 ⟨by first | exact Nat.le_of_ble_eq_true rfl | omega, by first | exact Nat.le_of_ble_eq_true rfl | omega⟩) hS (fun q _ h => hFc q h) hFc (fun r4 u t H3 locs ht hvm hw hB hz1 hk1 hS => ?_)
  have hP := wp_kept hP hk1
  have hPf := wp_kept hPf hk1
  have hw : r4 = if zm = -1 then 0 else 1 := hw
  subst hw
  rcases hzm with hzm | ⟨b, hb1, hzm⟩
  · rw [show (if zm = -1 then (0 : Int32) else 1) = 0 from if_pos hzm]
    refine lv_if_ne (tgt := 15) hx hb d_C_taught_10 (by decide) (fun c1 => ?_) (fun c1 => ?_)
    · exact absurd rfl c1
    · refine lv_iconst (v := (-1)) hx hb d_C_taught_13 (by decide) ?_
      exact W.iret (v := (-1)) hx hb hr (fun t ht hW => ⟨⟨(-1), (), rfl, by rw [if_pos hzm], by have h9 := hPf; rw [← ht] at h9; exact h9⟩, hS.F ht⟩) hS.2.2 d_C_taught_14
  · have nzm : ¬ zm = -1 := by rw [hzm]; exact nb_ne hb1
    rw [show (if zm = -1 then (0 : Int32) else 1) = 1 from if_neg nzm]
    refine lv_if_ne (tgt := 15) hx hb d_C_taught_10 (by decide) (fun c1 => ?_) (fun c1 => ?_)
    · refine lv_aload_n hx hb d_C_taught_15 rfl (lv_at hl9 0 rfl) ?_
      refine va_getN (D := (dC, dI)) (ci := 1) (v := .int zs) (C := R_Z) (T := F_Z) (N := 10) hx hb hG i_Z hown hK hP 0 rfl rfl 8 (by decide) (hE.1.use k_196) (fun _ h9 => h9) rfl d_C_taught_16 ?_
      refine lv_aload_n hx hb d_C_taught_19 rfl (lv_at hl9 0 rfl) ?_
      refine va_getN (D := (dC, dI)) (ci := 1) (v := .ref la) (C := R_Z) (T := F_Z) (N := 10) hx hb hG i_Z hown hK hP 0 rfl rfl 7 (by decide) (hE.1.use k_194) (fun _ h9 => h9) rfl d_C_taught_20 ?_
      have hPc := hP.sub (ws' := [(la, .inr (0, [.long ea, .long eb]))]) [1] rfl
      have hDc := hD.sub (ws' := [(la, .inr (0, [.long ea, .long eb]))]) [1] (by decide) rfl
      have hFc := va_A_nil hA hS.1
      refine va_calli (va_runVN (C := R_E) (As := []) (rest := [.int zs]) ⟨hx, hb, hml, hown, hG⟩ (c_wholeMinutes l dC dI cI cJ cZ cB la ea eb H3.size hne) ⟨va_cnB (host := "StartTimes") 0 hG g_C_126 rfl rfl rfl (hE.1.1 _ k_379 rfl) (hG _ k_9) (by decide +kernel) ⟨Nat.le_of_ble_eq_true rfl, Nat.le_of_ble_eq_true rfl⟩, hG _ k_381, hG _ ks_15⟩ ⟨PC.blind, va_recv hK hP (ci := 0) (q0 := 1) rfl rfl, PC.of hPc hK hDc hE hS hFc⟩ rfl rfl hl9.1 rfl (lv_room (Nat.le_of_ble_eq_true rfl)) d_C_taught_23 ⟨by first | exact Nat.le_of_ble_eq_true rfl | omega, by first | exact Nat.le_of_ble_eq_true rfl | omega⟩) hS (fun q _ h => hFc q h) hFc (fun r6 u t H5 locs ht hvm hw hB hz1 hk1 hS => ?_)
      have hP := wp_kept hP hk1
      have hPf := wp_kept hPf hk1
      have hw : r6 = (ea / eb).toInt32 := hw
      subst hw
      refine lv_isub hx hb d_C_taught_26 ?_
      refine lv_istore_n (lv' := [(3, .int (zs - ((ea / eb).toInt32))), (2, .ref za), (0, .ref a0), (1, .int (nI k))]) hx hb d_C_taught_27 rfl hl9 (by decide) rfl (fun ls hl9 => ?_)
      refine lv_iconst (v := 0) hx hb d_C_taught_28 (by decide) ?_
      refine lv_iload_n hx hb d_C_taught_29 rfl (lv_at hl9 0 rfl) ?_
      refine lv_sipush (v := 1439) hx hb d_C_taught_30 (by decide) ?_
      refine va_mmin hx hb (hml.trans hl9.1.symm) hown (hG _ k_383) (hG _ k_384) (hG _ k_10) (hG _ k_385) (Nat.le_of_ble_eq_true rfl) (Nat.le_of_ble_eq_true rfl) (Nat.le_of_ble_eq_true rfl) (Nat.le_of_ble_eq_true rfl) d_C_taught_33 ?_
      refine va_mmax hx hb (hml.trans hl9.1.symm) hown (hG _ k_386) (hG _ k_387) (hG _ k_10) (hG _ k_388) (Nat.le_of_ble_eq_true rfl) (Nat.le_of_ble_eq_true rfl) (Nat.le_of_ble_eq_true rfl) (Nat.le_of_ble_eq_true rfl) d_C_taught_36 ?_
      exact W.iret (v := (if 0 < (if 1439 < (zs - ((ea / eb).toInt32)) then 1439 else (zs - ((ea / eb).toInt32))) then (if 1439 < (zs - ((ea / eb).toInt32)) then 1439 else (zs - ((ea / eb).toInt32))) else 0)) hx hb hr (fun t ht hW => ⟨⟨(if 0 < (if 1439 < (zs - ((ea / eb).toInt32)) then 1439 else (zs - ((ea / eb).toInt32))) then (if 1439 < (zs - ((ea / eb).toInt32)) then 1439 else (zs - ((ea / eb).toInt32))) else 0), (), rfl, by rw [if_neg nzm], by have h9 := hPf; rw [← ht] at h9; exact h9⟩, hS.F ht⟩) hS.2.2 d_C_taught_39
    · exact absurd c1 (by decide)
