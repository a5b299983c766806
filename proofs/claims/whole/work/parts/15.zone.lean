theorem g_C_67 : GoodIn GG w_Z_init := goodG (List.forall_mem_cons.mpr ⟨k_162, fun _ h => h⟩)
set_option maxHeartbeats 4000000 in
set_option maxRecDepth 100000 in
theorem c_zone (l : Launch) (dC : Nat → ClassId) (dI : Nat → Nat → Nat) (cI cJ cZ cB : ClassId) (hl : l.stackTraces = false) (a0 aZ aO aG aP aW aK : Nat) (zc orr ol mp pl fa fb : Int32) (fZ : Nat → Option Nat) (nz : Nat) (x y : Int32) (sz : Nat) (hn : nz ≤ 6) : vx_Met l y_C_zone w_C_zone ({ frames := 7, cells := 5, slots := 1465, locals := 104 }) (PC (dC, dI) (TY cI cJ cZ cB) [.ref a0, .int x, .int y] [(a0, .inr (2, [.ref aZ, .int (nI nz), .ref aO, .int orr, .int ol, .int mp, .ref aG, .int pl, .int fa, .int fb, .ref aP, .ref aW, .ref aK])), (aZ, .inl (cZ, 6, .inr (.inr (.inr (.inr fZ)))))] sz (va_A [(a0, .inr (2, [.ref aZ, .int (nI nz), .ref aO, .int orr, .int ol, .int mp, .ref aG, .int pl, .int fa, .int fb, .ref aP, .ref aW, .ref aK])), (aZ, .inl (cZ, 6, .inr (.inr (.inr (.inr fZ)))))] sz)) (va_Qi (fun (r : Int32) (_ : Nat × Nat × Nat) => r = nI nz ∧ ¬ ((x < 1 ∨ 1000 < x) ∨ (y < 1 ∨ 1000 < y)) ∧ nz < 6) (fun (u : Nat × Nat × Nat) (t : State) => va_P (dC, dI) vwCl [(a0, .inr (2, [.ref aZ, .int (nI (nz + 1)), .ref aO, .int orr, .int ol, .int mp, .ref aG, .int 0, .int fa, .int fb, .ref aP, .ref aW, .ref aK])), (aZ, .inl (cZ, 6, .inr (.inr (.inr (.inr (va_up fZ nz (some u.1))))))), (u.1, .inr (1, [.int x, .int y, .int 0, .int 1000, .int 0, .int (-1), .int 0, .ref u.2.1, .int (-1), .ref u.2.2])), (u.2.1, .inr (0, [.long 0, .long 1])), (u.2.2, .inl (cI, 1441, .inl (fun _ => 0)))] t.heap ∧ va_D (va_A [(a0, .inr (2, [.ref aZ, .int (nI nz), .ref aO, .int orr, .int ol, .int mp, .ref aG, .int pl, .int fa, .int fb, .ref aP, .ref aW, .ref aK])), (aZ, .inl (cZ, 6, .inr (.inr (.inr (.inr fZ)))))] sz) [(a0, .inr (2, [.ref aZ, .int (nI (nz + 1)), .ref aO, .int orr, .int ol, .int mp, .ref aG, .int 0, .int fa, .int fb, .ref aP, .ref aW, .ref aK])), (aZ, .inl (cZ, 6, .inr (.inr (.inr (.inr (va_up fZ nz (some u.1))))))), (u.1, .inr (1, [.int x, .int y, .int 0, .int 1000, .int 0, .int (-1), .int 0, .ref u.2.1, .int (-1), .ref u.2.2])), (u.2.1, .inr (0, [.long 0, .long 1])), (u.2.2, .inl (cI, 1441, .inl (fun _ => 0)))]) (va_A [(a0, .inr (2, [.ref aZ, .int (nI nz), .ref aO, .int orr, .int ol, .int mp, .ref aG, .int pl, .int fa, .int fb, .ref aP, .ref aW, .ref aK])), (aZ, .inl (cZ, 6, .inr (.inr (.inr (.inr fZ)))))] sz)) (vx_X (fun (_ : Unit) => True) (fun (E : String) (_ : Unit) (t : State) => ((E = "java/lang/IllegalArgumentException" ∧ ((x < 1 ∨ 1000 < x) ∨ (y < 1 ∨ 1000 < y))) ∨ (E = "java/lang/IllegalStateException" ∧ ¬ ((x < 1 ∨ 1000 < x) ∨ (y < 1 ∨ 1000 < y)) ∧ ¬ nz < 6)) ∧ va_P (dC, dI) vwCl [(a0, .inr (2, [.ref aZ, .int (nI nz), .ref aO, .int orr, .int ol, .int mp, .ref aG, .int pl, .int fa, .int fb, .ref aP, .ref aW, .ref aK])), (aZ, .inl (cZ, 6, .inr (.inr (.inr (.inr fZ)))))] t.heap) (va_A [(a0, .inr (2, [.ref aZ, .int (nI nz), .ref aO, .int orr, .int ol, .int mp, .ref aG, .int pl, .int fa, .int fb, .ref aP, .ref aW, .ref aK])), (aZ, .inl (cZ, 6, .inr (.inr (.inr (.inr fZ)))))] sz)) 5 1465 (va_A [(a0, .inr (2, [.ref aZ, .int (nI nz), .ref aO, .int orr, .int ol, .int mp, .ref aG, .int pl, .int fa, .int fb, .ref aP, .ref aW, .ref aK])), (aZ, .inl (cZ, 6, .inr (.inr (.inr (.inr fZ)))))] sz) := by
  refine vx_ofW (cc := b_C_zone) (maxL := 4) (ret := (some .int)) (by decide) rfl ?_
  intro p e s m args below meth c s₁ B hml hnx hv
  obtain ⟨rfl, hsz, hP, hK, hD0, hE⟩ := hv
  have hx := B.exec
  have hb := B.bytes
  have hr := B.returns
  have hG : ∀ w ∈ GG, w.before _ s = true := fun w h => atoms_spec (ws := w_C_zone) B.pre w (List.mem_cons_of_mem _ h)
  have hown : s.vm.findClass R_C = some m.cls := findClass_of_methodNamed B.named
  have hlocks := B.notSynchronized
  subst hsz
  have hD := hD0.self (sz := s.heap.size)
  generalize hAe : (va_A [(a0, .inr (2, [.ref aZ, .int (nI nz), .ref aO, .int orr, .int ol, .int mp, .ref aG, .int pl, .int fa, .int fb, .ref aP, .ref aW, .ref aK])), (aZ, .inl (cZ, 6, .inr (.inr (.inr (.inr fZ)))))] s.heap.size) = A at hD hE ⊢
  have hA : ∀ q : Nat, s.heap.size ≤ q → A q := fun q h => by rw [← hAe]; exact Or.inr h
  have hS : va_S A s.heap s.heap [] := va_S.rf
  obtain ⟨H, hH⟩ : ∃ z, z = s.heap := ⟨_, rfl⟩
  rw [← hH] at hP
  have hS : va_S A s.heap H [] := by rw [hH]; exact hS
  rw [← hH]
  have hl9 := lv_entry ([.ref a0, .int x, .int y]) (n := 4) (Nat.le_of_ble_eq_true rfl)
  rw [lg_entry_eq]
  generalize (lg_sl ([.ref a0, .int x, .int y]) ++ List.replicate (4 - (lg_sl ([.ref a0, .int x, .int y])).length) Slot.unset).toArray = ls at hl9 ⊢
  have hl9 : lv_has ls 4 [(0, .ref a0), (1, .int x), (2, .int y)] := hl9
  refine lv_iload_n hx hb d_C_zone_0 rfl (lv_at hl9 1 rfl) ?_
  refine lv_iconst (v := 1) hx hb d_C_zone_1 (by decide) ?_
  refine lv_sipush (v := 1000) hx hb d_C_zone_2 (by decide) ?_
  have hPc := hP.sub (ws' := []) [] rfl
  have hDc := hD.sub (ws' := []) [] (by decide) rfl
  have hFc := va_A_nil hA hS.1
  refine vx_callv (vx_runS (As := [.int x, .int 1, .int 1000]) (rest := []) ⟨hx, hb, hml, hown, hG⟩ (c_checkBounds l dC dI cI cJ cZ cB hl x 1 1000 H.size ) (cwS 3 hG g_C_56 rfl rfl rfl (by decide +kernel) ⟨Nat.le_of_ble_eq_true rfl, Nat.le_of_ble_eq_true rfl⟩) ⟨PC.blind, PC.of hPc hK hDc hE hS hFc⟩ rfl rfl hl9.1 rfl (lv_room (Nat.le_of_ble_eq_true rfl)) d_C_zone_5 ⟨by first | exact Nat.le_of_ble_eq_true rfl | omega, by first | exact Nat.le_of_ble_eq_true rfl | omega⟩) hS (fun q _ h => hFc q h) hFc (fun q _ h => hFc q h) (fun E ce q9 u t H1 locs ht hvm hpx hB hz1 hk1 hS hce hcv hcl => ?_) (fun u t H1 locs ht hvm hw hB hz1 hk1 hS => ?_)
  · exact vx_out (fun x hx => (hnx x hx).elim) hlocks hce hcv hcl (fun t ht ha => ⟨(), trivial, ⟨Or.inl ⟨hB.1, Or.inl hB.2⟩, by have h9 := wp_kept hP hk1; rw [← ht] at h9; exact h9⟩, hS.F ht⟩) hS.2.2 (by first | exact Nat.le_of_ble_eq_true rfl | omega) (by first | exact Nat.le_of_ble_eq_true rfl | omega)
  have hw := hw
  have hP := wp_kept hP hk1
  have hq3 : ¬ (x < 1 ∨ 1000 < x) := hw
  have hw1 := hw
  refine lv_iload_n hx hb d_C_zone_8 rfl (lv_at hl9 2 rfl) ?_
  refine lv_iconst (v := 1) hx hb d_C_zone_9 (by decide) ?_
  refine lv_sipush (v := 1000) hx hb d_C_zone_10 (by decide) ?_
  have hPc := hP.sub (ws' := []) [] rfl
  have hDc := hD.sub (ws' := []) [] (by decide) rfl
  have hFc := va_A_nil hA hS.1
  refine vx_callv (vx_runS (As := [.int y, .int 1, .int 1000]) (rest := []) ⟨hx, hb, hml, hown, hG⟩ (c_checkBounds l dC dI cI cJ cZ cB hl y 1 1000 H1.size ) (cwS 3 hG g_C_56 rfl rfl rfl (by decide +kernel) ⟨Nat.le_of_ble_eq_true rfl, Nat.le_of_ble_eq_true rfl⟩) ⟨PC.blind, PC.of hPc hK hDc hE hS hFc⟩ rfl rfl hl9.1 rfl (lv_room (Nat.le_of_ble_eq_true rfl)) d_C_zone_13 ⟨by first | exact Nat.le_of_ble_eq_true rfl | omega, by first | exact Nat.le_of_ble_eq_true rfl | omega⟩) hS (fun q _ h => hFc q h) hFc (fun q _ h => hFc q h) (fun E ce q9 u t H4 locs ht hvm hpx hB hz1 hk1 hS hce hcv hcl => ?_) (fun u t H4 locs ht hvm hw hB hz1 hk1 hS => ?_)
  · exact vx_out (fun x hx => (hnx x hx).elim) hlocks hce hcv hcl (fun t ht ha => ⟨(), trivial, ⟨Or.inl ⟨hB.1, Or.inr hB.2⟩, by have h9 := wp_kept hP hk1; rw [← ht] at h9; exact h9⟩, hS.F ht⟩) hS.2.2 (by first | exact Nat.le_of_ble_eq_true rfl | omega) (by first | exact Nat.le_of_ble_eq_true rfl | omega)
  have hw := hw
  have hP := wp_kept hP hk1
  have hq6 : ¬ (y < 1 ∨ 1000 < y) := hw
  have hw2 : ¬ ((x < 1 ∨ 1000 < x) ∨ (y < 1 ∨ 1000 < y)) := fun h => h.elim hw1 hw
  refine lv_aload_n hx hb d_C_zone_16 rfl (lv_at hl9 0 rfl) ?_
  refine va_get (D := (dC, dI)) (ci := 2) (v := .int (nI nz)) (C := R_C) (T := F_C) (N := 13) hx hb hG i_C hown hK hP 0 rfl rfl 1 (by decide) (hG _ k_23) (fun _ h9 => h9) rfl d_C_zone_17 ?_
  refine lv_bipush (v := 6) hx hb d_C_zone_20 (by decide) ?_
  refine lv_icmp_lt (tgt := 35) hx hb d_C_zone_22 (by decide) (fun c1 => ?_) (fun c1 => ?_)
  · have hlt : nz < 6 := (nI_ltI (a := nz) (b := 6) (by omega) (by decide)).mp c1
    refine lv_aload_n hx hb d_C_zone_35 rfl (lv_at hl9 0 rfl) ?_
    refine va_get (D := (dC, dI)) (ci := 2) (v := .int (nI nz)) (C := R_C) (T := F_C) (N := 13) hx hb hG i_C hown hK hP 0 rfl rfl 1 (by decide) (hG _ k_23) (fun _ h9 => h9) rfl d_C_zone_36 ?_
    refine lv_istore_n (lv' := [(3, .int (nI nz)), (0, .ref a0), (1, .int x), (2, .int y)]) hx hb d_C_zone_39 rfl hl9 (by decide) rfl (fun ls hl9 => ?_)
    refine lv_aload_n hx hb d_C_zone_40 rfl (lv_at hl9 1 rfl) ?_
    refine va_get (D := (dC, dI)) (ci := 2) (v := .ref aZ) (C := R_C) (T := F_C) (N := 13) hx hb hG i_C hown hK hP 0 rfl rfl 0 (by decide) (hG _ k_22) (fun _ h9 => h9) rfl d_C_zone_41 ?_
    refine lv_iload_n hx hb d_C_zone_44 rfl (lv_at hl9 0 rfl) ?_
    refine va_new (ci := 1) (fs := [.int 0, .int 0, .int 0, .int 0, .int 0, .int 0, .int 0, .null, .int 0, .null]) (C := R_Z) (T := F_Z) (N := 10) hx hb hG i_Z t_Z t_Z_ok hown (hG _ k_19) (hG _ k_159) (hG _ k_8) hK hP hD hS hA rfl (by decide +kernel) (by first | exact Nat.le_of_ble_eq_true rfl | omega) (by first | exact Nat.le_of_ble_eq_true rfl | omega) d_C_zone_45 (fun q1 H hP hD hS => ?_)
    have hP : va_P (dC, dI) vwCl [(a0, .inr (2, [.ref aZ, .int (nI nz), .ref aO, .int orr, .int ol, .int mp, .ref aG, .int pl, .int fa, .int fb, .ref aP, .ref aW, .ref aK])), (aZ, .inl (cZ, 6, .inr (.inr (.inr (.inr fZ))))), (q1, .inr (1, [.int 0, .int 0, .int 0, .int 0, .int 0, .int 0, .int 0, .null, .int 0, .null]))] H := hP
    have hD : va_D A [(a0, .inr (2, [.ref aZ, .int (nI nz), .ref aO, .int orr, .int ol, .int mp, .ref aG, .int pl, .int fa, .int fb, .ref aP, .ref aW, .ref aK])), (aZ, .inl (cZ, 6, .inr (.inr (.inr (.inr fZ))))), (q1, .inr (1, [.int 0, .int 0, .int 0, .int 0, .int 0, .int 0, .int 0, .null, .int 0, .null]))] := hD
    refine lv_dup hx hb d_C_zone_48 rfl ?_
    refine lv_iload_n hx hb d_C_zone_49 rfl (lv_at hl9 2 rfl) ?_
    refine lv_iload_n hx hb d_C_zone_50 rfl (lv_at hl9 3 rfl) ?_
    have hPc := hP.sub (ws' := [(q1, .inr (1, [.int 0, .int 0, .int 0, .int 0, .int 0, .int 0, .int 0, .null, .int 0, .null]))]) [2] rfl
    have hDc := hD.sub (ws' := [(q1, .inr (1, [.int 0, .int 0, .int 0, .int 0, .int 0, .int 0, .int 0, .null, .int 0, .null]))]) [2] (by decide) rfl
    have hFc := va_free (wc := [(q1, .inr (1, [.int 0, .int 0, .int 0, .int 0, .int 0, .int 0, .int 0, .null, .int 0, .null]))]) hD hS hA [2] rfl
    refine va_callv (va_runIN (As := [.int x, .int y]) (rest := [.ref q1, .int (nI nz), .ref aZ]) ⟨hx, hb, hml, hown, hG⟩ (c_Z_init l dC dI cI cJ cZ cB q1 x y H.size ) ⟨va_cnB (host := "StartTimes") 2 hG g_C_67 rfl rfl rfl (hE.1.1 _ k_160 rfl) (hG _ k_8) (by decide +kernel) ⟨Nat.le_of_ble_eq_true rfl, Nat.le_of_ble_eq_true rfl⟩, rfl, hG _ k_161⟩ ⟨PC.blind, PC.of hPc hK hDc hE hS hFc⟩ rfl rfl hl9.1 rfl (lv_room (Nat.le_of_ble_eq_true rfl)) d_C_zone_51 ⟨by first | exact Nat.le_of_ble_eq_true rfl | omega, by first | exact Nat.le_of_ble_eq_true rfl | omega⟩) hS (fun q _ h => hFc q h) hFc (fun u t H7 locs ht hvm hw hB hz1 hk1 hS => ?_)
    obtain ⟨q2, q3⟩ := u
    obtain ⟨hP1, hD1⟩ := hB
    rw [ht] at hP1
    obtain ⟨hP, hD⟩ := va_join (wr := [(a0, .inr (2, [.ref aZ, .int (nI nz), .ref aO, .int orr, .int ol, .int mp, .ref aG, .int pl, .int fa, .int fb, .ref aP, .ref aW, .ref aK])), (aZ, .inl (cZ, 6, .inr (.inr (.inr (.inr fZ)))))]) (w1 := [(q1, .inr (1, [.int x, .int y, .int 0, .int 1000, .int 0, .int (-1), .int 0, .ref q2, .int (-1), .ref q3])), (q2, .inr (0, [.long 0, .long 1])), (q3, .inl (cI, 1441, .inl (fun _ => 0)))]) hP hD [2] [0, 1] rfl rfl (by decide) (by decide) hk1 hFc hP1 hD1
    have hP : va_P (dC, dI) vwCl [(a0, .inr (2, [.ref aZ, .int (nI nz), .ref aO, .int orr, .int ol, .int mp, .ref aG, .int pl, .int fa, .int fb, .ref aP, .ref aW, .ref aK])), (aZ, .inl (cZ, 6, .inr (.inr (.inr (.inr fZ))))), (q1, .inr (1, [.int x, .int y, .int 0, .int 1000, .int 0, .int (-1), .int 0, .ref q2, .int (-1), .ref q3])), (q2, .inr (0, [.long 0, .long 1])), (q3, .inl (cI, 1441, .inl (fun _ => 0)))] H7 := hP
    have hD : va_D A [(a0, .inr (2, [.ref aZ, .int (nI nz), .ref aO, .int orr, .int ol, .int mp, .ref aG, .int pl, .int fa, .int fb, .ref aP, .ref aW, .ref aK])), (aZ, .inl (cZ, 6, .inr (.inr (.inr (.inr fZ))))), (q1, .inr (1, [.int x, .int y, .int 0, .int 1000, .int 0, .int (-1), .int 0, .ref q2, .int (-1), .ref q3])), (q2, .inr (0, [.long 0, .long 1])), (q3, .inl (cI, 1441, .inl (fun _ => 0)))] := hD
    have hin : vp_in (nI nz) 6 := vp_in_nI (by omega) (by omega)
    refine va_astq hx hb hK hP hD hS 1 2 2 1 (r := (R_Z, F_Z, 10)) rfl rfl rfl rfl hin d_C_zone_54 (fun H locs hP hD hS => ?_)
    have hP : va_P (dC, dI) vwCl [(a0, .inr (2, [.ref aZ, .int (nI nz), .ref aO, .int orr, .int ol, .int mp, .ref aG, .int pl, .int fa, .int fb, .ref aP, .ref aW, .ref aK])), (aZ, .inl (cZ, 6, .inr (.inr (.inr (.inr (va_up fZ (nI nz).toNatClampNeg (some q1))))))), (q1, .inr (1, [.int x, .int y, .int 0, .int 1000, .int 0, .int (-1), .int 0, .ref q2, .int (-1), .ref q3])), (q2, .inr (0, [.long 0, .long 1])), (q3, .inl (cI, 1441, .inl (fun _ => 0)))] H := hP
    have hD : va_D A [(a0, .inr (2, [.ref aZ, .int (nI nz), .ref aO, .int orr, .int ol, .int mp, .ref aG, .int pl, .int fa, .int fb, .ref aP, .ref aW, .ref aK])), (aZ, .inl (cZ, 6, .inr (.inr (.inr (.inr (va_up fZ (nI nz).toNatClampNeg (some q1))))))), (q1, .inr (1, [.int x, .int y, .int 0, .int 1000, .int 0, .int (-1), .int 0, .ref q2, .int (-1), .ref q3])), (q2, .inr (0, [.long 0, .long 1])), (q3, .inl (cI, 1441, .inl (fun _ => 0)))] := hD
    rw [nI_clamp (n := nz) (by omega)] at hP hD
    refine lv_aload_n hx hb d_C_zone_55 rfl (lv_at hl9 1 rfl) ?_
    refine lv_dup hx hb d_C_zone_56 rfl ?_
    refine va_get (D := (dC, dI)) (ci := 2) (v := .int (nI nz)) (C := R_C) (T := F_C) (N := 13) hx hb hG i_C hown hK hP 0 rfl rfl 1 (by decide) (hG _ k_23) (fun _ h9 => h9) rfl d_C_zone_57 ?_
    refine lv_iconst (v := 1) hx hb d_C_zone_60 (by decide) ?_
    refine lv_iadd hx hb d_C_zone_61 ?_
    refine va_put (D := (dC, dI)) (ci := 2) (v := .int ((nI nz) + 1)) (ty := .int) (C := R_C) (T := F_C) (N := 13) hx hb hG i_C t_C t_C_ok n_C hown hK hP hD hS 0 rfl rfl 1 (by decide) (hG _ k_23) (fun _ h9 => h9) rfl (by decide +kernel) rfl rfl (Nat.le_of_ble_eq_true rfl) d_C_zone_62 (fun H locs hP hD hS => ?_)
    have hP : va_P (dC, dI) vwCl [(a0, .inr (2, [.ref aZ, .int ((nI nz) + 1), .ref aO, .int orr, .int ol, .int mp, .ref aG, .int pl, .int fa, .int fb, .ref aP, .ref aW, .ref aK])), (aZ, .inl (cZ, 6, .inr (.inr (.inr (.inr (va_up fZ nz (some q1))))))), (q1, .inr (1, [.int x, .int y, .int 0, .int 1000, .int 0, .int (-1), .int 0, .ref q2, .int (-1), .ref q3])), (q2, .inr (0, [.long 0, .long 1])), (q3, .inl (cI, 1441, .inl (fun _ => 0)))] H := hP
    have hD : va_D A [(a0, .inr (2, [.ref aZ, .int ((nI nz) + 1), .ref aO, .int orr, .int ol, .int mp, .ref aG, .int pl, .int fa, .int fb, .ref aP, .ref aW, .ref aK])), (aZ, .inl (cZ, 6, .inr (.inr (.inr (.inr (va_up fZ nz (some q1))))))), (q1, .inr (1, [.int x, .int y, .int 0, .int 1000, .int 0, .int (-1), .int 0, .ref q2, .int (-1), .ref q3])), (q2, .inr (0, [.long 0, .long 1])), (q3, .inl (cI, 1441, .inl (fun _ => 0)))] := hD
    refine lv_aload_n hx hb d_C_zone_65 rfl (lv_at hl9 1 rfl) ?_
    refine lv_iconst (v := 0) hx hb d_C_zone_66 (by decide) ?_
    refine va_put (D := (dC, dI)) (ci := 2) (v := .int 0) (ty := .boolean) (C := R_C) (T := F_C) (N := 13) hx hb hG i_C t_C t_C_ok n_C hown hK hP hD hS 0 rfl rfl 7 (by decide) (hG _ k_29) (fun _ h9 => h9) rfl (by decide +kernel) rfl rfl (Nat.le_of_ble_eq_true rfl) d_C_zone_67 (fun H locs hP hD hS => ?_)
    have hP : va_P (dC, dI) vwCl [(a0, .inr (2, [.ref aZ, .int ((nI nz) + 1), .ref aO, .int orr, .int ol, .int mp, .ref aG, .int 0, .int fa, .int fb, .ref aP, .ref aW, .ref aK])), (aZ, .inl (cZ, 6, .inr (.inr (.inr (.inr (va_up fZ nz (some q1))))))), (q1, .inr (1, [.int x, .int y, .int 0, .int 1000, .int 0, .int (-1), .int 0, .ref q2, .int (-1), .ref q3])), (q2, .inr (0, [.long 0, .long 1])), (q3, .inl (cI, 1441, .inl (fun _ => 0)))] H := hP
    have hD : va_D A [(a0, .inr (2, [.ref aZ, .int ((nI nz) + 1), .ref aO, .int orr, .int ol, .int mp, .ref aG, .int 0, .int fa, .int fb, .ref aP, .ref aW, .ref aK])), (aZ, .inl (cZ, 6, .inr (.inr (.inr (.inr (va_up fZ nz (some q1))))))), (q1, .inr (1, [.int x, .int y, .int 0, .int 1000, .int 0, .int (-1), .int 0, .ref q2, .int (-1), .ref q3])), (q2, .inr (0, [.long 0, .long 1])), (q3, .inl (cI, 1441, .inl (fun _ => 0)))] := hD
    refine lv_iload_n hx hb d_C_zone_70 rfl (lv_at hl9 0 rfl) ?_
    rw [nI_1] at hP hD
    refine vx_ret ?_
    exact W.iret (v := (nI nz)) hx hb hr (fun t ht hW => ⟨⟨(nI nz), (q1, q2, q3), rfl, ⟨rfl, hw2, hlt⟩, ⟨by have h9 := hP; rw [← ht] at h9; exact h9, hD⟩⟩, hS.F ht⟩) hS.2.2 d_C_zone_71
  · obtain ⟨sa, hsa⟩ := hE.1.2.1 (62, "there are 6 zones") (by decide)
    exact vx_throwS (own := R_C) (cls := "java/lang/IllegalStateException") (names := ["java/lang/RuntimeException", "java/lang/Exception"]) hx hb hl hown (by decide +kernel) (by decide +kernel) (hG _ k_143) (hG _ k_7) hsa (fun w h => (at_ISE w h).elim (hG w) (fun h => hE.1.use h.1 h.2)) ot_ISE hE.2.1 hE.2.2 hS (hl9.1.trans hml.symm) d_C_zone_25 d_C_zone_28 d_C_zone_29 d_C_zone_31 d_C_zone_34 (fun x hx => (hnx x hx).elim) (Nat.le_of_ble_eq_true rfl) (Nat.le_of_ble_eq_true rfl) (by first | exact Nat.le_of_ble_eq_true rfl | omega) (by first | exact Nat.le_of_ble_eq_true rfl | omega) hlocks (fun t ha hsz hk => ⟨(), trivial, ⟨Or.inr ⟨rfl, hw2, fun h => c1 (nI_lt h (by decide))⟩, hP.kept (fun k q hq => hk q.1 (hP k q hq).lt)⟩, Nat.le_trans hS.1 hsz, fun q h1 h2 => (hk q (Nat.lt_of_lt_of_le h1 hS.1)).trans (hS.2.1 q h1 h2)⟩) hS.2.2 (by first | exact Nat.le_of_ble_eq_true rfl | omega) (by first | exact Nat.le_of_ble_eq_true rfl | omega)
