theorem nI_self {x : Int32} (h : ¬ x < 0) : x = nI x.toNatClampNeg := by
  obtain ⟨j, hj, rfl⟩ := nI_of h
  rw [nI_clamp hj]
theorem in_bd {x hi : Int32} {n : Nat} (h : ¬ (x < 0 ∨ hi < x)) (hh : hi.toInt < n) : vp_in x n := by
  refine vp_in_iff.mpr ?_
  have h1 : ¬ x < 0 := fun q => h (Or.inl q)
  have h2 : ¬ hi < x := fun q => h (Or.inr q)
  rw [Int32.lt_iff_toInt_lt] at h1 h2
  rw [Int32.toInt_zero] at h1
  omega
theorem clamp_lt {x hi : Int32} {n : Nat} (h : ¬ (x < 0 ∨ hi < x)) (hh : hi.toInt < n) : x.toNatClampNeg < n := by
  have h1 : ¬ x < 0 := fun q => h (Or.inl q)
  have h2 : ¬ hi < x := fun q => h (Or.inr q)
  obtain ⟨j, hj, rfl⟩ := nI_of h1
  rw [nI_clamp hj]
  rw [Int32.lt_iff_toInt_lt, nI_toInt hj] at h2
  omega
/-- from place a on, n places are x -/
def fillO (f : Nat → Int32) (a : Nat) (x : Int32) : Nat → Nat → Int32
  | 0 => f
  | n + 1 => upd (fillO f a x n) (a + n) x
theorem g_C_56 : GoodIn GG (wsS R_C 56 y_C_checkBounds w_C_checkBounds) := goodG (List.forall_mem_append.mpr ⟨List.forall_mem_cons.mpr ⟨k_73, List.forall_mem_cons.mpr ⟨k_74, List.forall_mem_cons.mpr ⟨k_1, fun _ h => absurd h List.not_mem_nil⟩⟩⟩, List.forall_mem_cons.mpr ⟨k_75, fun _ h => h⟩⟩)
set_option maxHeartbeats 4000000 in
set_option maxRecDepth 100000 in
theorem c_machine (l : Launch) (dC : Nat → ClassId) (dI : Nat → Nat → Nat) (cI cJ cZ cB : ClassId) (hl : l.stackTraces = false) (a0 aZ aO aG aP aW aK : Nat) (zc orr ol mp pl fa fb : Int32) (v : Int32) (sz : Nat) : vx_Met l y_C_machine w_C_machine ({ frames := 7, cells := 1, slots := 6, locals := 104 }) (PC (dC, dI) (TY cI cJ cZ cB) [.ref a0, .int v] [(a0, .inr (2, [.ref aZ, .int zc, .ref aO, .int orr, .int ol, .int mp, .ref aG, .int pl, .int fa, .int fb, .ref aP, .ref aW, .ref aK]))] sz (va_A [(a0, .inr (2, [.ref aZ, .int zc, .ref aO, .int orr, .int ol, .int mp, .ref aG, .int pl, .int fa, .int fb, .ref aP, .ref aW, .ref aK]))] sz)) (va_Qi (fun (r : Int32) (_ : Unit) => r = mp ∧ ¬ (v < 0 ∨ 1000000 < v)) (fun (_ : Unit) (t : State) => va_P (dC, dI) vwCl [(a0, .inr (2, [.ref aZ, .int zc, .ref aO, .int orr, .int ol, .int v, .ref aG, .int 0, .int fa, .int fb, .ref aP, .ref aW, .ref aK]))] t.heap) (va_A [(a0, .inr (2, [.ref aZ, .int zc, .ref aO, .int orr, .int ol, .int mp, .ref aG, .int pl, .int fa, .int fb, .ref aP, .ref aW, .ref aK]))] sz)) (vx_X (fun (_ : Unit) => True) (fun (E : String) (_ : Unit) (t : State) => (E = "java/lang/IllegalArgumentException" ∧ (v < 0 ∨ 1000000 < v)) ∧ va_P (dC, dI) vwCl [(a0, .inr (2, [.ref aZ, .int zc, .ref aO, .int orr, .int ol, .int mp, .ref aG, .int pl, .int fa, .int fb, .ref aP, .ref aW, .ref aK]))] t.heap) (va_A [(a0, .inr (2, [.ref aZ, .int zc, .ref aO, .int orr, .int ol, .int mp, .ref aG, .int pl, .int fa, .int fb, .ref aP, .ref aW, .ref aK]))] sz)) 1 6 (va_A [(a0, .inr (2, [.ref aZ, .int zc, .ref aO, .int orr, .int ol, .int mp, .ref aG, .int pl, .int fa, .int fb, .ref aP, .ref aW, .ref aK]))] sz) := by
  refine vx_ofW (cc := b_C_machine) (maxL := 3) (ret := (some .int)) (by decide) rfl ?_
  intro p e s m args below meth c s₁ B hml hnx hv
  obtain ⟨rfl, hsz, hP, hK, hD0, hE⟩ := hv
  have hx := B.exec
  have hb := B.bytes
  have hr := B.returns
  have hG : ∀ w ∈ GG, w.before _ s = true := fun w h => atoms_spec (ws := w_C_machine) B.pre w (List.mem_cons_of_mem _ h)
  have hown : s.vm.findClass R_C = some m.cls := findClass_of_methodNamed B.named
  have hlocks := B.notSynchronized
  subst hsz
  have hD := hD0.self (sz := s.heap.size)
  generalize hAe : (va_A [(a0, .inr (2, [.ref aZ, .int zc, .ref aO, .int orr, .int ol, .int mp, .ref aG, .int pl, .int fa, .int fb, .ref aP, .ref aW, .ref aK]))] s.heap.size) = A at hD hE ⊢
  have hA : ∀ q : Nat, s.heap.size ≤ q → A q := fun q h => by rw [← hAe]; exact Or.inr h
  have hS : va_S A s.heap s.heap [] := va_S.rf
  obtain ⟨H, hH⟩ : ∃ z, z = s.heap := ⟨_, rfl⟩
  rw [← hH] at hP
  have hS : va_S A s.heap H [] := by rw [hH]; exact hS
  rw [← hH]
  have hl9 := lv_entry ([.ref a0, .int v]) (n := 3) (Nat.le_of_ble_eq_true rfl)
  rw [lg_entry_eq]
  generalize (lg_sl ([.ref a0, .int v]) ++ List.replicate (3 - (lg_sl ([.ref a0, .int v])).length) Slot.unset).toArray = ls at hl9 ⊢
  have hl9 : lv_has ls 3 [(0, .ref a0), (1, .int v)] := hl9
  refine lv_iload_n hx hb d_C_machine_0 rfl (lv_at hl9 1 rfl) ?_
  refine lv_iconst (v := 0) hx hb d_C_machine_1 (by decide) ?_
  refine lv_ldc (v := 1000000) hx hb hown (hG _ k_255) d_C_machine_2 ?_
  have hPc := hP.sub (ws' := []) [] rfl
  have hDc := hD.sub (ws' := []) [] (by decide) rfl
  have hFc := va_A_nil hA hS.1
  refine vx_callv (vx_runS (As := [.int v, .int 0, .int 1000000]) (rest := []) ⟨hx, hb, hml, hown, hG⟩ (c_checkBounds l dC dI cI cJ cZ cB hl v 0 1000000 H.size ) (cwS 3 hG g_C_56 rfl rfl rfl (by decide +kernel) ⟨Nat.le_of_ble_eq_true rfl, Nat.le_of_ble_eq_true rfl⟩) ⟨PC.blind, PC.of hPc hK hDc hE hS hFc⟩ rfl rfl hl9.1 rfl (lv_room (Nat.le_of_ble_eq_true rfl)) d_C_machine_4 ⟨by first | exact Nat.le_of_ble_eq_true rfl | omega, by first | exact Nat.le_of_ble_eq_true rfl | omega⟩) hS (fun q _ h => hFc q h) hFc (fun q _ h => hFc q h) (fun E ce q9 u t H1 locs ht hvm hpx hB hz1 hk1 hS hce hcv hcl => ?_) (fun u t H1 locs ht hvm hw hB hz1 hk1 hS => ?_)
  · exact vx_out (fun x hx => (hnx x hx).elim) hlocks hce hcv hcl (fun t ht ha => ⟨(), trivial, ⟨hB, by have h9 := wp_kept hP hk1; rw [← ht] at h9; exact h9⟩, hS.F ht⟩) hS.2.2 (by first | exact Nat.le_of_ble_eq_true rfl | omega) (by first | exact Nat.le_of_ble_eq_true rfl | omega)
  have hw := hw
  have hP := wp_kept hP hk1
  have hq3 : ¬ (v < 0 ∨ 1000000 < v) := hw
  refine lv_aload_n hx hb d_C_machine_7 rfl (lv_at hl9 0 rfl) ?_
  refine va_get (D := (dC, dI)) (ci := 2) (v := .int mp) (C := R_C) (T := F_C) (N := 13) hx hb hG i_C hown hK hP 0 rfl rfl 5 (by decide) (hG _ k_27) (fun _ h9 => h9) rfl d_C_machine_8 ?_
  refine lv_istore_n (lv' := [(2, .int mp), (0, .ref a0), (1, .int v)]) hx hb d_C_machine_11 rfl hl9 (by decide) rfl (fun ls hl9 => ?_)
  refine lv_aload_n hx hb d_C_machine_12 rfl (lv_at hl9 1 rfl) ?_
  refine lv_iload_n hx hb d_C_machine_13 rfl (lv_at hl9 2 rfl) ?_
  refine va_put (D := (dC, dI)) (ci := 2) (v := .int v) (ty := .int) (C := R_C) (T := F_C) (N := 13) hx hb hG i_C t_C t_C_ok n_C hown hK hP hD hS 0 rfl rfl 5 (by decide) (hG _ k_27) (fun _ h9 => h9) rfl (by decide +kernel) rfl rfl (Nat.le_of_ble_eq_true rfl) d_C_machine_14 (fun H locs hP hD hS => ?_)
  have hP : va_P (dC, dI) vwCl [(a0, .inr (2, [.ref aZ, .int zc, .ref aO, .int orr, .int ol, .int v, .ref aG, .int pl, .int fa, .int fb, .ref aP, .ref aW, .ref aK]))] H := hP
  have hD : va_D A [(a0, .inr (2, [.ref aZ, .int zc, .ref aO, .int orr, .int ol, .int v, .ref aG, .int pl, .int fa, .int fb, .ref aP, .ref aW, .ref aK]))] := hD
  refine lv_aload_n hx hb d_C_machine_17 rfl (lv_at hl9 1 rfl) ?_
  refine lv_iconst (v := 0) hx hb d_C_machine_18 (by decide) ?_
  refine va_put (D := (dC, dI)) (ci := 2) (v := .int 0) (ty := .boolean) (C := R_C) (T := F_C) (N := 13) hx hb hG i_C t_C t_C_ok n_C hown hK hP hD hS 0 rfl rfl 7 (by decide) (hG _ k_29) (fun _ h9 => h9) rfl (by decide +kernel) rfl rfl (Nat.le_of_ble_eq_true rfl) d_C_machine_19 (fun H locs hP hD hS => ?_)
  have hP : va_P (dC, dI) vwCl [(a0, .inr (2, [.ref aZ, .int zc, .ref aO, .int orr, .int ol, .int v, .ref aG, .int 0, .int fa, .int fb, .ref aP, .ref aW, .ref aK]))] H := hP
  have hD : va_D A [(a0, .inr (2, [.ref aZ, .int zc, .ref aO, .int orr, .int ol, .int v, .ref aG, .int 0, .int fa, .int fb, .ref aP, .ref aW, .ref aK]))] := hD
  refine lv_iload_n hx hb d_C_machine_22 rfl (lv_at hl9 0 rfl) ?_
  refine vx_ret ?_
  exact W.iret (v := mp) hx hb hr (fun t ht hW => ⟨⟨mp, (), rfl, ⟨rfl, hw⟩, by have h9 := hP; rw [← ht] at h9; exact h9⟩, hS.F ht⟩) hS.2.2 d_C_machine_23
set_option maxHeartbeats 4000000 in
set_option maxRecDepth 100000 in
theorem c_fade (l : Launch) (dC : Nat → ClassId) (dI : Nat → Nat → Nat) (cI cJ cZ cB : ClassId) (hl : l.stackTraces = false) (a0 aZ aO aG aP aW aK : Nat) (zc orr ol mp pl fa fb : Int32) (x y : Int32) (sz : Nat) : vx_Met l y_C_fade w_C_fade ({ frames := 7, cells := 2, slots := 12, locals := 104 }) (PC (dC, dI) (TY cI cJ cZ cB) [.ref a0, .int x, .int y] [(a0, .inr (2, [.ref aZ, .int zc, .ref aO, .int orr, .int ol, .int mp, .ref aG, .int pl, .int fa, .int fb, .ref aP, .ref aW, .ref aK]))] sz (va_A [(a0, .inr (2, [.ref aZ, .int zc, .ref aO, .int orr, .int ol, .int mp, .ref aG, .int pl, .int fa, .int fb, .ref aP, .ref aW, .ref aK]))] sz)) (va_Qv (fun (_ : Unit) => ¬ ((y < 1 ∨ 100 < y) ∨ (x < 0 ∨ y < x))) (fun (_ : Unit) (t : State) => va_P (dC, dI) vwCl [(a0, .inr (2, [.ref aZ, .int zc, .ref aO, .int orr, .int ol, .int mp, .ref aG, .int pl, .int x, .int y, .ref aP, .ref aW, .ref aK]))] t.heap) (va_A [(a0, .inr (2, [.ref aZ, .int zc, .ref aO, .int orr, .int ol, .int mp, .ref aG, .int pl, .int fa, .int fb, .ref aP, .ref aW, .ref aK]))] sz)) (vx_X (fun (_ : Unit) => True) (fun (E : String) (_ : Unit) (t : State) => (E = "java/lang/IllegalArgumentException" ∧ ((y < 1 ∨ 100 < y) ∨ (x < 0 ∨ y < x))) ∧ va_P (dC, dI) vwCl [(a0, .inr (2, [.ref aZ, .int zc, .ref aO, .int orr, .int ol, .int mp, .ref aG, .int pl, .int fa, .int fb, .ref aP, .ref aW, .ref aK]))] t.heap) (va_A [(a0, .inr (2, [.ref aZ, .int zc, .ref aO, .int orr, .int ol, .int mp, .ref aG, .int pl, .int fa, .int fb, .ref aP, .ref aW, .ref aK]))] sz)) 2 12 (va_A [(a0, .inr (2, [.ref aZ, .int zc, .ref aO, .int orr, .int ol, .int mp, .ref aG, .int pl, .int fa, .int fb, .ref aP, .ref aW, .ref aK]))] sz) := by
  refine vx_ofW (cc := b_C_fade) (maxL := 3) (ret := none) (by decide) rfl ?_
  intro p e s m args below meth c s₁ B hml hnx hv
  obtain ⟨rfl, hsz, hP, hK, hD0, hE⟩ := hv
  have hx := B.exec
  have hb := B.bytes
  have hr := B.returns
  have hG : ∀ w ∈ GG, w.before _ s = true := fun w h => atoms_spec (ws := w_C_fade) B.pre w (List.mem_cons_of_mem _ h)
  have hown : s.vm.findClass R_C = some m.cls := findClass_of_methodNamed B.named
  have hlocks := B.notSynchronized
  subst hsz
  have hD := hD0.self (sz := s.heap.size)
  generalize hAe : (va_A [(a0, .inr (2, [.ref aZ, .int zc, .ref aO, .int orr, .int ol, .int mp, .ref aG, .int pl, .int fa, .int fb, .ref aP, .ref aW, .ref aK]))] s.heap.size) = A at hD hE ⊢
  have hA : ∀ q : Nat, s.heap.size ≤ q → A q := fun q h => by rw [← hAe]; exact Or.inr h
  have hS : va_S A s.heap s.heap [] := va_S.rf
  obtain ⟨H, hH⟩ : ∃ z, z = s.heap := ⟨_, rfl⟩
  rw [← hH] at hP
  have hS : va_S A s.heap H [] := by rw [hH]; exact hS
  rw [← hH]
  have hl9 := lv_entry ([.ref a0, .int x, .int y]) (n := 3) (Nat.le_of_ble_eq_true rfl)
  rw [lg_entry_eq]
  generalize (lg_sl ([.ref a0, .int x, .int y]) ++ List.replicate (3 - (lg_sl ([.ref a0, .int x, .int y])).length) Slot.unset).toArray = ls at hl9 ⊢
  have hl9 : lv_has ls 3 [(0, .ref a0), (1, .int x), (2, .int y)] := hl9
  refine lv_iload_n hx hb d_C_fade_0 rfl (lv_at hl9 2 rfl) ?_
  refine lv_iconst (v := 1) hx hb d_C_fade_1 (by decide) ?_
  refine lv_bipush (v := 100) hx hb d_C_fade_2 (by decide) ?_
  have hPc := hP.sub (ws' := []) [] rfl
  have hDc := hD.sub (ws' := []) [] (by decide) rfl
  have hFc := va_A_nil hA hS.1
  refine vx_callv (vx_runS (As := [.int y, .int 1, .int 100]) (rest := []) ⟨hx, hb, hml, hown, hG⟩ (c_checkBounds l dC dI cI cJ cZ cB hl y 1 100 H.size ) (cwS 3 hG g_C_56 rfl rfl rfl (by decide +kernel) ⟨Nat.le_of_ble_eq_true rfl, Nat.le_of_ble_eq_true rfl⟩) ⟨PC.blind, PC.of hPc hK hDc hE hS hFc⟩ rfl rfl hl9.1 rfl (lv_room (Nat.le_of_ble_eq_true rfl)) d_C_fade_4 ⟨by first | exact Nat.le_of_ble_eq_true rfl | omega, by first | exact Nat.le_of_ble_eq_true rfl | omega⟩) hS (fun q _ h => hFc q h) hFc (fun q _ h => hFc q h) (fun E ce q9 u t H1 locs ht hvm hpx hB hz1 hk1 hS hce hcv hcl => ?_) (fun u t H1 locs ht hvm hw hB hz1 hk1 hS => ?_)
  · exact vx_out (fun x hx => (hnx x hx).elim) hlocks hce hcv hcl (fun t ht ha => ⟨(), trivial, ⟨⟨hB.1, Or.inl hB.2⟩, by have h9 := wp_kept hP hk1; rw [← ht] at h9; exact h9⟩, hS.F ht⟩) hS.2.2 (by first | exact Nat.le_of_ble_eq_true rfl | omega) (by first | exact Nat.le_of_ble_eq_true rfl | omega)
  have hw := hw
  have hP := wp_kept hP hk1
  have hq3 : ¬ (y < 1 ∨ 100 < y) := hw
  have hw1 := hw
  refine lv_iload_n hx hb d_C_fade_7 rfl (lv_at hl9 1 rfl) ?_
  refine lv_iconst (v := 0) hx hb d_C_fade_8 (by decide) ?_
  refine lv_iload_n hx hb d_C_fade_9 rfl (lv_at hl9 2 rfl) ?_
  have hPc := hP.sub (ws' := []) [] rfl
  have hDc := hD.sub (ws' := []) [] (by decide) rfl
  have hFc := va_A_nil hA hS.1
  refine vx_callv (vx_runS (As := [.int x, .int 0, .int y]) (rest := []) ⟨hx, hb, hml, hown, hG⟩ (c_checkBounds l dC dI cI cJ cZ cB hl x 0 y H1.size ) (cwS 3 hG g_C_56 rfl rfl rfl (by decide +kernel) ⟨Nat.le_of_ble_eq_true rfl, Nat.le_of_ble_eq_true rfl⟩) ⟨PC.blind, PC.of hPc hK hDc hE hS hFc⟩ rfl rfl hl9.1 rfl (lv_room (Nat.le_of_ble_eq_true rfl)) d_C_fade_10 ⟨by first | exact Nat.le_of_ble_eq_true rfl | omega, by first | exact Nat.le_of_ble_eq_true rfl | omega⟩) hS (fun q _ h => hFc q h) hFc (fun q _ h => hFc q h) (fun E ce q9 u t H4 locs ht hvm hpx hB hz1 hk1 hS hce hcv hcl => ?_) (fun u t H4 locs ht hvm hw hB hz1 hk1 hS => ?_)
  · exact vx_out (fun x hx => (hnx x hx).elim) hlocks hce hcv hcl (fun t ht ha => ⟨(), trivial, ⟨⟨hB.1, Or.inr hB.2⟩, by have h9 := wp_kept hP hk1; rw [← ht] at h9; exact h9⟩, hS.F ht⟩) hS.2.2 (by first | exact Nat.le_of_ble_eq_true rfl | omega) (by first | exact Nat.le_of_ble_eq_true rfl | omega)
  have hw := hw
  have hP := wp_kept hP hk1
  have hq6 : ¬ (x < 0 ∨ y < x) := hw
  refine lv_aload_n hx hb d_C_fade_13 rfl (lv_at hl9 0 rfl) ?_
  refine lv_iload_n hx hb d_C_fade_14 rfl (lv_at hl9 1 rfl) ?_
  refine va_put (D := (dC, dI)) (ci := 2) (v := .int x) (ty := .int) (C := R_C) (T := F_C) (N := 13) hx hb hG i_C t_C t_C_ok n_C hown hK hP hD hS 0 rfl rfl 8 (by decide) (hG _ k_30) (fun _ h9 => h9) rfl (by decide +kernel) rfl rfl (Nat.le_of_ble_eq_true rfl) d_C_fade_15 (fun H locs hP hD hS => ?_)
  have hP : va_P (dC, dI) vwCl [(a0, .inr (2, [.ref aZ, .int zc, .ref aO, .int orr, .int ol, .int mp, .ref aG, .int pl, .int x, .int fb, .ref aP, .ref aW, .ref aK]))] H := hP
  have hD : va_D A [(a0, .inr (2, [.ref aZ, .int zc, .ref aO, .int orr, .int ol, .int mp, .ref aG, .int pl, .int x, .int fb, .ref aP, .ref aW, .ref aK]))] := hD
  refine lv_aload_n hx hb d_C_fade_18 rfl (lv_at hl9 0 rfl) ?_
  refine lv_iload_n hx hb d_C_fade_19 rfl (lv_at hl9 2 rfl) ?_
  refine va_put (D := (dC, dI)) (ci := 2) (v := .int y) (ty := .int) (C := R_C) (T := F_C) (N := 13) hx hb hG i_C t_C t_C_ok n_C hown hK hP hD hS 0 rfl rfl 9 (by decide) (hG _ k_31) (fun _ h9 => h9) rfl (by decide +kernel) rfl rfl (Nat.le_of_ble_eq_true rfl) d_C_fade_20 (fun H locs hP hD hS => ?_)
  have hP : va_P (dC, dI) vwCl [(a0, .inr (2, [.ref aZ, .int zc, .ref aO, .int orr, .int ol, .int mp, .ref aG, .int pl, .int x, .int y, .ref aP, .ref aW, .ref aK]))] H := hP
  have hD : va_D A [(a0, .inr (2, [.ref aZ, .int zc, .ref aO, .int orr, .int ol, .int mp, .ref aG, .int pl, .int x, .int y, .ref aP, .ref aW, .ref aK]))] := hD
  refine vx_ret ?_
  exact W.vret hx hb hr (fun t ht hW => ⟨⟨(), rfl, fun h => h.elim hw1 hw, by have h9 := hP; rw [← ht] at h9; exact h9⟩, hS.F ht⟩) hS.2.2 d_C_fade_23
set_option maxHeartbeats 4000000 in
set_option maxRecDepth 100000 in
theorem c_price (l : Launch) (dC : Nat → ClassId) (dI : Nat → Nat → Nat) (cI cJ cZ cB : ClassId) (hl : l.stackTraces = false) (a0 aZ aO aG aP aW aK : Nat) (zc orr ol mp pl fa fb : Int32) (fP : Nat → Int32) (x y : Int32) (sz : Nat) : vx_Met l y_C_price w_C_price ({ frames := 7, cells := 2, slots := 12, locals := 104 }) (PC (dC, dI) (TY cI cJ cZ cB) [.ref a0, .int x, .int y] [(a0, .inr (2, [.ref aZ, .int zc, .ref aO, .int orr, .int ol, .int mp, .ref aG, .int pl, .int fa, .int fb, .ref aP, .ref aW, .ref aK])), (aP, .inl (cI, 24, .inl fP))] sz (va_A [(a0, .inr (2, [.ref aZ, .int zc, .ref aO, .int orr, .int ol, .int mp, .ref aG, .int pl, .int fa, .int fb, .ref aP, .ref aW, .ref aK])), (aP, .inl (cI, 24, .inl fP))] sz)) (va_Qi (fun (r : Int32) (_ : Unit) => r = fP x.toNatClampNeg ∧ ¬ ((x < 0 ∨ 23 < x) ∨ (y < 0 ∨ 1000 < y))) (fun (_ : Unit) (t : State) => va_P (dC, dI) vwCl [(a0, .inr (2, [.ref aZ, .int zc, .ref aO, .int orr, .int ol, .int mp, .ref aG, .int pl, .int fa, .int fb, .ref aP, .ref aW, .ref aK])), (aP, .inl (cI, 24, .inl (upd fP x.toNatClampNeg y)))] t.heap) (va_A [(a0, .inr (2, [.ref aZ, .int zc, .ref aO, .int orr, .int ol, .int mp, .ref aG, .int pl, .int fa, .int fb, .ref aP, .ref aW, .ref aK])), (aP, .inl (cI, 24, .inl fP))] sz)) (vx_X (fun (_ : Unit) => True) (fun (E : String) (_ : Unit) (t : State) => (E = "java/lang/IllegalArgumentException" ∧ ((x < 0 ∨ 23 < x) ∨ (y < 0 ∨ 1000 < y))) ∧ va_P (dC, dI) vwCl [(a0, .inr (2, [.ref aZ, .int zc, .ref aO, .int orr, .int ol, .int mp, .ref aG, .int pl, .int fa, .int fb, .ref aP, .ref aW, .ref aK])), (aP, .inl (cI, 24, .inl fP))] t.heap) (va_A [(a0, .inr (2, [.ref aZ, .int zc, .ref aO, .int orr, .int ol, .int mp, .ref aG, .int pl, .int fa, .int fb, .ref aP, .ref aW, .ref aK])), (aP, .inl (cI, 24, .inl fP))] sz)) 2 12 (va_A [(a0, .inr (2, [.ref aZ, .int zc, .ref aO, .int orr, .int ol, .int mp, .ref aG, .int pl, .int fa, .int fb, .ref aP, .ref aW, .ref aK])), (aP, .inl (cI, 24, .inl fP))] sz) := by
  refine vx_ofW (cc := b_C_price) (maxL := 4) (ret := (some .int)) (by decide) rfl ?_
  intro p e s m args below meth c s₁ B hml hnx hv
  obtain ⟨rfl, hsz, hP, hK, hD0, hE⟩ := hv
  have hx := B.exec
  have hb := B.bytes
  have hr := B.returns
  have hG : ∀ w ∈ GG, w.before _ s = true := fun w h => atoms_spec (ws := w_C_price) B.pre w (List.mem_cons_of_mem _ h)
  have hown : s.vm.findClass R_C = some m.cls := findClass_of_methodNamed B.named
  have hlocks := B.notSynchronized
  subst hsz
  have hD := hD0.self (sz := s.heap.size)
  generalize hAe : (va_A [(a0, .inr (2, [.ref aZ, .int zc, .ref aO, .int orr, .int ol, .int mp, .ref aG, .int pl, .int fa, .int fb, .ref aP, .ref aW, .ref aK])), (aP, .inl (cI, 24, .inl fP))] s.heap.size) = A at hD hE ⊢
  have hA : ∀ q : Nat, s.heap.size ≤ q → A q := fun q h => by rw [← hAe]; exact Or.inr h
  have hS : va_S A s.heap s.heap [] := va_S.rf
  obtain ⟨H, hH⟩ : ∃ z, z = s.heap := ⟨_, rfl⟩
  rw [← hH] at hP
  have hS : va_S A s.heap H [] := by rw [hH]; exact hS
  rw [← hH]
  have hl9 := lv_entry ([.ref a0, .int x, .int y]) (n := 4) (Nat.le_of_ble_eq_true rfl)
  rw [lg_entry_eq]
  generalize (lg_sl ([.ref a0, .int x, .int y]) ++ List.replicate (4 - (lg_sl ([.ref a0, .int x, .int y])).length) Slot.unset).toArray = ls at hl9 ⊢
  have hl9 : lv_has ls 4 [(0, .ref a0), (1, .int x), (2, .int y)] := hl9
  refine lv_iload_n hx hb d_C_price_0 rfl (lv_at hl9 1 rfl) ?_
  refine lv_iconst (v := 0) hx hb d_C_price_1 (by decide) ?_
  refine lv_bipush (v := 23) hx hb d_C_price_2 (by decide) ?_
  have hPc := hP.sub (ws' := []) [] rfl
  have hDc := hD.sub (ws' := []) [] (by decide) rfl
  have hFc := va_A_nil hA hS.1
  refine vx_callv (vx_runS (As := [.int x, .int 0, .int 23]) (rest := []) ⟨hx, hb, hml, hown, hG⟩ (c_checkBounds l dC dI cI cJ cZ cB hl x 0 23 H.size ) (cwS 3 hG g_C_56 rfl rfl rfl (by decide +kernel) ⟨Nat.le_of_ble_eq_true rfl, Nat.le_of_ble_eq_true rfl⟩) ⟨PC.blind, PC.of hPc hK hDc hE hS hFc⟩ rfl rfl hl9.1 rfl (lv_room (Nat.le_of_ble_eq_true rfl)) d_C_price_4 ⟨by first | exact Nat.le_of_ble_eq_true rfl | omega, by first | exact Nat.le_of_ble_eq_true rfl | omega⟩) hS (fun q _ h => hFc q h) hFc (fun q _ h => hFc q h) (fun E ce q9 u t H1 locs ht hvm hpx hB hz1 hk1 hS hce hcv hcl => ?_) (fun u t H1 locs ht hvm hw hB hz1 hk1 hS => ?_)
  · exact vx_out (fun x hx => (hnx x hx).elim) hlocks hce hcv hcl (fun t ht ha => ⟨(), trivial, ⟨⟨hB.1, Or.inl hB.2⟩, by have h9 := wp_kept hP hk1; rw [← ht] at h9; exact h9⟩, hS.F ht⟩) hS.2.2 (by first | exact Nat.le_of_ble_eq_true rfl | omega) (by first | exact Nat.le_of_ble_eq_true rfl | omega)
  have hw := hw
  have hP := wp_kept hP hk1
  have hq3 : ¬ (x < 0 ∨ 23 < x) := hw
  have hw1 := hw
  have hin : vp_in x 24 := in_bd hw1 (by decide)
  refine lv_iload_n hx hb d_C_price_7 rfl (lv_at hl9 2 rfl) ?_
  refine lv_iconst (v := 0) hx hb d_C_price_8 (by decide) ?_
  refine lv_sipush (v := 1000) hx hb d_C_price_9 (by decide) ?_
  have hPc := hP.sub (ws' := []) [] rfl
  have hDc := hD.sub (ws' := []) [] (by decide) rfl
  have hFc := va_A_nil hA hS.1
  refine vx_callv (vx_runS (As := [.int y, .int 0, .int 1000]) (rest := []) ⟨hx, hb, hml, hown, hG⟩ (c_checkBounds l dC dI cI cJ cZ cB hl y 0 1000 H1.size ) (cwS 3 hG g_C_56 rfl rfl rfl (by decide +kernel) ⟨Nat.le_of_ble_eq_true rfl, Nat.le_of_ble_eq_true rfl⟩) ⟨PC.blind, PC.of hPc hK hDc hE hS hFc⟩ rfl rfl hl9.1 rfl (lv_room (Nat.le_of_ble_eq_true rfl)) d_C_price_12 ⟨by first | exact Nat.le_of_ble_eq_true rfl | omega, by first | exact Nat.le_of_ble_eq_true rfl | omega⟩) hS (fun q _ h => hFc q h) hFc (fun q _ h => hFc q h) (fun E ce q9 u t H4 locs ht hvm hpx hB hz1 hk1 hS hce hcv hcl => ?_) (fun u t H4 locs ht hvm hw hB hz1 hk1 hS => ?_)
  · exact vx_out (fun x hx => (hnx x hx).elim) hlocks hce hcv hcl (fun t ht ha => ⟨(), trivial, ⟨⟨hB.1, Or.inr hB.2⟩, by have h9 := wp_kept hP hk1; rw [← ht] at h9; exact h9⟩, hS.F ht⟩) hS.2.2 (by first | exact Nat.le_of_ble_eq_true rfl | omega) (by first | exact Nat.le_of_ble_eq_true rfl | omega)
  have hw := hw
  have hP := wp_kept hP hk1
  have hq6 : ¬ (y < 0 ∨ 1000 < y) := hw
  refine lv_aload_n hx hb d_C_price_15 rfl (lv_at hl9 0 rfl) ?_
  refine va_get (D := (dC, dI)) (ci := 2) (v := .ref aP) (C := R_C) (T := F_C) (N := 13) hx hb hG i_C hown hK hP 0 rfl rfl 10 (by decide) (hG _ k_32) (fun _ h9 => h9) rfl d_C_price_16 ?_
  refine lv_iload_n hx hb d_C_price_19 rfl (lv_at hl9 1 rfl) ?_
  refine va_iald hx hb hK hP 1 0 rfl rfl (hin) d_C_price_20 ?_
  refine lv_istore_n (lv' := [(3, .int (fP x.toNatClampNeg)), (0, .ref a0), (1, .int x), (2, .int y)]) hx hb d_C_price_21 rfl hl9 (by decide) rfl (fun ls hl9 => ?_)
  refine lv_aload_n hx hb d_C_price_22 rfl (lv_at hl9 1 rfl) ?_
  refine va_get (D := (dC, dI)) (ci := 2) (v := .ref aP) (C := R_C) (T := F_C) (N := 13) hx hb hG i_C hown hK hP 0 rfl rfl 10 (by decide) (hG _ k_32) (fun _ h9 => h9) rfl d_C_price_23 ?_
  refine lv_iload_n hx hb d_C_price_26 rfl (lv_at hl9 2 rfl) ?_
  refine lv_iload_n hx hb d_C_price_27 rfl (lv_at hl9 3 rfl) ?_
  refine va_iast hx hb hK hP hD hS 1 0 rfl rfl (hin) d_C_price_28 (fun H locs hP hD hS => ?_)
  have hP : va_P (dC, dI) vwCl [(a0, .inr (2, [.ref aZ, .int zc, .ref aO, .int orr, .int ol, .int mp, .ref aG, .int pl, .int fa, .int fb, .ref aP, .ref aW, .ref aK])), (aP, .inl (cI, 24, .inl (upd fP x.toNatClampNeg y)))] H := hP
  have hD : va_D A [(a0, .inr (2, [.ref aZ, .int zc, .ref aO, .int orr, .int ol, .int mp, .ref aG, .int pl, .int fa, .int fb, .ref aP, .ref aW, .ref aK])), (aP, .inl (cI, 24, .inl (upd fP x.toNatClampNeg y)))] := hD
  refine lv_iload_n hx hb d_C_price_29 rfl (lv_at hl9 0 rfl) ?_
  refine vx_ret ?_
  exact W.iret (v := (fP x.toNatClampNeg)) hx hb hr (fun t ht hW => ⟨⟨(fP x.toNatClampNeg), (), rfl, ⟨rfl, fun h => h.elim hw1 hw⟩, by have h9 := hP; rw [← ht] at h9; exact h9⟩, hS.F ht⟩) hS.2.2 d_C_price_30
set_option maxHeartbeats 4000000 in
set_option maxRecDepth 100000 in
theorem c_outside (l : Launch) (dC : Nat → ClassId) (dI : Nat → Nat → Nat) (cI cJ cZ cB : ClassId) (hl : l.stackTraces = false) (a0 aZ aO aG aP aW aK : Nat) (zc orr ol mp pl fa fb : Int32) (fO : Nat → Int32) (x y : Int32) (sz : Nat) : vx_Met l y_C_outside w_C_outside ({ frames := 7, cells := 3, slots := 18, locals := 104 }) (PC (dC, dI) (TY cI cJ cZ cB) [.ref a0, .int x, .int y] [(a0, .inr (2, [.ref aZ, .int zc, .ref aO, .int orr, .int ol, .int mp, .ref aG, .int pl, .int fa, .int fb, .ref aP, .ref aW, .ref aK])), (aO, .inl (cI, 1440, .inl fO))] sz (va_A [(a0, .inr (2, [.ref aZ, .int zc, .ref aO, .int orr, .int ol, .int mp, .ref aG, .int pl, .int fa, .int fb, .ref aP, .ref aW, .ref aK])), (aO, .inl (cI, 1440, .inl fO))] sz)) (va_Qi (fun (r : Int32) (_ : Unit) => r = orr + 1 ∧ ¬ ((x < 0 ∨ 1439 < x) ∨ (y < (-10000) ∨ 10000 < y)) ∧ ¬ (24 ≤ orr ∨ x ≤ ol)) (fun (_ : Unit) (t : State) => va_P (dC, dI) vwCl [(a0, .inr (2, [.ref aZ, .int zc, .ref aO, .int (orr + 1), .int x, .int mp, .ref aG, .int 0, .int fa, .int fb, .ref aP, .ref aW, .ref aK])), (aO, .inl (cI, 1440, .inl (fillO fO x.toNatClampNeg y (1440 - x.toNatClampNeg))))] t.heap) (va_A [(a0, .inr (2, [.ref aZ, .int zc, .ref aO, .int orr, .int ol, .int mp, .ref aG, .int pl, .int fa, .int fb, .ref aP, .ref aW, .ref aK])), (aO, .inl (cI, 1440, .inl fO))] sz)) (vx_X (fun (_ : Unit) => True) (fun (E : String) (_ : Unit) (t : State) => ((E = "java/lang/IllegalArgumentException" ∧ ((x < 0 ∨ 1439 < x) ∨ (y < (-10000) ∨ 10000 < y))) ∨ (E = "java/lang/IllegalStateException" ∧ ¬ ((x < 0 ∨ 1439 < x) ∨ (y < (-10000) ∨ 10000 < y)) ∧ (24 ≤ orr ∨ x ≤ ol))) ∧ va_P (dC, dI) vwCl [(a0, .inr (2, [.ref aZ, .int zc, .ref aO, .int orr, .int ol, .int mp, .ref aG, .int pl, .int fa, .int fb, .ref aP, .ref aW, .ref aK])), (aO, .inl (cI, 1440, .inl fO))] t.heap) (va_A [(a0, .inr (2, [.ref aZ, .int zc, .ref aO, .int orr, .int ol, .int mp, .ref aG, .int pl, .int fa, .int fb, .ref aP, .ref aW, .ref aK])), (aO, .inl (cI, 1440, .inl fO))] sz)) 3 18 (va_A [(a0, .inr (2, [.ref aZ, .int zc, .ref aO, .int orr, .int ol, .int mp, .ref aG, .int pl, .int fa, .int fb, .ref aP, .ref aW, .ref aK])), (aO, .inl (cI, 1440, .inl fO))] sz) := by
  refine vx_ofW (cc := b_C_outside) (maxL := 4) (ret := (some .int)) (by decide) rfl ?_
  intro p e s m args below meth c s₁ B hml hnx hv
  obtain ⟨rfl, hsz, hP, hK, hD0, hE⟩ := hv
  have hx := B.exec
  have hb := B.bytes
  have hr := B.returns
  have hG : ∀ w ∈ GG, w.before _ s = true := fun w h => atoms_spec (ws := w_C_outside) B.pre w (List.mem_cons_of_mem _ h)
  have hown : s.vm.findClass R_C = some m.cls := findClass_of_methodNamed B.named
  have hlocks := B.notSynchronized
  subst hsz
  have hD := hD0.self (sz := s.heap.size)
  generalize hAe : (va_A [(a0, .inr (2, [.ref aZ, .int zc, .ref aO, .int orr, .int ol, .int mp, .ref aG, .int pl, .int fa, .int fb, .ref aP, .ref aW, .ref aK])), (aO, .inl (cI, 1440, .inl fO))] s.heap.size) = A at hD hE ⊢
  have hA : ∀ q : Nat, s.heap.size ≤ q → A q := fun q h => by rw [← hAe]; exact Or.inr h
  have hS : va_S A s.heap s.heap [] := va_S.rf
  obtain ⟨H, hH⟩ : ∃ z, z = s.heap := ⟨_, rfl⟩
  rw [← hH] at hP
  have hS : va_S A s.heap H [] := by rw [hH]; exact hS
  rw [← hH]
  have hl9 := lv_entry ([.ref a0, .int x, .int y]) (n := 4) (Nat.le_of_ble_eq_true rfl)
  rw [lg_entry_eq]
  generalize (lg_sl ([.ref a0, .int x, .int y]) ++ List.replicate (4 - (lg_sl ([.ref a0, .int x, .int y])).length) Slot.unset).toArray = ls at hl9 ⊢
  have hl9 : lv_has ls 4 [(0, .ref a0), (1, .int x), (2, .int y)] := hl9
  refine lv_iload_n hx hb d_C_outside_0 rfl (lv_at hl9 1 rfl) ?_
  refine lv_iconst (v := 0) hx hb d_C_outside_1 (by decide) ?_
  refine lv_sipush (v := 1439) hx hb d_C_outside_2 (by decide) ?_
  have hPc := hP.sub (ws' := []) [] rfl
  have hDc := hD.sub (ws' := []) [] (by decide) rfl
  have hFc := va_A_nil hA hS.1
  refine vx_callv (vx_runS (As := [.int x, .int 0, .int 1439]) (rest := []) ⟨hx, hb, hml, hown, hG⟩ (c_checkBounds l dC dI cI cJ cZ cB hl x 0 1439 H.size ) (cwS 3 hG g_C_56 rfl rfl rfl (by decide +kernel) ⟨Nat.le_of_ble_eq_true rfl, Nat.le_of_ble_eq_true rfl⟩) ⟨PC.blind, PC.of hPc hK hDc hE hS hFc⟩ rfl rfl hl9.1 rfl (lv_room (Nat.le_of_ble_eq_true rfl)) d_C_outside_5 ⟨by first | exact Nat.le_of_ble_eq_true rfl | omega, by first | exact Nat.le_of_ble_eq_true rfl | omega⟩) hS (fun q _ h => hFc q h) hFc (fun q _ h => hFc q h) (fun E ce q9 u t H1 locs ht hvm hpx hB hz1 hk1 hS hce hcv hcl => ?_) (fun u t H1 locs ht hvm hw hB hz1 hk1 hS => ?_)
  · exact vx_out (fun x hx => (hnx x hx).elim) hlocks hce hcv hcl (fun t ht ha => ⟨(), trivial, ⟨Or.inl ⟨hB.1, Or.inl hB.2⟩, by have h9 := wp_kept hP hk1; rw [← ht] at h9; exact h9⟩, hS.F ht⟩) hS.2.2 (by first | exact Nat.le_of_ble_eq_true rfl | omega) (by first | exact Nat.le_of_ble_eq_true rfl | omega)
  have hw := hw
  have hP := wp_kept hP hk1
  have hq3 : ¬ (x < 0 ∨ 1439 < x) := hw
  have hw1 := hw
  refine lv_iload_n hx hb d_C_outside_8 rfl (lv_at hl9 2 rfl) ?_
  refine lv_sipush (v := (-10000)) hx hb d_C_outside_9 (by decide) ?_
  refine lv_sipush (v := 10000) hx hb d_C_outside_12 (by decide) ?_
  have hPc := hP.sub (ws' := []) [] rfl
  have hDc := hD.sub (ws' := []) [] (by decide) rfl
  have hFc := va_A_nil hA hS.1
  refine vx_callv (vx_runS (As := [.int y, .int (-10000), .int 10000]) (rest := []) ⟨hx, hb, hml, hown, hG⟩ (c_checkBounds l dC dI cI cJ cZ cB hl y (-10000) 10000 H1.size ) (cwS 3 hG g_C_56 rfl rfl rfl (by decide +kernel) ⟨Nat.le_of_ble_eq_true rfl, Nat.le_of_ble_eq_true rfl⟩) ⟨PC.blind, PC.of hPc hK hDc hE hS hFc⟩ rfl rfl hl9.1 rfl (lv_room (Nat.le_of_ble_eq_true rfl)) d_C_outside_15 ⟨by first | exact Nat.le_of_ble_eq_true rfl | omega, by first | exact Nat.le_of_ble_eq_true rfl | omega⟩) hS (fun q _ h => hFc q h) hFc (fun q _ h => hFc q h) (fun E ce q9 u t H4 locs ht hvm hpx hB hz1 hk1 hS hce hcv hcl => ?_) (fun u t H4 locs ht hvm hw hB hz1 hk1 hS => ?_)
  · exact vx_out (fun x hx => (hnx x hx).elim) hlocks hce hcv hcl (fun t ht ha => ⟨(), trivial, ⟨Or.inl ⟨hB.1, Or.inr hB.2⟩, by have h9 := wp_kept hP hk1; rw [← ht] at h9; exact h9⟩, hS.F ht⟩) hS.2.2 (by first | exact Nat.le_of_ble_eq_true rfl | omega) (by first | exact Nat.le_of_ble_eq_true rfl | omega)
  have hw := hw
  have hP := wp_kept hP hk1
  have hq6 : ¬ (y < (-10000) ∨ 10000 < y) := hw
  have hw2 : ¬ ((x < 0 ∨ 1439 < x) ∨ (y < (-10000) ∨ 10000 < y)) := fun h => h.elim hw1 hw
  refine lv_aload_n hx hb d_C_outside_18 rfl (lv_at hl9 0 rfl) ?_
  refine va_get (D := (dC, dI)) (ci := 2) (v := .int orr) (C := R_C) (T := F_C) (N := 13) hx hb hG i_C hown hK hP 0 rfl rfl 3 (by decide) (hG _ k_25) (fun _ h9 => h9) rfl d_C_outside_19 ?_
  refine lv_bipush (v := 24) hx hb d_C_outside_22 (by decide) ?_
  refine lv_icmp_lt (tgt := 37) hx hb d_C_outside_24 (by decide) (fun c1 => ?_) (fun c1 => ?_)
  · refine lv_iload_n hx hb d_C_outside_37 rfl (lv_at hl9 1 rfl) ?_
    refine lv_aload_n hx hb d_C_outside_38 rfl (lv_at hl9 0 rfl) ?_
    refine va_get (D := (dC, dI)) (ci := 2) (v := .int ol) (C := R_C) (T := F_C) (N := 13) hx hb hG i_C hown hK hP 0 rfl rfl 4 (by decide) (hG _ k_26) (fun _ h9 => h9) rfl d_C_outside_39 ?_
    refine lv_icmp_gt (tgt := 55) hx hb d_C_outside_42 (by decide) (fun c2 => ?_) (fun c2 => ?_)
    · have hx0 : ¬ x < 0 := fun q => hw1 (Or.inl q)
      obtain ⟨a, ea⟩ : ∃ a, a = x.toNatClampNeg := ⟨_, rfl⟩
      have ex : x = nI a := by rw [ea]; exact nI_self hx0
      have ha : a < 1440 := by rw [ea]; exact clamp_lt hw1 (by decide)
      have hfin : ∀ z : Nat → Int32, z = fillO fO a y (1440 - a) → z = (fillO fO x.toNatClampNeg y (1440 - x.toNatClampNeg)) := fun z hz => by rw [hz, ea]
      refine lv_iload_n hx hb d_C_outside_55 rfl (lv_at hl9 1 rfl) ?_
      refine lv_istore_n (lv' := [(3, .int x), (0, .ref a0), (1, .int x), (2, .int y)]) hx hb d_C_outside_56 rfl hl9 (by decide) rfl (fun ls hl9 => ?_)
      have lp : ∀ (n : Nat) (i : Nat), a ≤ i → i ≤ 1440 → 1441 ≤ i + n → ∀ (H : Heap) (locs : List Loc) (ls : Array Slot), va_P (dC, dI) vwCl [(a0, .inr (2, [.ref aZ, .int zc, .ref aO, .int orr, .int ol, .int mp, .ref aG, .int pl, .int fa, .int fb, .ref aP, .ref aW, .ref aK])), (aO, .inl (cI, 1440, .inl (fillO fO a y (i - a))))] H → va_D A [(a0, .inr (2, [.ref aZ, .int zc, .ref aO, .int orr, .int ol, .int mp, .ref aG, .int pl, .int fa, .int fb, .ref aP, .ref aW, .ref aK])), (aO, .inl (cI, 1440, .inl (fillO fO a y (i - a))))] → va_S A s.heap H locs → lv_has ls 4 [(3, .int (nI i)), (0, .ref a0), (1, .int x), (2, .int y)] → W p l e (headSpec w_C_outside ({ frames := 7, cells := 3, slots := 18, locals := 104 })).room s m ([.ref a0, .int x, .int y] : List Value).toArray below meth c H locs 2 12 (vx_MQ below (va_Qi (fun (r : Int32) (_ : Unit) => r = orr + 1 ∧ ¬ ((x < 0 ∨ 1439 < x) ∨ (y < (-10000) ∨ 10000 < y)) ∧ ¬ (24 ≤ orr ∨ x ≤ ol)) (fun (_ : Unit) (t : State) => va_P (dC, dI) vwCl [(a0, .inr (2, [.ref aZ, .int zc, .ref aO, .int (orr + 1), .int x, .int mp, .ref aG, .int 0, .int fa, .int fb, .ref aP, .ref aW, .ref aK])), (aO, .inl (cI, 1440, .inl (fillO fO x.toNatClampNeg y (1440 - x.toNatClampNeg))))] t.heap) A) (vx_X (fun (_ : Unit) => True) (fun (E : String) (_ : Unit) (t : State) => ((E = "java/lang/IllegalArgumentException" ∧ ((x < 0 ∨ 1439 < x) ∨ (y < (-10000) ∨ 10000 < y))) ∨ (E = "java/lang/IllegalStateException" ∧ ¬ ((x < 0 ∨ 1439 < x) ∨ (y < (-10000) ∨ 10000 < y)) ∧ (24 ≤ orr ∨ x ≤ ol))) ∧ va_P (dC, dI) vwCl [(a0, .inr (2, [.ref aZ, .int zc, .ref aO, .int orr, .int ol, .int mp, .ref aG, .int pl, .int fa, .int fb, .ref aP, .ref aW, .ref aK])), (aO, .inl (cI, 1440, .inl fO))] t.heap) A) ([.ref a0, .int x, .int y] : List Value).toArray s 3 18 A) (F0 m 57 ls []) := by
        intro n
        induction n with
        | zero =>
          intro i hai hib hin
          exact absurd hin (by omega)
        | succ n ih =>
          intro i hai hib hin H locs ls hP hD hS hl9
          refine lv_iload_n hx hb d_C_outside_57 rfl (lv_at hl9 0 rfl) ?_
          refine lv_sipush (v := 1440) hx hb d_C_outside_58 (by decide) ?_
          refine lv_icmp_ge (tgt := 77) hx hb d_C_outside_61 (by decide) (fun c3 => ?_) (fun c3 => ?_)
          · have e9 : i = 1440 := by have := ge_of_c (i := i) (b := 1440) (by omega) (by decide) c3; omega
            subst e9
            rw [hfin _ rfl] at hP hD
            refine lv_aload_n hx hb d_C_outside_77 rfl (lv_at hl9 1 rfl) ?_
            refine lv_iload_n hx hb d_C_outside_78 rfl (lv_at hl9 2 rfl) ?_
            refine va_put (D := (dC, dI)) (ci := 2) (v := .int x) (ty := .int) (C := R_C) (T := F_C) (N := 13) hx hb hG i_C t_C t_C_ok n_C hown hK hP hD hS 0 rfl rfl 4 (by decide) (hG _ k_26) (fun _ h9 => h9) rfl (by decide +kernel) rfl rfl (Nat.le_of_ble_eq_true rfl) d_C_outside_79 (fun H locs hP hD hS => ?_)
            have hP : va_P (dC, dI) vwCl [(a0, .inr (2, [.ref aZ, .int zc, .ref aO, .int orr, .int x, .int mp, .ref aG, .int pl, .int fa, .int fb, .ref aP, .ref aW, .ref aK])), (aO, .inl (cI, 1440, .inl (fillO fO x.toNatClampNeg y (1440 - x.toNatClampNeg))))] H := hP
            have hD : va_D A [(a0, .inr (2, [.ref aZ, .int zc, .ref aO, .int orr, .int x, .int mp, .ref aG, .int pl, .int fa, .int fb, .ref aP, .ref aW, .ref aK])), (aO, .inl (cI, 1440, .inl (fillO fO x.toNatClampNeg y (1440 - x.toNatClampNeg))))] := hD
            refine lv_aload_n hx hb d_C_outside_82 rfl (lv_at hl9 1 rfl) ?_
            refine lv_dup hx hb d_C_outside_83 rfl ?_
            refine va_get (D := (dC, dI)) (ci := 2) (v := .int orr) (C := R_C) (T := F_C) (N := 13) hx hb hG i_C hown hK hP 0 rfl rfl 3 (by decide) (hG _ k_25) (fun _ h9 => h9) rfl d_C_outside_84 ?_
            refine lv_iconst (v := 1) hx hb d_C_outside_87 (by decide) ?_
            refine lv_iadd hx hb d_C_outside_88 ?_
            refine va_put (D := (dC, dI)) (ci := 2) (v := .int (orr + 1)) (ty := .int) (C := R_C) (T := F_C) (N := 13) hx hb hG i_C t_C t_C_ok n_C hown hK hP hD hS 0 rfl rfl 3 (by decide) (hG _ k_25) (fun _ h9 => h9) rfl (by decide +kernel) rfl rfl (Nat.le_of_ble_eq_true rfl) d_C_outside_89 (fun H locs hP hD hS => ?_)
            have hP : va_P (dC, dI) vwCl [(a0, .inr (2, [.ref aZ, .int zc, .ref aO, .int (orr + 1), .int x, .int mp, .ref aG, .int pl, .int fa, .int fb, .ref aP, .ref aW, .ref aK])), (aO, .inl (cI, 1440, .inl (fillO fO x.toNatClampNeg y (1440 - x.toNatClampNeg))))] H := hP
            have hD : va_D A [(a0, .inr (2, [.ref aZ, .int zc, .ref aO, .int (orr + 1), .int x, .int mp, .ref aG, .int pl, .int fa, .int fb, .ref aP, .ref aW, .ref aK])), (aO, .inl (cI, 1440, .inl (fillO fO x.toNatClampNeg y (1440 - x.toNatClampNeg))))] := hD
            refine lv_aload_n hx hb d_C_outside_92 rfl (lv_at hl9 1 rfl) ?_
            refine lv_iconst (v := 0) hx hb d_C_outside_93 (by decide) ?_
            refine va_put (D := (dC, dI)) (ci := 2) (v := .int 0) (ty := .boolean) (C := R_C) (T := F_C) (N := 13) hx hb hG i_C t_C t_C_ok n_C hown hK hP hD hS 0 rfl rfl 7 (by decide) (hG _ k_29) (fun _ h9 => h9) rfl (by decide +kernel) rfl rfl (Nat.le_of_ble_eq_true rfl) d_C_outside_94 (fun H locs hP hD hS => ?_)
            have hP : va_P (dC, dI) vwCl [(a0, .inr (2, [.ref aZ, .int zc, .ref aO, .int (orr + 1), .int x, .int mp, .ref aG, .int 0, .int fa, .int fb, .ref aP, .ref aW, .ref aK])), (aO, .inl (cI, 1440, .inl (fillO fO x.toNatClampNeg y (1440 - x.toNatClampNeg))))] H := hP
            have hD : va_D A [(a0, .inr (2, [.ref aZ, .int zc, .ref aO, .int (orr + 1), .int x, .int mp, .ref aG, .int 0, .int fa, .int fb, .ref aP, .ref aW, .ref aK])), (aO, .inl (cI, 1440, .inl (fillO fO x.toNatClampNeg y (1440 - x.toNatClampNeg))))] := hD
            refine lv_aload_n hx hb d_C_outside_97 rfl (lv_at hl9 1 rfl) ?_
            refine va_get (D := (dC, dI)) (ci := 2) (v := .int (orr + 1)) (C := R_C) (T := F_C) (N := 13) hx hb hG i_C hown hK hP 0 rfl rfl 3 (by decide) (hG _ k_25) (fun _ h9 => h9) rfl d_C_outside_98 ?_
            refine vx_ret ?_
            refine W.widen (k := 3) (n := 18) (by omega) (by omega) ?_
            exact W.iret (v := (orr + 1)) hx hb hr (fun t ht hW => ⟨⟨(orr + 1), (), rfl, ⟨rfl, hw2, fun h => h.elim (fun h => Int32.not_le.mpr c1 h) (fun h => Int32.not_le.mpr c2 h)⟩, by have h9 := hP; rw [← ht] at h9; exact h9⟩, hS.F ht⟩) hS.2.2 d_C_outside_101
          · have e9 : i < 1440 := lt_of_c (b := 1440) (by omega) (by decide) c3
            have hin1 : vp_in (nI i) 1440 := vp_in_nI (by omega) (by omega)
            refine lv_aload_n hx hb d_C_outside_64 rfl (lv_at hl9 1 rfl) ?_
            refine va_get (D := (dC, dI)) (ci := 2) (v := .ref aO) (C := R_C) (T := F_C) (N := 13) hx hb hG i_C hown hK hP 0 rfl rfl 2 (by decide) (hG _ k_24) (fun _ h9 => h9) rfl d_C_outside_65 ?_
            refine lv_iload_n hx hb d_C_outside_68 rfl (lv_at hl9 0 rfl) ?_
            refine lv_iload_n hx hb d_C_outside_69 rfl (lv_at hl9 3 rfl) ?_
            refine va_iast hx hb hK hP hD hS 1 0 rfl rfl (hin1) d_C_outside_70 (fun H locs hP hD hS => ?_)
            have hP : va_P (dC, dI) vwCl [(a0, .inr (2, [.ref aZ, .int zc, .ref aO, .int orr, .int ol, .int mp, .ref aG, .int pl, .int fa, .int fb, .ref aP, .ref aW, .ref aK])), (aO, .inl (cI, 1440, .inl (upd (fillO fO a y (i - a)) (nI i).toNatClampNeg y)))] H := hP
            have hD : va_D A [(a0, .inr (2, [.ref aZ, .int zc, .ref aO, .int orr, .int ol, .int mp, .ref aG, .int pl, .int fa, .int fb, .ref aP, .ref aW, .ref aK])), (aO, .inl (cI, 1440, .inl (upd (fillO fO a y (i - a)) (nI i).toNatClampNeg y)))] := hD
            refine lv_iinc (v := ((nI i) + 1)) (lv' := [(3, .int ((nI i) + 1)), (0, .ref a0), (1, .int x), (2, .int y)]) hx hb d_C_outside_71 hl9 (k := 0) rfl rfl (by decide) rfl (fun ls hl9 => ?_)
            refine lv_goto (tgt := 57) hx hb d_C_outside_74 (by decide) ?_
            have e8 : (upd (fillO fO a y (i - a)) (nI i).toNatClampNeg y) = (fillO fO a y (i + 1 - a)) := by rw [nI_clamp (n := i) (by omega), show i + 1 - a = (i - a) + 1 by omega]; show _ = upd (fillO fO a y (i - a)) (a + (i - a)) y; rw [show a + (i - a) = i by omega]
            rw [e8] at hP hD
            rw [nI_1] at hl9
            exact ih (i + 1) (by omega) (by omega) (by omega) _ _ ls hP hD hS (lv_sub hl9 [0, 1, 2, 3] rfl)
      have e7 : fO = fillO fO a y (a - a) := by rw [Nat.sub_self]; rfl
      have hP : va_P (dC, dI) vwCl [(a0, .inr (2, [.ref aZ, .int zc, .ref aO, .int orr, .int ol, .int mp, .ref aG, .int pl, .int fa, .int fb, .ref aP, .ref aW, .ref aK])), (aO, .inl (cI, 1440, .inl (fillO fO a y (a - a))))] H4 := by rw [← e7]; exact hP
      have hD : va_D A [(a0, .inr (2, [.ref aZ, .int zc, .ref aO, .int orr, .int ol, .int mp, .ref aG, .int pl, .int fa, .int fb, .ref aP, .ref aW, .ref aK])), (aO, .inl (cI, 1440, .inl (fillO fO a y (a - a))))] := by rw [← e7]; exact hD
      have hl9 : lv_has ls 4 [(3, .int (nI a)), (0, .ref a0), (1, .int x), (2, .int y)] := by rw [← ex]; exact hl9
      exact lp (1441 - a) a (Nat.le_refl a) (by omega) (by omega) _ _ ls hP hD hS (lv_sub hl9 [0, 1, 2, 3] rfl)
    · obtain ⟨sa, hsa⟩ := hE.1.2.1 (91, "a row is at that minute or behind it") (by decide)
      exact vx_throwS (own := R_C) (cls := "java/lang/IllegalStateException") (names := ["java/lang/RuntimeException", "java/lang/Exception"]) hx hb hl hown (by decide +kernel) (by decide +kernel) (hG _ k_143) (hG _ k_7) hsa (fun w h => (at_ISE w h).elim (hG w) (fun h => hE.1.use h.1 h.2)) ot_ISE hE.2.1 hE.2.2 hS (hl9.1.trans hml.symm) d_C_outside_45 d_C_outside_48 d_C_outside_49 d_C_outside_51 d_C_outside_54 (fun x hx => (hnx x hx).elim) (Nat.le_of_ble_eq_true rfl) (Nat.le_of_ble_eq_true rfl) (by first | exact Nat.le_of_ble_eq_true rfl | omega) (by first | exact Nat.le_of_ble_eq_true rfl | omega) hlocks (fun t ha hsz hk => ⟨(), trivial, ⟨Or.inr ⟨rfl, hw2, Or.inr (Int32.not_lt.mp c2)⟩, hP.kept (fun k q hq => hk q.1 (hP k q hq).lt)⟩, Nat.le_trans hS.1 hsz, fun q h1 h2 => (hk q (Nat.lt_of_lt_of_le h1 hS.1)).trans (hS.2.1 q h1 h2)⟩) hS.2.2 (by first | exact Nat.le_of_ble_eq_true rfl | omega) (by first | exact Nat.le_of_ble_eq_true rfl | omega)
  · obtain ⟨sa, hsa⟩ := hE.1.2.1 (89, "there are 24 rows") (by decide)
    exact vx_throwS (own := R_C) (cls := "java/lang/IllegalStateException") (names := ["java/lang/RuntimeException", "java/lang/Exception"]) hx hb hl hown (by decide +kernel) (by decide +kernel) (hG _ k_143) (hG _ k_7) hsa (fun w h => (at_ISE w h).elim (hG w) (fun h => hE.1.use h.1 h.2)) ot_ISE hE.2.1 hE.2.2 hS (hl9.1.trans hml.symm) d_C_outside_27 d_C_outside_30 d_C_outside_31 d_C_outside_33 d_C_outside_36 (fun x hx => (hnx x hx).elim) (Nat.le_of_ble_eq_true rfl) (Nat.le_of_ble_eq_true rfl) (by first | exact Nat.le_of_ble_eq_true rfl | omega) (by first | exact Nat.le_of_ble_eq_true rfl | omega) hlocks (fun t ha hsz hk => ⟨(), trivial, ⟨Or.inr ⟨rfl, hw2, Or.inl (Int32.not_lt.mp c1)⟩, hP.kept (fun k q hq => hk q.1 (hP k q hq).lt)⟩, Nat.le_trans hS.1 hsz, fun q h1 h2 => (hk q (Nat.lt_of_lt_of_le h1 hS.1)).trans (hS.2.1 q h1 h2)⟩) hS.2.2 (by first | exact Nat.le_of_ble_eq_true rfl | omega) (by first | exact Nat.le_of_ble_eq_true rfl | omega)
