theorem g_Z_29 : GoodIn GG w_E_init := goodG (List.forall_mem_cons.mpr ⟨k_168, fun _ h => h⟩)
set_option maxHeartbeats 4000000 in
set_option maxRecDepth 100000 in
theorem c_E_init (l : Launch) (dC : Nat → ClassId) (dI : Nat → Nat → Nat) (cI cJ cZ cB : ClassId) (la : Nat) (ea eb : Int64) (sz : Nat) : Met l y_E_init w_E_init ({ frames := 1, cells := 0, slots := 0, locals := 12 }) (PC (dC, dI) (TY cI cJ cZ cB) [.ref la] [(la, .inr (0, [.long ea, .long eb]))] sz (va_A [(la, .inr (0, [.long ea, .long eb]))] sz)) (va_Qv (fun (_ : Unit) => True) (fun (_ : Unit) (t : State) => va_P (dC, dI) vwCl [(la, .inr (0, [.long 0, .long 1]))] t.heap) (va_A [(la, .inr (0, [.long ea, .long eb]))] sz)) 0 0 (va_A [(la, .inr (0, [.long ea, .long eb]))] sz) := by
  refine Met.ofW (cc := b_E_init) (maxL := 1) (ret := none) (by decide) rfl ?_
  intro p e s m args below meth c s₁ B hml hv
  obtain ⟨rfl, hsz, hP, hK, hD0, hE⟩ := hv
  have hx := B.exec
  have hb := B.bytes
  have hr := B.returns
  have hG : ∀ w ∈ GG, w.before _ s = true := fun w h => atoms_spec (ws := w_E_init) B.pre w (List.mem_cons_of_mem _ h)
  have hown : s.vm.findClass R_E = some m.cls := findClass_of_methodNamed B.named
  have hlocks := B.notSynchronized
  have hin : meth.name = "<init>" := (name_of_methodNamed B.named B.method).1
  subst hsz
  have hD := hD0.self (sz := s.heap.size)
  generalize hAe : (va_A [(la, .inr (0, [.long ea, .long eb]))] s.heap.size) = A at hD hE ⊢
  have hA : ∀ q : Nat, s.heap.size ≤ q → A q := fun q h => by rw [← hAe]; exact Or.inr h
  have hS : va_S A s.heap s.heap [] := va_S.rf
  obtain ⟨H, hH⟩ : ∃ z, z = s.heap := ⟨_, rfl⟩
  rw [← hH] at hP
  have hS : va_S A s.heap H [] := by rw [hH]; exact hS
  rw [← hH]
  have hl9 := lv_entry ([.ref la]) (n := 1) (Nat.le_of_ble_eq_true rfl)
  rw [lg_entry_eq]
  generalize (lg_sl ([.ref la]) ++ List.replicate (1 - (lg_sl ([.ref la])).length) Slot.unset).toArray = ls at hl9 ⊢
  have hl9 : lv_has ls 1 [(0, .ref la)] := hl9
  refine lv_aload_n hx hb d_E_init_0 rfl (lv_at hl9 0 rfl) ?_
  refine W.objInit hx hb hown (hG _ k_169) (hG _ k_17) (hG _ k_18) rfl (by rw [hml]; exact hl9.1) rfl d_E_init_1 (Nat.le_of_ble_eq_true rfl) (Nat.le_of_ble_eq_true rfl) ?_
  refine W.eq (g2 := F0 m 4 ls []) rfl ?_
  refine lv_aload_n hx hb d_E_init_4 rfl (lv_at hl9 0 rfl) ?_
  refine lv_lconst (v := 0) hx hb d_E_init_5 (by decide) ?_
  refine va_put (D := (dC, dI)) (ci := 0) (v := .long 0) (ty := .long) (C := R_E) (T := F_E) (N := 2) hx hb hG i_E t_E t_E_ok n_E hown hK hP hD hS 0 rfl rfl 0 (by decide) (hG _ k_170) (fun _ h9 => h9) rfl (by decide +kernel) rfl rfl (Nat.le_of_ble_eq_true rfl) d_E_init_6 (fun H locs hP hD hS => ?_)
  have hP : va_P (dC, dI) vwCl [(la, .inr (0, [.long 0, .long eb]))] H := hP
  have hD : va_D A [(la, .inr (0, [.long 0, .long eb]))] := hD
  refine lv_aload_n hx hb d_E_init_9 rfl (lv_at hl9 0 rfl) ?_
  refine lv_lconst (v := 1) hx hb d_E_init_10 (by decide) ?_
  refine va_put (D := (dC, dI)) (ci := 0) (v := .long 1) (ty := .long) (C := R_E) (T := F_E) (N := 2) hx hb hG i_E t_E t_E_ok n_E hown hK hP hD hS 0 rfl rfl 1 (by decide) (hG _ k_172) (fun _ h9 => h9) rfl (by decide +kernel) rfl rfl (Nat.le_of_ble_eq_true rfl) d_E_init_11 (fun H locs hP hD hS => ?_)
  have hP : va_P (dC, dI) vwCl [(la, .inr (0, [.long 0, .long 1]))] H := hP
  have hD : va_D A [(la, .inr (0, [.long 0, .long 1]))] := hD
  exact W.vret hx hb hr (fun t ht hW => ⟨⟨(), rfl, trivial, by have h9 := hP; rw [← ht] at h9; exact h9⟩, hS.F ht⟩) hS.2.2 d_E_init_14
set_option maxHeartbeats 4000000 in
set_option maxRecDepth 100000 in
theorem c_Z_init (l : Launch) (dC : Nat → ClassId) (dI : Nat → Nat → Nat) (cI cJ cZ cB : ClassId) (za : Nat) (h k : Int32) (sz : Nat) : Met l y_Z_init w_Z_init ({ frames := 2, cells := 2, slots := 1443, locals := 32 }) (PC (dC, dI) (TY cI cJ cZ cB) [.ref za, .int h, .int k] [(za, .inr (1, [.int 0, .int 0, .int 0, .int 0, .int 0, .int 0, .int 0, .null, .int 0, .null]))] sz (va_A [(za, .inr (1, [.int 0, .int 0, .int 0, .int 0, .int 0, .int 0, .int 0, .null, .int 0, .null]))] sz)) (va_Qv (fun (_ : Nat × Nat) => True) (fun (u : Nat × Nat) (t : State) => va_P (dC, dI) vwCl [(za, .inr (1, [.int h, .int k, .int 0, .int 1000, .int 0, .int (-1), .int 0, .ref u.1, .int (-1), .ref u.2])), (u.1, .inr (0, [.long 0, .long 1])), (u.2, .inl (cI, 1441, .inl (fun _ => 0)))] t.heap ∧ va_D (va_A [(za, .inr (1, [.int 0, .int 0, .int 0, .int 0, .int 0, .int 0, .int 0, .null, .int 0, .null]))] sz) [(za, .inr (1, [.int h, .int k, .int 0, .int 1000, .int 0, .int (-1), .int 0, .ref u.1, .int (-1), .ref u.2])), (u.1, .inr (0, [.long 0, .long 1])), (u.2, .inl (cI, 1441, .inl (fun _ => 0)))]) (va_A [(za, .inr (1, [.int 0, .int 0, .int 0, .int 0, .int 0, .int 0, .int 0, .null, .int 0, .null]))] sz)) 2 1443 (va_A [(za, .inr (1, [.int 0, .int 0, .int 0, .int 0, .int 0, .int 0, .int 0, .null, .int 0, .null]))] sz) := by
  refine Met.ofW (cc := b_Z_init) (maxL := 3) (ret := none) (by decide) rfl ?_
  intro p e s m args below meth c s₁ B hml hv
  obtain ⟨rfl, hsz, hP, hK, hD0, hE⟩ := hv
  have hx := B.exec
  have hb := B.bytes
  have hr := B.returns
  have hG : ∀ w ∈ GG, w.before _ s = true := fun w h => atoms_spec (ws := w_Z_init) B.pre w (List.mem_cons_of_mem _ h)
  have hown : s.vm.findClass R_Z = some m.cls := findClass_of_methodNamed B.named
  have hlocks := B.notSynchronized
  have hin : meth.name = "<init>" := (name_of_methodNamed B.named B.method).1
  subst hsz
  have hD := hD0.self (sz := s.heap.size)
  generalize hAe : (va_A [(za, .inr (1, [.int 0, .int 0, .int 0, .int 0, .int 0, .int 0, .int 0, .null, .int 0, .null]))] s.heap.size) = A at hD hE ⊢
  have hA : ∀ q : Nat, s.heap.size ≤ q → A q := fun q h => by rw [← hAe]; exact Or.inr h
  have hS : va_S A s.heap s.heap [] := va_S.rf
  obtain ⟨H, hH⟩ : ∃ z, z = s.heap := ⟨_, rfl⟩
  rw [← hH] at hP
  have hS : va_S A s.heap H [] := by rw [hH]; exact hS
  rw [← hH]
  have hl9 := lv_entry ([.ref za, .int h, .int k]) (n := 3) (Nat.le_of_ble_eq_true rfl)
  rw [lg_entry_eq]
  generalize (lg_sl ([.ref za, .int h, .int k]) ++ List.replicate (3 - (lg_sl ([.ref za, .int h, .int k])).length) Slot.unset).toArray = ls at hl9 ⊢
  have hl9 : lv_has ls 3 [(0, .ref za), (1, .int h), (2, .int k)] := hl9
  refine lv_aload_n hx hb d_Z_init_0 rfl (lv_at hl9 0 rfl) ?_
  refine W.objInit hx hb hown (hG _ k_163) (hG _ k_17) (hG _ k_18) rfl (by rw [hml]; exact hl9.1) rfl d_Z_init_1 (Nat.le_of_ble_eq_true rfl) (Nat.le_of_ble_eq_true rfl) ?_
  refine W.eq (g2 := F0 m 4 ls []) rfl ?_
  refine lv_aload_n hx hb d_Z_init_4 rfl (lv_at hl9 0 rfl) ?_
  refine lv_iconst (v := 0) hx hb d_Z_init_5 (by decide) ?_
  refine va_put (D := (dC, dI)) (ci := 1) (v := .int 0) (ty := .int) (C := R_Z) (T := F_Z) (N := 10) hx hb hG i_Z t_Z t_Z_ok n_Z hown hK hP hD hS 0 rfl rfl 2 (by decide) (hG _ k_183) (fun _ h9 => h9) rfl (by decide +kernel) rfl rfl (Nat.le_of_ble_eq_true rfl) d_Z_init_6 (fun H locs hP hD hS => ?_)
  have hP : va_P (dC, dI) vwCl [(za, .inr (1, [.int 0, .int 0, .int 0, .int 0, .int 0, .int 0, .int 0, .null, .int 0, .null]))] H := hP
  have hD : va_D A [(za, .inr (1, [.int 0, .int 0, .int 0, .int 0, .int 0, .int 0, .int 0, .null, .int 0, .null]))] := hD
  refine lv_aload_n hx hb d_Z_init_9 rfl (lv_at hl9 0 rfl) ?_
  refine lv_sipush (v := 1000) hx hb d_Z_init_10 (by decide) ?_
  refine va_put (D := (dC, dI)) (ci := 1) (v := .int 1000) (ty := .int) (C := R_Z) (T := F_Z) (N := 10) hx hb hG i_Z t_Z t_Z_ok n_Z hown hK hP hD hS 0 rfl rfl 3 (by decide) (hG _ k_185) (fun _ h9 => h9) rfl (by decide +kernel) rfl rfl (Nat.le_of_ble_eq_true rfl) d_Z_init_13 (fun H locs hP hD hS => ?_)
  have hP : va_P (dC, dI) vwCl [(za, .inr (1, [.int 0, .int 0, .int 0, .int 1000, .int 0, .int 0, .int 0, .null, .int 0, .null]))] H := hP
  have hD : va_D A [(za, .inr (1, [.int 0, .int 0, .int 0, .int 1000, .int 0, .int 0, .int 0, .null, .int 0, .null]))] := hD
  refine lv_aload_n hx hb d_Z_init_16 rfl (lv_at hl9 0 rfl) ?_
  refine lv_iconst (v := 0) hx hb d_Z_init_17 (by decide) ?_
  refine va_put (D := (dC, dI)) (ci := 1) (v := .int 0) (ty := .int) (C := R_Z) (T := F_Z) (N := 10) hx hb hG i_Z t_Z t_Z_ok n_Z hown hK hP hD hS 0 rfl rfl 4 (by decide) (hG _ k_187) (fun _ h9 => h9) rfl (by decide +kernel) rfl rfl (Nat.le_of_ble_eq_true rfl) d_Z_init_18 (fun H locs hP hD hS => ?_)
  have hP : va_P (dC, dI) vwCl [(za, .inr (1, [.int 0, .int 0, .int 0, .int 1000, .int 0, .int 0, .int 0, .null, .int 0, .null]))] H := hP
  have hD : va_D A [(za, .inr (1, [.int 0, .int 0, .int 0, .int 1000, .int 0, .int 0, .int 0, .null, .int 0, .null]))] := hD
  refine lv_aload_n hx hb d_Z_init_21 rfl (lv_at hl9 0 rfl) ?_
  refine lv_iconst (v := (-1)) hx hb d_Z_init_22 (by decide) ?_
  refine va_put (D := (dC, dI)) (ci := 1) (v := .int (-1)) (ty := .int) (C := R_Z) (T := F_Z) (N := 10) hx hb hG i_Z t_Z t_Z_ok n_Z hown hK hP hD hS 0 rfl rfl 5 (by decide) (hG _ k_189) (fun _ h9 => h9) rfl (by decide +kernel) rfl rfl (Nat.le_of_ble_eq_true rfl) d_Z_init_23 (fun H locs hP hD hS => ?_)
  have hP : va_P (dC, dI) vwCl [(za, .inr (1, [.int 0, .int 0, .int 0, .int 1000, .int 0, .int (-1), .int 0, .null, .int 0, .null]))] H := hP
  have hD : va_D A [(za, .inr (1, [.int 0, .int 0, .int 0, .int 1000, .int 0, .int (-1), .int 0, .null, .int 0, .null]))] := hD
  refine lv_aload_n hx hb d_Z_init_26 rfl (lv_at hl9 0 rfl) ?_
  refine lv_iconst (v := 0) hx hb d_Z_init_27 (by decide) ?_
  refine va_put (D := (dC, dI)) (ci := 1) (v := .int 0) (ty := .int) (C := R_Z) (T := F_Z) (N := 10) hx hb hG i_Z t_Z t_Z_ok n_Z hown hK hP hD hS 0 rfl rfl 6 (by decide) (hG _ k_191) (fun _ h9 => h9) rfl (by decide +kernel) rfl rfl (Nat.le_of_ble_eq_true rfl) d_Z_init_28 (fun H locs hP hD hS => ?_)
  have hP : va_P (dC, dI) vwCl [(za, .inr (1, [.int 0, .int 0, .int 0, .int 1000, .int 0, .int (-1), .int 0, .null, .int 0, .null]))] H := hP
  have hD : va_D A [(za, .inr (1, [.int 0, .int 0, .int 0, .int 1000, .int 0, .int (-1), .int 0, .null, .int 0, .null]))] := hD
  refine lv_aload_n hx hb d_Z_init_31 rfl (lv_at hl9 0 rfl) ?_
  refine va_new (ci := 0) (fs := [.long 0, .long 0]) (C := R_E) (T := F_E) (N := 2) hx hb hG i_E t_E t_E_ok hown (hG _ k_164) (hG _ k_165) (hG _ k_9) hK hP hD hS hA rfl (by decide +kernel) (by first | exact Nat.le_of_ble_eq_true rfl | omega) (by first | exact Nat.le_of_ble_eq_true rfl | omega) d_Z_init_32 (fun q1 H hP hD hS => ?_)
  have hP : va_P (dC, dI) vwCl [(za, .inr (1, [.int 0, .int 0, .int 0, .int 1000, .int 0, .int (-1), .int 0, .null, .int 0, .null])), (q1, .inr (0, [.long 0, .long 0]))] H := hP
  have hD : va_D A [(za, .inr (1, [.int 0, .int 0, .int 0, .int 1000, .int 0, .int (-1), .int 0, .null, .int 0, .null])), (q1, .inr (0, [.long 0, .long 0]))] := hD
  refine lv_dup hx hb d_Z_init_35 rfl ?_
  have hPc := hP.sub (ws' := [(q1, .inr (0, [.long 0, .long 0]))]) [1] rfl
  have hDc := hD.sub (ws' := [(q1, .inr (0, [.long 0, .long 0]))]) [1] (by decide) rfl
  have hFc := va_free (wc := [(q1, .inr (0, [.long 0, .long 0]))]) hD hS hA [1] rfl
  refine va_callv (va_runIN (As := []) (rest := [.ref q1, .ref za]) ⟨hx, hb, hml, hown, hG⟩ (c_E_init l dC dI cI cJ cZ cB q1 0 0 H.size ) ⟨va_cnB (host := "StartTimes") 0 hG g_Z_29 rfl rfl rfl (hE.1.1 _ k_166 rfl) (hG _ k_9) (by decide +kernel) ⟨Nat.le_of_ble_eq_true rfl, Nat.le_of_ble_eq_true rfl⟩, rfl, hG _ k_167⟩ ⟨PC.blind, PC.of hPc hK hDc hE hS hFc⟩ rfl rfl hl9.1 rfl (lv_room (Nat.le_of_ble_eq_true rfl)) d_Z_init_36 ⟨by first | exact Nat.le_of_ble_eq_true rfl | omega, by first | exact Nat.le_of_ble_eq_true rfl | omega⟩) hS (fun q _ h => hFc q h) hFc (fun u t H1 locs ht hvm hw hB hz1 hk1 hS => ?_)
  rw [ht] at hB
  obtain ⟨hP, hD⟩ := jset (wc := [(q1, .inr (0, [.long 0, .long 0]))]) (w1 := [(q1, .inr (0, [.long 0, .long 1]))]) [1] rfl rfl hP hD hk1 hB
  have hP : va_P (dC, dI) vwCl [(za, .inr (1, [.int 0, .int 0, .int 0, .int 1000, .int 0, .int (-1), .int 0, .null, .int 0, .null])), (q1, .inr (0, [.long 0, .long 1]))] H1 := hP
  have hD : va_D A [(za, .inr (1, [.int 0, .int 0, .int 0, .int 1000, .int 0, .int (-1), .int 0, .null, .int 0, .null])), (q1, .inr (0, [.long 0, .long 1]))] := hD
  refine va_putF (D := (dC, dI)) (ci := 1) (v := .ref q1) (ty := .object "StartTimes$Lesson") (C := R_Z) (T := F_Z) (N := 10) hx hb hG i_Z t_Z t_Z_ok n_Z hown hK hP hD hS 0 rfl rfl 7 (by decide) (hG _ k_193) (fun _ h9 => h9) rfl hin rfl (by decide +kernel) rfl rfl (Nat.le_of_ble_eq_true rfl) d_Z_init_39 (fun H locs hP hD hS => ?_)
  have hP : va_P (dC, dI) vwCl [(za, .inr (1, [.int 0, .int 0, .int 0, .int 1000, .int 0, .int (-1), .int 0, .ref q1, .int 0, .null])), (q1, .inr (0, [.long 0, .long 1]))] H := hP
  have hD : va_D A [(za, .inr (1, [.int 0, .int 0, .int 0, .int 1000, .int 0, .int (-1), .int 0, .ref q1, .int 0, .null])), (q1, .inr (0, [.long 0, .long 1]))] := hD
  refine lv_aload_n hx hb d_Z_init_42 rfl (lv_at hl9 0 rfl) ?_
  refine lv_iconst (v := (-1)) hx hb d_Z_init_43 (by decide) ?_
  refine va_put (D := (dC, dI)) (ci := 1) (v := .int (-1)) (ty := .int) (C := R_Z) (T := F_Z) (N := 10) hx hb hG i_Z t_Z t_Z_ok n_Z hown hK hP hD hS 0 rfl rfl 8 (by decide) (hG _ k_195) (fun _ h9 => h9) rfl (by decide +kernel) rfl rfl (Nat.le_of_ble_eq_true rfl) d_Z_init_44 (fun H locs hP hD hS => ?_)
  have hP : va_P (dC, dI) vwCl [(za, .inr (1, [.int 0, .int 0, .int 0, .int 1000, .int 0, .int (-1), .int 0, .ref q1, .int (-1), .null])), (q1, .inr (0, [.long 0, .long 1]))] H := hP
  have hD : va_D A [(za, .inr (1, [.int 0, .int 0, .int 0, .int 1000, .int 0, .int (-1), .int 0, .ref q1, .int (-1), .null])), (q1, .inr (0, [.long 0, .long 1]))] := hD
  refine lv_aload_n hx hb d_Z_init_47 rfl (lv_at hl9 0 rfl) ?_
  refine lv_sipush (v := 1441) hx hb d_Z_init_48 (by decide) ?_
  refine va_newa (atype := .int) hx hb (hG _ k_62) rfl hK hP hD hS hA (n := 1441) (N' := 1441) (a0 := (1441, .inl (fun _ => 0))) (fun _ => rfl) (by decide +kernel) (by decide +kernel) (by decide +kernel) (by first | exact Nat.le_of_ble_eq_true rfl | omega) (by first | exact Nat.le_of_ble_eq_true rfl | omega) d_Z_init_51 (fun q2 c9 H hK9 hP hD hS => ?_)
  have e9 : c9 = cI := ty_same hK9 (i := 0) (j := 4) rfl rfl
  rw [e9] at hP hD
  have hP : va_P (dC, dI) vwCl [(za, .inr (1, [.int 0, .int 0, .int 0, .int 1000, .int 0, .int (-1), .int 0, .ref q1, .int (-1), .null])), (q1, .inr (0, [.long 0, .long 1])), (q2, .inl (cI, 1441, .inl (fun _ => 0)))] H := hP
  have hD : va_D A [(za, .inr (1, [.int 0, .int 0, .int 0, .int 1000, .int 0, .int (-1), .int 0, .ref q1, .int (-1), .null])), (q1, .inr (0, [.long 0, .long 1])), (q2, .inl (cI, 1441, .inl (fun _ => 0)))] := hD
  refine va_putF (D := (dC, dI)) (ci := 1) (v := .ref q2) (ty := .array .int) (C := R_Z) (T := F_Z) (N := 10) hx hb hG i_Z t_Z t_Z_ok n_Z hown hK hP hD hS 0 rfl rfl 9 (by decide) (hG _ k_197) (fun _ h9 => h9) rfl hin rfl (by decide +kernel) rfl rfl (Nat.le_of_ble_eq_true rfl) d_Z_init_53 (fun H locs hP hD hS => ?_)
  have hP : va_P (dC, dI) vwCl [(za, .inr (1, [.int 0, .int 0, .int 0, .int 1000, .int 0, .int (-1), .int 0, .ref q1, .int (-1), .ref q2])), (q1, .inr (0, [.long 0, .long 1])), (q2, .inl (cI, 1441, .inl (fun _ => 0)))] H := hP
  have hD : va_D A [(za, .inr (1, [.int 0, .int 0, .int 0, .int 1000, .int 0, .int (-1), .int 0, .ref q1, .int (-1), .ref q2])), (q1, .inr (0, [.long 0, .long 1])), (q2, .inl (cI, 1441, .inl (fun _ => 0)))] := hD
  refine lv_aload_n hx hb d_Z_init_56 rfl (lv_at hl9 0 rfl) ?_
  refine lv_iload_n hx hb d_Z_init_57 rfl (lv_at hl9 1 rfl) ?_
  refine va_putF (D := (dC, dI)) (ci := 1) (v := .int h) (ty := .int) (C := R_Z) (T := F_Z) (N := 10) hx hb hG i_Z t_Z t_Z_ok n_Z hown hK hP hD hS 0 rfl rfl 0 (by decide) (hG _ k_179) (fun _ h9 => h9) rfl hin rfl (by decide +kernel) rfl rfl (Nat.le_of_ble_eq_true rfl) d_Z_init_58 (fun H locs hP hD hS => ?_)
  have hP : va_P (dC, dI) vwCl [(za, .inr (1, [.int h, .int 0, .int 0, .int 1000, .int 0, .int (-1), .int 0, .ref q1, .int (-1), .ref q2])), (q1, .inr (0, [.long 0, .long 1])), (q2, .inl (cI, 1441, .inl (fun _ => 0)))] H := hP
  have hD : va_D A [(za, .inr (1, [.int h, .int 0, .int 0, .int 1000, .int 0, .int (-1), .int 0, .ref q1, .int (-1), .ref q2])), (q1, .inr (0, [.long 0, .long 1])), (q2, .inl (cI, 1441, .inl (fun _ => 0)))] := hD
  refine lv_aload_n hx hb d_Z_init_61 rfl (lv_at hl9 0 rfl) ?_
  refine lv_iload_n hx hb d_Z_init_62 rfl (lv_at hl9 2 rfl) ?_
  refine va_putF (D := (dC, dI)) (ci := 1) (v := .int k) (ty := .int) (C := R_Z) (T := F_Z) (N := 10) hx hb hG i_Z t_Z t_Z_ok n_Z hown hK hP hD hS 0 rfl rfl 1 (by decide) (hG _ k_181) (fun _ h9 => h9) rfl hin rfl (by decide +kernel) rfl rfl (Nat.le_of_ble_eq_true rfl) d_Z_init_63 (fun H locs hP hD hS => ?_)
  have hP : va_P (dC, dI) vwCl [(za, .inr (1, [.int h, .int k, .int 0, .int 1000, .int 0, .int (-1), .int 0, .ref q1, .int (-1), .ref q2])), (q1, .inr (0, [.long 0, .long 1])), (q2, .inl (cI, 1441, .inl (fun _ => 0)))] H := hP
  have hD : va_D A [(za, .inr (1, [.int h, .int k, .int 0, .int 1000, .int 0, .int (-1), .int 0, .ref q1, .int (-1), .ref q2])), (q1, .inr (0, [.long 0, .long 1])), (q2, .inl (cI, 1441, .inl (fun _ => 0)))] := hD
  exact W.vret hx hb hr (fun t ht hW => ⟨⟨(q1, q2), rfl, trivial, ⟨by have h9 := hP; rw [← ht] at h9; exact h9, hD⟩⟩, hS.F ht⟩) hS.2.2 d_Z_init_66
set_option maxHeartbeats 4000000 in
set_option maxRecDepth 100000 in
theorem c_C_init (l : Launch) (dC : Nat → ClassId) (dI : Nat → Nat → Nat) (cI cJ cZ cB : ClassId) (a0 : Nat) (sz : Nat) : Met l y_C_init w_C_init ({ frames := 1, cells := 6, slots := 4958, locals := 12 }) (PC (dC, dI) (TY cI cJ cZ cB) [.ref a0] [(a0, .inr (2, [.null, .int 0, .null, .int 0, .int 0, .int 0, .null, .int 0, .int 0, .int 0, .null, .null, .null]))] sz (va_A [(a0, .inr (2, [.null, .int 0, .null, .int 0, .int 0, .int 0, .null, .int 0, .int 0, .int 0, .null, .null, .null]))] sz)) (va_Qv (fun (_ : Nat × Nat × Nat × Nat × Nat × Nat) => True) (fun (u : Nat × Nat × Nat × Nat × Nat × Nat) (t : State) => va_P (dC, dI) vwCl [(a0, .inr (2, [.ref u.1, .int 0, .ref u.2.1, .int 0, .int (-1), .int 100000, .ref u.2.2.1, .int 0, .int 1, .int 2, .ref u.2.2.2.1, .ref u.2.2.2.2.1, .ref u.2.2.2.2.2])), (u.1, .inl (cZ, 6, .inr (.inr (.inr (.inr (fun _ => none)))))), (u.2.1, .inl (cI, 1440, .inl (fun _ => 0))), (u.2.2.1, .inl (cI, 1440, .inl (fun _ => 0))), (u.2.2.2.1, .inl (cI, 24, .inl (fun _ => 0))), (u.2.2.2.2.1, .inl (cI, 1024, .inl (fun _ => 0))), (u.2.2.2.2.2, .inl (cJ, 1024, .inr (.inl (fun _ => 0))))] t.heap ∧ va_D (va_A [(a0, .inr (2, [.null, .int 0, .null, .int 0, .int 0, .int 0, .null, .int 0, .int 0, .int 0, .null, .null, .null]))] sz) [(a0, .inr (2, [.ref u.1, .int 0, .ref u.2.1, .int 0, .int (-1), .int 100000, .ref u.2.2.1, .int 0, .int 1, .int 2, .ref u.2.2.2.1, .ref u.2.2.2.2.1, .ref u.2.2.2.2.2])), (u.1, .inl (cZ, 6, .inr (.inr (.inr (.inr (fun _ => none)))))), (u.2.1, .inl (cI, 1440, .inl (fun _ => 0))), (u.2.2.1, .inl (cI, 1440, .inl (fun _ => 0))), (u.2.2.2.1, .inl (cI, 24, .inl (fun _ => 0))), (u.2.2.2.2.1, .inl (cI, 1024, .inl (fun _ => 0))), (u.2.2.2.2.2, .inl (cJ, 1024, .inr (.inl (fun _ => 0))))]) (va_A [(a0, .inr (2, [.null, .int 0, .null, .int 0, .int 0, .int 0, .null, .int 0, .int 0, .int 0, .null, .null, .null]))] sz)) 6 4958 (va_A [(a0, .inr (2, [.null, .int 0, .null, .int 0, .int 0, .int 0, .null, .int 0, .int 0, .int 0, .null, .null, .null]))] sz) := by
  refine Met.ofW (cc := b_C_init) (maxL := 1) (ret := none) (by decide) rfl ?_
  intro p e s m args below meth c s₁ B hml hv
  obtain ⟨rfl, hsz, hP, hK, hD0, hE⟩ := hv
  have hx := B.exec
  have hb := B.bytes
  have hr := B.returns
  have hG : ∀ w ∈ GG, w.before _ s = true := fun w h => atoms_spec (ws := w_C_init) B.pre w (List.mem_cons_of_mem _ h)
  have hown : s.vm.findClass R_C = some m.cls := findClass_of_methodNamed B.named
  have hlocks := B.notSynchronized
  have hin : meth.name = "<init>" := (name_of_methodNamed B.named B.method).1
  subst hsz
  have hD := hD0.self (sz := s.heap.size)
  generalize hAe : (va_A [(a0, .inr (2, [.null, .int 0, .null, .int 0, .int 0, .int 0, .null, .int 0, .int 0, .int 0, .null, .null, .null]))] s.heap.size) = A at hD hE ⊢
  have hA : ∀ q : Nat, s.heap.size ≤ q → A q := fun q h => by rw [← hAe]; exact Or.inr h
  have hS : va_S A s.heap s.heap [] := va_S.rf
  obtain ⟨H, hH⟩ : ∃ z, z = s.heap := ⟨_, rfl⟩
  rw [← hH] at hP
  have hS : va_S A s.heap H [] := by rw [hH]; exact hS
  rw [← hH]
  have hl9 := lv_entry ([.ref a0]) (n := 1) (Nat.le_of_ble_eq_true rfl)
  rw [lg_entry_eq]
  generalize (lg_sl ([.ref a0]) ++ List.replicate (1 - (lg_sl ([.ref a0])).length) Slot.unset).toArray = ls at hl9 ⊢
  have hl9 : lv_has ls 1 [(0, .ref a0)] := hl9
  refine lv_aload_n hx hb d_C_init_0 rfl (lv_at hl9 0 rfl) ?_
  refine W.objInit hx hb hown (hG _ k_16) (hG _ k_17) (hG _ k_18) rfl (by rw [hml]; exact hl9.1) rfl d_C_init_1 (Nat.le_of_ble_eq_true rfl) (Nat.le_of_ble_eq_true rfl) ?_
  refine W.eq (g2 := F0 m 4 ls []) rfl ?_
  refine lv_aload_n hx hb d_C_init_4 rfl (lv_at hl9 0 rfl) ?_
  refine lv_bipush (v := 6) hx hb d_C_init_5 (by decide) ?_
  refine va_newq hx hb hown (hG _ k_19) hE.1.2.2 hK hP hD hS hA (n := 6) (N' := 6) (by decide +kernel) (by decide +kernel) (by decide +kernel) (by first | exact Nat.le_of_ble_eq_true rfl | omega) (by first | exact Nat.le_of_ble_eq_true rfl | omega) d_C_init_7 (fun q1 c9 H hK9 hP hD hS => ?_)
  have e9 : c9 = cZ := ty_same hK9 (i := 2) (j := 4) rfl rfl
  rw [e9] at hP hD
  have hP : va_P (dC, dI) vwCl [(a0, .inr (2, [.null, .int 0, .null, .int 0, .int 0, .int 0, .null, .int 0, .int 0, .int 0, .null, .null, .null])), (q1, .inl (cZ, 6, .inr (.inr (.inr (.inr (fun _ => none))))))] H := hP
  have hD : va_D A [(a0, .inr (2, [.null, .int 0, .null, .int 0, .int 0, .int 0, .null, .int 0, .int 0, .int 0, .null, .null, .null])), (q1, .inl (cZ, 6, .inr (.inr (.inr (.inr (fun _ => none))))))] := hD
  refine va_putF (D := (dC, dI)) (ci := 2) (v := .ref q1) (ty := .array (.object "StartTimes$Zone")) (C := R_C) (T := F_C) (N := 13) hx hb hG i_C t_C t_C_ok n_C hown hK hP hD hS 0 rfl rfl 0 (by decide) (hG _ k_22) (fun _ h9 => h9) rfl hin rfl (by decide +kernel) rfl rfl (Nat.le_of_ble_eq_true rfl) d_C_init_10 (fun H locs hP hD hS => ?_)
  have hP : va_P (dC, dI) vwCl [(a0, .inr (2, [.ref q1, .int 0, .null, .int 0, .int 0, .int 0, .null, .int 0, .int 0, .int 0, .null, .null, .null])), (q1, .inl (cZ, 6, .inr (.inr (.inr (.inr (fun _ => none))))))] H := hP
  have hD : va_D A [(a0, .inr (2, [.ref q1, .int 0, .null, .int 0, .int 0, .int 0, .null, .int 0, .int 0, .int 0, .null, .null, .null])), (q1, .inl (cZ, 6, .inr (.inr (.inr (.inr (fun _ => none))))))] := hD
  refine lv_aload_n hx hb d_C_init_13 rfl (lv_at hl9 0 rfl) ?_
  refine lv_iconst (v := 0) hx hb d_C_init_14 (by decide) ?_
  refine va_put (D := (dC, dI)) (ci := 2) (v := .int 0) (ty := .int) (C := R_C) (T := F_C) (N := 13) hx hb hG i_C t_C t_C_ok n_C hown hK hP hD hS 0 rfl rfl 1 (by decide) (hG _ k_23) (fun _ h9 => h9) rfl (by decide +kernel) rfl rfl (Nat.le_of_ble_eq_true rfl) d_C_init_15 (fun H locs hP hD hS => ?_)
  have hP : va_P (dC, dI) vwCl [(a0, .inr (2, [.ref q1, .int 0, .null, .int 0, .int 0, .int 0, .null, .int 0, .int 0, .int 0, .null, .null, .null])), (q1, .inl (cZ, 6, .inr (.inr (.inr (.inr (fun _ => none))))))] H := hP
  have hD : va_D A [(a0, .inr (2, [.ref q1, .int 0, .null, .int 0, .int 0, .int 0, .null, .int 0, .int 0, .int 0, .null, .null, .null])), (q1, .inl (cZ, 6, .inr (.inr (.inr (.inr (fun _ => none))))))] := hD
  refine lv_aload_n hx hb d_C_init_18 rfl (lv_at hl9 0 rfl) ?_
  refine lv_sipush (v := 1440) hx hb d_C_init_19 (by decide) ?_
  refine va_newa (atype := .int) hx hb (hG _ k_62) rfl hK hP hD hS hA (n := 1440) (N' := 1440) (a0 := (1440, .inl (fun _ => 0))) (fun _ => rfl) (by decide +kernel) (by decide +kernel) (by decide +kernel) (by first | exact Nat.le_of_ble_eq_true rfl | omega) (by first | exact Nat.le_of_ble_eq_true rfl | omega) d_C_init_22 (fun q2 c9 H hK9 hP hD hS => ?_)
  have e9 : c9 = cI := ty_same hK9 (i := 0) (j := 4) rfl rfl
  rw [e9] at hP hD
  have hP : va_P (dC, dI) vwCl [(a0, .inr (2, [.ref q1, .int 0, .null, .int 0, .int 0, .int 0, .null, .int 0, .int 0, .int 0, .null, .null, .null])), (q1, .inl (cZ, 6, .inr (.inr (.inr (.inr (fun _ => none)))))), (q2, .inl (cI, 1440, .inl (fun _ => 0)))] H := hP
  have hD : va_D A [(a0, .inr (2, [.ref q1, .int 0, .null, .int 0, .int 0, .int 0, .null, .int 0, .int 0, .int 0, .null, .null, .null])), (q1, .inl (cZ, 6, .inr (.inr (.inr (.inr (fun _ => none)))))), (q2, .inl (cI, 1440, .inl (fun _ => 0)))] := hD
  refine va_putF (D := (dC, dI)) (ci := 2) (v := .ref q2) (ty := .array .int) (C := R_C) (T := F_C) (N := 13) hx hb hG i_C t_C t_C_ok n_C hown hK hP hD hS 0 rfl rfl 2 (by decide) (hG _ k_24) (fun _ h9 => h9) rfl hin rfl (by decide +kernel) rfl rfl (Nat.le_of_ble_eq_true rfl) d_C_init_24 (fun H locs hP hD hS => ?_)
  have hP : va_P (dC, dI) vwCl [(a0, .inr (2, [.ref q1, .int 0, .ref q2, .int 0, .int 0, .int 0, .null, .int 0, .int 0, .int 0, .null, .null, .null])), (q1, .inl (cZ, 6, .inr (.inr (.inr (.inr (fun _ => none)))))), (q2, .inl (cI, 1440, .inl (fun _ => 0)))] H := hP
  have hD : va_D A [(a0, .inr (2, [.ref q1, .int 0, .ref q2, .int 0, .int 0, .int 0, .null, .int 0, .int 0, .int 0, .null, .null, .null])), (q1, .inl (cZ, 6, .inr (.inr (.inr (.inr (fun _ => none)))))), (q2, .inl (cI, 1440, .inl (fun _ => 0)))] := hD
  refine lv_aload_n hx hb d_C_init_27 rfl (lv_at hl9 0 rfl) ?_
  refine lv_iconst (v := 0) hx hb d_C_init_28 (by decide) ?_
  refine va_put (D := (dC, dI)) (ci := 2) (v := .int 0) (ty := .int) (C := R_C) (T := F_C) (N := 13) hx hb hG i_C t_C t_C_ok n_C hown hK hP hD hS 0 rfl rfl 3 (by decide) (hG _ k_25) (fun _ h9 => h9) rfl (by decide +kernel) rfl rfl (Nat.le_of_ble_eq_true rfl) d_C_init_29 (fun H locs hP hD hS => ?_)
  have hP : va_P (dC, dI) vwCl [(a0, .inr (2, [.ref q1, .int 0, .ref q2, .int 0, .int 0, .int 0, .null, .int 0, .int 0, .int 0, .null, .null, .null])), (q1, .inl (cZ, 6, .inr (.inr (.inr (.inr (fun _ => none)))))), (q2, .inl (cI, 1440, .inl (fun _ => 0)))] H := hP
  have hD : va_D A [(a0, .inr (2, [.ref q1, .int 0, .ref q2, .int 0, .int 0, .int 0, .null, .int 0, .int 0, .int 0, .null, .null, .null])), (q1, .inl (cZ, 6, .inr (.inr (.inr (.inr (fun _ => none)))))), (q2, .inl (cI, 1440, .inl (fun _ => 0)))] := hD
  refine lv_aload_n hx hb d_C_init_32 rfl (lv_at hl9 0 rfl) ?_
  refine lv_iconst (v := (-1)) hx hb d_C_init_33 (by decide) ?_
  refine va_put (D := (dC, dI)) (ci := 2) (v := .int (-1)) (ty := .int) (C := R_C) (T := F_C) (N := 13) hx hb hG i_C t_C t_C_ok n_C hown hK hP hD hS 0 rfl rfl 4 (by decide) (hG _ k_26) (fun _ h9 => h9) rfl (by decide +kernel) rfl rfl (Nat.le_of_ble_eq_true rfl) d_C_init_34 (fun H locs hP hD hS => ?_)
  have hP : va_P (dC, dI) vwCl [(a0, .inr (2, [.ref q1, .int 0, .ref q2, .int 0, .int (-1), .int 0, .null, .int 0, .int 0, .int 0, .null, .null, .null])), (q1, .inl (cZ, 6, .inr (.inr (.inr (.inr (fun _ => none)))))), (q2, .inl (cI, 1440, .inl (fun _ => 0)))] H := hP
  have hD : va_D A [(a0, .inr (2, [.ref q1, .int 0, .ref q2, .int 0, .int (-1), .int 0, .null, .int 0, .int 0, .int 0, .null, .null, .null])), (q1, .inl (cZ, 6, .inr (.inr (.inr (.inr (fun _ => none)))))), (q2, .inl (cI, 1440, .inl (fun _ => 0)))] := hD
  refine lv_aload_n hx hb d_C_init_37 rfl (lv_at hl9 0 rfl) ?_
  refine lv_ldc (v := 100000) hx hb hown (hG _ k_21) d_C_init_38 ?_
  refine va_put (D := (dC, dI)) (ci := 2) (v := .int 100000) (ty := .int) (C := R_C) (T := F_C) (N := 13) hx hb hG i_C t_C t_C_ok n_C hown hK hP hD hS 0 rfl rfl 5 (by decide) (hG _ k_27) (fun _ h9 => h9) rfl (by decide +kernel) rfl rfl (Nat.le_of_ble_eq_true rfl) d_C_init_40 (fun H locs hP hD hS => ?_)
  have hP : va_P (dC, dI) vwCl [(a0, .inr (2, [.ref q1, .int 0, .ref q2, .int 0, .int (-1), .int 100000, .null, .int 0, .int 0, .int 0, .null, .null, .null])), (q1, .inl (cZ, 6, .inr (.inr (.inr (.inr (fun _ => none)))))), (q2, .inl (cI, 1440, .inl (fun _ => 0)))] H := hP
  have hD : va_D A [(a0, .inr (2, [.ref q1, .int 0, .ref q2, .int 0, .int (-1), .int 100000, .null, .int 0, .int 0, .int 0, .null, .null, .null])), (q1, .inl (cZ, 6, .inr (.inr (.inr (.inr (fun _ => none)))))), (q2, .inl (cI, 1440, .inl (fun _ => 0)))] := hD
  refine lv_aload_n hx hb d_C_init_43 rfl (lv_at hl9 0 rfl) ?_
  refine lv_sipush (v := 1440) hx hb d_C_init_44 (by decide) ?_
  refine va_newa (atype := .int) hx hb (hG _ k_62) rfl hK hP hD hS hA (n := 1440) (N' := 1440) (a0 := (1440, .inl (fun _ => 0))) (fun _ => rfl) (by decide +kernel) (by decide +kernel) (by decide +kernel) (by first | exact Nat.le_of_ble_eq_true rfl | omega) (by first | exact Nat.le_of_ble_eq_true rfl | omega) d_C_init_47 (fun q3 c9 H hK9 hP hD hS => ?_)
  have e9 : c9 = cI := ty_same hK9 (i := 0) (j := 4) rfl rfl
  rw [e9] at hP hD
  have hP : va_P (dC, dI) vwCl [(a0, .inr (2, [.ref q1, .int 0, .ref q2, .int 0, .int (-1), .int 100000, .null, .int 0, .int 0, .int 0, .null, .null, .null])), (q1, .inl (cZ, 6, .inr (.inr (.inr (.inr (fun _ => none)))))), (q2, .inl (cI, 1440, .inl (fun _ => 0))), (q3, .inl (cI, 1440, .inl (fun _ => 0)))] H := hP
  have hD : va_D A [(a0, .inr (2, [.ref q1, .int 0, .ref q2, .int 0, .int (-1), .int 100000, .null, .int 0, .int 0, .int 0, .null, .null, .null])), (q1, .inl (cZ, 6, .inr (.inr (.inr (.inr (fun _ => none)))))), (q2, .inl (cI, 1440, .inl (fun _ => 0))), (q3, .inl (cI, 1440, .inl (fun _ => 0)))] := hD
  refine va_putF (D := (dC, dI)) (ci := 2) (v := .ref q3) (ty := .array .int) (C := R_C) (T := F_C) (N := 13) hx hb hG i_C t_C t_C_ok n_C hown hK hP hD hS 0 rfl rfl 6 (by decide) (hG _ k_28) (fun _ h9 => h9) rfl hin rfl (by decide +kernel) rfl rfl (Nat.le_of_ble_eq_true rfl) d_C_init_49 (fun H locs hP hD hS => ?_)
  have hP : va_P (dC, dI) vwCl [(a0, .inr (2, [.ref q1, .int 0, .ref q2, .int 0, .int (-1), .int 100000, .ref q3, .int 0, .int 0, .int 0, .null, .null, .null])), (q1, .inl (cZ, 6, .inr (.inr (.inr (.inr (fun _ => none)))))), (q2, .inl (cI, 1440, .inl (fun _ => 0))), (q3, .inl (cI, 1440, .inl (fun _ => 0)))] H := hP
  have hD : va_D A [(a0, .inr (2, [.ref q1, .int 0, .ref q2, .int 0, .int (-1), .int 100000, .ref q3, .int 0, .int 0, .int 0, .null, .null, .null])), (q1, .inl (cZ, 6, .inr (.inr (.inr (.inr (fun _ => none)))))), (q2, .inl (cI, 1440, .inl (fun _ => 0))), (q3, .inl (cI, 1440, .inl (fun _ => 0)))] := hD
  refine lv_aload_n hx hb d_C_init_52 rfl (lv_at hl9 0 rfl) ?_
  refine lv_iconst (v := 0) hx hb d_C_init_53 (by decide) ?_
  refine va_put (D := (dC, dI)) (ci := 2) (v := .int 0) (ty := .boolean) (C := R_C) (T := F_C) (N := 13) hx hb hG i_C t_C t_C_ok n_C hown hK hP hD hS 0 rfl rfl 7 (by decide) (hG _ k_29) (fun _ h9 => h9) rfl (by decide +kernel) rfl rfl (Nat.le_of_ble_eq_true rfl) d_C_init_54 (fun H locs hP hD hS => ?_)
  have hP : va_P (dC, dI) vwCl [(a0, .inr (2, [.ref q1, .int 0, .ref q2, .int 0, .int (-1), .int 100000, .ref q3, .int 0, .int 0, .int 0, .null, .null, .null])), (q1, .inl (cZ, 6, .inr (.inr (.inr (.inr (fun _ => none)))))), (q2, .inl (cI, 1440, .inl (fun _ => 0))), (q3, .inl (cI, 1440, .inl (fun _ => 0)))] H := hP
  have hD : va_D A [(a0, .inr (2, [.ref q1, .int 0, .ref q2, .int 0, .int (-1), .int 100000, .ref q3, .int 0, .int 0, .int 0, .null, .null, .null])), (q1, .inl (cZ, 6, .inr (.inr (.inr (.inr (fun _ => none)))))), (q2, .inl (cI, 1440, .inl (fun _ => 0))), (q3, .inl (cI, 1440, .inl (fun _ => 0)))] := hD
  refine lv_aload_n hx hb d_C_init_57 rfl (lv_at hl9 0 rfl) ?_
  refine lv_iconst (v := 1) hx hb d_C_init_58 (by decide) ?_
  refine va_put (D := (dC, dI)) (ci := 2) (v := .int 1) (ty := .int) (C := R_C) (T := F_C) (N := 13) hx hb hG i_C t_C t_C_ok n_C hown hK hP hD hS 0 rfl rfl 8 (by decide) (hG _ k_30) (fun _ h9 => h9) rfl (by decide +kernel) rfl rfl (Nat.le_of_ble_eq_true rfl) d_C_init_59 (fun H locs hP hD hS => ?_)
  have hP : va_P (dC, dI) vwCl [(a0, .inr (2, [.ref q1, .int 0, .ref q2, .int 0, .int (-1), .int 100000, .ref q3, .int 0, .int 1, .int 0, .null, .null, .null])), (q1, .inl (cZ, 6, .inr (.inr (.inr (.inr (fun _ => none)))))), (q2, .inl (cI, 1440, .inl (fun _ => 0))), (q3, .inl (cI, 1440, .inl (fun _ => 0)))] H := hP
  have hD : va_D A [(a0, .inr (2, [.ref q1, .int 0, .ref q2, .int 0, .int (-1), .int 100000, .ref q3, .int 0, .int 1, .int 0, .null, .null, .null])), (q1, .inl (cZ, 6, .inr (.inr (.inr (.inr (fun _ => none)))))), (q2, .inl (cI, 1440, .inl (fun _ => 0))), (q3, .inl (cI, 1440, .inl (fun _ => 0)))] := hD
  refine lv_aload_n hx hb d_C_init_62 rfl (lv_at hl9 0 rfl) ?_
  refine lv_iconst (v := 2) hx hb d_C_init_63 (by decide) ?_
  refine va_put (D := (dC, dI)) (ci := 2) (v := .int 2) (ty := .int) (C := R_C) (T := F_C) (N := 13) hx hb hG i_C t_C t_C_ok n_C hown hK hP hD hS 0 rfl rfl 9 (by decide) (hG _ k_31) (fun _ h9 => h9) rfl (by decide +kernel) rfl rfl (Nat.le_of_ble_eq_true rfl) d_C_init_64 (fun H locs hP hD hS => ?_)
  have hP : va_P (dC, dI) vwCl [(a0, .inr (2, [.ref q1, .int 0, .ref q2, .int 0, .int (-1), .int 100000, .ref q3, .int 0, .int 1, .int 2, .null, .null, .null])), (q1, .inl (cZ, 6, .inr (.inr (.inr (.inr (fun _ => none)))))), (q2, .inl (cI, 1440, .inl (fun _ => 0))), (q3, .inl (cI, 1440, .inl (fun _ => 0)))] H := hP
  have hD : va_D A [(a0, .inr (2, [.ref q1, .int 0, .ref q2, .int 0, .int (-1), .int 100000, .ref q3, .int 0, .int 1, .int 2, .null, .null, .null])), (q1, .inl (cZ, 6, .inr (.inr (.inr (.inr (fun _ => none)))))), (q2, .inl (cI, 1440, .inl (fun _ => 0))), (q3, .inl (cI, 1440, .inl (fun _ => 0)))] := hD
  refine lv_aload_n hx hb d_C_init_67 rfl (lv_at hl9 0 rfl) ?_
  refine lv_bipush (v := 24) hx hb d_C_init_68 (by decide) ?_
  refine va_newa (atype := .int) hx hb (hG _ k_62) rfl hK hP hD hS hA (n := 24) (N' := 24) (a0 := (24, .inl (fun _ => 0))) (fun _ => rfl) (by decide +kernel) (by decide +kernel) (by decide +kernel) (by first | exact Nat.le_of_ble_eq_true rfl | omega) (by first | exact Nat.le_of_ble_eq_true rfl | omega) d_C_init_70 (fun q4 c9 H hK9 hP hD hS => ?_)
  have e9 : c9 = cI := ty_same hK9 (i := 0) (j := 4) rfl rfl
  rw [e9] at hP hD
  have hP : va_P (dC, dI) vwCl [(a0, .inr (2, [.ref q1, .int 0, .ref q2, .int 0, .int (-1), .int 100000, .ref q3, .int 0, .int 1, .int 2, .null, .null, .null])), (q1, .inl (cZ, 6, .inr (.inr (.inr (.inr (fun _ => none)))))), (q2, .inl (cI, 1440, .inl (fun _ => 0))), (q3, .inl (cI, 1440, .inl (fun _ => 0))), (q4, .inl (cI, 24, .inl (fun _ => 0)))] H := hP
  have hD : va_D A [(a0, .inr (2, [.ref q1, .int 0, .ref q2, .int 0, .int (-1), .int 100000, .ref q3, .int 0, .int 1, .int 2, .null, .null, .null])), (q1, .inl (cZ, 6, .inr (.inr (.inr (.inr (fun _ => none)))))), (q2, .inl (cI, 1440, .inl (fun _ => 0))), (q3, .inl (cI, 1440, .inl (fun _ => 0))), (q4, .inl (cI, 24, .inl (fun _ => 0)))] := hD
  refine va_putF (D := (dC, dI)) (ci := 2) (v := .ref q4) (ty := .array .int) (C := R_C) (T := F_C) (N := 13) hx hb hG i_C t_C t_C_ok n_C hown hK hP hD hS 0 rfl rfl 10 (by decide) (hG _ k_32) (fun _ h9 => h9) rfl hin rfl (by decide +kernel) rfl rfl (Nat.le_of_ble_eq_true rfl) d_C_init_72 (fun H locs hP hD hS => ?_)
  have hP : va_P (dC, dI) vwCl [(a0, .inr (2, [.ref q1, .int 0, .ref q2, .int 0, .int (-1), .int 100000, .ref q3, .int 0, .int 1, .int 2, .ref q4, .null, .null])), (q1, .inl (cZ, 6, .inr (.inr (.inr (.inr (fun _ => none)))))), (q2, .inl (cI, 1440, .inl (fun _ => 0))), (q3, .inl (cI, 1440, .inl (fun _ => 0))), (q4, .inl (cI, 24, .inl (fun _ => 0)))] H := hP
  have hD : va_D A [(a0, .inr (2, [.ref q1, .int 0, .ref q2, .int 0, .int (-1), .int 100000, .ref q3, .int 0, .int 1, .int 2, .ref q4, .null, .null])), (q1, .inl (cZ, 6, .inr (.inr (.inr (.inr (fun _ => none)))))), (q2, .inl (cI, 1440, .inl (fun _ => 0))), (q3, .inl (cI, 1440, .inl (fun _ => 0))), (q4, .inl (cI, 24, .inl (fun _ => 0)))] := hD
  refine lv_aload_n hx hb d_C_init_75 rfl (lv_at hl9 0 rfl) ?_
  refine lv_sipush (v := 1024) hx hb d_C_init_76 (by decide) ?_
  refine va_newa (atype := .int) hx hb (hG _ k_62) rfl hK hP hD hS hA (n := 1024) (N' := 1024) (a0 := (1024, .inl (fun _ => 0))) (fun _ => rfl) (by decide +kernel) (by decide +kernel) (by decide +kernel) (by first | exact Nat.le_of_ble_eq_true rfl | omega) (by first | exact Nat.le_of_ble_eq_true rfl | omega) d_C_init_79 (fun q5 c9 H hK9 hP hD hS => ?_)
  have e9 : c9 = cI := ty_same hK9 (i := 0) (j := 4) rfl rfl
  rw [e9] at hP hD
  have hP : va_P (dC, dI) vwCl [(a0, .inr (2, [.ref q1, .int 0, .ref q2, .int 0, .int (-1), .int 100000, .ref q3, .int 0, .int 1, .int 2, .ref q4, .null, .null])), (q1, .inl (cZ, 6, .inr (.inr (.inr (.inr (fun _ => none)))))), (q2, .inl (cI, 1440, .inl (fun _ => 0))), (q3, .inl (cI, 1440, .inl (fun _ => 0))), (q4, .inl (cI, 24, .inl (fun _ => 0))), (q5, .inl (cI, 1024, .inl (fun _ => 0)))] H := hP
  have hD : va_D A [(a0, .inr (2, [.ref q1, .int 0, .ref q2, .int 0, .int (-1), .int 100000, .ref q3, .int 0, .int 1, .int 2, .ref q4, .null, .null])), (q1, .inl (cZ, 6, .inr (.inr (.inr (.inr (fun _ => none)))))), (q2, .inl (cI, 1440, .inl (fun _ => 0))), (q3, .inl (cI, 1440, .inl (fun _ => 0))), (q4, .inl (cI, 24, .inl (fun _ => 0))), (q5, .inl (cI, 1024, .inl (fun _ => 0)))] := hD
  refine va_putF (D := (dC, dI)) (ci := 2) (v := .ref q5) (ty := .array .int) (C := R_C) (T := F_C) (N := 13) hx hb hG i_C t_C t_C_ok n_C hown hK hP hD hS 0 rfl rfl 11 (by decide) (hG _ k_33) (fun _ h9 => h9) rfl hin rfl (by decide +kernel) rfl rfl (Nat.le_of_ble_eq_true rfl) d_C_init_81 (fun H locs hP hD hS => ?_)
  have hP : va_P (dC, dI) vwCl [(a0, .inr (2, [.ref q1, .int 0, .ref q2, .int 0, .int (-1), .int 100000, .ref q3, .int 0, .int 1, .int 2, .ref q4, .ref q5, .null])), (q1, .inl (cZ, 6, .inr (.inr (.inr (.inr (fun _ => none)))))), (q2, .inl (cI, 1440, .inl (fun _ => 0))), (q3, .inl (cI, 1440, .inl (fun _ => 0))), (q4, .inl (cI, 24, .inl (fun _ => 0))), (q5, .inl (cI, 1024, .inl (fun _ => 0)))] H := hP
  have hD : va_D A [(a0, .inr (2, [.ref q1, .int 0, .ref q2, .int 0, .int (-1), .int 100000, .ref q3, .int 0, .int 1, .int 2, .ref q4, .ref q5, .null])), (q1, .inl (cZ, 6, .inr (.inr (.inr (.inr (fun _ => none)))))), (q2, .inl (cI, 1440, .inl (fun _ => 0))), (q3, .inl (cI, 1440, .inl (fun _ => 0))), (q4, .inl (cI, 24, .inl (fun _ => 0))), (q5, .inl (cI, 1024, .inl (fun _ => 0)))] := hD
  refine lv_aload_n hx hb d_C_init_84 rfl (lv_at hl9 0 rfl) ?_
  refine lv_sipush (v := 1024) hx hb d_C_init_85 (by decide) ?_
  refine va_newa (atype := .long) hx hb (hG _ k_63) rfl hK hP hD hS hA (n := 1024) (N' := 1024) (a0 := (1024, .inr (.inl (fun _ => 0)))) (fun _ => rfl) (by decide +kernel) (by decide +kernel) (by decide +kernel) (by first | exact Nat.le_of_ble_eq_true rfl | omega) (by first | exact Nat.le_of_ble_eq_true rfl | omega) d_C_init_88 (fun q6 c9 H hK9 hP hD hS => ?_)
  have e9 : c9 = cJ := ty_same hK9 (i := 1) (j := 4) rfl rfl
  rw [e9] at hP hD
  have hP : va_P (dC, dI) vwCl [(a0, .inr (2, [.ref q1, .int 0, .ref q2, .int 0, .int (-1), .int 100000, .ref q3, .int 0, .int 1, .int 2, .ref q4, .ref q5, .null])), (q1, .inl (cZ, 6, .inr (.inr (.inr (.inr (fun _ => none)))))), (q2, .inl (cI, 1440, .inl (fun _ => 0))), (q3, .inl (cI, 1440, .inl (fun _ => 0))), (q4, .inl (cI, 24, .inl (fun _ => 0))), (q5, .inl (cI, 1024, .inl (fun _ => 0))), (q6, .inl (cJ, 1024, .inr (.inl (fun _ => 0))))] H := hP
  have hD : va_D A [(a0, .inr (2, [.ref q1, .int 0, .ref q2, .int 0, .int (-1), .int 100000, .ref q3, .int 0, .int 1, .int 2, .ref q4, .ref q5, .null])), (q1, .inl (cZ, 6, .inr (.inr (.inr (.inr (fun _ => none)))))), (q2, .inl (cI, 1440, .inl (fun _ => 0))), (q3, .inl (cI, 1440, .inl (fun _ => 0))), (q4, .inl (cI, 24, .inl (fun _ => 0))), (q5, .inl (cI, 1024, .inl (fun _ => 0))), (q6, .inl (cJ, 1024, .inr (.inl (fun _ => 0))))] := hD
  refine va_putF (D := (dC, dI)) (ci := 2) (v := .ref q6) (ty := .array .long) (C := R_C) (T := F_C) (N := 13) hx hb hG i_C t_C t_C_ok n_C hown hK hP hD hS 0 rfl rfl 12 (by decide) (hG _ k_34) (fun _ h9 => h9) rfl hin rfl (by decide +kernel) rfl rfl (Nat.le_of_ble_eq_true rfl) d_C_init_90 (fun H locs hP hD hS => ?_)
  have hP : va_P (dC, dI) vwCl [(a0, .inr (2, [.ref q1, .int 0, .ref q2, .int 0, .int (-1), .int 100000, .ref q3, .int 0, .int 1, .int 2, .ref q4, .ref q5, .ref q6])), (q1, .inl (cZ, 6, .inr (.inr (.inr (.inr (fun _ => none)))))), (q2, .inl (cI, 1440, .inl (fun _ => 0))), (q3, .inl (cI, 1440, .inl (fun _ => 0))), (q4, .inl (cI, 24, .inl (fun _ => 0))), (q5, .inl (cI, 1024, .inl (fun _ => 0))), (q6, .inl (cJ, 1024, .inr (.inl (fun _ => 0))))] H := hP
  have hD : va_D A [(a0, .inr (2, [.ref q1, .int 0, .ref q2, .int 0, .int (-1), .int 100000, .ref q3, .int 0, .int 1, .int 2, .ref q4, .ref q5, .ref q6])), (q1, .inl (cZ, 6, .inr (.inr (.inr (.inr (fun _ => none)))))), (q2, .inl (cI, 1440, .inl (fun _ => 0))), (q3, .inl (cI, 1440, .inl (fun _ => 0))), (q4, .inl (cI, 24, .inl (fun _ => 0))), (q5, .inl (cI, 1024, .inl (fun _ => 0))), (q6, .inl (cJ, 1024, .inr (.inl (fun _ => 0))))] := hD
  exact W.vret hx hb hr (fun t ht hW => ⟨⟨(q1, q2, q3, q4, q5, q6), rfl, trivial, ⟨by have h9 := hP; rw [← ht] at h9; exact h9, hD⟩⟩, hS.F ht⟩) hS.2.2 d_C_init_93
