theorem at_IAE : ∀ w ∈ vx_atS R_C 168 "java/lang/IllegalArgumentException" ["java/lang/RuntimeException", "java/lang/Exception"], w ∈ GG ∨ (w ∈ tables_1 ∧ nx_warm w = true) := by decide +kernel
theorem at_ISE : ∀ w ∈ vx_atS R_C 64 "java/lang/IllegalStateException" ["java/lang/RuntimeException", "java/lang/Exception"], w ∈ GG ∨ (w ∈ tables_1 ∧ nx_warm w = true) := by decide +kernel
theorem ot_IAE : ∀ w ∈ Cond.classLink R_C 164 "java/lang/IllegalArgumentException" :: Cond.initialized "java/lang/IllegalArgumentException" :: vx_atS R_C 168 "java/lang/IllegalArgumentException" ["java/lang/RuntimeException", "java/lang/Exception"], vx_ot w = true := by decide +kernel
theorem ot_ISE : ∀ w ∈ Cond.classLink R_C 60 "java/lang/IllegalStateException" :: Cond.initialized "java/lang/IllegalStateException" :: vx_atS R_C 64 "java/lang/IllegalStateException" ["java/lang/RuntimeException", "java/lang/Exception"], vx_ot w = true := by decide +kernel
set_option maxHeartbeats 4000000 in
set_option maxRecDepth 100000 in
theorem c_checkBounds (l : Launch) (dC : Nat → ClassId) (dI : Nat → Nat → Nat) (cI cJ cZ cB : ClassId) (hl : l.stackTraces = false) (v lo hi : Int32) (sz : Nat) : vx_Met l y_C_checkBounds w_C_checkBounds ({ frames := 6, cells := 1, slots := 6, locals := 82 }) (PC (dC, dI) (TY cI cJ cZ cB) [.int v, .int lo, .int hi] [] sz (va_A [] sz)) (va_Qv (fun (_ : Unit) => ¬ (v < lo ∨ hi < v)) (fun (_ : Unit) (_ : State) => True) (va_A [] sz)) (vx_X (fun (_ : Unit) => True) (fun (E : String) (_ : Unit) (_ : State) => E = "java/lang/IllegalArgumentException" ∧ (v < lo ∨ hi < v)) (va_A [] sz)) 1 6 (va_A [] sz) := by
  refine vx_ofW (cc := b_C_checkBounds) (maxL := 3) (ret := none) (by decide) rfl ?_
  intro p e s m args below meth c s₁ B hml hnx hv
  obtain ⟨rfl, hsz, hP, hK, hD0, hE⟩ := hv
  have hx := B.exec
  have hb := B.bytes
  have hr := B.returns
  have hG : ∀ w ∈ GG, w.before _ s = true := fun w h => atoms_spec (ws := w_C_checkBounds) B.pre w (List.mem_cons_of_mem _ h)
  have hown : s.vm.findClass R_C = some m.cls := findClass_of_methodNamed B.named
  have hlocks := B.notSynchronized
  subst hsz
  generalize hAe : (va_A [] s.heap.size) = A at hE ⊢
  have hA : ∀ q : Nat, s.heap.size ≤ q → A q := fun q h => by rw [← hAe]; exact Or.inr h
  have hS : va_S A s.heap s.heap [] := va_S.rf
  have hD := hD0
  obtain ⟨H, hH⟩ : ∃ z, z = s.heap := ⟨_, rfl⟩
  rw [← hH] at hP
  have hS : va_S A s.heap H [] := by rw [hH]; exact hS
  rw [← hH]
  have hl9 := lv_entry ([.int v, .int lo, .int hi]) (n := 3) (Nat.le_of_ble_eq_true rfl)
  rw [lg_entry_eq]
  generalize (lg_sl ([.int v, .int lo, .int hi]) ++ List.replicate (3 - (lg_sl ([.int v, .int lo, .int hi])).length) Slot.unset).toArray = ls at hl9 ⊢
  have hl9 : lv_has ls 3 [(0, .int v), (1, .int lo), (2, .int hi)] := hl9
  refine lv_iload_n hx hb d_C_checkBounds_0 rfl (lv_at hl9 0 rfl) ?_
  refine lv_iload_n hx hb d_C_checkBounds_1 rfl (lv_at hl9 1 rfl) ?_
  refine lv_icmp_lt (tgt := 10) hx hb d_C_checkBounds_2 (by decide) (fun c1 => ?_) (fun c1 => ?_)
  · obtain ⟨sa, hsa⟩ := hE.1.2.1 (166, "a number is out of its bounds") (by decide)
    exact vx_throwS (own := R_C) (cls := "java/lang/IllegalArgumentException") (names := ["java/lang/RuntimeException", "java/lang/Exception"]) hx hb hl hown (by decide +kernel) (by decide +kernel) (hG _ k_76) (hG _ k_6) hsa (fun w h => (at_IAE w h).elim (hG w) (fun h => hE.1.use h.1 h.2)) ot_IAE hE.2.1 hE.2.2 hS (hl9.1.trans hml.symm) d_C_checkBounds_10 d_C_checkBounds_13 d_C_checkBounds_14 d_C_checkBounds_16 d_C_checkBounds_19 (fun x hx => (hnx x hx).elim) (Nat.le_of_ble_eq_true rfl) (Nat.le_of_ble_eq_true rfl) (by first | exact Nat.le_of_ble_eq_true rfl | omega) (by first | exact Nat.le_of_ble_eq_true rfl | omega) hlocks (fun t ha hsz hk => ⟨(), trivial, ⟨rfl, Or.inl c1⟩, Nat.le_trans hS.1 hsz, fun q h1 h2 => (hk q (Nat.lt_of_lt_of_le h1 hS.1)).trans (hS.2.1 q h1 h2)⟩) hS.2.2 (by first | exact Nat.le_of_ble_eq_true rfl | omega) (by first | exact Nat.le_of_ble_eq_true rfl | omega)
  · refine lv_iload_n hx hb d_C_checkBounds_5 rfl (lv_at hl9 0 rfl) ?_
    refine lv_iload_n hx hb d_C_checkBounds_6 rfl (lv_at hl9 2 rfl) ?_
    refine lv_icmp_le (tgt := 20) hx hb d_C_checkBounds_7 (by decide) (fun c2 => ?_) (fun c2 => ?_)
    · refine vx_ret ?_
      refine W.widen (k := 1) (n := 6) (by omega) (by omega) ?_
      exact W.vret hx hb hr (fun t ht hW => ⟨⟨(), rfl, fun h => h.elim c1 (fun h => Int32.not_le.mpr h c2), trivial⟩, hS.F ht⟩) hS.2.2 d_C_checkBounds_20
    · obtain ⟨sa, hsa⟩ := hE.1.2.1 (166, "a number is out of its bounds") (by decide)
      exact vx_throwS (own := R_C) (cls := "java/lang/IllegalArgumentException") (names := ["java/lang/RuntimeException", "java/lang/Exception"]) hx hb hl hown (by decide +kernel) (by decide +kernel) (hG _ k_76) (hG _ k_6) hsa (fun w h => (at_IAE w h).elim (hG w) (fun h => hE.1.use h.1 h.2)) ot_IAE hE.2.1 hE.2.2 hS (hl9.1.trans hml.symm) d_C_checkBounds_10 d_C_checkBounds_13 d_C_checkBounds_14 d_C_checkBounds_16 d_C_checkBounds_19 (fun x hx => (hnx x hx).elim) (Nat.le_of_ble_eq_true rfl) (Nat.le_of_ble_eq_true rfl) (by first | exact Nat.le_of_ble_eq_true rfl | omega) (by first | exact Nat.le_of_ble_eq_true rfl | omega) hlocks (fun t ha hsz hk => ⟨(), trivial, ⟨rfl, Or.inr (Int32.not_le.mp c2)⟩, Nat.le_trans hS.1 hsz, fun q h1 h2 => (hk q (Nat.lt_of_lt_of_le h1 hS.1)).trans (hS.2.1 q h1 h2)⟩) hS.2.2 (by first | exact Nat.le_of_ble_eq_true rfl | omega) (by first | exact Nat.le_of_ble_eq_true rfl | omega)
set_option maxHeartbeats 4000000 in
set_option maxRecDepth 100000 in
theorem c_warmthAfter (l : Launch) (dC : Nat → ClassId) (dI : Nat → Nat → Nat) (cI cJ cZ cB : ClassId) (a0 aZ aO aG aP aW aK : Nat) (zc orr ol mp pl fa fb : Int32) (fO : Nat → Int32) (za la wa : Nat) (zh zl zf zp zr zm zw zs : Int32) (x k h : Int32) (sz : Nat) (hk : vp_in k 1440) (hzl : ¬ zl = 0) (hzh : ¬ zh = 0) : Met l y_C_warmthAfter w_C_warmthAfter ({ frames := 0, cells := 0, slots := 0, locals := 0 }) (PC (dC, dI) (TY cI cJ cZ cB) [.ref a0, .ref za, .int x, .int k, .int h] [(a0, .inr (2, [.ref aZ, .int zc, .ref aO, .int orr, .int ol, .int mp, .ref aG, .int pl, .int fa, .int fb, .ref aP, .ref aW, .ref aK])), (aO, .inl (cI, 1440, .inl fO)), (za, .inr (1, [.int zh, .int zl, .int zf, .int zp, .int zr, .int zm, .int zw, .ref la, .int zs, .ref wa]))] sz (va_A [] sz)) (va_Qi (fun (r : Int32) (_ : Unit) => r = x + (fO k.toNatClampNeg - x) / zl + h / zh) (fun (_ : Unit) (_ : State) => True) (va_A [] sz)) 0 0 (va_A [] sz) := by
  refine Met.ofW (cc := b_C_warmthAfter) (maxL := 5) (ret := (some .int)) (by decide) rfl ?_
  intro p e s m args below meth c s₁ B hml hv
  obtain ⟨rfl, hsz, hP, hK, hD0, hE⟩ := hv
  have hx := B.exec
  have hb := B.bytes
  have hr := B.returns
  have hG : ∀ w ∈ GG, w.before _ s = true := fun w h => atoms_spec (ws := w_C_warmthAfter) B.pre w (List.mem_cons_of_mem _ h)
  have hown : s.vm.findClass R_C = some m.cls := findClass_of_methodNamed B.named
  have hlocks := B.notSynchronized
  subst hsz
  generalize hAe : (va_A [] s.heap.size) = A at hE ⊢
  have hA : ∀ q : Nat, s.heap.size ≤ q → A q := fun q h => by rw [← hAe]; exact Or.inr h
  have hS : va_S A s.heap s.heap [] := va_S.rf
  have hD := hD0
  obtain ⟨H, hH⟩ : ∃ z, z = s.heap := ⟨_, rfl⟩
  rw [← hH] at hP
  have hS : va_S A s.heap H [] := by rw [hH]; exact hS
  rw [← hH]
  have hl9 := lv_entry ([.ref a0, .ref za, .int x, .int k, .int h]) (n := 5) (Nat.le_of_ble_eq_true rfl)
  rw [lg_entry_eq]
  generalize (lg_sl ([.ref a0, .ref za, .int x, .int k, .int h]) ++ List.replicate (5 - (lg_sl ([.ref a0, .ref za, .int x, .int k, .int h])).length) Slot.unset).toArray = ls at hl9 ⊢
  have hl9 : lv_has ls 5 [(0, .ref a0), (1, .ref za), (2, .int x), (3, .int k), (4, .int h)] := hl9
  refine lv_iload_n hx hb d_C_warmthAfter_0 rfl (lv_at hl9 2 rfl) ?_
  refine lv_aload_n hx hb d_C_warmthAfter_1 rfl (lv_at hl9 0 rfl) ?_
  refine va_get (D := (dC, dI)) (ci := 2) (v := .ref aO) (C := R_C) (T := F_C) (N := 13) hx hb hG i_C hown hK hP 0 rfl rfl 2 (by decide) (hG _ k_24) (fun _ h9 => h9) rfl d_C_warmthAfter_2 ?_
  refine lv_iload_n hx hb d_C_warmthAfter_5 rfl (lv_at hl9 3 rfl) ?_
  refine va_iald hx hb hK hP 1 0 rfl rfl (hk) d_C_warmthAfter_6 ?_
  refine lv_iload_n hx hb d_C_warmthAfter_7 rfl (lv_at hl9 2 rfl) ?_
  refine lv_isub hx hb d_C_warmthAfter_8 ?_
  refine lv_aload_n hx hb d_C_warmthAfter_9 rfl (lv_at hl9 1 rfl) ?_
  refine va_getN (D := (dC, dI)) (ci := 1) (v := .int zl) (C := R_Z) (T := F_Z) (N := 10) hx hb hG i_Z hown hK hP 2 rfl rfl 1 (by decide) (hE.1.use k_182) (fun _ h9 => h9) rfl d_C_warmthAfter_10 ?_
  refine lv_idiv hx hb d_C_warmthAfter_13 (hzl) ?_
  refine lv_iadd hx hb d_C_warmthAfter_14 ?_
  refine lv_iload hx hb d_C_warmthAfter_15 (lv_at hl9 4 rfl) ?_
  refine lv_aload_n hx hb d_C_warmthAfter_17 rfl (lv_at hl9 1 rfl) ?_
  refine va_getN (D := (dC, dI)) (ci := 1) (v := .int zh) (C := R_Z) (T := F_Z) (N := 10) hx hb hG i_Z hown hK hP 2 rfl rfl 0 (by decide) (hE.1.use k_180) (fun _ h9 => h9) rfl d_C_warmthAfter_18 ?_
  refine lv_idiv hx hb d_C_warmthAfter_21 (hzh) ?_
  refine lv_iadd hx hb d_C_warmthAfter_22 ?_
  exact W.iret (v := ((x + (((fO k.toNatClampNeg) - x) / zl)) + (h / zh))) hx hb hr (fun t ht hW => ⟨⟨((x + (((fO k.toNatClampNeg) - x) / zl)) + (h / zh)), (), rfl, rfl, trivial⟩, hS.F ht⟩) hS.2.2 d_C_warmthAfter_23
set_option maxHeartbeats 4000000 in
set_option maxRecDepth 100000 in
theorem c_shareOf (l : Launch) (dC : Nat → ClassId) (dI : Nat → Nat → Nat) (cI cJ cZ cB : ClassId) (a0 aZ aO aG aP aW aK : Nat) (zc orr ol mp pl fa fb : Int32) (fG : Nat → Int32) (za la wa : Nat) (zh zl zf zp zr zm zw zs : Int32) (k : Int32) (sz : Nat) (hk : vp_in k 1440) : Met l y_C_shareOf w_C_shareOf ({ frames := 0, cells := 0, slots := 0, locals := 0 }) (PC (dC, dI) (TY cI cJ cZ cB) [.ref a0, .ref za, .int k] [(a0, .inr (2, [.ref aZ, .int zc, .ref aO, .int orr, .int ol, .int mp, .ref aG, .int pl, .int fa, .int fb, .ref aP, .ref aW, .ref aK])), (aG, .inl (cI, 1440, .inl fG)), (za, .inr (1, [.int zh, .int zl, .int zf, .int zp, .int zr, .int zm, .int zw, .ref la, .int zs, .ref wa]))] sz (va_A [] sz)) (va_Qi (fun (r : Int32) (_ : Unit) => r = if zp < mp - fG k.toNatClampNeg then zp else mp - fG k.toNatClampNeg) (fun (_ : Unit) (_ : State) => True) (va_A [] sz)) 0 0 (va_A [] sz) := by
  refine Met.ofW (cc := b_C_shareOf) (maxL := 4) (ret := (some .int)) (by decide) rfl ?_
  intro p e s m args below meth c s₁ B hml hv
  obtain ⟨rfl, hsz, hP, hK, hD0, hE⟩ := hv
  have hx := B.exec
  have hb := B.bytes
  have hr := B.returns
  have hG : ∀ w ∈ GG, w.before _ s = true := fun w h => atoms_spec (ws := w_C_shareOf) B.pre w (List.mem_cons_of_mem _ h)
  have hown : s.vm.findClass R_C = some m.cls := findClass_of_methodNamed B.named
  have hlocks := B.notSynchronized
  subst hsz
  generalize hAe : (va_A [] s.heap.size) = A at hE ⊢
  have hA : ∀ q : Nat, s.heap.size ≤ q → A q := fun q h => by rw [← hAe]; exact Or.inr h
  have hS : va_S A s.heap s.heap [] := va_S.rf
  have hD := hD0
  obtain ⟨H, hH⟩ : ∃ z, z = s.heap := ⟨_, rfl⟩
  rw [← hH] at hP
  have hS : va_S A s.heap H [] := by rw [hH]; exact hS
  rw [← hH]
  have hl9 := lv_entry ([.ref a0, .ref za, .int k]) (n := 4) (Nat.le_of_ble_eq_true rfl)
  rw [lg_entry_eq]
  generalize (lg_sl ([.ref a0, .ref za, .int k]) ++ List.replicate (4 - (lg_sl ([.ref a0, .ref za, .int k])).length) Slot.unset).toArray = ls at hl9 ⊢
  have hl9 : lv_has ls 4 [(0, .ref a0), (1, .ref za), (2, .int k)] := hl9
  refine lv_aload_n hx hb d_C_shareOf_0 rfl (lv_at hl9 0 rfl) ?_
  refine va_get (D := (dC, dI)) (ci := 2) (v := .int mp) (C := R_C) (T := F_C) (N := 13) hx hb hG i_C hown hK hP 0 rfl rfl 5 (by decide) (hG _ k_27) (fun _ h9 => h9) rfl d_C_shareOf_1 ?_
  refine lv_aload_n hx hb d_C_shareOf_4 rfl (lv_at hl9 0 rfl) ?_
  refine va_get (D := (dC, dI)) (ci := 2) (v := .ref aG) (C := R_C) (T := F_C) (N := 13) hx hb hG i_C hown hK hP 0 rfl rfl 6 (by decide) (hG _ k_28) (fun _ h9 => h9) rfl d_C_shareOf_5 ?_
  refine lv_iload_n hx hb d_C_shareOf_8 rfl (lv_at hl9 2 rfl) ?_
  refine va_iald hx hb hK hP 1 0 rfl rfl (hk) d_C_shareOf_9 ?_
  refine lv_isub hx hb d_C_shareOf_10 ?_
  refine lv_istore_n (lv' := [(3, .int (mp - (fG k.toNatClampNeg))), (0, .ref a0), (1, .ref za), (2, .int k)]) hx hb d_C_shareOf_11 rfl hl9 (by decide) rfl (fun ls hl9 => ?_)
  refine lv_aload_n hx hb d_C_shareOf_12 rfl (lv_at hl9 2 rfl) ?_
  refine va_getN (D := (dC, dI)) (ci := 1) (v := .int zp) (C := R_Z) (T := F_Z) (N := 10) hx hb hG i_Z hown hK hP 2 rfl rfl 3 (by decide) (hE.1.use k_186) (fun _ h9 => h9) rfl d_C_shareOf_13 ?_
  refine lv_iload_n hx hb d_C_shareOf_16 rfl (lv_at hl9 0 rfl) ?_
  refine lv_icmp_ge (tgt := 27) hx hb d_C_shareOf_17 (by decide) (fun c1 => ?_) (fun c1 => ?_)
  · refine lv_iload_n hx hb d_C_shareOf_27 rfl (lv_at hl9 0 rfl) ?_
    exact W.iret (v := (mp - (fG k.toNatClampNeg))) hx hb hr (fun t ht hW => ⟨⟨(mp - (fG k.toNatClampNeg)), (), rfl, by rw [if_neg (Int32.not_lt.mpr c1)], trivial⟩, hS.F ht⟩) hS.2.2 d_C_shareOf_28
  · refine lv_aload_n hx hb d_C_shareOf_20 rfl (lv_at hl9 2 rfl) ?_
    refine va_getN (D := (dC, dI)) (ci := 1) (v := .int zp) (C := R_Z) (T := F_Z) (N := 10) hx hb hG i_Z hown hK hP 2 rfl rfl 3 (by decide) (hE.1.use k_186) (fun _ h9 => h9) rfl d_C_shareOf_21 ?_
    refine lv_goto (tgt := 28) hx hb d_C_shareOf_24 (by decide) ?_
    exact W.iret (v := zp) hx hb hr (fun t ht hW => ⟨⟨zp, (), rfl, by rw [if_pos (Int32.not_le.mp c1)], trivial⟩, hS.F ht⟩) hS.2.2 d_C_shareOf_28
