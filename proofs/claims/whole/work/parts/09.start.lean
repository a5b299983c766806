theorem st_pos {j : Nat} (hj : j < 11) : 0 < 1024 / 2 ^ j := by
  rcases (show j = 0 ∨ j = 1 ∨ j = 2 ∨ j = 3 ∨ j = 4 ∨ j = 5 ∨ j = 6 ∨ j = 7 ∨ j = 8 ∨ j = 9 ∨ j = 10 by omega) with rfl | rfl | rfl | rfl | rfl | rfl | rfl | rfl | rfl | rfl | rfl <;> decide
theorem st_le (j : Nat) : 1024 / 2 ^ j ≤ 1024 := Nat.div_le_self _ _
theorem st_done {j : Nat} (hj : j ≤ 11) (c : nI (1024 / 2 ^ j) ≤ 0) : j = 11 := by
  rcases Nat.lt_or_ge j 11 with q | q
  · exact absurd c (nI_nle (st_pos q) (Nat.lt_of_le_of_lt (st_le j) (by decide)))
  · omega
theorem st_more {j : Nat} (hj : j ≤ 11) (c : ¬ nI (1024 / 2 ^ j) ≤ 0) : j < 11 := by
  rcases Nat.lt_or_ge j 11 with q | q
  · exact q
  · have e : j = 11 := by omega
    subst e
    exact absurd (by decide) c
theorem st_half (j : Nat) : nI (1024 / 2 ^ j) / 2 = nI (1024 / 2 ^ (j + 1)) := by
  have h := st_le j
  rw [show (2 : Int32) = nI 2 from rfl, pk_div (Nat.lt_of_le_of_lt h (by decide)) (by decide) (by decide), Nat.div_div_eq_div_mul, Nat.pow_succ]
theorem g_C_201 : GoodIn GG (wsV R_C 201 R_C y_C_shareOf w_C_shareOf) := goodG (List.forall_mem_append.mpr ⟨List.forall_mem_cons.mpr ⟨k_295, List.forall_mem_cons.mpr ⟨k_297, List.forall_mem_cons.mpr ⟨ks_10, List.forall_mem_cons.mpr ⟨k_1, fun _ h => absurd h List.not_mem_nil⟩⟩⟩⟩, List.forall_mem_cons.mpr ⟨k_298, fun _ h => h⟩⟩)
theorem g_C_197 : GoodIn GG (wsV R_C 197 R_C y_C_warmthIfStarted w_C_warmthIfStarted) := goodG (List.forall_mem_append.mpr ⟨List.forall_mem_cons.mpr ⟨k_291, List.forall_mem_cons.mpr ⟨k_293, List.forall_mem_cons.mpr ⟨ks_9, List.forall_mem_cons.mpr ⟨k_1, fun _ h => absurd h List.not_mem_nil⟩⟩⟩⟩, List.forall_mem_cons.mpr ⟨k_294, fun _ h => h⟩⟩)
set_option maxHeartbeats 4000000 in
set_option maxRecDepth 100000 in
theorem c_warmthIfStarted (l : Launch) (dC : Nat → ClassId) (dI : Nat → Nat → Nat) (cI cJ cZ cB : ClassId) (a0 aZ aO aG aP aW aK : Nat) (zc orr ol mp pl fa fb : Int32) (fO fG : Nat → Int32) (za la wa : Nat) (zh zl zf zp zr zm zw zs : Int32) (fT : Nat → Int32) (a b : Nat) (sz : Nat) (hab : a ≤ b) (hb1 : b < 1440) (hzl : ¬ zl = 0) (hzh : ¬ zh = 0) : Met l y_C_warmthIfStarted w_C_warmthIfStarted ({ frames := 1, cells := 0, slots := 0, locals := 24 }) (PC (dC, dI) (TY cI cJ cZ cB) [.ref a0, .ref za, .int (nI a)] [(a0, .inr (2, [.ref aZ, .int zc, .ref aO, .int orr, .int ol, .int mp, .ref aG, .int pl, .int fa, .int fb, .ref aP, .ref aW, .ref aK])), (aO, .inl (cI, 1440, .inl fO)), (aG, .inl (cI, 1440, .inl fG)), (za, .inr (1, [.int zh, .int zl, .int zf, .int zp, .int zr, .int (nI b), .int zw, .ref la, .int zs, .ref wa])), (wa, .inl (cI, 1441, .inl fT))] sz (va_A [] sz)) (va_Qi (fun (r : Int32) (_ : Unit) => r = wi fO fG zl zh zp mp (fT a) a (b - a)) (fun (_ : Unit) (_ : State) => True) (va_A [] sz)) 0 0 (va_A [] sz) := by
  refine Met.ofW (cc := b_C_warmthIfStarted) (maxL := 5) (ret := (some .int)) (by decide) rfl ?_
  intro p e s m args below meth c s₁ B hml hv
  obtain ⟨rfl, hsz, hP, hK, hD0, hE⟩ := hv
  have hx := B.exec
  have hb := B.bytes
  have hr := B.returns
  have hG : ∀ w ∈ GG, w.before _ s = true := fun w h => atoms_spec (ws := w_C_warmthIfStarted) B.pre w (List.mem_cons_of_mem _ h)
  have hown : s.vm.findClass R_C = some m.cls := findClass_of_methodNamed B.named
  have hlocks := B.notSynchronized
  subst hsz
  generalize hAe : (va_A [] s.heap.size) = A at hE ⊢
  have hA : ∀ q : Nat, s.heap.size ≤ q → A q := fun q h => by rw [← hAe]; exact Or.inr h
  have hS : va_S A s.heap s.heap [] := va_S.rf
  have hD := hD0
  obtain ⟨H, hH⟩ : ∃ z, z = s.heap := ⟨_, rfl⟩
  rw [← hH] at hP
  have hS : va_S A s.heap H [] := by rw [hH]; exact hS
  rw [← hH]
  have hl9 := lv_entry ([.ref a0, .ref za, .int (nI a)]) (n := 5) (Nat.le_of_ble_eq_true rfl)
  rw [lg_entry_eq]
  generalize (lg_sl ([.ref a0, .ref za, .int (nI a)]) ++ List.replicate (5 - (lg_sl ([.ref a0, .ref za, .int (nI a)])).length) Slot.unset).toArray = ls at hl9 ⊢
  have hl9 : lv_has ls 5 [(0, .ref a0), (1, .ref za), (2, .int (nI a))] := hl9
  have hin0 : vp_in (nI a) 1441 := vp_in_nI (by omega) (by omega)
  refine lv_aload_n hx hb d_C_warmthIfStarted_0 rfl (lv_at hl9 1 rfl) ?_
  refine va_getN (D := (dC, dI)) (ci := 1) (v := .ref wa) (C := R_Z) (T := F_Z) (N := 10) hx hb hG i_Z hown hK hP 3 rfl rfl 9 (by decide) (hE.1.use k_198) (fun _ h9 => h9) rfl d_C_warmthIfStarted_1 ?_
  refine lv_iload_n hx hb d_C_warmthIfStarted_4 rfl (lv_at hl9 2 rfl) ?_
  refine va_iald hx hb hK hP 4 0 rfl rfl (hin0) d_C_warmthIfStarted_5 ?_
  refine lv_istore_n (lv' := [(3, .int (fT (nI a).toNatClampNeg)), (0, .ref a0), (1, .ref za), (2, .int (nI a))]) hx hb d_C_warmthIfStarted_6 rfl hl9 (by decide) rfl (fun ls hl9 => ?_)
  refine lv_iload_n hx hb d_C_warmthIfStarted_7 rfl (lv_at hl9 3 rfl) ?_
  refine lv_istore (lv' := [(4, .int (nI a)), (3, .int (fT (nI a).toNatClampNeg)), (0, .ref a0), (1, .ref za), (2, .int (nI a))]) hx hb d_C_warmthIfStarted_8 hl9 (by decide) rfl (fun ls hl9 => ?_)
  have lp : ∀ (n : Nat) (i : Nat), a ≤ i → i ≤ b → b + 1 ≤ i + n → ∀ (H : Heap) (locs : List Loc) (ls : Array Slot), va_P (dC, dI) vwCl [(a0, .inr (2, [.ref aZ, .int zc, .ref aO, .int orr, .int ol, .int mp, .ref aG, .int pl, .int fa, .int fb, .ref aP, .ref aW, .ref aK])), (aO, .inl (cI, 1440, .inl fO)), (aG, .inl (cI, 1440, .inl fG)), (za, .inr (1, [.int zh, .int zl, .int zf, .int zp, .int zr, .int (nI b), .int zw, .ref la, .int zs, .ref wa])), (wa, .inl (cI, 1441, .inl fT))] H → va_S A s.heap H locs → lv_has ls 5 [(3, .int (wi fO fG zl zh zp mp (fT a) a (i - a))), (4, .int (nI i)), (0, .ref a0), (1, .ref za)] → W p l e (headSpec w_C_warmthIfStarted ({ frames := 1, cells := 0, slots := 0, locals := 24 })).room s m ([.ref a0, .ref za, .int (nI a)] : List Value).toArray below meth c H locs 0 0 (MQ below (va_Qi (fun (r : Int32) (_ : Unit) => r = wi fO fG zl zh zp mp (fT a) a (b - a)) (fun (_ : Unit) (_ : State) => True) A) ([.ref a0, .ref za, .int (nI a)] : List Value).toArray s 0 0 A) (F0 m 10 ls []) := by
    intro n
    induction n with
    | zero =>
      intro i hai hib hin
      exact absurd hin (by omega)
    | succ n ih =>
      intro i hai hib hin H locs ls hP hS hl9
      refine lv_iload hx hb d_C_warmthIfStarted_10 (lv_at hl9 1 rfl) ?_
      refine lv_aload_n hx hb d_C_warmthIfStarted_12 rfl (lv_at hl9 3 rfl) ?_
      refine va_getN (D := (dC, dI)) (ci := 1) (v := .int (nI b)) (C := R_Z) (T := F_Z) (N := 10) hx hb hG i_Z hown hK hP 3 rfl rfl 5 (by decide) (hE.1.use k_190) (fun _ h9 => h9) rfl d_C_warmthIfStarted_13 ?_
      refine lv_icmp_ge (tgt := 41) hx hb d_C_warmthIfStarted_16 (by decide) (fun c1 => ?_) (fun c1 => ?_)
      · have e9 : i = b := by have := ge_of_c (i := i) (b := b) (by omega) (by omega) c1; omega
        subst e9
        refine lv_iload_n hx hb d_C_warmthIfStarted_41 rfl (lv_at hl9 0 rfl) ?_
        exact W.iret (v := (wi fO fG zl zh zp mp (fT a) a (i - a))) hx hb hr (fun t ht hW => ⟨⟨(wi fO fG zl zh zp mp (fT a) a (i - a)), (), rfl, rfl, trivial⟩, hS.F ht⟩) hS.2.2 d_C_warmthIfStarted_42
      · have e9 : i < b := lt_of_c (by omega) (by omega) c1
        have hin1 : vp_in (nI i) 1440 := vp_in_nI (by omega) (by omega)
        refine lv_aload_n hx hb d_C_warmthIfStarted_19 rfl (lv_at hl9 2 rfl) ?_
        refine lv_aload_n hx hb d_C_warmthIfStarted_20 rfl (lv_at hl9 3 rfl) ?_
        refine lv_iload_n hx hb d_C_warmthIfStarted_21 rfl (lv_at hl9 0 rfl) ?_
        refine lv_iload hx hb d_C_warmthIfStarted_22 (lv_at hl9 1 rfl) ?_
        refine lv_aload_n hx hb d_C_warmthIfStarted_24 rfl (lv_at hl9 2 rfl) ?_
        refine lv_aload_n hx hb d_C_warmthIfStarted_25 rfl (lv_at hl9 3 rfl) ?_
        refine lv_iload hx hb d_C_warmthIfStarted_26 (lv_at hl9 1 rfl) ?_
        have hPc := hP.sub (ws' := [(a0, .inr (2, [.ref aZ, .int zc, .ref aO, .int orr, .int ol, .int mp, .ref aG, .int pl, .int fa, .int fb, .ref aP, .ref aW, .ref aK])), (aG, .inl (cI, 1440, .inl fG)), (za, .inr (1, [.int zh, .int zl, .int zf, .int zp, .int zr, .int (nI b), .int zw, .ref la, .int zs, .ref wa]))]) [0, 2, 3] rfl
        have hDc := hD.sub (ws' := [(a0, .inr (2, [.ref aZ, .int zc, .ref aO, .int orr, .int ol, .int mp, .ref aG, .int pl, .int fa, .int fb, .ref aP, .ref aW, .ref aK])), (aG, .inl (cI, 1440, .inl fG)), (za, .inr (1, [.int zh, .int zl, .int zf, .int zp, .int zr, .int (nI b), .int zw, .ref la, .int zs, .ref wa]))]) [0, 2, 3] (by decide) rfl
        have hFc := va_A_nil hA hS.1
        refine va_calli (va_runV (C := R_C) (As := [.ref za, .int (nI i)]) (rest := [.int (nI i), .int (wi fO fG zl zh zp mp (fT a) a (i - a)), .ref za, .ref a0]) ⟨hx, hb, hml, hown, hG⟩ (c_shareOf l dC dI cI cJ cZ cB a0 aZ aO aG aP aW aK zc orr ol mp pl fa fb fG za la wa zh zl zf zp zr (nI b) zw zs (nI i) H.size hin1) (cwV 2 hG g_C_201 rfl rfl rfl (by decide +kernel) ⟨Nat.le_of_ble_eq_true rfl, Nat.le_of_ble_eq_true rfl⟩) ⟨PC.blind, va_recv hK hP (ci := 2) (q0 := 0) rfl rfl, PC.of hPc hK hDc hE hS hFc⟩ rfl rfl hl9.1 rfl (lv_room (Nat.le_of_ble_eq_true rfl)) d_C_warmthIfStarted_28 ⟨by first | exact Nat.le_of_ble_eq_true rfl | omega, by first | exact Nat.le_of_ble_eq_true rfl | omega⟩) hS (fun q _ h => hFc q h) hFc (fun r2 u t H1 locs ht hvm hw hB hz1 hk1 hS => ?_)
        have hP := wp_kept hP hk1
        have hw : r2 = if zp < mp - fG (nI i).toNatClampNeg then zp else mp - fG (nI i).toNatClampNeg := hw
        subst hw
        have e6 : (if zp < mp - fG (nI i).toNatClampNeg then zp else mp - fG (nI i).toNatClampNeg) = sh fG zp mp i := by rw [nI_clamp (by omega)]; rfl
        rw [e6]
        have hPc := hP.sub (ws' := [(a0, .inr (2, [.ref aZ, .int zc, .ref aO, .int orr, .int ol, .int mp, .ref aG, .int pl, .int fa, .int fb, .ref aP, .ref aW, .ref aK])), (aO, .inl (cI, 1440, .inl fO)), (za, .inr (1, [.int zh, .int zl, .int zf, .int zp, .int zr, .int (nI b), .int zw, .ref la, .int zs, .ref wa]))]) [0, 1, 3] rfl
        have hDc := hD.sub (ws' := [(a0, .inr (2, [.ref aZ, .int zc, .ref aO, .int orr, .int ol, .int mp, .ref aG, .int pl, .int fa, .int fb, .ref aP, .ref aW, .ref aK])), (aO, .inl (cI, 1440, .inl fO)), (za, .inr (1, [.int zh, .int zl, .int zf, .int zp, .int zr, .int (nI b), .int zw, .ref la, .int zs, .ref wa]))]) [0, 1, 3] (by decide) rfl
        have hFc := va_A_nil hA hS.1
        refine va_calli (va_runV (C := R_C) (As := [.ref za, .int (wi fO fG zl zh zp mp (fT a) a (i - a)), .int (nI i), .int (sh fG zp mp i)]) (rest := []) ⟨hx, hb, hml, hown, hG⟩ (c_warmthAfter l dC dI cI cJ cZ cB a0 aZ aO aG aP aW aK zc orr ol mp pl fa fb fO za la wa zh zl zf zp zr (nI b) zw zs (wi fO fG zl zh zp mp (fT a) a (i - a)) (nI i) (sh fG zp mp i) H1.size hin1 hzl hzh) (cwV 4 hG g_C_179 rfl rfl rfl (by decide +kernel) ⟨Nat.le_of_ble_eq_true rfl, Nat.le_of_ble_eq_true rfl⟩) ⟨PC.blind, va_recv hK hP (ci := 2) (q0 := 0) rfl rfl, PC.of hPc hK hDc hE hS hFc⟩ rfl rfl hl9.1 rfl (lv_room (Nat.le_of_ble_eq_true rfl)) d_C_warmthIfStarted_31 ⟨by first | exact Nat.le_of_ble_eq_true rfl | omega, by first | exact Nat.le_of_ble_eq_true rfl | omega⟩) hS (fun q _ h => hFc q h) hFc (fun r4 u t H3 locs ht hvm hw hB hz1 hk1 hS => ?_)
        have hP := wp_kept hP hk1
        have hw : r4 = (wi fO fG zl zh zp mp (fT a) a (i - a)) + (fO (nI i).toNatClampNeg - (wi fO fG zl zh zp mp (fT a) a (i - a))) / zl + (sh fG zp mp i) / zh := hw
        subst hw
        refine lv_istore_n (lv' := [(3, .int ((wi fO fG zl zh zp mp (fT a) a (i - a)) + (fO (nI i).toNatClampNeg - (wi fO fG zl zh zp mp (fT a) a (i - a))) / zl + (sh fG zp mp i) / zh)), (4, .int (nI i)), (0, .ref a0), (1, .ref za)]) hx hb d_C_warmthIfStarted_34 rfl hl9 (by decide) rfl (fun ls hl9 => ?_)
        refine lv_iinc (v := ((nI i) + 1)) (lv' := [(4, .int ((nI i) + 1)), (3, .int ((wi fO fG zl zh zp mp (fT a) a (i - a)) + (fO (nI i).toNatClampNeg - (wi fO fG zl zh zp mp (fT a) a (i - a))) / zl + (sh fG zp mp i) / zh)), (0, .ref a0), (1, .ref za)]) hx hb d_C_warmthIfStarted_35 hl9 (k := 1) rfl rfl (by decide) rfl (fun ls hl9 => ?_)
        refine lv_goto (tgt := 10) hx hb d_C_warmthIfStarted_38 (by decide) ?_
        have e8 : wi fO fG zl zh zp mp (fT a) a (i - a) + (fO (nI i).toNatClampNeg - wi fO fG zl zh zp mp (fT a) a (i - a)) / zl + sh fG zp mp i / zh = wi fO fG zl zh zp mp (fT a) a (i + 1 - a) := by rw [nI_clamp (by omega), show i + 1 - a = (i - a) + 1 by omega]; show _ = wi fO fG zl zh zp mp (fT a) a (i - a) + (fO (a + (i - a)) - wi fO fG zl zh zp mp (fT a) a (i - a)) / zl + sh fG zp mp (a + (i - a)) / zh; rw [show a + (i - a) = i by omega]
        rw [e8, nI_1] at hl9
        exact ih (i + 1) (by omega) (by omega) (by omega) _ _ ls hP hS (lv_sub hl9 [1, 0, 2, 3] rfl)
  have e7 : fT (nI a).toNatClampNeg = wi fO fG zl zh zp mp (fT a) a (a - a) := by rw [Nat.sub_self, nI_clamp (by omega)]; rfl
  rw [e7] at hl9
  exact lp (b + 1 - a) a (Nat.le_refl a) hab (by omega) _ _ ls hP hS (lv_sub hl9 [1, 0, 2, 3] rfl)
set_option maxHeartbeats 4000000 in
set_option maxRecDepth 100000 in
theorem c_latestStart (l : Launch) (dC : Nat → ClassId) (dI : Nat → Nat → Nat) (cI cJ cZ cB : ClassId) (a0 aZ aO aG aP aW aK : Nat) (zc orr ol mp pl fa fb : Int32) (fO fG : Nat → Int32) (za la wa : Nat) (zh zl zf zp zr zm zw zs : Int32) (fT : Nat → Int32) (b : Nat) (sz : Nat) (hb1 : b < 1440) (hzl : ¬ zl = 0) (hzh : ¬ zh = 0) : Met l y_C_latestStart w_C_latestStart ({ frames := 2, cells := 0, slots := 0, locals := 48 }) (PC (dC, dI) (TY cI cJ cZ cB) [.ref a0, .ref za] [(a0, .inr (2, [.ref aZ, .int zc, .ref aO, .int orr, .int ol, .int mp, .ref aG, .int pl, .int fa, .int fb, .ref aP, .ref aW, .ref aK])), (aO, .inl (cI, 1440, .inl fO)), (aG, .inl (cI, 1440, .inl fG)), (za, .inr (1, [.int zh, .int zl, .int zf, .int zp, .int zr, .int (nI b), .int zw, .ref la, .int zs, .ref wa])), (wa, .inl (cI, 1441, .inl fT))] sz (va_A [] sz)) (va_Qi (fun (r : Int32) (_ : Unit) => r = nI (lst fO fG fT zl zh zp mp zw b 11)) (fun (_ : Unit) (_ : State) => True) (va_A [] sz)) 0 0 (va_A [] sz) := by
  refine Met.ofW (cc := b_C_latestStart) (maxL := 5) (ret := (some .int)) (by decide) rfl ?_
  intro p e s m args below meth c s₁ B hml hv
  obtain ⟨rfl, hsz, hP, hK, hD0, hE⟩ := hv
  have hx := B.exec
  have hb := B.bytes
  have hr := B.returns
  have hG : ∀ w ∈ GG, w.before _ s = true := fun w h => atoms_spec (ws := w_C_latestStart) B.pre w (List.mem_cons_of_mem _ h)
  have hown : s.vm.findClass R_C = some m.cls := findClass_of_methodNamed B.named
  have hlocks := B.notSynchronized
  subst hsz
  generalize hAe : (va_A [] s.heap.size) = A at hE ⊢
  have hA : ∀ q : Nat, s.heap.size ≤ q → A q := fun q h => by rw [← hAe]; exact Or.inr h
  have hS : va_S A s.heap s.heap [] := va_S.rf
  have hD := hD0
  obtain ⟨H, hH⟩ : ∃ z, z = s.heap := ⟨_, rfl⟩
  rw [← hH] at hP
  have hS : va_S A s.heap H [] := by rw [hH]; exact hS
  rw [← hH]
  have hl9 := lv_entry ([.ref a0, .ref za]) (n := 5) (Nat.le_of_ble_eq_true rfl)
  rw [lg_entry_eq]
  generalize (lg_sl ([.ref a0, .ref za]) ++ List.replicate (5 - (lg_sl ([.ref a0, .ref za])).length) Slot.unset).toArray = ls at hl9 ⊢
  have hl9 : lv_has ls 5 [(0, .ref a0), (1, .ref za)] := hl9
  refine lv_iconst (v := 0) hx hb d_C_latestStart_0 (by decide) ?_
  refine lv_istore_n (lv' := [(2, .int 0), (0, .ref a0), (1, .ref za)]) hx hb d_C_latestStart_1 rfl hl9 (by decide) rfl (fun ls hl9 => ?_)
  refine lv_sipush (v := 1024) hx hb d_C_latestStart_2 (by decide) ?_
  refine lv_istore_n (lv' := [(3, .int 1024), (2, .int 0), (0, .ref a0), (1, .ref za)]) hx hb d_C_latestStart_5 rfl hl9 (by decide) rfl (fun ls hl9 => ?_)
  have lp : ∀ (n : Nat) (j : Nat), j ≤ 11 → 12 ≤ j + n → ∀ (H : Heap) (locs : List Loc) (ls : Array Slot), va_P (dC, dI) vwCl [(a0, .inr (2, [.ref aZ, .int zc, .ref aO, .int orr, .int ol, .int mp, .ref aG, .int pl, .int fa, .int fb, .ref aP, .ref aW, .ref aK])), (aO, .inl (cI, 1440, .inl fO)), (aG, .inl (cI, 1440, .inl fG)), (za, .inr (1, [.int zh, .int zl, .int zf, .int zp, .int zr, .int (nI b), .int zw, .ref la, .int zs, .ref wa])), (wa, .inl (cI, 1441, .inl fT))] H → va_S A s.heap H locs → lv_has ls 5 [(2, .int (nI (lst fO fG fT zl zh zp mp zw b j))), (3, .int (nI (1024 / 2 ^ j))), (0, .ref a0), (1, .ref za)] → W p l e (headSpec w_C_latestStart ({ frames := 2, cells := 0, slots := 0, locals := 48 })).room s m ([.ref a0, .ref za] : List Value).toArray below meth c H locs 0 0 (MQ below (va_Qi (fun (r : Int32) (_ : Unit) => r = nI (lst fO fG fT zl zh zp mp zw b 11)) (fun (_ : Unit) (_ : State) => True) A) ([.ref a0, .ref za] : List Value).toArray s 0 0 A) (F0 m 6 ls []) := by
    intro n
    induction n with
    | zero =>
      intro j hj hin
      exact absurd hin (by omega)
    | succ n ih =>
      intro j hj hin H locs ls hP hS hl9
      have hsb : lst fO fG fT zl zh zp mp zw b j ≤ b := lst_le _ _ _ _ _ _ _ _ _ j
      have hst : 1024 / 2 ^ j ≤ 1024 := Nat.div_le_self _ _
      refine lv_iload_n hx hb d_C_latestStart_6 rfl (lv_at hl9 1 rfl) ?_
      refine lv_if_le (tgt := 48) hx hb d_C_latestStart_7 (by decide) (fun c1 => ?_) (fun c1 => ?_)
      · have e9 : j = 11 := st_done hj c1
        refine lv_iload_n hx hb d_C_latestStart_48 rfl (lv_at hl9 0 rfl) ?_
        exact W.iret (v := (nI (lst fO fG fT zl zh zp mp zw b j))) hx hb hr (fun t ht hW => ⟨⟨(nI (lst fO fG fT zl zh zp mp zw b j)), (), rfl, by rw [e9], trivial⟩, hS.F ht⟩) hS.2.2 d_C_latestStart_49
      · have e9 : j < 11 := st_more hj c1
        obtain ⟨t9, et9⟩ : ∃ z, z = lst fO fG fT zl zh zp mp zw b j + 1024 / 2 ^ j := ⟨_, rfl⟩
        have e5 : nI (1024 / 2 ^ j) / 2 = nI (1024 / 2 ^ (j + 1)) := st_half j
        refine lv_iload_n hx hb d_C_latestStart_10 rfl (lv_at hl9 0 rfl) ?_
        refine lv_iload_n hx hb d_C_latestStart_11 rfl (lv_at hl9 1 rfl) ?_
        refine lv_iadd hx hb d_C_latestStart_12 ?_
        refine lv_istore (lv' := [(4, .int ((nI (lst fO fG fT zl zh zp mp zw b j)) + (nI (1024 / 2 ^ j)))), (2, .int (nI (lst fO fG fT zl zh zp mp zw b j))), (3, .int (nI (1024 / 2 ^ j))), (0, .ref a0), (1, .ref za)]) hx hb d_C_latestStart_13 hl9 (by decide) rfl (fun ls hl9 => ?_)
        rw [nI_add, ← et9] at hl9
        refine lv_iload hx hb d_C_latestStart_15 (lv_at hl9 0 rfl) ?_
        refine lv_aload_n hx hb d_C_latestStart_17 rfl (lv_at hl9 4 rfl) ?_
        refine va_getN (D := (dC, dI)) (ci := 1) (v := .int (nI b)) (C := R_Z) (T := F_Z) (N := 10) hx hb hG i_Z hown hK hP 3 rfl rfl 5 (by decide) (hE.1.use k_190) (fun _ h9 => h9) rfl d_C_latestStart_18 ?_
        refine lv_icmp_gt (tgt := 41) hx hb d_C_latestStart_21 (by decide) (fun c2 => ?_) (fun c2 => ?_)
        · have e4 : nI (lst fO fG fT zl zh zp mp zw b j) = nI (lst fO fG fT zl zh zp mp zw b (j + 1)) := by show _ = nI (if _ then _ else _); rw [if_neg (by rw [← et9]; exact fun h => Int32.not_le.mpr c2 (nI_le h.1 (by omega)))]
          refine lv_iload_n hx hb d_C_latestStart_41 rfl (lv_at hl9 2 rfl) ?_
          refine lv_iconst (v := 2) hx hb d_C_latestStart_42 (by decide) ?_
          refine lv_idiv hx hb d_C_latestStart_43 (by decide) ?_
          refine lv_istore_n (lv' := [(3, .int ((nI (1024 / 2 ^ j)) / 2)), (4, .int (nI t9)), (2, .int (nI (lst fO fG fT zl zh zp mp zw b j))), (0, .ref a0), (1, .ref za)]) hx hb d_C_latestStart_44 rfl hl9 (by decide) rfl (fun ls hl9 => ?_)
          refine lv_goto (tgt := 6) hx hb d_C_latestStart_45 (by decide) ?_
          rw [e5] at hl9
          rw [e4] at hl9
          exact ih (j + 1) (by omega) (by omega) _ _ ls hP hS (lv_sub hl9 [2, 0, 3, 4] rfl)
        · have hle : t9 ≤ b := (nI_leI (by omega) (by omega)).mp (Int32.not_lt.mp c2)
          refine lv_aload_n hx hb d_C_latestStart_24 rfl (lv_at hl9 3 rfl) ?_
          refine lv_aload_n hx hb d_C_latestStart_25 rfl (lv_at hl9 4 rfl) ?_
          refine lv_iload hx hb d_C_latestStart_26 (lv_at hl9 0 rfl) ?_
          have hPc := hP.sub (ws' := [(a0, .inr (2, [.ref aZ, .int zc, .ref aO, .int orr, .int ol, .int mp, .ref aG, .int pl, .int fa, .int fb, .ref aP, .ref aW, .ref aK])), (aO, .inl (cI, 1440, .inl fO)), (aG, .inl (cI, 1440, .inl fG)), (za, .inr (1, [.int zh, .int zl, .int zf, .int zp, .int zr, .int (nI b), .int zw, .ref la, .int zs, .ref wa])), (wa, .inl (cI, 1441, .inl fT))]) [0, 1, 2, 3, 4] rfl
          have hDc := hD.sub (ws' := [(a0, .inr (2, [.ref aZ, .int zc, .ref aO, .int orr, .int ol, .int mp, .ref aG, .int pl, .int fa, .int fb, .ref aP, .ref aW, .ref aK])), (aO, .inl (cI, 1440, .inl fO)), (aG, .inl (cI, 1440, .inl fG)), (za, .inr (1, [.int zh, .int zl, .int zf, .int zp, .int zr, .int (nI b), .int zw, .ref la, .int zs, .ref wa])), (wa, .inl (cI, 1441, .inl fT))]) [0, 1, 2, 3, 4] (by decide) rfl
          have hFc := va_A_nil hA hS.1
          refine va_calli (va_runV (C := R_C) (As := [.ref za, .int (nI t9)]) (rest := []) ⟨hx, hb, hml, hown, hG⟩ (c_warmthIfStarted l dC dI cI cJ cZ cB a0 aZ aO aG aP aW aK zc orr ol mp pl fa fb fO fG za la wa zh zl zf zp zr (nI b) zw zs fT t9 b H.size hle hb1 hzl hzh) (cwV 2 hG g_C_197 rfl rfl rfl (by decide +kernel) ⟨Nat.le_of_ble_eq_true rfl, Nat.le_of_ble_eq_true rfl⟩) ⟨PC.blind, va_recv hK hP (ci := 2) (q0 := 0) rfl rfl, PC.of hPc hK hDc hE hS hFc⟩ rfl rfl hl9.1 rfl (lv_room (Nat.le_of_ble_eq_true rfl)) d_C_latestStart_28 ⟨by first | exact Nat.le_of_ble_eq_true rfl | omega, by first | exact Nat.le_of_ble_eq_true rfl | omega⟩) hS (fun q _ h => hFc q h) hFc (fun r2 u t H1 locs ht hvm hw hB hz1 hk1 hS => ?_)
          have hP := wp_kept hP hk1
          have hw : r2 = wi fO fG zl zh zp mp (fT t9) t9 (b - t9) := hw
          subst hw
          refine lv_aload_n hx hb d_C_latestStart_31 rfl (lv_at hl9 4 rfl) ?_
          refine va_getN (D := (dC, dI)) (ci := 1) (v := .int zw) (C := R_Z) (T := F_Z) (N := 10) hx hb hG i_Z hown hK hP 3 rfl rfl 6 (by decide) (hE.1.use k_192) (fun _ h9 => h9) rfl d_C_latestStart_32 ?_
          refine lv_icmp_lt (tgt := 41) hx hb d_C_latestStart_35 (by decide) (fun c3 => ?_) (fun c3 => ?_)
          · have e4 : nI (lst fO fG fT zl zh zp mp zw b j) = nI (lst fO fG fT zl zh zp mp zw b (j + 1)) := by show _ = nI (if _ then _ else _); rw [if_neg (by rw [← et9]; exact fun h => Int32.not_le.mpr c3 h.2)]
            refine lv_iload_n hx hb d_C_latestStart_41 rfl (lv_at hl9 2 rfl) ?_
            refine lv_iconst (v := 2) hx hb d_C_latestStart_42 (by decide) ?_
            refine lv_idiv hx hb d_C_latestStart_43 (by decide) ?_
            refine lv_istore_n (lv' := [(3, .int ((nI (1024 / 2 ^ j)) / 2)), (4, .int (nI t9)), (2, .int (nI (lst fO fG fT zl zh zp mp zw b j))), (0, .ref a0), (1, .ref za)]) hx hb d_C_latestStart_44 rfl hl9 (by decide) rfl (fun ls hl9 => ?_)
            refine lv_goto (tgt := 6) hx hb d_C_latestStart_45 (by decide) ?_
            rw [e5] at hl9
            rw [e4] at hl9
            exact ih (j + 1) (by omega) (by omega) _ _ ls hP hS (lv_sub hl9 [2, 0, 3, 4] rfl)
          · have e4 : nI t9 = nI (lst fO fG fT zl zh zp mp zw b (j + 1)) := by show _ = nI (if _ then _ else _); rw [if_pos (by rw [← et9]; exact ⟨hle, Int32.not_lt.mp c3⟩), et9]
            refine lv_iload hx hb d_C_latestStart_38 (lv_at hl9 0 rfl) ?_
            refine lv_istore_n (lv' := [(2, .int (nI t9)), (4, .int (nI t9)), (3, .int (nI (1024 / 2 ^ j))), (0, .ref a0), (1, .ref za)]) hx hb d_C_latestStart_40 rfl hl9 (by decide) rfl (fun ls hl9 => ?_)
            refine lv_iload_n hx hb d_C_latestStart_41 rfl (lv_at hl9 2 rfl) ?_
            refine lv_iconst (v := 2) hx hb d_C_latestStart_42 (by decide) ?_
            refine lv_idiv hx hb d_C_latestStart_43 (by decide) ?_
            refine lv_istore_n (lv' := [(3, .int ((nI (1024 / 2 ^ j)) / 2)), (2, .int (nI t9)), (4, .int (nI t9)), (0, .ref a0), (1, .ref za)]) hx hb d_C_latestStart_44 rfl hl9 (by decide) rfl (fun ls hl9 => ?_)
            refine lv_goto (tgt := 6) hx hb d_C_latestStart_45 (by decide) ?_
            rw [e5] at hl9
            rw [e4] at hl9
            exact ih (j + 1) (by omega) (by omega) _ _ ls hP hS (lv_sub hl9 [1, 0, 3, 4] rfl)
  exact lp 12 0 (by omega) (by omega) _ _ ls hP hS (lv_sub hl9 [1, 0, 2, 3] rfl)
