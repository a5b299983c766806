/-- what a zone gets in a minute -/
def sh (g : Nat → Int32) (zp mp : Int32) (k : Nat) : Int32 := if zp < mp - g k then zp else mp - g k
/-- left unheated from minute a on, n minutes -/
def lu (o : Nat → Int32) (L hd : Int32) (T : Nat → Int32) (a : Nat) : Nat → Nat → Int32
  | 0 => T
  | n + 1 => upd (lu o L hd T a n) (a + n + 1) (lu o L hd T a n (a + n) + (o (a + n) - lu o L hd T a n (a + n)) / L + 0 / hd)
/-- heated from minute a on, n minutes, from the warmth x -/
def wi (o g : Nat → Int32) (L hd zp mp x : Int32) (a : Nat) : Nat → Int32
  | 0 => x
  | n + 1 => wi o g L hd zp mp x a n + (o (a + n) - wi o g L hd zp mp x a n) / L + sh g zp mp (a + n) / hd
/-- .. the warmths, and what is given -/
def hf (o : Nat → Int32) (L hd zp mp : Int32) (T g : Nat → Int32) (a : Nat) : Nat → (Nat → Int32) × (Nat → Int32)
  | 0 => (T, g)
  | n + 1 => (upd (hf o L hd zp mp T g a n).1 (a + n + 1) ((hf o L hd zp mp T g a n).1 (a + n) + (o (a + n) - (hf o L hd zp mp T g a n).1 (a + n)) / L + sh (hf o L hd zp mp T g a n).2 zp mp (a + n) / hd), upd (hf o L hd zp mp T g a n).2 (a + n) ((hf o L hd zp mp T g a n).2 (a + n) + sh (hf o L hd zp mp T g a n).2 zp mp (a + n)))
/-- the latest start by halving steps, behind j steps -/
def lst (o g T : Nat → Int32) (L hd zp mp ww : Int32) (b : Nat) : Nat → Nat
  | 0 => 0
  | j + 1 => if lst o g T L hd zp mp ww b j + 1024 / 2 ^ j ≤ b ∧ ww ≤ wi o g L hd zp mp (T (lst o g T L hd zp mp ww b j + 1024 / 2 ^ j)) (lst o g T L hd zp mp ww b j + 1024 / 2 ^ j) (b - (lst o g T L hd zp mp ww b j + 1024 / 2 ^ j)) then lst o g T L hd zp mp ww b j + 1024 / 2 ^ j else lst o g T L hd zp mp ww b j
theorem lst_le (o g T : Nat → Int32) (L hd zp mp ww : Int32) (b : Nat) : ∀ j, lst o g T L hd zp mp ww b j ≤ b := by
  intro j
  induction j with
  | zero => exact Nat.zero_le _
  | succ j ih =>
    show (if _ then _ else _) ≤ b
    split
    · rename_i h; exact h.1
    · exact ih
/-- what the minutes from a on cost -/
def cm (f : Nat → Int32) (zp : Int32) (a : Nat) : Nat → Int64
  | 0 => 0
  | n + 1 => cm f zp a n + zp.toInt64 * (f ((a + n) / 60)).toInt64
theorem lt_of_c {i b : Nat} (hi : i < 2 ^ 31) (hb : b < 2 ^ 31) (c : ¬ nI b ≤ nI i) : i < b := by
  rcases Nat.lt_or_ge i b with q | q
  · exact q
  · exact absurd (nI_le q hi) c
theorem ge_of_c {i b : Nat} (hi : i < 2 ^ 31) (hb : b < 2 ^ 31) (c : nI b ≤ nI i) : b ≤ i := (nI_leI hb hi).mp c
theorem upd_c (f : Nat → Int32) {n : Nat} (h : n < 2 ^ 31) (x : Int32) : upd f (nI n).toNatClampNeg x = upd f n x := by rw [nI_clamp h]
set_option maxHeartbeats 4000000 in
set_option maxRecDepth 100000 in
theorem c_wantsWarmth (l : Launch) (dC : Nat → ClassId) (dI : Nat → Nat → Nat) (cI cJ cZ cB : ClassId) (za la wa : Nat) (zh zl zf zp zr zm zw zs : Int32) (sz : Nat) : Met l y_Z_wantsWarmth w_Z_wantsWarmth ({ frames := 0, cells := 0, slots := 0, locals := 0 }) (PC (dC, dI) (TY cI cJ cZ cB) [.ref za] [(za, .inr (1, [.int zh, .int zl, .int zf, .int zp, .int zr, .int zm, .int zw, .ref la, .int zs, .ref wa]))] sz (va_A [] sz)) (va_Qi (fun (r : Int32) (_ : Unit) => r = if zm = -1 then 0 else 1) (fun (_ : Unit) (_ : State) => True) (va_A [] sz)) 0 0 (va_A [] sz) := by
  refine Met.ofW (cc := b_Z_wantsWarmth) (maxL := 1) (ret := (some .boolean)) (by decide) rfl ?_
  intro p e s m args below meth c s₁ B hml hv
  obtain ⟨rfl, hsz, hP, hK, hD0, hE⟩ := hv
  have hx := B.exec
  have hb := B.bytes
  have hr := B.returns
  have hG : ∀ w ∈ GG, w.before _ s = true := fun w h => atoms_spec (ws := w_Z_wantsWarmth) B.pre w (List.mem_cons_of_mem _ h)
  have hown : s.vm.findClass R_Z = some m.cls := findClass_of_methodNamed B.named
  have hlocks := B.notSynchronized
  subst hsz
  generalize hAe : (va_A [] s.heap.size) = A at hE ⊢
  have hA : ∀ q : Nat, s.heap.size ≤ q → A q := fun q h => by rw [← hAe]; exact Or.inr h
  have hS : va_S A s.heap s.heap [] := va_S.rf
  have hD := hD0
  obtain ⟨H, hH⟩ : ∃ z, z = s.heap := ⟨_, rfl⟩
  rw [← hH] at hP
  have hS : va_S A s.heap H [] := by rw [hH]; exact hS
  rw [← hH]
  have hl9 := lv_entry ([.ref za]) (n := 1) (Nat.le_of_ble_eq_true rfl)
  rw [lg_entry_eq]
  generalize (lg_sl ([.ref za]) ++ List.replicate (1 - (lg_sl ([.ref za])).length) Slot.unset).toArray = ls at hl9 ⊢
  have hl9 : lv_has ls 1 [(0, .ref za)] := hl9
  refine lv_aload_n hx hb d_Z_wantsWarmth_0 rfl (lv_at hl9 0 rfl) ?_
  refine va_get (D := (dC, dI)) (ci := 1) (v := .int zm) (C := R_Z) (T := F_Z) (N := 10) hx hb hG i_Z hown hK hP 0 rfl rfl 5 (by decide) (hG _ k_189) (fun _ h9 => h9) rfl d_Z_wantsWarmth_1 ?_
  refine lv_iconst (v := (-1)) hx hb d_Z_wantsWarmth_4 (by decide) ?_
  refine lv_icmp_eq (tgt := 12) hx hb d_Z_wantsWarmth_5 (by decide) (fun c1 => ?_) (fun c1 => ?_)
  · refine lv_iconst (v := 0) hx hb d_Z_wantsWarmth_12 (by decide) ?_
    exact W.zret (v := 0) hx hb hr rfl (fun t ht hW => ⟨⟨0, (), rfl, by rw [if_pos c1], trivial⟩, hS.F ht⟩) hS.2.2 d_Z_wantsWarmth_13
  · refine lv_iconst (v := 1) hx hb d_Z_wantsWarmth_8 (by decide) ?_
    refine lv_goto (tgt := 13) hx hb d_Z_wantsWarmth_9 (by decide) ?_
    exact W.zret (v := 1) hx hb hr rfl (fun t ht hW => ⟨⟨1, (), rfl, by rw [if_neg c1], trivial⟩, hS.F ht⟩) hS.2.2 d_Z_wantsWarmth_13
set_option maxHeartbeats 4000000 in
set_option maxRecDepth 100000 in
theorem c_quarterBegin (l : Launch) (dC : Nat → ClassId) (dI : Nat → Nat → Nat) (cI cJ cZ cB : ClassId) (za la wa : Nat) (zh zl zf zp zr zm zw zs : Int32) (q mm : Int32) (sz : Nat) : Met l y_C_quarterBegin w_C_quarterBegin ({ frames := 1, cells := 0, slots := 0, locals := 24 }) (PC (dC, dI) (TY cI cJ cZ cB) [.ref za, .int q, .int mm] [(za, .inr (1, [.int zh, .int zl, .int zf, .int zp, .int zr, .int zm, .int zw, .ref la, .int zs, .ref wa]))] sz (va_A [] sz)) (va_Qi (fun (r : Int32) (_ : Unit) => r = if 0 < zm - q * mm then zm - q * mm else 0) (fun (_ : Unit) (_ : State) => True) (va_A [] sz)) 0 0 (va_A [] sz) := by
  refine Met.ofW (cc := b_C_quarterBegin) (maxL := 3) (ret := (some .int)) (by decide) rfl ?_
  intro p e s m args below meth c s₁ B hml hv
  obtain ⟨rfl, hsz, hP, hK, hD0, hE⟩ := hv
  have hx := B.exec
  have hb := B.bytes
  have hr := B.returns
  have hG : ∀ w ∈ GG, w.before _ s = true := fun w h => atoms_spec (ws := w_C_quarterBegin) B.pre w (List.mem_cons_of_mem _ h)
  have hown : s.vm.findClass R_C = some m.cls := findClass_of_methodNamed B.named
  have hlocks := B.notSynchronized
  subst hsz
  generalize hAe : (va_A [] s.heap.size) = A at hE ⊢
  have hA : ∀ q : Nat, s.heap.size ≤ q → A q := fun q h => by rw [← hAe]; exact Or.inr h
  have hS : va_S A s.heap s.heap [] := va_S.rf
  have hD := hD0
  obtain ⟨H, hH⟩ : ∃ z, z = s.heap := ⟨_, rfl⟩
  rw [← hH] at hP
  have hS : va_S A s.heap H [] := by rw [hH]; exact hS
  rw [← hH]
  have hl9 := lv_entry ([.ref za, .int q, .int mm]) (n := 3) (Nat.le_of_ble_eq_true rfl)
  rw [lg_entry_eq]
  generalize (lg_sl ([.ref za, .int q, .int mm]) ++ List.replicate (3 - (lg_sl ([.ref za, .int q, .int mm])).length) Slot.unset).toArray = ls at hl9 ⊢
  have hl9 : lv_has ls 3 [(0, .ref za), (1, .int q), (2, .int mm)] := hl9
  refine lv_iconst (v := 0) hx hb d_C_quarterBegin_0 (by decide) ?_
  refine lv_aload_n hx hb d_C_quarterBegin_1 rfl (lv_at hl9 0 rfl) ?_
  refine va_getN (D := (dC, dI)) (ci := 1) (v := .int zm) (C := R_Z) (T := F_Z) (N := 10) hx hb hG i_Z hown hK hP 0 rfl rfl 5 (by decide) (hE.1.use k_190) (fun _ h9 => h9) rfl d_C_quarterBegin_2 ?_
  refine lv_iload_n hx hb d_C_quarterBegin_5 rfl (lv_at hl9 1 rfl) ?_
  refine lv_iload_n hx hb d_C_quarterBegin_6 rfl (lv_at hl9 2 rfl) ?_
  refine lv_imul hx hb d_C_quarterBegin_7 ?_
  refine lv_isub hx hb d_C_quarterBegin_8 ?_
  refine va_mmax hx hb (hml.trans hl9.1.symm) hown (hG _ k_386) (hG _ k_387) (hG _ k_10) (hG _ k_388) (Nat.le_of_ble_eq_true rfl) (Nat.le_of_ble_eq_true rfl) (Nat.le_of_ble_eq_true rfl) (Nat.le_of_ble_eq_true rfl) d_C_quarterBegin_9 ?_
  exact W.iret (v := (if 0 < (zm - (q * mm)) then (zm - (q * mm)) else 0)) hx hb hr (fun t ht hW => ⟨⟨(if 0 < (zm - (q * mm)) then (zm - (q * mm)) else 0), (), rfl, rfl, trivial⟩, hS.F ht⟩) hS.2.2 d_C_quarterBegin_12
set_option maxHeartbeats 4000000 in
set_option maxRecDepth 100000 in
theorem c_costOfMinutes (l : Launch) (dC : Nat → ClassId) (dI : Nat → Nat → Nat) (cI cJ cZ cB : ClassId) (a0 aZ aO aG aP aW aK : Nat) (zc orr ol mp pl fa fb : Int32) (fP : Nat → Int32) (za la wa : Nat) (zh zl zf zp zr zm zw zs : Int32) (a b : Nat) (sz : Nat) (hab : a ≤ b) (hb1 : b ≤ 1440) : Met l y_C_costOfMinutes w_C_costOfMinutes ({ frames := 0, cells := 0, slots := 0, locals := 0 }) (PC (dC, dI) (TY cI cJ cZ cB) [.ref a0, .ref za, .int (nI a), .int (nI b)] [(a0, .inr (2, [.ref aZ, .int zc, .ref aO, .int orr, .int ol, .int mp, .ref aG, .int pl, .int fa, .int fb, .ref aP, .ref aW, .ref aK])), (aP, .inl (cI, 24, .inl fP)), (za, .inr (1, [.int zh, .int zl, .int zf, .int zp, .int zr, .int zm, .int zw, .ref la, .int zs, .ref wa]))] sz (va_A [] sz)) (va_Ql (fun (r : Int64) (_ : Unit) => r = cm fP zp a (b - a)) (fun (_ : Unit) (_ : State) => True) (va_A [] sz)) 0 0 (va_A [] sz) := by
  refine Met.ofW (cc := b_C_costOfMinutes) (maxL := 7) (ret := (some .long)) (by decide) rfl ?_
  intro p e s m args below meth c s₁ B hml hv
  obtain ⟨rfl, hsz, hP, hK, hD0, hE⟩ := hv
  have hx := B.exec
  have hb := B.bytes
  have hr := B.returns
  have hG : ∀ w ∈ GG, w.before _ s = true := fun w h => atoms_spec (ws := w_C_costOfMinutes) B.pre w (List.mem_cons_of_mem _ h)
  have hown : s.vm.findClass R_C = some m.cls := findClass_of_methodNamed B.named
  have hlocks := B.notSynchronized
  subst hsz
  generalize hAe : (va_A [] s.heap.size) = A at hE ⊢
  have hA : ∀ q : Nat, s.heap.size ≤ q → A q := fun q h => by rw [← hAe]; exact Or.inr h
  have hS : va_S A s.heap s.heap [] := va_S.rf
  have hD := hD0
  obtain ⟨H, hH⟩ : ∃ z, z = s.heap := ⟨_, rfl⟩
  rw [← hH] at hP
  have hS : va_S A s.heap H [] := by rw [hH]; exact hS
  rw [← hH]
  have hl9 := lv_entry ([.ref a0, .ref za, .int (nI a), .int (nI b)]) (n := 7) (Nat.le_of_ble_eq_true rfl)
  rw [lg_entry_eq]
  generalize (lg_sl ([.ref a0, .ref za, .int (nI a), .int (nI b)]) ++ List.replicate (7 - (lg_sl ([.ref a0, .ref za, .int (nI a), .int (nI b)])).length) Slot.unset).toArray = ls at hl9 ⊢
  have hl9 : lv_has ls 7 [(0, .ref a0), (1, .ref za), (2, .int (nI a)), (3, .int (nI b))] := hl9
  refine lv_lconst (v := 0) hx hb d_C_costOfMinutes_0 (by decide) ?_
  refine lv_lstore (lv' := [(4, .long 0), (0, .ref a0), (1, .ref za), (2, .int (nI a)), (3, .int (nI b))]) hx hb d_C_costOfMinutes_1 hl9 (by decide) rfl (fun ls hl9 => ?_)
  refine lv_iload_n hx hb d_C_costOfMinutes_3 rfl (lv_at hl9 3 rfl) ?_
  refine lv_istore (lv' := [(6, .int (nI a)), (4, .long 0), (0, .ref a0), (1, .ref za), (2, .int (nI a)), (3, .int (nI b))]) hx hb d_C_costOfMinutes_4 hl9 (by decide) rfl (fun ls hl9 => ?_)
  have lp : ∀ (n : Nat) (i : Nat), a ≤ i → i ≤ b → b + 1 ≤ i + n → ∀ (H : Heap) (locs : List Loc) (ls : Array Slot), va_P (dC, dI) vwCl [(a0, .inr (2, [.ref aZ, .int zc, .ref aO, .int orr, .int ol, .int mp, .ref aG, .int pl, .int fa, .int fb, .ref aP, .ref aW, .ref aK])), (aP, .inl (cI, 24, .inl fP)), (za, .inr (1, [.int zh, .int zl, .int zf, .int zp, .int zr, .int zm, .int zw, .ref la, .int zs, .ref wa]))] H → va_S A s.heap H locs → lv_has ls 7 [(4, .long (cm fP zp a (i - a))), (6, .int (nI i)), (0, .ref a0), (1, .ref za), (3, .int (nI b))] → W p l e (headSpec w_C_costOfMinutes ({ frames := 0, cells := 0, slots := 0, locals := 0 })).room s m ([.ref a0, .ref za, .int (nI a), .int (nI b)] : List Value).toArray below meth c H locs 0 0 (MQ below (va_Ql (fun (r : Int64) (_ : Unit) => r = cm fP zp a (b - a)) (fun (_ : Unit) (_ : State) => True) A) ([.ref a0, .ref za, .int (nI a), .int (nI b)] : List Value).toArray s 0 0 A) (F0 m 6 ls []) := by
    intro n
    induction n with
    | zero =>
      intro i hai hib hin
      exact absurd hin (by omega)
    | succ n ih =>
      intro i hai hib hin H locs ls hP hS hl9
      refine lv_iload hx hb d_C_costOfMinutes_6 (lv_at hl9 1 rfl) ?_
      refine lv_iload_n hx hb d_C_costOfMinutes_8 rfl (lv_at hl9 4 rfl) ?_
      refine lv_icmp_ge (tgt := 40) hx hb d_C_costOfMinutes_9 (by decide) (fun c1 => ?_) (fun c1 => ?_)
      · have e9 : i = b := by have := ge_of_c (i := i) (b := b) (by omega) (by omega) c1; omega
        subst e9
        refine lv_lload hx hb d_C_costOfMinutes_40 (lv_at hl9 0 rfl) ?_
        exact W.lret (v := (cm fP zp a (i - a))) hx hb hr (fun t ht hW => ⟨⟨(cm fP zp a (i - a)), (), rfl, rfl, trivial⟩, hS.F ht⟩) hS.2.2 d_C_costOfMinutes_42
      · have e9 : i < b := lt_of_c (by omega) (by omega) c1
        have e6 : nI i / 60 = nI (i / 60) := pk_div (d := 60) (by omega) (by decide) (by decide)
        have hin : vp_in (nI i / 60) 24 := by rw [e6]; exact vp_in_nI (by omega) (by omega)
        refine lv_lload hx hb d_C_costOfMinutes_12 (lv_at hl9 0 rfl) ?_
        refine lv_aload_n hx hb d_C_costOfMinutes_14 rfl (lv_at hl9 3 rfl) ?_
        refine va_getN (D := (dC, dI)) (ci := 1) (v := .int zp) (C := R_Z) (T := F_Z) (N := 10) hx hb hG i_Z hown hK hP 2 rfl rfl 3 (by decide) (hE.1.use k_186) (fun _ h9 => h9) rfl d_C_costOfMinutes_15 ?_
        refine lv_i2l hx hb d_C_costOfMinutes_18 rfl ?_
        refine lv_aload_n hx hb d_C_costOfMinutes_19 rfl (lv_at hl9 2 rfl) ?_
        refine va_get (D := (dC, dI)) (ci := 2) (v := .ref aP) (C := R_C) (T := F_C) (N := 13) hx hb hG i_C hown hK hP 0 rfl rfl 10 (by decide) (hG _ k_32) (fun _ h9 => h9) rfl d_C_costOfMinutes_20 ?_
        refine lv_iload hx hb d_C_costOfMinutes_23 (lv_at hl9 1 rfl) ?_
        refine lv_bipush (v := 60) hx hb d_C_costOfMinutes_25 (by decide) ?_
        refine lv_idiv hx hb d_C_costOfMinutes_27 (by decide) ?_
        refine va_iald hx hb hK hP 1 0 rfl rfl (hin) d_C_costOfMinutes_28 ?_
        refine lv_i2l hx hb d_C_costOfMinutes_29 rfl ?_
        refine lv_lmul hx hb d_C_costOfMinutes_30 ?_
        refine lv_ladd hx hb d_C_costOfMinutes_31 ?_
        refine lv_lstore (lv' := [(4, .long ((cm fP zp a (i - a)) + (zp.toInt64 * ((fP ((nI i) / 60).toNatClampNeg).toInt64)))), (6, .int (nI i)), (0, .ref a0), (1, .ref za), (3, .int (nI b))]) hx hb d_C_costOfMinutes_32 hl9 (by decide) rfl (fun ls hl9 => ?_)
        refine lv_iinc (v := ((nI i) + 1)) (lv' := [(6, .int ((nI i) + 1)), (4, .long ((cm fP zp a (i - a)) + (zp.toInt64 * ((fP ((nI i) / 60).toNatClampNeg).toInt64)))), (0, .ref a0), (1, .ref za), (3, .int (nI b))]) hx hb d_C_costOfMinutes_34 hl9 (k := 1) rfl rfl (by decide) rfl (fun ls hl9 => ?_)
        refine lv_goto (tgt := 6) hx hb d_C_costOfMinutes_37 (by decide) ?_
        have e8 : cm fP zp a (i - a) + zp.toInt64 * (fP (nI i / 60).toNatClampNeg).toInt64 = cm fP zp a (i + 1 - a) := by rw [e6, nI_clamp (by omega), show i + 1 - a = (i - a) + 1 by omega]; show _ = cm fP zp a (i - a) + zp.toInt64 * (fP ((a + (i - a)) / 60)).toInt64; rw [show a + (i - a) = i by omega]
        rw [e8, nI_1] at hl9
        exact ih (i + 1) (by omega) (by omega) (by omega) _ _ ls hP hS (lv_sub hl9 [1, 0, 2, 3, 4] rfl)
  have e7 : (0 : Int64) = cm fP zp a (a - a) := by rw [Nat.sub_self]; rfl
  rw [e7] at hl9
  exact lp (b + 1 - a) a (Nat.le_refl a) hab (by omega) _ _ ls hP hS (lv_sub hl9 [1, 0, 2, 3, 5] rfl)
set_option maxHeartbeats 4000000 in
set_option maxRecDepth 100000 in
theorem c_leaveUnheated (l : Launch) (dC : Nat → ClassId) (dI : Nat → Nat → Nat) (cI cJ cZ cB : ClassId) (a0 aZ aO aG aP aW aK : Nat) (zc orr ol mp pl fa fb : Int32) (fO : Nat → Int32) (za la wa : Nat) (zh zl zf zp zr zm zw zs : Int32) (fT : Nat → Int32) (a : Nat) (sz : Nat) (ha1 : a ≤ 1440) (hzl : ¬ zl = 0) (hzh : ¬ zh = 0) : Met l y_C_leaveUnheated w_C_leaveUnheated ({ frames := 1, cells := 0, slots := 0, locals := 24 }) (PC (dC, dI) (TY cI cJ cZ cB) [.ref a0, .ref za, .int (nI a)] [(a0, .inr (2, [.ref aZ, .int zc, .ref aO, .int orr, .int ol, .int mp, .ref aG, .int pl, .int fa, .int fb, .ref aP, .ref aW, .ref aK])), (aO, .inl (cI, 1440, .inl fO)), (za, .inr (1, [.int zh, .int zl, .int zf, .int zp, .int zr, .int zm, .int zw, .ref la, .int zs, .ref wa])), (wa, .inl (cI, 1441, .inl fT))] sz (va_A [(a0, .inr (2, [.ref aZ, .int zc, .ref aO, .int orr, .int ol, .int mp, .ref aG, .int pl, .int fa, .int fb, .ref aP, .ref aW, .ref aK])), (aO, .inl (cI, 1440, .inl fO)), (za, .inr (1, [.int zh, .int zl, .int zf, .int zp, .int zr, .int zm, .int zw, .ref la, .int zs, .ref wa])), (wa, .inl (cI, 1441, .inl fT))] sz)) (va_Qv (fun (_ : Unit) => True) (fun (_ : Unit) (t : State) => va_P (dC, dI) vwCl [(a0, .inr (2, [.ref aZ, .int zc, .ref aO, .int orr, .int ol, .int mp, .ref aG, .int pl, .int fa, .int fb, .ref aP, .ref aW, .ref aK])), (aO, .inl (cI, 1440, .inl fO)), (za, .inr (1, [.int zh, .int zl, .int zf, .int zp, .int zr, .int zm, .int zw, .ref la, .int zs, .ref wa])), (wa, .inl (cI, 1441, .inl (lu fO zl zh fT a (1440 - a))))] t.heap) (va_A [(a0, .inr (2, [.ref aZ, .int zc, .ref aO, .int orr, .int ol, .int mp, .ref aG, .int pl, .int fa, .int fb, .ref aP, .ref aW, .ref aK])), (aO, .inl (cI, 1440, .inl fO)), (za, .inr (1, [.int zh, .int zl, .int zf, .int zp, .int zr, .int zm, .int zw, .ref la, .int zs, .ref wa])), (wa, .inl (cI, 1441, .inl fT))] sz)) 0 0 (va_A [(a0, .inr (2, [.ref aZ, .int zc, .ref aO, .int orr, .int ol, .int mp, .ref aG, .int pl, .int fa, .int fb, .ref aP, .ref aW, .ref aK])), (aO, .inl (cI, 1440, .inl fO)), (za, .inr (1, [.int zh, .int zl, .int zf, .int zp, .int zr, .int zm, .int zw, .ref la, .int zs, .ref wa])), (wa, .inl (cI, 1441, .inl fT))] sz) := by
  refine Met.ofW (cc := b_C_leaveUnheated) (maxL := 4) (ret := none) (by decide) rfl ?_
  intro p e s m args below meth c s₁ B hml hv
  obtain ⟨rfl, hsz, hP, hK, hD0, hE⟩ := hv
  have hx := B.exec
  have hb := B.bytes
  have hr := B.returns
  have hG : ∀ w ∈ GG, w.before _ s = true := fun w h => atoms_spec (ws := w_C_leaveUnheated) B.pre w (List.mem_cons_of_mem _ h)
  have hown : s.vm.findClass R_C = some m.cls := findClass_of_methodNamed B.named
  have hlocks := B.notSynchronized
  subst hsz
  have hD := hD0.self (sz := s.heap.size)
  generalize hAe : (va_A [(a0, .inr (2, [.ref aZ, .int zc, .ref aO, .int orr, .int ol, .int mp, .ref aG, .int pl, .int fa, .int fb, .ref aP, .ref aW, .ref aK])), (aO, .inl (cI, 1440, .inl fO)), (za, .inr (1, [.int zh, .int zl, .int zf, .int zp, .int zr, .int zm, .int zw, .ref la, .int zs, .ref wa])), (wa, .inl (cI, 1441, .inl fT))] s.heap.size) = A at hD hE ⊢
  have hA : ∀ q : Nat, s.heap.size ≤ q → A q := fun q h => by rw [← hAe]; exact Or.inr h
  have hS : va_S A s.heap s.heap [] := va_S.rf
  obtain ⟨H, hH⟩ : ∃ z, z = s.heap := ⟨_, rfl⟩
  rw [← hH] at hP
  have hS : va_S A s.heap H [] := by rw [hH]; exact hS
  rw [← hH]
  have hl9 := lv_entry ([.ref a0, .ref za, .int (nI a)]) (n := 4) (Nat.le_of_ble_eq_true rfl)
  rw [lg_entry_eq]
  generalize (lg_sl ([.ref a0, .ref za, .int (nI a)]) ++ List.replicate (4 - (lg_sl ([.ref a0, .ref za, .int (nI a)])).length) Slot.unset).toArray = ls at hl9 ⊢
  have hl9 : lv_has ls 4 [(0, .ref a0), (1, .ref za), (2, .int (nI a))] := hl9
  refine lv_iload_n hx hb d_C_leaveUnheated_0 rfl (lv_at hl9 2 rfl) ?_
  refine lv_istore_n (lv' := [(3, .int (nI a)), (0, .ref a0), (1, .ref za), (2, .int (nI a))]) hx hb d_C_leaveUnheated_1 rfl hl9 (by decide) rfl (fun ls hl9 => ?_)
  have lp : ∀ (n : Nat) (i : Nat), a ≤ i → i ≤ 1440 → 1441 ≤ i + n → ∀ (H : Heap) (locs : List Loc) (ls : Array Slot), va_P (dC, dI) vwCl [(a0, .inr (2, [.ref aZ, .int zc, .ref aO, .int orr, .int ol, .int mp, .ref aG, .int pl, .int fa, .int fb, .ref aP, .ref aW, .ref aK])), (aO, .inl (cI, 1440, .inl fO)), (za, .inr (1, [.int zh, .int zl, .int zf, .int zp, .int zr, .int zm, .int zw, .ref la, .int zs, .ref wa])), (wa, .inl (cI, 1441, .inl (lu fO zl zh fT a (i - a))))] H → va_D A [(a0, .inr (2, [.ref aZ, .int zc, .ref aO, .int orr, .int ol, .int mp, .ref aG, .int pl, .int fa, .int fb, .ref aP, .ref aW, .ref aK])), (aO, .inl (cI, 1440, .inl fO)), (za, .inr (1, [.int zh, .int zl, .int zf, .int zp, .int zr, .int zm, .int zw, .ref la, .int zs, .ref wa])), (wa, .inl (cI, 1441, .inl (lu fO zl zh fT a (i - a))))] → va_S A s.heap H locs → lv_has ls 4 [(3, .int (nI i)), (0, .ref a0), (1, .ref za)] → W p l e (headSpec w_C_leaveUnheated ({ frames := 1, cells := 0, slots := 0, locals := 24 })).room s m ([.ref a0, .ref za, .int (nI a)] : List Value).toArray below meth c H locs 0 0 (MQ below (va_Qv (fun (_ : Unit) => True) (fun (_ : Unit) (t : State) => va_P (dC, dI) vwCl [(a0, .inr (2, [.ref aZ, .int zc, .ref aO, .int orr, .int ol, .int mp, .ref aG, .int pl, .int fa, .int fb, .ref aP, .ref aW, .ref aK])), (aO, .inl (cI, 1440, .inl fO)), (za, .inr (1, [.int zh, .int zl, .int zf, .int zp, .int zr, .int zm, .int zw, .ref la, .int zs, .ref wa])), (wa, .inl (cI, 1441, .inl (lu fO zl zh fT a (1440 - a))))] t.heap) A) ([.ref a0, .ref za, .int (nI a)] : List Value).toArray s 0 0 A) (F0 m 2 ls []) := by
    intro n
    induction n with
    | zero =>
      intro i hai hib hin
      exact absurd hin (by omega)
    | succ n ih =>
      intro i hai hib hin H locs ls hP hD hS hl9
      refine lv_iload_n hx hb d_C_leaveUnheated_2 rfl (lv_at hl9 0 rfl) ?_
      refine lv_sipush (v := 1440) hx hb d_C_leaveUnheated_3 (by decide) ?_
      refine lv_icmp_ge (tgt := 36) hx hb d_C_leaveUnheated_6 (by decide) (fun c1 => ?_) (fun c1 => ?_)
      · have e9 : i = 1440 := by have := ge_of_c (i := i) (b := 1440) (by omega) (by decide) c1; omega
        subst e9
        exact W.vret hx hb hr (fun t ht hW => ⟨⟨(), rfl, trivial, by have h9 := hP; rw [← ht] at h9; exact h9⟩, hS.F ht⟩) hS.2.2 d_C_leaveUnheated_36
      · have e9 : i < 1440 := lt_of_c (b := 1440) (by omega) (by decide) c1
        have hin1 : vp_in (nI i) 1440 := vp_in_nI (by omega) (by omega)
        have hin2 : vp_in (nI i) 1441 := vp_in_nI (by omega) (by omega)
        have hin3 : vp_in (nI i + 1) 1441 := by rw [nI_1]; exact vp_in_nI (by omega) (by omega)
        refine lv_aload_n hx hb d_C_leaveUnheated_9 rfl (lv_at hl9 2 rfl) ?_
        refine va_getN (D := (dC, dI)) (ci := 1) (v := .ref wa) (C := R_Z) (T := F_Z) (N := 10) hx hb hG i_Z hown hK hP 2 rfl rfl 9 (by decide) (hE.1.use k_198) (fun _ h9 => h9) rfl d_C_leaveUnheated_10 ?_
        refine lv_iload_n hx hb d_C_leaveUnheated_13 rfl (lv_at hl9 0 rfl) ?_
        refine lv_iconst (v := 1) hx hb d_C_leaveUnheated_14 (by decide) ?_
        refine lv_iadd hx hb d_C_leaveUnheated_15 ?_
        refine lv_aload_n hx hb d_C_leaveUnheated_16 rfl (lv_at hl9 1 rfl) ?_
        refine lv_aload_n hx hb d_C_leaveUnheated_17 rfl (lv_at hl9 2 rfl) ?_
        refine lv_aload_n hx hb d_C_leaveUnheated_18 rfl (lv_at hl9 2 rfl) ?_
        refine va_getN (D := (dC, dI)) (ci := 1) (v := .ref wa) (C := R_Z) (T := F_Z) (N := 10) hx hb hG i_Z hown hK hP 2 rfl rfl 9 (by decide) (hE.1.use k_198) (fun _ h9 => h9) rfl d_C_leaveUnheated_19 ?_
        refine lv_iload_n hx hb d_C_leaveUnheated_22 rfl (lv_at hl9 0 rfl) ?_
        refine va_iald hx hb hK hP 3 0 rfl rfl (hin2) d_C_leaveUnheated_23 ?_
        refine lv_iload_n hx hb d_C_leaveUnheated_24 rfl (lv_at hl9 0 rfl) ?_
        refine lv_iconst (v := 0) hx hb d_C_leaveUnheated_25 (by decide) ?_
        have hPc := hP.sub (ws' := [(a0, .inr (2, [.ref aZ, .int zc, .ref aO, .int orr, .int ol, .int mp, .ref aG, .int pl, .int fa, .int fb, .ref aP, .ref aW, .ref aK])), (aO, .inl (cI, 1440, .inl fO)), (za, .inr (1, [.int zh, .int zl, .int zf, .int zp, .int zr, .int zm, .int zw, .ref la, .int zs, .ref wa]))]) [0, 1, 2] rfl
        have hDc := hD.sub (ws' := [(a0, .inr (2, [.ref aZ, .int zc, .ref aO, .int orr, .int ol, .int mp, .ref aG, .int pl, .int fa, .int fb, .ref aP, .ref aW, .ref aK])), (aO, .inl (cI, 1440, .inl fO)), (za, .inr (1, [.int zh, .int zl, .int zf, .int zp, .int zr, .int zm, .int zw, .ref la, .int zs, .ref wa]))]) [0, 1, 2] (by decide) rfl
        have hFc := va_A_nil hA hS.1
        refine va_calli (va_runV (C := R_C) (As := [.ref za, .int ((lu fO zl zh fT a (i - a)) (nI i).toNatClampNeg), .int (nI i), .int 0]) (rest := [.int ((nI i) + 1), .ref wa]) ⟨hx, hb, hml, hown, hG⟩ (c_warmthAfter l dC dI cI cJ cZ cB a0 aZ aO aG aP aW aK zc orr ol mp pl fa fb fO za la wa zh zl zf zp zr zm zw zs ((lu fO zl zh fT a (i - a)) (nI i).toNatClampNeg) (nI i) 0 H.size hin1 hzl hzh) (cwV 4 hG g_C_179 rfl rfl rfl (by decide +kernel) ⟨Nat.le_of_ble_eq_true rfl, Nat.le_of_ble_eq_true rfl⟩) ⟨PC.blind, va_recv hK hP (ci := 2) (q0 := 0) rfl rfl, PC.of hPc hK hDc hE hS hFc⟩ rfl rfl hl9.1 rfl (lv_room (Nat.le_of_ble_eq_true rfl)) d_C_leaveUnheated_26 ⟨by first | exact Nat.le_of_ble_eq_true rfl | omega, by first | exact Nat.le_of_ble_eq_true rfl | omega⟩) hS (fun q _ h => hFc q h) hFc (fun r2 u t H1 locs ht hvm hw hB hz1 hk1 hS => ?_)
        have hP := wp_kept hP hk1
        have hw : r2 = ((lu fO zl zh fT a (i - a)) (nI i).toNatClampNeg) + (fO (nI i).toNatClampNeg - ((lu fO zl zh fT a (i - a)) (nI i).toNatClampNeg)) / zl + 0 / zh := hw
        subst hw
        refine va_iast hx hb hK hP hD hS 3 0 rfl rfl (hin3) d_C_leaveUnheated_29 (fun H locs hP hD hS => ?_)
        have hP : va_P (dC, dI) vwCl [(a0, .inr (2, [.ref aZ, .int zc, .ref aO, .int orr, .int ol, .int mp, .ref aG, .int pl, .int fa, .int fb, .ref aP, .ref aW, .ref aK])), (aO, .inl (cI, 1440, .inl fO)), (za, .inr (1, [.int zh, .int zl, .int zf, .int zp, .int zr, .int zm, .int zw, .ref la, .int zs, .ref wa])), (wa, .inl (cI, 1441, .inl (upd (lu fO zl zh fT a (i - a)) ((nI i) + 1).toNatClampNeg (((lu fO zl zh fT a (i - a)) (nI i).toNatClampNeg) + (fO (nI i).toNatClampNeg - ((lu fO zl zh fT a (i - a)) (nI i).toNatClampNeg)) / zl + 0 / zh))))] H := hP
        have hD : va_D A [(a0, .inr (2, [.ref aZ, .int zc, .ref aO, .int orr, .int ol, .int mp, .ref aG, .int pl, .int fa, .int fb, .ref aP, .ref aW, .ref aK])), (aO, .inl (cI, 1440, .inl fO)), (za, .inr (1, [.int zh, .int zl, .int zf, .int zp, .int zr, .int zm, .int zw, .ref la, .int zs, .ref wa])), (wa, .inl (cI, 1441, .inl (upd (lu fO zl zh fT a (i - a)) ((nI i) + 1).toNatClampNeg (((lu fO zl zh fT a (i - a)) (nI i).toNatClampNeg) + (fO (nI i).toNatClampNeg - ((lu fO zl zh fT a (i - a)) (nI i).toNatClampNeg)) / zl + 0 / zh))))] := hD
        refine lv_iinc (v := ((nI i) + 1)) (lv' := [(3, .int ((nI i) + 1)), (0, .ref a0), (1, .ref za)]) hx hb d_C_leaveUnheated_30 hl9 (k := 0) rfl rfl (by decide) rfl (fun ls hl9 => ?_)
        refine lv_goto (tgt := 2) hx hb d_C_leaveUnheated_33 (by decide) ?_
        have e8 : (upd (lu fO zl zh fT a (i - a)) ((nI i) + 1).toNatClampNeg (((lu fO zl zh fT a (i - a)) (nI i).toNatClampNeg) + (fO (nI i).toNatClampNeg - ((lu fO zl zh fT a (i - a)) (nI i).toNatClampNeg)) / zl + 0 / zh)) = (lu fO zl zh fT a (i + 1 - a)) := by rw [nI_1, nI_clamp (n := i) (by omega), nI_clamp (n := i + 1) (by omega), show i + 1 - a = (i - a) + 1 by omega]; show _ = upd (lu fO zl zh fT a (i - a)) (a + (i - a) + 1) (lu fO zl zh fT a (i - a) (a + (i - a)) + (fO (a + (i - a)) - lu fO zl zh fT a (i - a) (a + (i - a))) / zl + 0 / zh); rw [show a + (i - a) = i by omega]
        rw [e8] at hP hD
        rw [nI_1] at hl9
        exact ih (i + 1) (by omega) (by omega) (by omega) _ _ ls hP hD hS (lv_sub hl9 [0, 1, 2] rfl)
  have e7 : fT = lu fO zl zh fT a (a - a) := by rw [Nat.sub_self]; rfl
  have hP : va_P (dC, dI) vwCl [(a0, .inr (2, [.ref aZ, .int zc, .ref aO, .int orr, .int ol, .int mp, .ref aG, .int pl, .int fa, .int fb, .ref aP, .ref aW, .ref aK])), (aO, .inl (cI, 1440, .inl fO)), (za, .inr (1, [.int zh, .int zl, .int zf, .int zp, .int zr, .int zm, .int zw, .ref la, .int zs, .ref wa])), (wa, .inl (cI, 1441, .inl (lu fO zl zh fT a (a - a))))] H := by rw [← e7]; exact hP
  have hD : va_D A [(a0, .inr (2, [.ref aZ, .int zc, .ref aO, .int orr, .int ol, .int mp, .ref aG, .int pl, .int fa, .int fb, .ref aP, .ref aW, .ref aK])), (aO, .inl (cI, 1440, .inl fO)), (za, .inr (1, [.int zh, .int zl, .int zf, .int zp, .int zr, .int zm, .int zw, .ref la, .int zs, .ref wa])), (wa, .inl (cI, 1441, .inl (lu fO zl zh fT a (a - a))))] := by rw [← e7]; exact hD
  exact lp (1441 - a) a (Nat.le_refl a) ha1 (by omega) _ _ ls hP hD hS (lv_sub hl9 [0, 1, 2] rfl)
