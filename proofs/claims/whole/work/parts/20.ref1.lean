theorem wi_1 {v lo hi : Int32} (h : ¬ (v < lo ∨ hi < v)) : (if ¬ (v < lo ∨ hi < v) then (1 : Int32) else 0) = 1 := if_pos h
theorem wi_0 {v lo hi : Int32} (h : v < lo ∨ hi < v) : (if ¬ (v < lo ∨ hi < v) then (1 : Int32) else 0) = 0 := if_neg (fun q => q h)
theorem iz_1 {k nz : Nat} (h : k < nz) (hn : nz ≤ 6) : (if ¬ (nI k < 0 ∨ nI nz ≤ nI k) then (1 : Int32) else 0) = 1 := if_pos (fun q => q.elim (nI_pos (by omega)) (fun q => absurd ((nI_leI (by omega) (by omega)).mp q) (by omega)))
theorem iz_0 {x : Int32} {nz : Nat} (h : x < 0 ∨ nI nz ≤ x) : (if ¬ (x < 0 ∨ nI nz ≤ x) then (1 : Int32) else 0) = 0 := if_neg (fun q => q h)
set_option maxHeartbeats 4000000 in
set_option maxRecDepth 100000 in
theorem m_thrown (l : Launch) (dC : Nat → ClassId) (dI : Nat → Nat → Nat) (cI cJ cZ cB : ClassId) (m0 mH mL mB mP mR mA mW mU mV mM mT mQ mO mF mS mE mX mD : Nat) (th zn rw mc ga gb kn : Int32) (sz : Nat) : Met l y_M_thrown w_M_thrown ({ frames := 0, cells := 0, slots := 0, locals := 0 }) (PC (dC, dI) (TY cI cJ cZ cB) [.ref m0] [(m0, .inr (3, [.int th, .int zn, .ref mH, .ref mL, .ref mB, .ref mP, .ref mR, .ref mA, .ref mW, .ref mU, .ref mV, .int rw, .ref mM, .ref mT, .int mc, .ref mQ, .int ga, .int gb, .int kn, .ref mO, .ref mF, .ref mS, .ref mE, .ref mX, .ref mD]))] sz (va_A [] sz)) (va_Qi (fun (r : Int32) (_ : Unit) => r = th) (fun (_ : Unit) (_ : State) => True) (va_A [] sz)) 0 0 (va_A [] sz) := by
  refine Met.ofW (cc := b_M_thrown) (maxL := 1) (ret := (some .int)) (by decide) rfl ?_
  intro p e s m args below meth c s₁ B hml hv
  obtain ⟨rfl, hsz, hP, hK, hD0, hE⟩ := hv
  have hx := B.exec
  have hb := B.bytes
  have hr := B.returns
  have hG : ∀ w ∈ GG, w.before _ s = true := fun w h => atoms_spec (ws := w_M_thrown) B.pre w (List.mem_cons_of_mem _ h)
  have hown : s.vm.findClass R_M = some m.cls := findClass_of_methodNamed B.named
  have hlocks := B.notSynchronized
  subst hsz
  generalize hAe : (va_A [] s.heap.size) = A at hE ⊢
  have hA : ∀ q : Nat, s.heap.size ≤ q → A q := fun q h => by rw [← hAe]; exact Or.inr h
  have hS : va_S A s.heap s.heap [] := va_S.rf
  have hD := hD0
  obtain ⟨H, hH⟩ : ∃ z, z = s.heap := ⟨_, rfl⟩
  rw [← hH] at hP
  have hS : va_S A s.heap H [] := by rw [hH]; exact hS
  rw [← hH]
  have hl9 := lv_entry ([.ref m0]) (n := 1) (Nat.le_of_ble_eq_true rfl)
  rw [lg_entry_eq]
  generalize (lg_sl ([.ref m0]) ++ List.replicate (1 - (lg_sl ([.ref m0])).length) Slot.unset).toArray = ls at hl9 ⊢
  have hl9 : lv_has ls 1 [(0, .ref m0)] := hl9
  refine lv_aload_n hx hb d_M_thrown_0 rfl (lv_at hl9 0 rfl) ?_
  refine va_get (D := (dC, dI)) (ci := 3) (v := .int th) (C := R_M) (T := F_M) (N := 25) hx hb hG i_M hown hK hP 0 rfl rfl 0 (by decide) (hG _ k_440) (fun _ h9 => h9) rfl d_M_thrown_1 ?_
  exact W.iret (v := th) hx hb hr (fun t ht hW => ⟨⟨th, (), rfl, rfl, trivial⟩, hS.F ht⟩) hS.2.2 d_M_thrown_4
set_option maxHeartbeats 4000000 in
set_option maxRecDepth 100000 in
theorem m_within (l : Launch) (dC : Nat → ClassId) (dI : Nat → Nat → Nat) (cI cJ cZ cB : ClassId) (v lo hi : Int32) (sz : Nat) : Met l y_M_within w_M_within ({ frames := 0, cells := 0, slots := 0, locals := 0 }) (PC (dC, dI) (TY cI cJ cZ cB) [.int v, .int lo, .int hi] [] sz (va_A [] sz)) (va_Qi (fun (r : Int32) (_ : Unit) => r = if ¬ (v < lo ∨ hi < v) then 1 else 0) (fun (_ : Unit) (_ : State) => True) (va_A [] sz)) 0 0 (va_A [] sz) := by
  refine Met.ofW (cc := b_M_within) (maxL := 3) (ret := (some .boolean)) (by decide) rfl ?_
  intro p e s m args below meth c s₁ B hml hv
  obtain ⟨rfl, hsz, hP, hK, hD0, hE⟩ := hv
  have hx := B.exec
  have hb := B.bytes
  have hr := B.returns
  have hG : ∀ w ∈ GG, w.before _ s = true := fun w h => atoms_spec (ws := w_M_within) B.pre w (List.mem_cons_of_mem _ h)
  have hown : s.vm.findClass R_M = some m.cls := findClass_of_methodNamed B.named
  have hlocks := B.notSynchronized
  subst hsz
  generalize hAe : (va_A [] s.heap.size) = A at hE ⊢
  have hA : ∀ q : Nat, s.heap.size ≤ q → A q := fun q h => by rw [← hAe]; exact Or.inr h
  have hS : va_S A s.heap s.heap [] := va_S.rf
  have hD := hD0
  obtain ⟨H, hH⟩ : ∃ z, z = s.heap := ⟨_, rfl⟩
  rw [← hH] at hP
  have hS : va_S A s.heap H [] := by rw [hH]; exact hS
  rw [← hH]
  have hl9 := lv_entry ([.int v, .int lo, .int hi]) (n := 3) (Nat.le_of_ble_eq_true rfl)
  rw [lg_entry_eq]
  generalize (lg_sl ([.int v, .int lo, .int hi]) ++ List.replicate (3 - (lg_sl ([.int v, .int lo, .int hi])).length) Slot.unset).toArray = ls at hl9 ⊢
  have hl9 : lv_has ls 3 [(0, .int v), (1, .int lo), (2, .int hi)] := hl9
  refine lv_iload_n hx hb d_M_within_0 rfl (lv_at hl9 0 rfl) ?_
  refine lv_iload_n hx hb d_M_within_1 rfl (lv_at hl9 1 rfl) ?_
  refine lv_icmp_lt (tgt := 14) hx hb d_M_within_2 (by decide) (fun c1 => ?_) (fun c1 => ?_)
  · refine lv_iconst (v := 0) hx hb d_M_within_14 (by decide) ?_
    exact W.zret (v := 0) hx hb hr rfl (fun t ht hW => ⟨⟨0, (), rfl, by rw [if_neg (fun q => q (Or.inl c1))], trivial⟩, hS.F ht⟩) hS.2.2 d_M_within_15
  · refine lv_iload_n hx hb d_M_within_5 rfl (lv_at hl9 0 rfl) ?_
    refine lv_iload_n hx hb d_M_within_6 rfl (lv_at hl9 2 rfl) ?_
    refine lv_icmp_gt (tgt := 14) hx hb d_M_within_7 (by decide) (fun c2 => ?_) (fun c2 => ?_)
    · refine lv_iconst (v := 0) hx hb d_M_within_14 (by decide) ?_
      exact W.zret (v := 0) hx hb hr rfl (fun t ht hW => ⟨⟨0, (), rfl, by rw [if_neg (fun q => q (Or.inr c2))], trivial⟩, hS.F ht⟩) hS.2.2 d_M_within_15
    · refine lv_iconst (v := 1) hx hb d_M_within_10 (by decide) ?_
      refine lv_goto (tgt := 15) hx hb d_M_within_11 (by decide) ?_
      exact W.zret (v := 1) hx hb hr rfl (fun t ht hW => ⟨⟨1, (), rfl, by rw [if_pos (fun q => q.elim c1 c2)], trivial⟩, hS.F ht⟩) hS.2.2 d_M_within_15
set_option maxHeartbeats 4000000 in
set_option maxRecDepth 100000 in
theorem m_isZone (l : Launch) (dC : Nat → ClassId) (dI : Nat → Nat → Nat) (cI cJ cZ cB : ClassId) (m0 mH mL mB mP mR mA mW mU mV mM mT mQ mO mF mS mE mX mD : Nat) (th zn rw mc ga gb kn : Int32) (x : Int32) (sz : Nat) : Met l y_M_isZone w_M_isZone ({ frames := 0, cells := 0, slots := 0, locals := 0 }) (PC (dC, dI) (TY cI cJ cZ cB) [.ref m0, .int x] [(m0, .inr (3, [.int th, .int zn, .ref mH, .ref mL, .ref mB, .ref mP, .ref mR, .ref mA, .ref mW, .ref mU, .ref mV, .int rw, .ref mM, .ref mT, .int mc, .ref mQ, .int ga, .int gb, .int kn, .ref mO, .ref mF, .ref mS, .ref mE, .ref mX, .ref mD]))] sz (va_A [] sz)) (va_Qi (fun (r : Int32) (_ : Unit) => r = if ¬ (x < 0 ∨ zn ≤ x) then 1 else 0) (fun (_ : Unit) (_ : State) => True) (va_A [] sz)) 0 0 (va_A [] sz) := by
  refine Met.ofW (cc := b_M_isZone) (maxL := 2) (ret := (some .boolean)) (by decide) rfl ?_
  intro p e s m args below meth c s₁ B hml hv
  obtain ⟨rfl, hsz, hP, hK, hD0, hE⟩ := hv
  have hx := B.exec
  have hb := B.bytes
  have hr := B.returns
  have hG : ∀ w ∈ GG, w.before _ s = true := fun w h => atoms_spec (ws := w_M_isZone) B.pre w (List.mem_cons_of_mem _ h)
  have hown : s.vm.findClass R_M = some m.cls := findClass_of_methodNamed B.named
  have hlocks := B.notSynchronized
  subst hsz
  generalize hAe : (va_A [] s.heap.size) = A at hE ⊢
  have hA : ∀ q : Nat, s.heap.size ≤ q → A q := fun q h => by rw [← hAe]; exact Or.inr h
  have hS : va_S A s.heap s.heap [] := va_S.rf
  have hD := hD0
  obtain ⟨H, hH⟩ : ∃ z, z = s.heap := ⟨_, rfl⟩
  rw [← hH] at hP
  have hS : va_S A s.heap H [] := by rw [hH]; exact hS
  rw [← hH]
  have hl9 := lv_entry ([.ref m0, .int x]) (n := 2) (Nat.le_of_ble_eq_true rfl)
  rw [lg_entry_eq]
  generalize (lg_sl ([.ref m0, .int x]) ++ List.replicate (2 - (lg_sl ([.ref m0, .int x])).length) Slot.unset).toArray = ls at hl9 ⊢
  have hl9 : lv_has ls 2 [(0, .ref m0), (1, .int x)] := hl9
  refine lv_iload_n hx hb d_M_isZone_0 rfl (lv_at hl9 1 rfl) ?_
  refine lv_if_lt (tgt := 16) hx hb d_M_isZone_1 (by decide) (fun c1 => ?_) (fun c1 => ?_)
  · refine lv_iconst (v := 0) hx hb d_M_isZone_16 (by decide) ?_
    exact W.zret (v := 0) hx hb hr rfl (fun t ht hW => ⟨⟨0, (), rfl, by rw [if_neg (fun q => q (Or.inl c1))], trivial⟩, hS.F ht⟩) hS.2.2 d_M_isZone_17
  · refine lv_iload_n hx hb d_M_isZone_4 rfl (lv_at hl9 1 rfl) ?_
    refine lv_aload_n hx hb d_M_isZone_5 rfl (lv_at hl9 0 rfl) ?_
    refine va_get (D := (dC, dI)) (ci := 3) (v := .int zn) (C := R_M) (T := F_M) (N := 25) hx hb hG i_M hown hK hP 0 rfl rfl 1 (by decide) (hG _ k_441) (fun _ h9 => h9) rfl d_M_isZone_6 ?_
    refine lv_icmp_ge (tgt := 16) hx hb d_M_isZone_9 (by decide) (fun c2 => ?_) (fun c2 => ?_)
    · refine lv_iconst (v := 0) hx hb d_M_isZone_16 (by decide) ?_
      exact W.zret (v := 0) hx hb hr rfl (fun t ht hW => ⟨⟨0, (), rfl, by rw [if_neg (fun q => q (Or.inr c2))], trivial⟩, hS.F ht⟩) hS.2.2 d_M_isZone_17
    · refine lv_iconst (v := 1) hx hb d_M_isZone_12 (by decide) ?_
      refine lv_goto (tgt := 17) hx hb d_M_isZone_13 (by decide) ?_
      exact W.zret (v := 1) hx hb hr rfl (fun t ht hW => ⟨⟨1, (), rfl, by rw [if_pos (fun q => q.elim c1 c2)], trivial⟩, hS.F ht⟩) hS.2.2 d_M_isZone_17
set_option maxHeartbeats 4000000 in
set_option maxRecDepth 100000 in
theorem m_fails001 (l : Launch) (dC : Nat → ClassId) (dI : Nat → Nat → Nat) (cI cJ cZ cB : ClassId) (m0 mH mL mB mP mR mA mW mU mV mM mT mQ mO mF mS mE mX mD : Nat) (zn rw mc ga gb kn : Int32) (sz : Nat) : Met l y_M_fails w_M_fails ({ frames := 0, cells := 0, slots := 0, locals := 0 }) (PC (dC, dI) (TY cI cJ cZ cB) [.ref m0, .int 0, .int 1] [(m0, .inr (3, [.int 0, .int zn, .ref mH, .ref mL, .ref mB, .ref mP, .ref mR, .ref mA, .ref mW, .ref mU, .ref mV, .int rw, .ref mM, .ref mT, .int mc, .ref mQ, .int ga, .int gb, .int kn, .ref mO, .ref mF, .ref mS, .ref mE, .ref mX, .ref mD]))] sz (va_A [(m0, .inr (3, [.int 0, .int zn, .ref mH, .ref mL, .ref mB, .ref mP, .ref mR, .ref mA, .ref mW, .ref mU, .ref mV, .int rw, .ref mM, .ref mT, .int mc, .ref mQ, .int ga, .int gb, .int kn, .ref mO, .ref mF, .ref mS, .ref mE, .ref mX, .ref mD]))] sz)) (va_Qi (fun (r : Int32) (_ : Unit) => r = 0) (fun (_ : Unit) (t : State) => va_P (dC, dI) vwCl [(m0, .inr (3, [.int 0, .int zn, .ref mH, .ref mL, .ref mB, .ref mP, .ref mR, .ref mA, .ref mW, .ref mU, .ref mV, .int rw, .ref mM, .ref mT, .int mc, .ref mQ, .int ga, .int gb, .int kn, .ref mO, .ref mF, .ref mS, .ref mE, .ref mX, .ref mD]))] t.heap) (va_A [(m0, .inr (3, [.int 0, .int zn, .ref mH, .ref mL, .ref mB, .ref mP, .ref mR, .ref mA, .ref mW, .ref mU, .ref mV, .int rw, .ref mM, .ref mT, .int mc, .ref mQ, .int ga, .int gb, .int kn, .ref mO, .ref mF, .ref mS, .ref mE, .ref mX, .ref mD]))] sz)) 0 0 (va_A [(m0, .inr (3, [.int 0, .int zn, .ref mH, .ref mL, .ref mB, .ref mP, .ref mR, .ref mA, .ref mW, .ref mU, .ref mV, .int rw, .ref mM, .ref mT, .int mc, .ref mQ, .int ga, .int gb, .int kn, .ref mO, .ref mF, .ref mS, .ref mE, .ref mX, .ref mD]))] sz) := by
  refine Met.ofW (cc := b_M_fails) (maxL := 3) (ret := (some .boolean)) (by decide) rfl ?_
  intro p e s m args below meth c s₁ B hml hv
  obtain ⟨rfl, hsz, hP, hK, hD0, hE⟩ := hv
  have hx := B.exec
  have hb := B.bytes
  have hr := B.returns
  have hG : ∀ w ∈ GG, w.before _ s = true := fun w h => atoms_spec (ws := w_M_fails) B.pre w (List.mem_cons_of_mem _ h)
  have hown : s.vm.findClass R_M = some m.cls := findClass_of_methodNamed B.named
  have hlocks := B.notSynchronized
  subst hsz
  have hD := hD0.self (sz := s.heap.size)
  generalize hAe : (va_A [(m0, .inr (3, [.int 0, .int zn, .ref mH, .ref mL, .ref mB, .ref mP, .ref mR, .ref mA, .ref mW, .ref mU, .ref mV, .int rw, .ref mM, .ref mT, .int mc, .ref mQ, .int ga, .int gb, .int kn, .ref mO, .ref mF, .ref mS, .ref mE, .ref mX, .ref mD]))] s.heap.size) = A at hD hE ⊢
  have hA : ∀ q : Nat, s.heap.size ≤ q → A q := fun q h => by rw [← hAe]; exact Or.inr h
  have hS : va_S A s.heap s.heap [] := va_S.rf
  obtain ⟨H, hH⟩ : ∃ z, z = s.heap := ⟨_, rfl⟩
  rw [← hH] at hP
  have hS : va_S A s.heap H [] := by rw [hH]; exact hS
  rw [← hH]
  have hl9 := lv_entry ([.ref m0, .int 0, .int 1]) (n := 3) (Nat.le_of_ble_eq_true rfl)
  rw [lg_entry_eq]
  generalize (lg_sl ([.ref m0, .int 0, .int 1]) ++ List.replicate (3 - (lg_sl ([.ref m0, .int 0, .int 1])).length) Slot.unset).toArray = ls at hl9 ⊢
  have hl9 : lv_has ls 3 [(0, .ref m0), (1, .int 0), (2, .int 1)] := hl9
  refine lv_aload_n hx hb d_M_fails_0 rfl (lv_at hl9 0 rfl) ?_
  refine va_get (D := (dC, dI)) (ci := 3) (v := .int 0) (C := R_M) (T := F_M) (N := 25) hx hb hG i_M hown hK hP 0 rfl rfl 0 (by decide) (hG _ k_440) (fun _ h9 => h9) rfl d_M_fails_1 ?_
  refine lv_if_ne (tgt := 16) hx hb d_M_fails_4 (by decide) (fun c1 => absurd c1 (by decide)) (fun c1 => ?_)
  refine lv_iload_n hx hb d_M_fails_7 rfl (lv_at hl9 1 rfl) ?_
  refine lv_if_eq (tgt := 16) hx hb d_M_fails_8 (by decide) (fun c2 => ?_) (fun c2 => absurd c2 (by decide))
  refine lv_aload_n hx hb d_M_fails_16 rfl (lv_at hl9 0 rfl) ?_
  refine va_get (D := (dC, dI)) (ci := 3) (v := .int 0) (C := R_M) (T := F_M) (N := 25) hx hb hG i_M hown hK hP 0 rfl rfl 0 (by decide) (hG _ k_440) (fun _ h9 => h9) rfl d_M_fails_17 ?_
  refine lv_if_le (tgt := 27) hx hb d_M_fails_20 (by decide) (fun c3 => ?_) (fun c3 => absurd c3 (by decide))
  refine lv_iconst (v := 0) hx hb d_M_fails_27 (by decide) ?_
  exact W.zret (v := 0) hx hb hr rfl (fun t ht hW => ⟨⟨0, (), rfl, rfl, by have h9 := hP; rw [← ht] at h9; exact h9⟩, hS.F ht⟩) hS.2.2 d_M_fails_28
set_option maxHeartbeats 4000000 in
set_option maxRecDepth 100000 in
theorem m_fails011 (l : Launch) (dC : Nat → ClassId) (dI : Nat → Nat → Nat) (cI cJ cZ cB : ClassId) (m0 mH mL mB mP mR mA mW mU mV mM mT mQ mO mF mS mE mX mD : Nat) (zn rw mc ga gb kn : Int32) (sz : Nat) : Met l y_M_fails w_M_fails ({ frames := 0, cells := 0, slots := 0, locals := 0 }) (PC (dC, dI) (TY cI cJ cZ cB) [.ref m0, .int 1, .int 1] [(m0, .inr (3, [.int 0, .int zn, .ref mH, .ref mL, .ref mB, .ref mP, .ref mR, .ref mA, .ref mW, .ref mU, .ref mV, .int rw, .ref mM, .ref mT, .int mc, .ref mQ, .int ga, .int gb, .int kn, .ref mO, .ref mF, .ref mS, .ref mE, .ref mX, .ref mD]))] sz (va_A [(m0, .inr (3, [.int 0, .int zn, .ref mH, .ref mL, .ref mB, .ref mP, .ref mR, .ref mA, .ref mW, .ref mU, .ref mV, .int rw, .ref mM, .ref mT, .int mc, .ref mQ, .int ga, .int gb, .int kn, .ref mO, .ref mF, .ref mS, .ref mE, .ref mX, .ref mD]))] sz)) (va_Qi (fun (r : Int32) (_ : Unit) => r = 1) (fun (_ : Unit) (t : State) => va_P (dC, dI) vwCl [(m0, .inr (3, [.int 1, .int zn, .ref mH, .ref mL, .ref mB, .ref mP, .ref mR, .ref mA, .ref mW, .ref mU, .ref mV, .int rw, .ref mM, .ref mT, .int mc, .ref mQ, .int ga, .int gb, .int kn, .ref mO, .ref mF, .ref mS, .ref mE, .ref mX, .ref mD]))] t.heap) (va_A [(m0, .inr (3, [.int 0, .int zn, .ref mH, .ref mL, .ref mB, .ref mP, .ref mR, .ref mA, .ref mW, .ref mU, .ref mV, .int rw, .ref mM, .ref mT, .int mc, .ref mQ, .int ga, .int gb, .int kn, .ref mO, .ref mF, .ref mS, .ref mE, .ref mX, .ref mD]))] sz)) 0 0 (va_A [(m0, .inr (3, [.int 0, .int zn, .ref mH, .ref mL, .ref mB, .ref mP, .ref mR, .ref mA, .ref mW, .ref mU, .ref mV, .int rw, .ref mM, .ref mT, .int mc, .ref mQ, .int ga, .int gb, .int kn, .ref mO, .ref mF, .ref mS, .ref mE, .ref mX, .ref mD]))] sz) := by
  refine Met.ofW (cc := b_M_fails) (maxL := 3) (ret := (some .boolean)) (by decide) rfl ?_
  intro p e s m args below meth c s₁ B hml hv
  obtain ⟨rfl, hsz, hP, hK, hD0, hE⟩ := hv
  have hx := B.exec
  have hb := B.bytes
  have hr := B.returns
  have hG : ∀ w ∈ GG, w.before _ s = true := fun w h => atoms_spec (ws := w_M_fails) B.pre w (List.mem_cons_of_mem _ h)
  have hown : s.vm.findClass R_M = some m.cls := findClass_of_methodNamed B.named
  have hlocks := B.notSynchronized
  subst hsz
  have hD := hD0.self (sz := s.heap.size)
  generalize hAe : (va_A [(m0, .inr (3, [.int 0, .int zn, .ref mH, .ref mL, .ref mB, .ref mP, .ref mR, .ref mA, .ref mW, .ref mU, .ref mV, .int rw, .ref mM, .ref mT, .int mc, .ref mQ, .int ga, .int gb, .int kn, .ref mO, .ref mF, .ref mS, .ref mE, .ref mX, .ref mD]))] s.heap.size) = A at hD hE ⊢
  have hA : ∀ q : Nat, s.heap.size ≤ q → A q := fun q h => by rw [← hAe]; exact Or.inr h
  have hS : va_S A s.heap s.heap [] := va_S.rf
  obtain ⟨H, hH⟩ : ∃ z, z = s.heap := ⟨_, rfl⟩
  rw [← hH] at hP
  have hS : va_S A s.heap H [] := by rw [hH]; exact hS
  rw [← hH]
  have hl9 := lv_entry ([.ref m0, .int 1, .int 1]) (n := 3) (Nat.le_of_ble_eq_true rfl)
  rw [lg_entry_eq]
  generalize (lg_sl ([.ref m0, .int 1, .int 1]) ++ List.replicate (3 - (lg_sl ([.ref m0, .int 1, .int 1])).length) Slot.unset).toArray = ls at hl9 ⊢
  have hl9 : lv_has ls 3 [(0, .ref m0), (1, .int 1), (2, .int 1)] := hl9
  refine lv_aload_n hx hb d_M_fails_0 rfl (lv_at hl9 0 rfl) ?_
  refine va_get (D := (dC, dI)) (ci := 3) (v := .int 0) (C := R_M) (T := F_M) (N := 25) hx hb hG i_M hown hK hP 0 rfl rfl 0 (by decide) (hG _ k_440) (fun _ h9 => h9) rfl d_M_fails_1 ?_
  refine lv_if_ne (tgt := 16) hx hb d_M_fails_4 (by decide) (fun c1 => absurd c1 (by decide)) (fun c1 => ?_)
  refine lv_iload_n hx hb d_M_fails_7 rfl (lv_at hl9 1 rfl) ?_
  refine lv_if_eq (tgt := 16) hx hb d_M_fails_8 (by decide) (fun c2 => absurd c2 (by decide)) (fun c2 => ?_)
  refine lv_aload_n hx hb d_M_fails_11 rfl (lv_at hl9 0 rfl) ?_
  refine lv_iload_n hx hb d_M_fails_12 rfl (lv_at hl9 2 rfl) ?_
  refine va_put (D := (dC, dI)) (ci := 3) (v := .int 1) (ty := .int) (C := R_M) (T := F_M) (N := 25) hx hb hG i_M t_M t_M_ok n_M hown hK hP hD hS 0 rfl rfl 0 (by decide) (hG _ k_440) (fun _ h9 => h9) rfl (by decide +kernel) rfl rfl (Nat.le_of_ble_eq_true rfl) d_M_fails_13 (fun H locs hP hD hS => ?_)
  have hP : va_P (dC, dI) vwCl [(m0, .inr (3, [.int 1, .int zn, .ref mH, .ref mL, .ref mB, .ref mP, .ref mR, .ref mA, .ref mW, .ref mU, .ref mV, .int rw, .ref mM, .ref mT, .int mc, .ref mQ, .int ga, .int gb, .int kn, .ref mO, .ref mF, .ref mS, .ref mE, .ref mX, .ref mD]))] H := hP
  have hD : va_D A [(m0, .inr (3, [.int 1, .int zn, .ref mH, .ref mL, .ref mB, .ref mP, .ref mR, .ref mA, .ref mW, .ref mU, .ref mV, .int rw, .ref mM, .ref mT, .int mc, .ref mQ, .int ga, .int gb, .int kn, .ref mO, .ref mF, .ref mS, .ref mE, .ref mX, .ref mD]))] := hD
  refine lv_aload_n hx hb d_M_fails_16 rfl (lv_at hl9 0 rfl) ?_
  refine va_get (D := (dC, dI)) (ci := 3) (v := .int 1) (C := R_M) (T := F_M) (N := 25) hx hb hG i_M hown hK hP 0 rfl rfl 0 (by decide) (hG _ k_440) (fun _ h9 => h9) rfl d_M_fails_17 ?_
  refine lv_if_le (tgt := 27) hx hb d_M_fails_20 (by decide) (fun c3 => absurd c3 (by decide)) (fun c3 => ?_)
  refine lv_iconst (v := 1) hx hb d_M_fails_23 (by decide) ?_
  refine lv_goto (tgt := 28) hx hb d_M_fails_24 (by decide) ?_
  exact W.zret (v := 1) hx hb hr rfl (fun t ht hW => ⟨⟨1, (), rfl, rfl, by have h9 := hP; rw [← ht] at h9; exact h9⟩, hS.F ht⟩) hS.2.2 d_M_fails_28
set_option maxHeartbeats 4000000 in
set_option maxRecDepth 100000 in
theorem m_fails002 (l : Launch) (dC : Nat → ClassId) (dI : Nat → Nat → Nat) (cI cJ cZ cB : ClassId) (m0 mH mL mB mP mR mA mW mU mV mM mT mQ mO mF mS mE mX mD : Nat) (zn rw mc ga gb kn : Int32) (sz : Nat) : Met l y_M_fails w_M_fails ({ frames := 0, cells := 0, slots := 0, locals := 0 }) (PC (dC, dI) (TY cI cJ cZ cB) [.ref m0, .int 0, .int 2] [(m0, .inr (3, [.int 0, .int zn, .ref mH, .ref mL, .ref mB, .ref mP, .ref mR, .ref mA, .ref mW, .ref mU, .ref mV, .int rw, .ref mM, .ref mT, .int mc, .ref mQ, .int ga, .int gb, .int kn, .ref mO, .ref mF, .ref mS, .ref mE, .ref mX, .ref mD]))] sz (va_A [(m0, .inr (3, [.int 0, .int zn, .ref mH, .ref mL, .ref mB, .ref mP, .ref mR, .ref mA, .ref mW, .ref mU, .ref mV, .int rw, .ref mM, .ref mT, .int mc, .ref mQ, .int ga, .int gb, .int kn, .ref mO, .ref mF, .ref mS, .ref mE, .ref mX, .ref mD]))] sz)) (va_Qi (fun (r : Int32) (_ : Unit) => r = 0) (fun (_ : Unit) (t : State) => va_P (dC, dI) vwCl [(m0, .inr (3, [.int 0, .int zn, .ref mH, .ref mL, .ref mB, .ref mP, .ref mR, .ref mA, .ref mW, .ref mU, .ref mV, .int rw, .ref mM, .ref mT, .int mc, .ref mQ, .int ga, .int gb, .int kn, .ref mO, .ref mF, .ref mS, .ref mE, .ref mX, .ref mD]))] t.heap) (va_A [(m0, .inr (3, [.int 0, .int zn, .ref mH, .ref mL, .ref mB, .ref mP, .ref mR, .ref mA, .ref mW, .ref mU, .ref mV, .int rw, .ref mM, .ref mT, .int mc, .ref mQ, .int ga, .int gb, .int kn, .ref mO, .ref mF, .ref mS, .ref mE, .ref mX, .ref mD]))] sz)) 0 0 (va_A [(m0, .inr (3, [.int 0, .int zn, .ref mH, .ref mL, .ref mB, .ref mP, .ref mR, .ref mA, .ref mW, .ref mU, .ref mV, .int rw, .ref mM, .ref mT, .int mc, .ref mQ, .int ga, .int gb, .int kn, .ref mO, .ref mF, .ref mS, .ref mE, .ref mX, .ref mD]))] sz) := by
  refine Met.ofW (cc := b_M_fails) (maxL := 3) (ret := (some .boolean)) (by decide) rfl ?_
  intro p e s m args below meth c s₁ B hml hv
  obtain ⟨rfl, hsz, hP, hK, hD0, hE⟩ := hv
  have hx := B.exec
  have hb := B.bytes
  have hr := B.returns
  have hG : ∀ w ∈ GG, w.before _ s = true := fun w h => atoms_spec (ws := w_M_fails) B.pre w (List.mem_cons_of_mem _ h)
  have hown : s.vm.findClass R_M = some m.cls := findClass_of_methodNamed B.named
  have hlocks := B.notSynchronized
  subst hsz
  have hD := hD0.self (sz := s.heap.size)
  generalize hAe : (va_A [(m0, .inr (3, [.int 0, .int zn, .ref mH, .ref mL, .ref mB, .ref mP, .ref mR, .ref mA, .ref mW, .ref mU, .ref mV, .int rw, .ref mM, .ref mT, .int mc, .ref mQ, .int ga, .int gb, .int kn, .ref mO, .ref mF, .ref mS, .ref mE, .ref mX, .ref mD]))] s.heap.size) = A at hD hE ⊢
  have hA : ∀ q : Nat, s.heap.size ≤ q → A q := fun q h => by rw [← hAe]; exact Or.inr h
  have hS : va_S A s.heap s.heap [] := va_S.rf
  obtain ⟨H, hH⟩ : ∃ z, z = s.heap := ⟨_, rfl⟩
  rw [← hH] at hP
  have hS : va_S A s.heap H [] := by rw [hH]; exact hS
  rw [← hH]
  have hl9 := lv_entry ([.ref m0, .int 0, .int 2]) (n := 3) (Nat.le_of_ble_eq_true rfl)
  rw [lg_entry_eq]
  generalize (lg_sl ([.ref m0, .int 0, .int 2]) ++ List.replicate (3 - (lg_sl ([.ref m0, .int 0, .int 2])).length) Slot.unset).toArray = ls at hl9 ⊢
  have hl9 : lv_has ls 3 [(0, .ref m0), (1, .int 0), (2, .int 2)] := hl9
  refine lv_aload_n hx hb d_M_fails_0 rfl (lv_at hl9 0 rfl) ?_
  refine va_get (D := (dC, dI)) (ci := 3) (v := .int 0) (C := R_M) (T := F_M) (N := 25) hx hb hG i_M hown hK hP 0 rfl rfl 0 (by decide) (hG _ k_440) (fun _ h9 => h9) rfl d_M_fails_1 ?_
  refine lv_if_ne (tgt := 16) hx hb d_M_fails_4 (by decide) (fun c1 => absurd c1 (by decide)) (fun c1 => ?_)
  refine lv_iload_n hx hb d_M_fails_7 rfl (lv_at hl9 1 rfl) ?_
  refine lv_if_eq (tgt := 16) hx hb d_M_fails_8 (by decide) (fun c2 => ?_) (fun c2 => absurd c2 (by decide))
  refine lv_aload_n hx hb d_M_fails_16 rfl (lv_at hl9 0 rfl) ?_
  refine va_get (D := (dC, dI)) (ci := 3) (v := .int 0) (C := R_M) (T := F_M) (N := 25) hx hb hG i_M hown hK hP 0 rfl rfl 0 (by decide) (hG _ k_440) (fun _ h9 => h9) rfl d_M_fails_17 ?_
  refine lv_if_le (tgt := 27) hx hb d_M_fails_20 (by decide) (fun c3 => ?_) (fun c3 => absurd c3 (by decide))
  refine lv_iconst (v := 0) hx hb d_M_fails_27 (by decide) ?_
  exact W.zret (v := 0) hx hb hr rfl (fun t ht hW => ⟨⟨0, (), rfl, rfl, by have h9 := hP; rw [← ht] at h9; exact h9⟩, hS.F ht⟩) hS.2.2 d_M_fails_28
set_option maxHeartbeats 4000000 in
set_option maxRecDepth 100000 in
theorem m_fails012 (l : Launch) (dC : Nat → ClassId) (dI : Nat → Nat → Nat) (cI cJ cZ cB : ClassId) (m0 mH mL mB mP mR mA mW mU mV mM mT mQ mO mF mS mE mX mD : Nat) (zn rw mc ga gb kn : Int32) (sz : Nat) : Met l y_M_fails w_M_fails ({ frames := 0, cells := 0, slots := 0, locals := 0 }) (PC (dC, dI) (TY cI cJ cZ cB) [.ref m0, .int 1, .int 2] [(m0, .inr (3, [.int 0, .int zn, .ref mH, .ref mL, .ref mB, .ref mP, .ref mR, .ref mA, .ref mW, .ref mU, .ref mV, .int rw, .ref mM, .ref mT, .int mc, .ref mQ, .int ga, .int gb, .int kn, .ref mO, .ref mF, .ref mS, .ref mE, .ref mX, .ref mD]))] sz (va_A [(m0, .inr (3, [.int 0, .int zn, .ref mH, .ref mL, .ref mB, .ref mP, .ref mR, .ref mA, .ref mW, .ref mU, .ref mV, .int rw, .ref mM, .ref mT, .int mc, .ref mQ, .int ga, .int gb, .int kn, .ref mO, .ref mF, .ref mS, .ref mE, .ref mX, .ref mD]))] sz)) (va_Qi (fun (r : Int32) (_ : Unit) => r = 1) (fun (_ : Unit) (t : State) => va_P (dC, dI) vwCl [(m0, .inr (3, [.int 2, .int zn, .ref mH, .ref mL, .ref mB, .ref mP, .ref mR, .ref mA, .ref mW, .ref mU, .ref mV, .int rw, .ref mM, .ref mT, .int mc, .ref mQ, .int ga, .int gb, .int kn, .ref mO, .ref mF, .ref mS, .ref mE, .ref mX, .ref mD]))] t.heap) (va_A [(m0, .inr (3, [.int 0, .int zn, .ref mH, .ref mL, .ref mB, .ref mP, .ref mR, .ref mA, .ref mW, .ref mU, .ref mV, .int rw, .ref mM, .ref mT, .int mc, .ref mQ, .int ga, .int gb, .int kn, .ref mO, .ref mF, .ref mS, .ref mE, .ref mX, .ref mD]))] sz)) 0 0 (va_A [(m0, .inr (3, [.int 0, .int zn, .ref mH, .ref mL, .ref mB, .ref mP, .ref mR, .ref mA, .ref mW, .ref mU, .ref mV, .int rw, .ref mM, .ref mT, .int mc, .ref mQ, .int ga, .int gb, .int kn, .ref mO, .ref mF, .ref mS, .ref mE, .ref mX, .ref mD]))] sz) := by
  refine Met.ofW (cc := b_M_fails) (maxL := 3) (ret := (some .boolean)) (by decide) rfl ?_
  intro p e s m args below meth c s₁ B hml hv
  obtain ⟨rfl, hsz, hP, hK, hD0, hE⟩ := hv
  have hx := B.exec
  have hb := B.bytes
  have hr := B.returns
  have hG : ∀ w ∈ GG, w.before _ s = true := fun w h => atoms_spec (ws := w_M_fails) B.pre w (List.mem_cons_of_mem _ h)
  have hown : s.vm.findClass R_M = some m.cls := findClass_of_methodNamed B.named
  have hlocks := B.notSynchronized
  subst hsz
  have hD := hD0.self (sz := s.heap.size)
  generalize hAe : (va_A [(m0, .inr (3, [.int 0, .int zn, .ref mH, .ref mL, .ref mB, .ref mP, .ref mR, .ref mA, .ref mW, .ref mU, .ref mV, .int rw, .ref mM, .ref mT, .int mc, .ref mQ, .int ga, .int gb, .int kn, .ref mO, .ref mF, .ref mS, .ref mE, .ref mX, .ref mD]))] s.heap.size) = A at hD hE ⊢
  have hA : ∀ q : Nat, s.heap.size ≤ q → A q := fun q h => by rw [← hAe]; exact Or.inr h
  have hS : va_S A s.heap s.heap [] := va_S.rf
  obtain ⟨H, hH⟩ : ∃ z, z = s.heap := ⟨_, rfl⟩
  rw [← hH] at hP
  have hS : va_S A s.heap H [] := by rw [hH]; exact hS
  rw [← hH]
  have hl9 := lv_entry ([.ref m0, .int 1, .int 2]) (n := 3) (Nat.le_of_ble_eq_true rfl)
  rw [lg_entry_eq]
  generalize (lg_sl ([.ref m0, .int 1, .int 2]) ++ List.replicate (3 - (lg_sl ([.ref m0, .int 1, .int 2])).length) Slot.unset).toArray = ls at hl9 ⊢
  have hl9 : lv_has ls 3 [(0, .ref m0), (1, .int 1), (2, .int 2)] := hl9
  refine lv_aload_n hx hb d_M_fails_0 rfl (lv_at hl9 0 rfl) ?_
  refine va_get (D := (dC, dI)) (ci := 3) (v := .int 0) (C := R_M) (T := F_M) (N := 25) hx hb hG i_M hown hK hP 0 rfl rfl 0 (by decide) (hG _ k_440) (fun _ h9 => h9) rfl d_M_fails_1 ?_
  refine lv_if_ne (tgt := 16) hx hb d_M_fails_4 (by decide) (fun c1 => absurd c1 (by decide)) (fun c1 => ?_)
  refine lv_iload_n hx hb d_M_fails_7 rfl (lv_at hl9 1 rfl) ?_
  refine lv_if_eq (tgt := 16) hx hb d_M_fails_8 (by decide) (fun c2 => absurd c2 (by decide)) (fun c2 => ?_)
  refine lv_aload_n hx hb d_M_fails_11 rfl (lv_at hl9 0 rfl) ?_
  refine lv_iload_n hx hb d_M_fails_12 rfl (lv_at hl9 2 rfl) ?_
  refine va_put (D := (dC, dI)) (ci := 3) (v := .int 2) (ty := .int) (C := R_M) (T := F_M) (N := 25) hx hb hG i_M t_M t_M_ok n_M hown hK hP hD hS 0 rfl rfl 0 (by decide) (hG _ k_440) (fun _ h9 => h9) rfl (by decide +kernel) rfl rfl (Nat.le_of_ble_eq_true rfl) d_M_fails_13 (fun H locs hP hD hS => ?_)
  have hP : va_P (dC, dI) vwCl [(m0, .inr (3, [.int 2, .int zn, .ref mH, .ref mL, .ref mB, .ref mP, .ref mR, .ref mA, .ref mW, .ref mU, .ref mV, .int rw, .ref mM, .ref mT, .int mc, .ref mQ, .int ga, .int gb, .int kn, .ref mO, .ref mF, .ref mS, .ref mE, .ref mX, .ref mD]))] H := hP
  have hD : va_D A [(m0, .inr (3, [.int 2, .int zn, .ref mH, .ref mL, .ref mB, .ref mP, .ref mR, .ref mA, .ref mW, .ref mU, .ref mV, .int rw, .ref mM, .ref mT, .int mc, .ref mQ, .int ga, .int gb, .int kn, .ref mO, .ref mF, .ref mS, .ref mE, .ref mX, .ref mD]))] := hD
  refine lv_aload_n hx hb d_M_fails_16 rfl (lv_at hl9 0 rfl) ?_
  refine va_get (D := (dC, dI)) (ci := 3) (v := .int 2) (C := R_M) (T := F_M) (N := 25) hx hb hG i_M hown hK hP 0 rfl rfl 0 (by decide) (hG _ k_440) (fun _ h9 => h9) rfl d_M_fails_17 ?_
  refine lv_if_le (tgt := 27) hx hb d_M_fails_20 (by decide) (fun c3 => absurd c3 (by decide)) (fun c3 => ?_)
  refine lv_iconst (v := 1) hx hb d_M_fails_23 (by decide) ?_
  refine lv_goto (tgt := 28) hx hb d_M_fails_24 (by decide) ?_
  exact W.zret (v := 1) hx hb hr rfl (fun t ht hW => ⟨⟨1, (), rfl, rfl, by have h9 := hP; rw [← ht] at h9; exact h9⟩, hS.F ht⟩) hS.2.2 d_M_fails_28
set_option maxHeartbeats 4000000 in
set_option maxRecDepth 100000 in
theorem m_fails102 (l : Launch) (dC : Nat → ClassId) (dI : Nat → Nat → Nat) (cI cJ cZ cB : ClassId) (m0 mH mL mB mP mR mA mW mU mV mM mT mQ mO mF mS mE mX mD : Nat) (zn rw mc ga gb kn : Int32) (sz : Nat) : Met l y_M_fails w_M_fails ({ frames := 0, cells := 0, slots := 0, locals := 0 }) (PC (dC, dI) (TY cI cJ cZ cB) [.ref m0, .int 0, .int 2] [(m0, .inr (3, [.int 1, .int zn, .ref mH, .ref mL, .ref mB, .ref mP, .ref mR, .ref mA, .ref mW, .ref mU, .ref mV, .int rw, .ref mM, .ref mT, .int mc, .ref mQ, .int ga, .int gb, .int kn, .ref mO, .ref mF, .ref mS, .ref mE, .ref mX, .ref mD]))] sz (va_A [(m0, .inr (3, [.int 1, .int zn, .ref mH, .ref mL, .ref mB, .ref mP, .ref mR, .ref mA, .ref mW, .ref mU, .ref mV, .int rw, .ref mM, .ref mT, .int mc, .ref mQ, .int ga, .int gb, .int kn, .ref mO, .ref mF, .ref mS, .ref mE, .ref mX, .ref mD]))] sz)) (va_Qi (fun (r : Int32) (_ : Unit) => r = 1) (fun (_ : Unit) (t : State) => va_P (dC, dI) vwCl [(m0, .inr (3, [.int 1, .int zn, .ref mH, .ref mL, .ref mB, .ref mP, .ref mR, .ref mA, .ref mW, .ref mU, .ref mV, .int rw, .ref mM, .ref mT, .int mc, .ref mQ, .int ga, .int gb, .int kn, .ref mO, .ref mF, .ref mS, .ref mE, .ref mX, .ref mD]))] t.heap) (va_A [(m0, .inr (3, [.int 1, .int zn, .ref mH, .ref mL, .ref mB, .ref mP, .ref mR, .ref mA, .ref mW, .ref mU, .ref mV, .int rw, .ref mM, .ref mT, .int mc, .ref mQ, .int ga, .int gb, .int kn, .ref mO, .ref mF, .ref mS, .ref mE, .ref mX, .ref mD]))] sz)) 0 0 (va_A [(m0, .inr (3, [.int 1, .int zn, .ref mH, .ref mL, .ref mB, .ref mP, .ref mR, .ref mA, .ref mW, .ref mU, .ref mV, .int rw, .ref mM, .ref mT, .int mc, .ref mQ, .int ga, .int gb, .int kn, .ref mO, .ref mF, .ref mS, .ref mE, .ref mX, .ref mD]))] sz) := by
  refine Met.ofW (cc := b_M_fails) (maxL := 3) (ret := (some .boolean)) (by decide) rfl ?_
  intro p e s m args below meth c s₁ B hml hv
  obtain ⟨rfl, hsz, hP, hK, hD0, hE⟩ := hv
  have hx := B.exec
  have hb := B.bytes
  have hr := B.returns
  have hG : ∀ w ∈ GG, w.before _ s = true := fun w h => atoms_spec (ws := w_M_fails) B.pre w (List.mem_cons_of_mem _ h)
  have hown : s.vm.findClass R_M = some m.cls := findClass_of_methodNamed B.named
  have hlocks := B.notSynchronized
  subst hsz
  have hD := hD0.self (sz := s.heap.size)
  generalize hAe : (va_A [(m0, .inr (3, [.int 1, .int zn, .ref mH, .ref mL, .ref mB, .ref mP, .ref mR, .ref mA, .ref mW, .ref mU, .ref mV, .int rw, .ref mM, .ref mT, .int mc, .ref mQ, .int ga, .int gb, .int kn, .ref mO, .ref mF, .ref mS, .ref mE, .ref mX, .ref mD]))] s.heap.size) = A at hD hE ⊢
  have hA : ∀ q : Nat, s.heap.size ≤ q → A q := fun q h => by rw [← hAe]; exact Or.inr h
  have hS : va_S A s.heap s.heap [] := va_S.rf
  obtain ⟨H, hH⟩ : ∃ z, z = s.heap := ⟨_, rfl⟩
  rw [← hH] at hP
  have hS : va_S A s.heap H [] := by rw [hH]; exact hS
  rw [← hH]
  have hl9 := lv_entry ([.ref m0, .int 0, .int 2]) (n := 3) (Nat.le_of_ble_eq_true rfl)
  rw [lg_entry_eq]
  generalize (lg_sl ([.ref m0, .int 0, .int 2]) ++ List.replicate (3 - (lg_sl ([.ref m0, .int 0, .int 2])).length) Slot.unset).toArray = ls at hl9 ⊢
  have hl9 : lv_has ls 3 [(0, .ref m0), (1, .int 0), (2, .int 2)] := hl9
  refine lv_aload_n hx hb d_M_fails_0 rfl (lv_at hl9 0 rfl) ?_
  refine va_get (D := (dC, dI)) (ci := 3) (v := .int 1) (C := R_M) (T := F_M) (N := 25) hx hb hG i_M hown hK hP 0 rfl rfl 0 (by decide) (hG _ k_440) (fun _ h9 => h9) rfl d_M_fails_1 ?_
  refine lv_if_ne (tgt := 16) hx hb d_M_fails_4 (by decide) (fun c1 => ?_) (fun c1 => absurd c1 (by decide))
  refine lv_aload_n hx hb d_M_fails_16 rfl (lv_at hl9 0 rfl) ?_
  refine va_get (D := (dC, dI)) (ci := 3) (v := .int 1) (C := R_M) (T := F_M) (N := 25) hx hb hG i_M hown hK hP 0 rfl rfl 0 (by decide) (hG _ k_440) (fun _ h9 => h9) rfl d_M_fails_17 ?_
  refine lv_if_le (tgt := 27) hx hb d_M_fails_20 (by decide) (fun c2 => absurd c2 (by decide)) (fun c2 => ?_)
  refine lv_iconst (v := 1) hx hb d_M_fails_23 (by decide) ?_
  refine lv_goto (tgt := 28) hx hb d_M_fails_24 (by decide) ?_
  exact W.zret (v := 1) hx hb hr rfl (fun t ht hW => ⟨⟨1, (), rfl, rfl, by have h9 := hP; rw [← ht] at h9; exact h9⟩, hS.F ht⟩) hS.2.2 d_M_fails_28
set_option maxHeartbeats 4000000 in
set_option maxRecDepth 100000 in
theorem m_fails112 (l : Launch) (dC : Nat → ClassId) (dI : Nat → Nat → Nat) (cI cJ cZ cB : ClassId) (m0 mH mL mB mP mR mA mW mU mV mM mT mQ mO mF mS mE mX mD : Nat) (zn rw mc ga gb kn : Int32) (sz : Nat) : Met l y_M_fails w_M_fails ({ frames := 0, cells := 0, slots := 0, locals := 0 }) (PC (dC, dI) (TY cI cJ cZ cB) [.ref m0, .int 1, .int 2] [(m0, .inr (3, [.int 1, .int zn, .ref mH, .ref mL, .ref mB, .ref mP, .ref mR, .ref mA, .ref mW, .ref mU, .ref mV, .int rw, .ref mM, .ref mT, .int mc, .ref mQ, .int ga, .int gb, .int kn, .ref mO, .ref mF, .ref mS, .ref mE, .ref mX, .ref mD]))] sz (va_A [(m0, .inr (3, [.int 1, .int zn, .ref mH, .ref mL, .ref mB, .ref mP, .ref mR, .ref mA, .ref mW, .ref mU, .ref mV, .int rw, .ref mM, .ref mT, .int mc, .ref mQ, .int ga, .int gb, .int kn, .ref mO, .ref mF, .ref mS, .ref mE, .ref mX, .ref mD]))] sz)) (va_Qi (fun (r : Int32) (_ : Unit) => r = 1) (fun (_ : Unit) (t : State) => va_P (dC, dI) vwCl [(m0, .inr (3, [.int 1, .int zn, .ref mH, .ref mL, .ref mB, .ref mP, .ref mR, .ref mA, .ref mW, .ref mU, .ref mV, .int rw, .ref mM, .ref mT, .int mc, .ref mQ, .int ga, .int gb, .int kn, .ref mO, .ref mF, .ref mS, .ref mE, .ref mX, .ref mD]))] t.heap) (va_A [(m0, .inr (3, [.int 1, .int zn, .ref mH, .ref mL, .ref mB, .ref mP, .ref mR, .ref mA, .ref mW, .ref mU, .ref mV, .int rw, .ref mM, .ref mT, .int mc, .ref mQ, .int ga, .int gb, .int kn, .ref mO, .ref mF, .ref mS, .ref mE, .ref mX, .ref mD]))] sz)) 0 0 (va_A [(m0, .inr (3, [.int 1, .int zn, .ref mH, .ref mL, .ref mB, .ref mP, .ref mR, .ref mA, .ref mW, .ref mU, .ref mV, .int rw, .ref mM, .ref mT, .int mc, .ref mQ, .int ga, .int gb, .int kn, .ref mO, .ref mF, .ref mS, .ref mE, .ref mX, .ref mD]))] sz) := by
  refine Met.ofW (cc := b_M_fails) (maxL := 3) (ret := (some .boolean)) (by decide) rfl ?_
  intro p e s m args below meth c s₁ B hml hv
  obtain ⟨rfl, hsz, hP, hK, hD0, hE⟩ := hv
  have hx := B.exec
  have hb := B.bytes
  have hr := B.returns
  have hG : ∀ w ∈ GG, w.before _ s = true := fun w h => atoms_spec (ws := w_M_fails) B.pre w (List.mem_cons_of_mem _ h)
  have hown : s.vm.findClass R_M = some m.cls := findClass_of_methodNamed B.named
  have hlocks := B.notSynchronized
  subst hsz
  have hD := hD0.self (sz := s.heap.size)
  generalize hAe : (va_A [(m0, .inr (3, [.int 1, .int zn, .ref mH, .ref mL, .ref mB, .ref mP, .ref mR, .ref mA, .ref mW, .ref mU, .ref mV, .int rw, .ref mM, .ref mT, .int mc, .ref mQ, .int ga, .int gb, .int kn, .ref mO, .ref mF, .ref mS, .ref mE, .ref mX, .ref mD]))] s.heap.size) = A at hD hE ⊢
  have hA : ∀ q : Nat, s.heap.size ≤ q → A q := fun q h => by rw [← hAe]; exact Or.inr h
  have hS : va_S A s.heap s.heap [] := va_S.rf
  obtain ⟨H, hH⟩ : ∃ z, z = s.heap := ⟨_, rfl⟩
  rw [← hH] at hP
  have hS : va_S A s.heap H [] := by rw [hH]; exact hS
  rw [← hH]
  have hl9 := lv_entry ([.ref m0, .int 1, .int 2]) (n := 3) (Nat.le_of_ble_eq_true rfl)
  rw [lg_entry_eq]
  generalize (lg_sl ([.ref m0, .int 1, .int 2]) ++ List.replicate (3 - (lg_sl ([.ref m0, .int 1, .int 2])).length) Slot.unset).toArray = ls at hl9 ⊢
  have hl9 : lv_has ls 3 [(0, .ref m0), (1, .int 1), (2, .int 2)] := hl9
  refine lv_aload_n hx hb d_M_fails_0 rfl (lv_at hl9 0 rfl) ?_
  refine va_get (D := (dC, dI)) (ci := 3) (v := .int 1) (C := R_M) (T := F_M) (N := 25) hx hb hG i_M hown hK hP 0 rfl rfl 0 (by decide) (hG _ k_440) (fun _ h9 => h9) rfl d_M_fails_1 ?_
  refine lv_if_ne (tgt := 16) hx hb d_M_fails_4 (by decide) (fun c1 => ?_) (fun c1 => absurd c1 (by decide))
  refine lv_aload_n hx hb d_M_fails_16 rfl (lv_at hl9 0 rfl) ?_
  refine va_get (D := (dC, dI)) (ci := 3) (v := .int 1) (C := R_M) (T := F_M) (N := 25) hx hb hG i_M hown hK hP 0 rfl rfl 0 (by decide) (hG _ k_440) (fun _ h9 => h9) rfl d_M_fails_17 ?_
  refine lv_if_le (tgt := 27) hx hb d_M_fails_20 (by decide) (fun c2 => absurd c2 (by decide)) (fun c2 => ?_)
  refine lv_iconst (v := 1) hx hb d_M_fails_23 (by decide) ?_
  refine lv_goto (tgt := 28) hx hb d_M_fails_24 (by decide) ?_
  exact W.zret (v := 1) hx hb hr rfl (fun t ht hW => ⟨⟨1, (), rfl, rfl, by have h9 := hP; rw [← ht] at h9; exact h9⟩, hS.F ht⟩) hS.2.2 d_M_fails_28
