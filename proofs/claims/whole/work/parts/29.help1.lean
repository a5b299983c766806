theorem met_ofWH {l : Launch} {y : MethodName} {ws ws' : List Cond} {rm : Room} {Pc : Array Value → State → Prop} {Qc : Array Value → State → Outcome → State → Prop} {mc ms : Nat} {free : Addr → Prop} {cc : ByteArray} {maxL : Nat} {ret : Option FieldType} {hh : List (Nat × Nat × Nat × Nat)}
    (hy : plainName y.cls = true) (hw : ws = Cond.codeWith y cc maxL ret hh :: ws')
    (body : ∀ p e s m args below meth c s₁, BodyLoose p l y (headSpec ws rm) cc maxL ret e s m args below meth c s₁ → c.maxLocals = maxL → Pc args s →
      W p l e (headSpec ws rm).room s m args below meth c s.heap [] 0 0 (MQ below Qc args s mc ms free) (entryFrame m args maxL)) : Met l y ws rm Pc Qc mc ms free := by
  refine MetFree.of_bodyS (code := cc) (maxLocals := maxL) (ret := ret) hy ?_ ?_
  · intro args s m h hn
    obtain ⟨m9, meth, c, hn9, h1, h2, h3, h4, -, h5, h6, -⟩ := Cond.codeWith_spec (atoms_spec (ws := ws) h _ (by rw [hw]; exact List.mem_cons_self))
    cases hn.symm.trans hn9
    exact ⟨meth, c, h1, h2, h3, h4, h5, h6⟩
  · intro p e s m args below meth c s₁ B hml hP _
    have hh0 : s₁.heap = s.heap := by rw [B.state]; rfl
    obtain ⟨t, a1, o, b1, b2, b3⟩ := body p e s m args below meth c s₁ B hml hP s₁ hh0 (Stand.of_body B)
    exact ⟨t, o, a1, b1, b2, ⟨b3.1, b3.2⟩⟩
/-- a helper's start: as PC, and that an illegal state is no illegal argument -/
def PCL (D : va_G) (tys : List (ClassId × FieldType)) (av : List Value) (w : va_W) (sz : Nat) (A : Nat → Prop) : Array Value → State → Prop :=
  va_Pc av (fun U => U.heap.size = sz ∧ va_P D vwCl w U.heap ∧ va_K D vwCl tys U ∧ va_D (fun _ => True) w ∧ EV A U ∧ va_Nc "java/lang/IllegalStateException" "java/lang/IllegalArgumentException" U)
theorem PCL.blind {D : va_G} {tys : List (ClassId × FieldType)} {av : List Value} {w : va_W} {sz : Nat} {A : Nat → Prop} : FrameBlind (PCL D tys av w sz A) := by
  intro a U g mk q
  obtain ⟨q0, q1, qP, qK, qD, qE, qN⟩ := q
  exact ⟨q0, q1, qP, va_K.moved (u := U) (U := U.calling g mk a) (Vm.Alike.refl U.vm) qK, qD, qE.blind, va_Nc.moved (u := U) (U := U.calling g mk a) (Vm.Alike.refl U.vm) qN⟩
theorem PCL.of {D : va_G} {tys : List (ClassId × FieldType)} {av : List Value} {w : va_W} {A A0 A1 : Nat → Prop} {s : State} {H : Heap} {locs : List Loc} (hP : va_P D vwCl w H) (hK : va_K D vwCl tys s) (hD : va_D A0 w) (hE : EV A s) (hN : va_Nc "java/lang/IllegalStateException" "java/lang/IllegalArgumentException" s) (hS : va_S A s.heap H locs) (hF : ∀ q, A1 q → A q) :
    ∀ U : State, U.heap = H → s.WarmedH U.vm → PCL D tys av w H.size A1 av.toArray U :=
  fun U hU hW => ⟨rfl, by rw [hU], by rw [hU]; exact hP, va_K.moved hW.alike hK, hD.weaken (fun _ _ _ _ => trivial), hE.call hS hF hU hW, hN.moved hW.alike⟩
/-- as jset, with a pool behind -/
theorem jsetP {A0 : Nat → Prop} {D : va_G} {cl : List vw_C} {X wc w1 pl pl1 : va_W} {H H1 : Heap} (is : List Nat) (hC : is.map (fun i => X[i]?) = wc.map some) (h1 : wc.map Prod.fst = w1.map Prod.fst) (hpl : pl1.map Prod.fst = pl.map Prod.fst) (hP : va_P D cl (X ++ pl) H) (hD : va_D A0 (X ++ pl))
    (hk : ∀ q : Nat, q < H.size → ¬ va_A (wc ++ pl) H.size q → H1[q]? = H[q]?) (hP1 : va_P D cl (w1 ++ pl1) H1) : va_P D cl (sets X is w1 ++ pl1) H1 ∧ va_D A0 (sets X is w1 ++ pl1) := by
  have hlen : is.length = w1.length := by
    have e1 := congrArg List.length hC
    have e2 := congrArg List.length h1
    simp only [List.length_map] at e1 e2
    omega
  have hX : ∀ (k : Nat) (q : Nat × va_E), X[k]? = some q → (X ++ pl)[k]? = some q := fun k q h => by
    rw [List.getElem?_append_left (List.getElem?_eq_some_iff.mp h).1]; exact h
  constructor
  · refine wp_mem.mpr (fun q hq => ?_)
    rcases List.mem_append.mp hq with hq | hq
    · obtain ⟨k, hk9⟩ := List.getElem?_of_mem hq
      rcases sets_get is w1 X k q hlen hk9 with h | ⟨hn, h⟩
      · exact wp_mem.mp hP1 q (List.mem_append_left _ h)
      · have hl := (hP k q (hX k q h)).lt
        refine (hP k q (hX k q h)).kept (hk q.1 hl ?_)
        rintro (⟨j, e, hj⟩ | hz)
        · rcases List.mem_append.mp (List.mem_of_getElem? hj) with hm | hm
          · obtain ⟨j2, hj2⟩ := List.getElem?_of_mem hm
            have e1 : (is.map (fun i => X[i]?))[j2]? = some (some (q.1, e)) := by rw [hC, List.getElem?_map, hj2]; rfl
            rw [List.getElem?_map] at e1
            cases hi : is[j2]? with
            | none => rw [hi] at e1; simp at e1
            | some i =>
              rw [hi] at e1
              have e2 : X[i]? = some (q.1, e) := by simpa using e1
              have e3 := hD.1 k i q (q.1, e) (hX k q h) (hX i _ e2) rfl
              exact hn (by rw [e3]; exact List.mem_of_getElem? hi)
          · obtain ⟨j2, hj2⟩ := List.getElem?_of_mem hm
            have e2 : (X ++ pl)[X.length + j2]? = some (q.1, e) := by
              rw [List.getElem?_append_right (by omega), show X.length + j2 - X.length = j2 by omega]; exact hj2
            have e3 := hD.1 k _ q (q.1, e) (hX k q h) e2 rfl
            have := (List.getElem?_eq_some_iff.mp h).1
            omega
        · exact absurd hl (Nat.not_lt.mpr hz)
    · exact wp_mem.mp hP1 q (List.mem_append_right _ hq)
  · refine wd_fst ?_ hD
    rw [List.map_append, List.map_append, hpl, sets_fst is w1 X]
    have e1 : is.map (fun i => (X.map Prod.fst)[i]?) = (is.map (fun i => X[i]?)).map (fun o => o.map Prod.fst) := by
      rw [List.map_map]
      refine List.map_congr_left (fun i _ => ?_)
      simp [List.getElem?_map]
    rw [e1, hC, List.map_map]
    have e2 : w1.map (fun e => some e.1) = (w1.map Prod.fst).map some := by rw [List.map_map]; rfl
    rw [e2, ← h1, List.map_map]
    rfl
theorem g_L_28 : GoodIn GG (wsV R_L 28 R_C y_C_machine w_C_machine) := goodG (List.forall_mem_append.mpr ⟨List.forall_mem_cons.mpr ⟨k_251, List.forall_mem_cons.mpr ⟨k_252, List.forall_mem_cons.mpr ⟨k_253, List.forall_mem_cons.mpr ⟨k_1, fun _ h => absurd h List.not_mem_nil⟩⟩⟩⟩, List.forall_mem_cons.mpr ⟨k_254, fun _ h => h⟩⟩)
set_option maxHeartbeats 4000000 in
set_option maxRecDepth 100000 in
theorem l_machine (l : Launch) (dC : Nat → ClassId) (dI : Nat → Nat → Nat) (cI cJ cZ cB : ClassId) (hl : l.stackTraces = false) (a0 aZ aO aG aP aW aK : Nat) (zc orr ol mp pl fa fb : Int32) (v : Int32) (ou : Nat) (fU : Nat → Int64) (sz : Nat) (hx0 : ¬ (v < 0 ∨ 1000000 < v)) : Met l y_L_machine w_L_machine ({ frames := 8, cells := 1, slots := 6, locals := 126 }) (PCL (dC, dI) (TY cI cJ cZ cB) [.ref a0, .int v, .ref ou] [(a0, .inr (2, [.ref aZ, .int zc, .ref aO, .int orr, .int ol, .int mp, .ref aG, .int pl, .int fa, .int fb, .ref aP, .ref aW, .ref aK])), (ou, .inl (cJ, 1, .inr (.inl fU)))] sz (va_A [(a0, .inr (2, [.ref aZ, .int zc, .ref aO, .int orr, .int ol, .int mp, .ref aG, .int pl, .int fa, .int fb, .ref aP, .ref aW, .ref aK])), (ou, .inl (cJ, 1, .inr (.inl fU)))] sz)) (va_Qi (fun (r : Int32) (_ : Unit) => r = 0) (fun (_ : Unit) (t : State) => va_P (dC, dI) vwCl [(a0, .inr (2, [.ref aZ, .int zc, .ref aO, .int orr, .int ol, .int v, .ref aG, .int 0, .int fa, .int fb, .ref aP, .ref aW, .ref aK])), (ou, .inl (cJ, 1, .inr (.inl (vp_updL fU 0 mp.toInt64))))] t.heap) (va_A [(a0, .inr (2, [.ref aZ, .int zc, .ref aO, .int orr, .int ol, .int mp, .ref aG, .int pl, .int fa, .int fb, .ref aP, .ref aW, .ref aK])), (ou, .inl (cJ, 1, .inr (.inl fU)))] sz)) 1 6 (va_A [(a0, .inr (2, [.ref aZ, .int zc, .ref aO, .int orr, .int ol, .int mp, .ref aG, .int pl, .int fa, .int fb, .ref aP, .ref aW, .ref aK])), (ou, .inl (cJ, 1, .inr (.inl fU)))] sz) := by
  refine met_ofWH (cc := b_L_machine) (maxL := 4) (ret := (some .int)) (by decide) rfl ?_
  intro p e s m args below meth c s₁ B hml hv
  obtain ⟨rfl, hsz, hP, hK, hD0, hE, hNc⟩ := hv
  have hx := B.exec
  have hb := B.bytes
  have hr := B.returns
  have hG : ∀ w ∈ GG, w.before _ s = true := fun w h => atoms_spec (ws := w_L_machine) B.pre w (List.mem_cons_of_mem _ h)
  have hown : s.vm.findClass R_L = some m.cls := findClass_of_methodNamed B.named
  have hlocks := B.notSynchronized
  subst hsz
  have hD := hD0.self (sz := s.heap.size)
  generalize hAe : (va_A [(a0, .inr (2, [.ref aZ, .int zc, .ref aO, .int orr, .int ol, .int mp, .ref aG, .int pl, .int fa, .int fb, .ref aP, .ref aW, .ref aK])), (ou, .inl (cJ, 1, .inr (.inl fU)))] s.heap.size) = A at hD hE ⊢
  have hA : ∀ q : Nat, s.heap.size ≤ q → A q := fun q h => by rw [← hAe]; exact Or.inr h
  have hS : va_S A s.heap s.heap [] := va_S.rf
  obtain ⟨H, hH⟩ : ∃ z, z = s.heap := ⟨_, rfl⟩
  rw [← hH] at hP
  have hS : va_S A s.heap H [] := by rw [hH]; exact hS
  rw [← hH]
  have hl9 := lv_entry ([.ref a0, .int v, .ref ou]) (n := 4) (Nat.le_of_ble_eq_true rfl)
  rw [lg_entry_eq]
  generalize (lg_sl ([.ref a0, .int v, .ref ou]) ++ List.replicate (4 - (lg_sl ([.ref a0, .int v, .ref ou])).length) Slot.unset).toArray = ls at hl9 ⊢
  have hl9 : lv_has ls 4 [(0, .ref a0), (1, .int v), (2, .ref ou)] := hl9
  have htab := vx_table (x := y_L_machine) B (atoms_spec (ws := w_L_machine) B.pre _ List.mem_cons_self)
  refine lv_aload_n hx hb d_L_machine_0 rfl (lv_at hl9 2 rfl) ?_
  refine lv_iconst (v := 0) hx hb d_L_machine_1 (by decide) ?_
  refine lv_aload_n hx hb d_L_machine_2 rfl (lv_at hl9 0 rfl) ?_
  refine lv_iload_n hx hb d_L_machine_3 rfl (lv_at hl9 1 rfl) ?_
  have hPc := hP.sub (ws' := [(a0, .inr (2, [.ref aZ, .int zc, .ref aO, .int orr, .int ol, .int mp, .ref aG, .int pl, .int fa, .int fb, .ref aP, .ref aW, .ref aK]))]) [0] rfl
  have hDc := hD.sub (ws' := [(a0, .inr (2, [.ref aZ, .int zc, .ref aO, .int orr, .int ol, .int mp, .ref aG, .int pl, .int fa, .int fb, .ref aP, .ref aW, .ref aK]))]) [0] (by decide) rfl
  have hFc := va_free (wc := [(a0, .inr (2, [.ref aZ, .int zc, .ref aO, .int orr, .int ol, .int mp, .ref aG, .int pl, .int fa, .int fb, .ref aP, .ref aW, .ref aK]))]) hD hS hA [0] rfl
  refine vx_calli (vx_runV (C := R_C) (As := [.int v]) (rest := [.int 0, .ref ou]) ⟨hx, hb, hml, hown, hG⟩ (c_machine l dC dI cI cJ cZ cB hl a0 aZ aO aG aP aW aK zc orr ol mp pl fa fb v H.size ) (cwV 1 hG g_L_28 rfl rfl rfl (by decide +kernel) ⟨Nat.le_of_ble_eq_true rfl, Nat.le_of_ble_eq_true rfl⟩) ⟨PC.blind, va_recv hK hP (ci := 2) (q0 := 0) rfl rfl, PC.of hPc hK hDc hE hS hFc⟩ rfl rfl hl9.1 rfl (lv_room (Nat.le_of_ble_eq_true rfl)) d_L_machine_4 ⟨by first | exact Nat.le_of_ble_eq_true rfl | omega, by first | exact Nat.le_of_ble_eq_true rfl | omega⟩) hS (fun q _ h => hFc q h) hFc (fun q _ h => hFc q h) (fun E ce q9 u t H1 locs ht hvm hpx hB hz1 hk1 hS hce hcv hcl => ?_) (fun r2 u t H1 locs ht hvm hw hB hz1 hk1 hS => ?_)
  · exact absurd hB.1.2 hx0
  have hw := hw
  rw [ht] at hB
  obtain ⟨hP, hD⟩ := jset (wc := [(a0, .inr (2, [.ref aZ, .int zc, .ref aO, .int orr, .int ol, .int mp, .ref aG, .int pl, .int fa, .int fb, .ref aP, .ref aW, .ref aK]))]) (w1 := [(a0, .inr (2, [.ref aZ, .int zc, .ref aO, .int orr, .int ol, .int v, .ref aG, .int 0, .int fa, .int fb, .ref aP, .ref aW, .ref aK]))]) [0] rfl rfl hP hD hk1 hB
  have hP : va_P (dC, dI) vwCl [(a0, .inr (2, [.ref aZ, .int zc, .ref aO, .int orr, .int ol, .int v, .ref aG, .int 0, .int fa, .int fb, .ref aP, .ref aW, .ref aK])), (ou, .inl (cJ, 1, .inr (.inl fU)))] H1 := hP
  have hD : va_D A [(a0, .inr (2, [.ref aZ, .int zc, .ref aO, .int orr, .int ol, .int v, .ref aG, .int 0, .int fa, .int fb, .ref aP, .ref aW, .ref aK])), (ou, .inl (cJ, 1, .inr (.inl fU)))] := hD
  have hr2 : r2 = mp ∧ ¬ (v < 0 ∨ 1000000 < v) := hw
  rw [hr2.1]
  refine lv_i2l hx hb d_L_machine_7 rfl ?_
  refine va_last hx hb hK hP hD hS 1 1 rfl rfl (vp_in_nI (n := 0) (N := 1) (by decide) (by decide)) d_L_machine_8 (fun H locs hP hD hS => ?_)
  have hP : va_P (dC, dI) vwCl [(a0, .inr (2, [.ref aZ, .int zc, .ref aO, .int orr, .int ol, .int v, .ref aG, .int 0, .int fa, .int fb, .ref aP, .ref aW, .ref aK])), (ou, .inl (cJ, 1, .inr (.inl (vp_updL fU (0 : Int32).toNatClampNeg mp.toInt64))))] H := hP
  have hD : va_D A [(a0, .inr (2, [.ref aZ, .int zc, .ref aO, .int orr, .int ol, .int v, .ref aG, .int 0, .int fa, .int fb, .ref aP, .ref aW, .ref aK])), (ou, .inl (cJ, 1, .inr (.inl (vp_updL fU (0 : Int32).toNatClampNeg mp.toInt64))))] := hD
  refine lv_goto (tgt := 15) hx hb d_L_machine_9 (by decide) ?_
  refine lv_iconst (v := 0) hx hb d_L_machine_15 (by decide) ?_
  exact W.iret (v := 0) hx hb hr (fun t ht hW => ⟨⟨0, (), rfl, rfl, by have h9 := hP; rw [← ht] at h9; exact h9⟩, hS.F ht⟩) hS.2.2 d_L_machine_16
set_option maxHeartbeats 4000000 in
set_option maxRecDepth 100000 in
theorem l_machineX (l : Launch) (dC : Nat → ClassId) (dI : Nat → Nat → Nat) (cI cJ cZ cB : ClassId) (hl : l.stackTraces = false) (a0 aZ aO aG aP aW aK : Nat) (zc orr ol mp pl fa fb : Int32) (v : Int32) (ou : Nat) (fU : Nat → Int64) (sz : Nat) (hx0 : (v < 0 ∨ 1000000 < v)) : Met l y_L_machine w_L_machine ({ frames := 8, cells := 1, slots := 6, locals := 126 }) (PCL (dC, dI) (TY cI cJ cZ cB) [.ref a0, .int v, .ref ou] [(a0, .inr (2, [.ref aZ, .int zc, .ref aO, .int orr, .int ol, .int mp, .ref aG, .int pl, .int fa, .int fb, .ref aP, .ref aW, .ref aK])), (ou, .inl (cJ, 1, .inr (.inl fU)))] sz (va_A [(a0, .inr (2, [.ref aZ, .int zc, .ref aO, .int orr, .int ol, .int mp, .ref aG, .int pl, .int fa, .int fb, .ref aP, .ref aW, .ref aK])), (ou, .inl (cJ, 1, .inr (.inl fU)))] sz)) (va_Qi (fun (r : Int32) (_ : Unit) => r = 1) (fun (_ : Unit) (t : State) => va_P (dC, dI) vwCl [(a0, .inr (2, [.ref aZ, .int zc, .ref aO, .int orr, .int ol, .int mp, .ref aG, .int pl, .int fa, .int fb, .ref aP, .ref aW, .ref aK])), (ou, .inl (cJ, 1, .inr (.inl fU)))] t.heap) (va_A [(a0, .inr (2, [.ref aZ, .int zc, .ref aO, .int orr, .int ol, .int mp, .ref aG, .int pl, .int fa, .int fb, .ref aP, .ref aW, .ref aK])), (ou, .inl (cJ, 1, .inr (.inl fU)))] sz)) 1 6 (va_A [(a0, .inr (2, [.ref aZ, .int zc, .ref aO, .int orr, .int ol, .int mp, .ref aG, .int pl, .int fa, .int fb, .ref aP, .ref aW, .ref aK])), (ou, .inl (cJ, 1, .inr (.inl fU)))] sz) := by
  refine met_ofWH (cc := b_L_machine) (maxL := 4) (ret := (some .int)) (by decide) rfl ?_
  intro p e s m args below meth c s₁ B hml hv
  obtain ⟨rfl, hsz, hP, hK, hD0, hE, hNc⟩ := hv
  have hx := B.exec
  have hb := B.bytes
  have hr := B.returns
  have hG : ∀ w ∈ GG, w.before _ s = true := fun w h => atoms_spec (ws := w_L_machine) B.pre w (List.mem_cons_of_mem _ h)
  have hown : s.vm.findClass R_L = some m.cls := findClass_of_methodNamed B.named
  have hlocks := B.notSynchronized
  subst hsz
  have hD := hD0.self (sz := s.heap.size)
  generalize hAe : (va_A [(a0, .inr (2, [.ref aZ, .int zc, .ref aO, .int orr, .int ol, .int mp, .ref aG, .int pl, .int fa, .int fb, .ref aP, .ref aW, .ref aK])), (ou, .inl (cJ, 1, .inr (.inl fU)))] s.heap.size) = A at hD hE ⊢
  have hA : ∀ q : Nat, s.heap.size ≤ q → A q := fun q h => by rw [← hAe]; exact Or.inr h
  have hS : va_S A s.heap s.heap [] := va_S.rf
  obtain ⟨H, hH⟩ : ∃ z, z = s.heap := ⟨_, rfl⟩
  rw [← hH] at hP
  have hS : va_S A s.heap H [] := by rw [hH]; exact hS
  rw [← hH]
  have hl9 := lv_entry ([.ref a0, .int v, .ref ou]) (n := 4) (Nat.le_of_ble_eq_true rfl)
  rw [lg_entry_eq]
  generalize (lg_sl ([.ref a0, .int v, .ref ou]) ++ List.replicate (4 - (lg_sl ([.ref a0, .int v, .ref ou])).length) Slot.unset).toArray = ls at hl9 ⊢
  have hl9 : lv_has ls 4 [(0, .ref a0), (1, .int v), (2, .ref ou)] := hl9
  have htab := vx_table (x := y_L_machine) B (atoms_spec (ws := w_L_machine) B.pre _ List.mem_cons_self)
  refine lv_aload_n hx hb d_L_machine_0 rfl (lv_at hl9 2 rfl) ?_
  refine lv_iconst (v := 0) hx hb d_L_machine_1 (by decide) ?_
  refine lv_aload_n hx hb d_L_machine_2 rfl (lv_at hl9 0 rfl) ?_
  refine lv_iload_n hx hb d_L_machine_3 rfl (lv_at hl9 1 rfl) ?_
  have hPc := hP.sub (ws' := [(a0, .inr (2, [.ref aZ, .int zc, .ref aO, .int orr, .int ol, .int mp, .ref aG, .int pl, .int fa, .int fb, .ref aP, .ref aW, .ref aK]))]) [0] rfl
  have hDc := hD.sub (ws' := [(a0, .inr (2, [.ref aZ, .int zc, .ref aO, .int orr, .int ol, .int mp, .ref aG, .int pl, .int fa, .int fb, .ref aP, .ref aW, .ref aK]))]) [0] (by decide) rfl
  have hFc := va_free (wc := [(a0, .inr (2, [.ref aZ, .int zc, .ref aO, .int orr, .int ol, .int mp, .ref aG, .int pl, .int fa, .int fb, .ref aP, .ref aW, .ref aK]))]) hD hS hA [0] rfl
  refine vx_calli (vx_runV (C := R_C) (As := [.int v]) (rest := [.int 0, .ref ou]) ⟨hx, hb, hml, hown, hG⟩ (c_machine l dC dI cI cJ cZ cB hl a0 aZ aO aG aP aW aK zc orr ol mp pl fa fb v H.size ) (cwV 1 hG g_L_28 rfl rfl rfl (by decide +kernel) ⟨Nat.le_of_ble_eq_true rfl, Nat.le_of_ble_eq_true rfl⟩) ⟨PC.blind, va_recv hK hP (ci := 2) (q0 := 0) rfl rfl, PC.of hPc hK hDc hE hS hFc⟩ rfl rfl hl9.1 rfl (lv_room (Nat.le_of_ble_eq_true rfl)) d_L_machine_4 ⟨by first | exact Nat.le_of_ble_eq_true rfl | omega, by first | exact Nat.le_of_ble_eq_true rfl | omega⟩) hS (fun q _ h => hFc q h) hFc (fun q _ h => hFc q h) (fun E ce q9 u t H1 locs ht hvm hpx hB hz1 hk1 hS hce hcv hcl => ?_) (fun r2 u t H1 locs ht hvm hw hB hz1 hk1 hS => ?_)
  · have hE9 : E = "java/lang/IllegalArgumentException" := hB.1.1
    have hB2 := hB.2
    rw [ht] at hB2
    obtain ⟨hP, hD⟩ := jset (wc := [(a0, .inr (2, [.ref aZ, .int zc, .ref aO, .int orr, .int ol, .int mp, .ref aG, .int pl, .int fa, .int fb, .ref aP, .ref aW, .ref aK]))]) (w1 := [(a0, .inr (2, [.ref aZ, .int zc, .ref aO, .int orr, .int ol, .int mp, .ref aG, .int pl, .int fa, .int fb, .ref aP, .ref aW, .ref aK]))]) [0] rfl rfl hP hD hk1 hB2
    have hP : va_P (dC, dI) vwCl [(a0, .inr (2, [.ref aZ, .int zc, .ref aO, .int orr, .int ol, .int mp, .ref aG, .int pl, .int fa, .int fb, .ref aP, .ref aW, .ref aK])), (ou, .inl (cJ, 1, .inr (.inl fU)))] H1 := hP
    have hD : va_D A [(a0, .inr (2, [.ref aZ, .int zc, .ref aO, .int orr, .int ol, .int mp, .ref aG, .int pl, .int fa, .int fb, .ref aP, .ref aW, .ref aK])), (ou, .inl (cJ, 1, .inr (.inl fU)))] := hD
    subst hE9
    refine vx_catch (own := R_L) (name := "java/lang/IllegalArgumentException") hown [] ⟨0, 9, 12, 13⟩ [] htab (fun z hz => by simp at hz) (by decide) (by decide) (hG _ k_67) (hE.1.use k_78) hce hcv hcl ?_
    refine lv_astore_n (lv' := [(3, .ref q9), (0, .ref a0), (1, .int v), (2, .ref ou)]) hx hb d_L_machine_12 rfl hl9 (by decide) rfl (fun ls hl9 => ?_)
    refine lv_iconst (v := 1) hx hb d_L_machine_13 (by decide) ?_
    exact W.iret (v := 1) hx hb hr (fun t ht hW => ⟨⟨1, (), rfl, rfl, by have h9 := hP; rw [← ht] at h9; exact h9⟩, hS.F ht⟩) hS.2.2 d_L_machine_14
  have hw := hw
  exact absurd hw (fun h => h.2 hx0)
