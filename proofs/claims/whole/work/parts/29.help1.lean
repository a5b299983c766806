theorem met_ofWH {l : Launch} {y : MethodName} {ws ws' : List Cond} {rm : Room} {Pc : Array Value → State → Prop} {Qc : Array Value → State → Outcome → State → Prop} {mc ms : Nat} {free : Addr → Prop} {cc : ByteArray} {maxL : Nat} {ret : Option FieldType} {hh : List (Nat × Nat × Nat × Nat)}
    (hy : plainName y.cls = true) (hw : ws = Cond.codeWith y cc maxL ret hh :: ws')
    (body : ∀ p e s m args below meth c s₁, BodyLoose p l y (headSpec ws rm) cc maxL ret e s m args below meth c s₁ → c.maxLocals = maxL → Pc args s →
      W p l e (headSpec ws rm).room s m args below meth c s.heap [] 0 0 (MQ below Qc args s mc ms free) (entryFrame m args maxL)) : Met l y ws rm Pc Qc mc ms free := by
  refine MetFree.of_bodyS (code := cc) (maxLocals := maxL) (ret := ret) hy ?_ ?_
  · intro args s m h hn
    obtain ⟨m9, meth, c, hn9, h1, h2, h3, h4, -, h5, h6, -⟩ := Cond.codeWith_spec (atoms_spec (ws := ws) h _ (by rw [hw]; exact List.mem_cons_self))
    cases hn.symm.trans hn9
    exact ⟨meth, c, h1, h2, h3, h4, h5, h6⟩
  · intro p e s m args below meth c s₁ B hml hP _
    have hh0 : s₁.heap = s.heap := by rw [B.state]; rfl
    obtain ⟨t, a1, o, b1, b2, b3⟩ := body p e s m args below meth c s₁ B hml hP s₁ hh0 (Stand.of_body B)
    exact ⟨t, o, a1, b1, b2, ⟨b3.1, b3.2⟩⟩
/-- a helper's start: as PC, and that an illegal state is no illegal argument -/
def PCL (D : va_G) (tys : List (ClassId × FieldType)) (av : List Value) (w : va_W) (sz : Nat) (A : Nat → Prop) : Array Value → State → Prop :=
  va_Pc av (fun U => U.heap.size = sz ∧ va_P D vwCl w U.heap ∧ va_K D vwCl tys U ∧ va_D (fun _ => True) w ∧ EV A U ∧ va_Nc "java/lang/IllegalStateException" "java/lang/IllegalArgumentException" U)
theorem PCL.blind {D : va_G} {tys : List (ClassId × FieldType)} {av : List Value} {w : va_W} {sz : Nat} {A : Nat → Prop} : FrameBlind (PCL D tys av w sz A) := by
  intro a U g mk q
  obtain ⟨q0, q1, qP, qK, qD, qE, qN⟩ := q
  exact ⟨q0, q1, qP, va_K.moved (u := U) (U := U.calling g mk a) (Vm.Alike.refl U.vm) qK, qD, qE.blind, va_Nc.moved (u := U) (U := U.calling g mk a) (Vm.Alike.refl U.vm) qN⟩
theorem PCL.of {D : va_G} {tys : List (ClassId × FieldType)} {av : List Value} {w : va_W} {A A0 A1 : Nat → Prop} {s : State} {H : Heap} {locs : List Loc} (hP : va_P D vwCl w H) (hK : va_K D vwCl tys s) (hD : va_D A0 w) (hE : EV A s) (hN : va_Nc "java/lang/IllegalStateException" "java/lang/IllegalArgumentException" s) (hS : va_S A s.heap H locs) (hF : ∀ q, A1 q → A q) :
    ∀ U : State, U.heap = H → s.WarmedH U.vm → PCL D tys av w H.size A1 av.toArray U :=
  fun U hU hW => ⟨rfl, by rw [hU], by rw [hU]; exact hP, va_K.moved hW.alike hK, hD.weaken (fun _ _ _ _ => trivial), hE.call hS hF hU hW, hN.moved hW.alike⟩
/-- as jset, with a pool behind -/
theorem jsetP {A0 : Nat → Prop} {D : va_G} {cl : List vw_C} {X wc w1 pl pl1 : va_W} {H H1 : Heap} (is : List Nat) (hC : is.map (fun i => X[i]?) = wc.map some) (h1 : wc.map Prod.fst = w1.map Prod.fst) (hpl : pl1.map Prod.fst = pl.map Prod.fst) (hP : va_P D cl (X ++ pl) H) (hD : va_D A0 (X ++ pl))
    (hk : ∀ q : Nat, q < H.size → ¬ va_A (wc ++ pl) H.size q → H1[q]? = H[q]?) (hP1 : va_P D cl (w1 ++ pl1) H1) : va_P D cl (sets X is w1 ++ pl1) H1 ∧ va_D A0 (sets X is w1 ++ pl1) := by
  have hlen : is.length = w1.length := by
    have e1 := congrArg List.length hC
    have e2 := congrArg List.length h1
    simp only [List.length_map] at e1 e2
    omega
  have hX : ∀ (k : Nat) (q : Nat × va_E), X[k]? = some q → (X ++ pl)[k]? = some q := fun k q h => by
    rw [List.getElem?_append_left (List.getElem?_eq_some_iff.mp h).1]; exact h
  constructor
  · refine wp_mem.mpr (fun q hq => ?_)
    rcases List.mem_append.mp hq with hq | hq
    · obtain ⟨k, hk9⟩ := List.getElem?_of_mem hq
      rcases sets_get is w1 X k q hlen hk9 with h | ⟨hn, h⟩
      · exact wp_mem.mp hP1 q (List.mem_append_left _ h)
      · have hl := (hP k q (hX k q h)).lt
        refine (hP k q (hX k q h)).kept (hk q.1 hl ?_)
        rintro (⟨j, e, hj⟩ | hz)
        · rcases List.mem_append.mp (List.mem_of_getElem? hj) with hm | hm
          · obtain ⟨j2, hj2⟩ := List.getElem?_of_mem hm
            have e1 : (is.map (fun i => X[i]?))[j2]? = some (some (q.1, e)) := by rw [hC, List.getElem?_map, hj2]; rfl
            rw [List.getElem?_map] at e1
            cases hi : is[j2]? with
            | none => rw [hi] at e1; simp at e1
            | some i =>
              rw [hi] at e1
              have e2 : X[i]? = some (q.1, e) := by simpa using e1
              have e3 := hD.1 k i q (q.1, e) (hX k q h) (hX i _ e2) rfl
              exact hn (by rw [e3]; exact List.mem_of_getElem? hi)
          · obtain ⟨j2, hj2⟩ := List.getElem?_of_mem hm
            have e2 : (X ++ pl)[X.length + j2]? = some (q.1, e) := by
              rw [List.getElem?_append_right (by omega), show X.length + j2 - X.length = j2 by omega]; exact hj2
            have e3 := hD.1 k _ q (q.1, e) (hX k q h) e2 rfl
            have := (List.getElem?_eq_some_iff.mp h).1
            omega
        · exact absurd hl (Nat.not_lt.mpr hz)
    · exact wp_mem.mp hP1 q (List.mem_append_right _ hq)
  · refine wd_fst ?_ hD
    rw [List.map_append, List.map_append, hpl, sets_fst is w1 X]
    have e1 : is.map (fun i => (X.map Prod.fst)[i]?) = (is.map (fun i => X[i]?)).map (fun o => o.map Prod.fst) := by
      rw [List.map_map]
      refine List.map_congr_left (fun i _ => ?_)
      simp [List.getElem?_map]
    rw [e1, hC, List.map_map]
    have e2 : w1.map (fun e => some e.1) = (w1.map Prod.fst).map some := by rw [List.map_map]; rfl
    rw [e2, ← h1, List.map_map]
    rfl
theorem g_L_28 : GoodIn GG (wsV R_L 28 R_C y_C_machine w_C_machine) := goodG (List.forall_mem_append.mpr ⟨List.forall_mem_cons.mpr ⟨k_251, List.forall_mem_cons.mpr ⟨k_252, List.forall_mem_cons.mpr ⟨k_253, List.forall_mem_cons.mpr ⟨k_1, fun _ h => absurd h List.not_mem_nil⟩⟩⟩⟩, List.forall_mem_cons.mpr ⟨k_254, fun _ h => h⟩⟩)
theorem g_L_48 : GoodIn GG (wsV R_L 48 R_C y_C_fade w_C_fade) := goodG (List.forall_mem_append.mpr ⟨List.forall_mem_cons.mpr ⟨k_334, List.forall_mem_cons.mpr ⟨k_335, List.forall_mem_cons.mpr ⟨k_336, List.forall_mem_cons.mpr ⟨k_1, fun _ h => absurd h List.not_mem_nil⟩⟩⟩⟩, List.forall_mem_cons.mpr ⟨k_337, fun _ h => h⟩⟩)
theorem g_L_62 : GoodIn GG (wsV R_L 62 R_C y_C_price w_C_price) := goodG (List.forall_mem_append.mpr ⟨List.forall_mem_cons.mpr ⟨k_392, List.forall_mem_cons.mpr ⟨k_393, List.forall_mem_cons.mpr ⟨k_394, List.forall_mem_cons.mpr ⟨k_1, fun _ h => absurd h List.not_mem_nil⟩⟩⟩⟩, List.forall_mem_cons.mpr ⟨k_395, fun _ h => h⟩⟩)
theorem g_L_25 : GoodIn GG (wsV R_L 25 R_C y_C_outside w_C_outside) := goodG (List.forall_mem_append.mpr ⟨List.forall_mem_cons.mpr ⟨k_242, List.forall_mem_cons.mpr ⟨k_243, List.forall_mem_cons.mpr ⟨k_244, List.forall_mem_cons.mpr ⟨k_1, fun _ h => absurd h List.not_mem_nil⟩⟩⟩⟩, List.forall_mem_cons.mpr ⟨k_245, fun _ h => h⟩⟩)
theorem g_L_17 : GoodIn GG (wsV R_L 17 R_C y_C_set w_C_set) := goodG (List.forall_mem_append.mpr ⟨List.forall_mem_cons.mpr ⟨k_223, List.forall_mem_cons.mpr ⟨k_224, List.forall_mem_cons.mpr ⟨k_225, List.forall_mem_cons.mpr ⟨k_1, fun _ h => absurd h List.not_mem_nil⟩⟩⟩⟩, List.forall_mem_cons.mpr ⟨k_226, fun _ h => h⟩⟩)
theorem g_L_21 : GoodIn GG (wsV R_L 21 R_C y_C_want w_C_want) := goodG (List.forall_mem_append.mpr ⟨List.forall_mem_cons.mpr ⟨k_235, List.forall_mem_cons.mpr ⟨k_236, List.forall_mem_cons.mpr ⟨k_237, List.forall_mem_cons.mpr ⟨k_1, fun _ h => absurd h List.not_mem_nil⟩⟩⟩⟩, List.forall_mem_cons.mpr ⟨k_238, fun _ h => h⟩⟩)
theorem g_L_55 : GoodIn GG (wsV R_L 55 R_C y_C_lesson w_C_lesson) := goodG (List.forall_mem_append.mpr ⟨List.forall_mem_cons.mpr ⟨k_368, List.forall_mem_cons.mpr ⟨k_369, List.forall_mem_cons.mpr ⟨k_370, List.forall_mem_cons.mpr ⟨k_1, fun _ h => absurd h List.not_mem_nil⟩⟩⟩⟩, List.forall_mem_cons.mpr ⟨k_371, fun _ h => h⟩⟩)
theorem g_L_52 : GoodIn GG (wsV R_L 52 R_C y_C_day w_C_day) := goodG (List.forall_mem_append.mpr ⟨List.forall_mem_cons.mpr ⟨k_341, List.forall_mem_cons.mpr ⟨k_342, List.forall_mem_cons.mpr ⟨k_343, List.forall_mem_cons.mpr ⟨k_1, fun _ h => absurd h List.not_mem_nil⟩⟩⟩⟩, List.forall_mem_cons.mpr ⟨k_344, fun _ h => h⟩⟩)
theorem g_L_7 : GoodIn GG (wsV R_L 7 R_C y_C_zone w_C_zone) := goodG (List.forall_mem_append.mpr ⟨List.forall_mem_cons.mpr ⟨k_69, List.forall_mem_cons.mpr ⟨k_70, List.forall_mem_cons.mpr ⟨k_71, List.forall_mem_cons.mpr ⟨k_1, fun _ h => absurd h List.not_mem_nil⟩⟩⟩⟩, List.forall_mem_cons.mpr ⟨k_72, fun _ h => h⟩⟩)
set_option maxHeartbeats 4000000 in
set_option maxRecDepth 100000 in
theorem l_machine (l : Launch) (dC : Nat → ClassId) (dI : Nat → Nat → Nat) (cI cJ cZ cB : ClassId) (hl : l.stackTraces = false) (a0 aZ aO aG aP aW aK : Nat) (zc orr ol mp pl fa fb : Int32) (v : Int32) (ou : Nat) (fU : Nat → Int64) (sz : Nat) (hx0 : ¬ (v < 0 ∨ 1000000 < v)) : Met l y_L_machine w_L_machine ({ frames := 8, cells := 1, slots := 6, locals := 126 }) (PCL (dC, dI) (TY cI cJ cZ cB) [.ref a0, .int v, .ref ou] [(a0, .inr (2, [.ref aZ, .int zc, .ref aO, .int orr, .int ol, .int mp, .ref aG, .int pl, .int fa, .int fb, .ref aP, .ref aW, .ref aK])), (ou, .inl (cJ, 1, .inr (.inl fU)))] sz (va_A [(a0, .inr (2, [.ref aZ, .int zc, .ref aO, .int orr, .int ol, .int mp, .ref aG, .int pl, .int fa, .int fb, .ref aP, .ref aW, .ref aK])), (ou, .inl (cJ, 1, .inr (.inl fU)))] sz)) (va_Qi (fun (r : Int32) (_ : Unit) => r = 0) (fun (_ : Unit) (t : State) => va_P (dC, dI) vwCl [(a0, .inr (2, [.ref aZ, .int zc, .ref aO, .int orr, .int ol, .int v, .ref aG, .int 0, .int fa, .int fb, .ref aP, .ref aW, .ref aK])), (ou, .inl (cJ, 1, .inr (.inl (vp_updL fU 0 mp.toInt64))))] t.heap) (va_A [(a0, .inr (2, [.ref aZ, .int zc, .ref aO, .int orr, .int ol, .int mp, .ref aG, .int pl, .int fa, .int fb, .ref aP, .ref aW, .ref aK])), (ou, .inl (cJ, 1, .inr (.inl fU)))] sz)) 1 6 (va_A [(a0, .inr (2, [.ref aZ, .int zc, .ref aO, .int orr, .int ol, .int mp, .ref aG, .int pl, .int fa, .int fb, .ref aP, .ref aW, .ref aK])), (ou, .inl (cJ, 1, .inr (.inl fU)))] sz) := by
  refine met_ofWH (cc := b_L_machine) (maxL := 4) (ret := (some .int)) (by decide) rfl ?_
  intro p e s m args below meth c s₁ B hml hv
  obtain ⟨rfl, hsz, hP, hK, hD0, hE, hNc⟩ := hv
  have hx := B.exec
  have hb := B.bytes
  have hr := B.returns
  have hG : ∀ w ∈ GG, w.before _ s = true := fun w h => atoms_spec (ws := w_L_machine) B.pre w (List.mem_cons_of_mem _ h)
  have hown : s.vm.findClass R_L = some m.cls := findClass_of_methodNamed B.named
  have hlocks := B.notSynchronized
  subst hsz
  have hD := hD0.self (sz := s.heap.size)
  generalize hAe : (va_A [(a0, .inr (2, [.ref aZ, .int zc, .ref aO, .int orr, .int ol, .int mp, .ref aG, .int pl, .int fa, .int fb, .ref aP, .ref aW, .ref aK])), (ou, .inl (cJ, 1, .inr (.inl fU)))] s.heap.size) = A at hD hE ⊢
  have hA : ∀ q : Nat, s.heap.size ≤ q → A q := fun q h => by rw [← hAe]; exact Or.inr h
  have hS : va_S A s.heap s.heap [] := va_S.rf
  obtain ⟨H, hH⟩ : ∃ z, z = s.heap := ⟨_, rfl⟩
  rw [← hH] at hP
  have hS : va_S A s.heap H [] := by rw [hH]; exact hS
  rw [← hH]
  have hl9 := lv_entry ([.ref a0, .int v, .ref ou]) (n := 4) (Nat.le_of_ble_eq_true rfl)
  rw [lg_entry_eq]
  generalize (lg_sl ([.ref a0, .int v, .ref ou]) ++ List.replicate (4 - (lg_sl ([.ref a0, .int v, .ref ou])).length) Slot.unset).toArray = ls at hl9 ⊢
  have hl9 : lv_has ls 4 [(0, .ref a0), (1, .int v), (2, .ref ou)] := hl9
  have htab := vx_table (x := y_L_machine) B (atoms_spec (ws := w_L_machine) B.pre _ List.mem_cons_self)
  refine lv_aload_n hx hb d_L_machine_0 rfl (lv_at hl9 2 rfl) ?_
  refine lv_iconst (v := 0) hx hb d_L_machine_1 (by decide) ?_
  refine lv_aload_n hx hb d_L_machine_2 rfl (lv_at hl9 0 rfl) ?_
  refine lv_iload_n hx hb d_L_machine_3 rfl (lv_at hl9 1 rfl) ?_
  have hPc := hP.sub (ws' := [(a0, .inr (2, [.ref aZ, .int zc, .ref aO, .int orr, .int ol, .int mp, .ref aG, .int pl, .int fa, .int fb, .ref aP, .ref aW, .ref aK]))]) [0] rfl
  have hDc := hD.sub (ws' := [(a0, .inr (2, [.ref aZ, .int zc, .ref aO, .int orr, .int ol, .int mp, .ref aG, .int pl, .int fa, .int fb, .ref aP, .ref aW, .ref aK]))]) [0] (by decide) rfl
  have hFc := va_free (wc := [(a0, .inr (2, [.ref aZ, .int zc, .ref aO, .int orr, .int ol, .int mp, .ref aG, .int pl, .int fa, .int fb, .ref aP, .ref aW, .ref aK]))]) hD hS hA [0] rfl
  refine vx_calli (vx_runV (C := R_C) (As := [.int v]) (rest := [.int 0, .ref ou]) ⟨hx, hb, hml, hown, hG⟩ (c_machine l dC dI cI cJ cZ cB hl a0 aZ aO aG aP aW aK zc orr ol mp pl fa fb v H.size ) (cwV 1 hG g_L_28 rfl rfl rfl (by decide +kernel) ⟨Nat.le_of_ble_eq_true rfl, Nat.le_of_ble_eq_true rfl⟩) ⟨PC.blind, va_recv hK hP (ci := 2) (q0 := 0) rfl rfl, PC.of hPc hK hDc hE hS hFc⟩ rfl rfl hl9.1 rfl (lv_room (Nat.le_of_ble_eq_true rfl)) d_L_machine_4 ⟨by first | exact Nat.le_of_ble_eq_true rfl | omega, by first | exact Nat.le_of_ble_eq_true rfl | omega⟩) hS (fun q _ h => hFc q h) hFc (fun q _ h => hFc q h) (fun E ce q9 u t H1 locs ht hvm hpx hB hz1 hk1 hS hce hcv hcl => ?_) (fun r2 u t H1 locs ht hvm hw hB hz1 hk1 hS => ?_)
  · exact absurd hB.1.2 hx0
  have hw := hw
  rw [ht] at hB
  obtain ⟨hP, hD⟩ := jset (wc := [(a0, .inr (2, [.ref aZ, .int zc, .ref aO, .int orr, .int ol, .int mp, .ref aG, .int pl, .int fa, .int fb, .ref aP, .ref aW, .ref aK]))]) (w1 := [(a0, .inr (2, [.ref aZ, .int zc, .ref aO, .int orr, .int ol, .int v, .ref aG, .int 0, .int fa, .int fb, .ref aP, .ref aW, .ref aK]))]) [0] rfl rfl hP hD hk1 hB
  have hP : va_P (dC, dI) vwCl [(a0, .inr (2, [.ref aZ, .int zc, .ref aO, .int orr, .int ol, .int v, .ref aG, .int 0, .int fa, .int fb, .ref aP, .ref aW, .ref aK])), (ou, .inl (cJ, 1, .inr (.inl fU)))] H1 := hP
  have hD : va_D A [(a0, .inr (2, [.ref aZ, .int zc, .ref aO, .int orr, .int ol, .int v, .ref aG, .int 0, .int fa, .int fb, .ref aP, .ref aW, .ref aK])), (ou, .inl (cJ, 1, .inr (.inl fU)))] := hD
  have hr2 : r2 = mp ∧ ¬ (v < 0 ∨ 1000000 < v) := hw
  rw [hr2.1]
  refine lv_i2l hx hb d_L_machine_7 rfl ?_
  refine va_last hx hb hK hP hD hS 1 1 rfl rfl (vp_in_nI (n := 0) (N := 1) (by decide) (by decide)) d_L_machine_8 (fun H locs hP hD hS => ?_)
  have hP : va_P (dC, dI) vwCl [(a0, .inr (2, [.ref aZ, .int zc, .ref aO, .int orr, .int ol, .int v, .ref aG, .int 0, .int fa, .int fb, .ref aP, .ref aW, .ref aK])), (ou, .inl (cJ, 1, .inr (.inl (vp_updL fU (0 : Int32).toNatClampNeg mp.toInt64))))] H := hP
  have hD : va_D A [(a0, .inr (2, [.ref aZ, .int zc, .ref aO, .int orr, .int ol, .int v, .ref aG, .int 0, .int fa, .int fb, .ref aP, .ref aW, .ref aK])), (ou, .inl (cJ, 1, .inr (.inl (vp_updL fU (0 : Int32).toNatClampNeg mp.toInt64))))] := hD
  refine lv_goto (tgt := 15) hx hb d_L_machine_9 (by decide) ?_
  refine lv_iconst (v := 0) hx hb d_L_machine_15 (by decide) ?_
  exact W.iret (v := 0) hx hb hr (fun t ht hW => ⟨⟨0, (), rfl, rfl, by have h9 := hP; rw [← ht] at h9; exact h9⟩, hS.F ht⟩) hS.2.2 d_L_machine_16
set_option maxHeartbeats 4000000 in
set_option maxRecDepth 100000 in
theorem l_machineX (l : Launch) (dC : Nat → ClassId) (dI : Nat → Nat → Nat) (cI cJ cZ cB : ClassId) (hl : l.stackTraces = false) (a0 aZ aO aG aP aW aK : Nat) (zc orr ol mp pl fa fb : Int32) (v : Int32) (ou : Nat) (fU : Nat → Int64) (sz : Nat) (hx0 : (v < 0 ∨ 1000000 < v)) : Met l y_L_machine w_L_machine ({ frames := 8, cells := 1, slots := 6, locals := 126 }) (PCL (dC, dI) (TY cI cJ cZ cB) [.ref a0, .int v, .ref ou] [(a0, .inr (2, [.ref aZ, .int zc, .ref aO, .int orr, .int ol, .int mp, .ref aG, .int pl, .int fa, .int fb, .ref aP, .ref aW, .ref aK])), (ou, .inl (cJ, 1, .inr (.inl fU)))] sz (va_A [(a0, .inr (2, [.ref aZ, .int zc, .ref aO, .int orr, .int ol, .int mp, .ref aG, .int pl, .int fa, .int fb, .ref aP, .ref aW, .ref aK])), (ou, .inl (cJ, 1, .inr (.inl fU)))] sz)) (va_Qi (fun (r : Int32) (_ : Unit) => r = 1) (fun (_ : Unit) (t : State) => va_P (dC, dI) vwCl [(a0, .inr (2, [.ref aZ, .int zc, .ref aO, .int orr, .int ol, .int mp, .ref aG, .int pl, .int fa, .int fb, .ref aP, .ref aW, .ref aK])), (ou, .inl (cJ, 1, .inr (.inl fU)))] t.heap) (va_A [(a0, .inr (2, [.ref aZ, .int zc, .ref aO, .int orr, .int ol, .int mp, .ref aG, .int pl, .int fa, .int fb, .ref aP, .ref aW, .ref aK])), (ou, .inl (cJ, 1, .inr (.inl fU)))] sz)) 1 6 (va_A [(a0, .inr (2, [.ref aZ, .int zc, .ref aO, .int orr, .int ol, .int mp, .ref aG, .int pl, .int fa, .int fb, .ref aP, .ref aW, .ref aK])), (ou, .inl (cJ, 1, .inr (.inl fU)))] sz) := by
  refine met_ofWH (cc := b_L_machine) (maxL := 4) (ret := (some .int)) (by decide) rfl ?_
  intro p e s m args below meth c s₁ B hml hv
  obtain ⟨rfl, hsz, hP, hK, hD0, hE, hNc⟩ := hv
  have hx := B.exec
  have hb := B.bytes
  have hr := B.returns
  have hG : ∀ w ∈ GG, w.before _ s = true := fun w h => atoms_spec (ws := w_L_machine) B.pre w (List.mem_cons_of_mem _ h)
  have hown : s.vm.findClass R_L = some m.cls := findClass_of_methodNamed B.named
  have hlocks := B.notSynchronized
  subst hsz
  have hD := hD0.self (sz := s.heap.size)
  generalize hAe : (va_A [(a0, .inr (2, [.ref aZ, .int zc, .ref aO, .int orr, .int ol, .int mp, .ref aG, .int pl, .int fa, .int fb, .ref aP, .ref aW, .ref aK])), (ou, .inl (cJ, 1, .inr (.inl fU)))] s.heap.size) = A at hD hE ⊢
  have hA : ∀ q : Nat, s.heap.size ≤ q → A q := fun q h => by rw [← hAe]; exact Or.inr h
  have hS : va_S A s.heap s.heap [] := va_S.rf
  obtain ⟨H, hH⟩ : ∃ z, z = s.heap := ⟨_, rfl⟩
  rw [← hH] at hP
  have hS : va_S A s.heap H [] := by rw [hH]; exact hS
  rw [← hH]
  have hl9 := lv_entry ([.ref a0, .int v, .ref ou]) (n := 4) (Nat.le_of_ble_eq_true rfl)
  rw [lg_entry_eq]
  generalize (lg_sl ([.ref a0, .int v, .ref ou]) ++ List.replicate (4 - (lg_sl ([.ref a0, .int v, .ref ou])).length) Slot.unset).toArray = ls at hl9 ⊢
  have hl9 : lv_has ls 4 [(0, .ref a0), (1, .int v), (2, .ref ou)] := hl9
  have htab := vx_table (x := y_L_machine) B (atoms_spec (ws := w_L_machine) B.pre _ List.mem_cons_self)
  refine lv_aload_n hx hb d_L_machine_0 rfl (lv_at hl9 2 rfl) ?_
  refine lv_iconst (v := 0) hx hb d_L_machine_1 (by decide) ?_
  refine lv_aload_n hx hb d_L_machine_2 rfl (lv_at hl9 0 rfl) ?_
  refine lv_iload_n hx hb d_L_machine_3 rfl (lv_at hl9 1 rfl) ?_
  have hPc := hP.sub (ws' := [(a0, .inr (2, [.ref aZ, .int zc, .ref aO, .int orr, .int ol, .int mp, .ref aG, .int pl, .int fa, .int fb, .ref aP, .ref aW, .ref aK]))]) [0] rfl
  have hDc := hD.sub (ws' := [(a0, .inr (2, [.ref aZ, .int zc, .ref aO, .int orr, .int ol, .int mp, .ref aG, .int pl, .int fa, .int fb, .ref aP, .ref aW, .ref aK]))]) [0] (by decide) rfl
  have hFc := va_free (wc := [(a0, .inr (2, [.ref aZ, .int zc, .ref aO, .int orr, .int ol, .int mp, .ref aG, .int pl, .int fa, .int fb, .ref aP, .ref aW, .ref aK]))]) hD hS hA [0] rfl
  refine vx_calli (vx_runV (C := R_C) (As := [.int v]) (rest := [.int 0, .ref ou]) ⟨hx, hb, hml, hown, hG⟩ (c_machine l dC dI cI cJ cZ cB hl a0 aZ aO aG aP aW aK zc orr ol mp pl fa fb v H.size ) (cwV 1 hG g_L_28 rfl rfl rfl (by decide +kernel) ⟨Nat.le_of_ble_eq_true rfl, Nat.le_of_ble_eq_true rfl⟩) ⟨PC.blind, va_recv hK hP (ci := 2) (q0 := 0) rfl rfl, PC.of hPc hK hDc hE hS hFc⟩ rfl rfl hl9.1 rfl (lv_room (Nat.le_of_ble_eq_true rfl)) d_L_machine_4 ⟨by first | exact Nat.le_of_ble_eq_true rfl | omega, by first | exact Nat.le_of_ble_eq_true rfl | omega⟩) hS (fun q _ h => hFc q h) hFc (fun q _ h => hFc q h) (fun E ce q9 u t H1 locs ht hvm hpx hB hz1 hk1 hS hce hcv hcl => ?_) (fun r2 u t H1 locs ht hvm hw hB hz1 hk1 hS => ?_)
  · have hE9 : E = "java/lang/IllegalArgumentException" := hB.1.1
    have hB2 := hB.2
    rw [ht] at hB2
    obtain ⟨hP, hD⟩ := jset (wc := [(a0, .inr (2, [.ref aZ, .int zc, .ref aO, .int orr, .int ol, .int mp, .ref aG, .int pl, .int fa, .int fb, .ref aP, .ref aW, .ref aK]))]) (w1 := [(a0, .inr (2, [.ref aZ, .int zc, .ref aO, .int orr, .int ol, .int mp, .ref aG, .int pl, .int fa, .int fb, .ref aP, .ref aW, .ref aK]))]) [0] rfl rfl hP hD hk1 hB2
    have hP : va_P (dC, dI) vwCl [(a0, .inr (2, [.ref aZ, .int zc, .ref aO, .int orr, .int ol, .int mp, .ref aG, .int pl, .int fa, .int fb, .ref aP, .ref aW, .ref aK])), (ou, .inl (cJ, 1, .inr (.inl fU)))] H1 := hP
    have hD : va_D A [(a0, .inr (2, [.ref aZ, .int zc, .ref aO, .int orr, .int ol, .int mp, .ref aG, .int pl, .int fa, .int fb, .ref aP, .ref aW, .ref aK])), (ou, .inl (cJ, 1, .inr (.inl fU)))] := hD
    subst hE9
    refine vx_catch (own := R_L) (name := "java/lang/IllegalArgumentException") hown [] ⟨0, 9, 12, 13⟩ [] htab (fun z hz => by simp at hz) (by decide) (by decide) (hG _ k_67) (hE.1.use k_78) hce hcv hcl ?_
    refine lv_astore_n (lv' := [(3, .ref q9), (0, .ref a0), (1, .int v), (2, .ref ou)]) hx hb d_L_machine_12 rfl hl9 (by decide) rfl (fun ls hl9 => ?_)
    refine lv_iconst (v := 1) hx hb d_L_machine_13 (by decide) ?_
    exact W.iret (v := 1) hx hb hr (fun t ht hW => ⟨⟨1, (), rfl, rfl, by have h9 := hP; rw [← ht] at h9; exact h9⟩, hS.F ht⟩) hS.2.2 d_L_machine_14
  have hw := hw
  exact absurd hw (fun h => h.2 hx0)
set_option maxHeartbeats 4000000 in
set_option maxRecDepth 100000 in
theorem l_fade (l : Launch) (dC : Nat → ClassId) (dI : Nat → Nat → Nat) (cI cJ cZ cB : ClassId) (hl : l.stackTraces = false) (a0 aZ aO aG aP aW aK : Nat) (zc orr ol mp pl fa fb : Int32) (x y : Int32) (sz : Nat) (hx0 : ¬ ((y < 1 ∨ 100 < y) ∨ (x < 0 ∨ y < x))) : Met l y_L_fade w_L_fade ({ frames := 8, cells := 2, slots := 12, locals := 126 }) (PCL (dC, dI) (TY cI cJ cZ cB) [.ref a0, .int x, .int y] [(a0, .inr (2, [.ref aZ, .int zc, .ref aO, .int orr, .int ol, .int mp, .ref aG, .int pl, .int fa, .int fb, .ref aP, .ref aW, .ref aK]))] sz (va_A [(a0, .inr (2, [.ref aZ, .int zc, .ref aO, .int orr, .int ol, .int mp, .ref aG, .int pl, .int fa, .int fb, .ref aP, .ref aW, .ref aK]))] sz)) (va_Qi (fun (r : Int32) (_ : Unit) => r = 0) (fun (_ : Unit) (t : State) => va_P (dC, dI) vwCl [(a0, .inr (2, [.ref aZ, .int zc, .ref aO, .int orr, .int ol, .int mp, .ref aG, .int pl, .int x, .int y, .ref aP, .ref aW, .ref aK]))] t.heap) (va_A [(a0, .inr (2, [.ref aZ, .int zc, .ref aO, .int orr, .int ol, .int mp, .ref aG, .int pl, .int fa, .int fb, .ref aP, .ref aW, .ref aK]))] sz)) 2 12 (va_A [(a0, .inr (2, [.ref aZ, .int zc, .ref aO, .int orr, .int ol, .int mp, .ref aG, .int pl, .int fa, .int fb, .ref aP, .ref aW, .ref aK]))] sz) := by
  refine met_ofWH (cc := b_L_fade) (maxL := 4) (ret := (some .int)) (by decide) rfl ?_
  intro p e s m args below meth c s₁ B hml hv
  obtain ⟨rfl, hsz, hP, hK, hD0, hE, hNc⟩ := hv
  have hx := B.exec
  have hb := B.bytes
  have hr := B.returns
  have hG : ∀ w ∈ GG, w.before _ s = true := fun w h => atoms_spec (ws := w_L_fade) B.pre w (List.mem_cons_of_mem _ h)
  have hown : s.vm.findClass R_L = some m.cls := findClass_of_methodNamed B.named
  have hlocks := B.notSynchronized
  subst hsz
  have hD := hD0.self (sz := s.heap.size)
  generalize hAe : (va_A [(a0, .inr (2, [.ref aZ, .int zc, .ref aO, .int orr, .int ol, .int mp, .ref aG, .int pl, .int fa, .int fb, .ref aP, .ref aW, .ref aK]))] s.heap.size) = A at hD hE ⊢
  have hA : ∀ q : Nat, s.heap.size ≤ q → A q := fun q h => by rw [← hAe]; exact Or.inr h
  have hS : va_S A s.heap s.heap [] := va_S.rf
  obtain ⟨H, hH⟩ : ∃ z, z = s.heap := ⟨_, rfl⟩
  rw [← hH] at hP
  have hS : va_S A s.heap H [] := by rw [hH]; exact hS
  rw [← hH]
  have hl9 := lv_entry ([.ref a0, .int x, .int y]) (n := 4) (Nat.le_of_ble_eq_true rfl)
  rw [lg_entry_eq]
  generalize (lg_sl ([.ref a0, .int x, .int y]) ++ List.replicate (4 - (lg_sl ([.ref a0, .int x, .int y])).length) Slot.unset).toArray = ls at hl9 ⊢
  have hl9 : lv_has ls 4 [(0, .ref a0), (1, .int x), (2, .int y)] := hl9
  have htab := vx_table (x := y_L_fade) B (atoms_spec (ws := w_L_fade) B.pre _ List.mem_cons_self)
  refine lv_aload_n hx hb d_L_fade_0 rfl (lv_at hl9 0 rfl) ?_
  refine lv_iload_n hx hb d_L_fade_1 rfl (lv_at hl9 1 rfl) ?_
  refine lv_iload_n hx hb d_L_fade_2 rfl (lv_at hl9 2 rfl) ?_
  have hPc := hP.sub (ws' := [(a0, .inr (2, [.ref aZ, .int zc, .ref aO, .int orr, .int ol, .int mp, .ref aG, .int pl, .int fa, .int fb, .ref aP, .ref aW, .ref aK]))]) [0] rfl
  have hDc := hD.sub (ws' := [(a0, .inr (2, [.ref aZ, .int zc, .ref aO, .int orr, .int ol, .int mp, .ref aG, .int pl, .int fa, .int fb, .ref aP, .ref aW, .ref aK]))]) [0] (by decide) rfl
  have hFc := va_free (wc := [(a0, .inr (2, [.ref aZ, .int zc, .ref aO, .int orr, .int ol, .int mp, .ref aG, .int pl, .int fa, .int fb, .ref aP, .ref aW, .ref aK]))]) hD hS hA [0] rfl
  refine vx_callv (vx_runV (C := R_C) (As := [.int x, .int y]) (rest := []) ⟨hx, hb, hml, hown, hG⟩ (c_fade l dC dI cI cJ cZ cB hl a0 aZ aO aG aP aW aK zc orr ol mp pl fa fb x y H.size ) (cwV 2 hG g_L_48 rfl rfl rfl (by decide +kernel) ⟨Nat.le_of_ble_eq_true rfl, Nat.le_of_ble_eq_true rfl⟩) ⟨PC.blind, va_recv hK hP (ci := 2) (q0 := 0) rfl rfl, PC.of hPc hK hDc hE hS hFc⟩ rfl rfl hl9.1 rfl (lv_room (Nat.le_of_ble_eq_true rfl)) d_L_fade_3 ⟨by first | exact Nat.le_of_ble_eq_true rfl | omega, by first | exact Nat.le_of_ble_eq_true rfl | omega⟩) hS (fun q _ h => hFc q h) hFc (fun q _ h => hFc q h) (fun E ce q9 u t H1 locs ht hvm hpx hB hz1 hk1 hS hce hcv hcl => ?_) (fun u t H1 locs ht hvm hw hB hz1 hk1 hS => ?_)
  · exact absurd hB.1.2 hx0
  have hw := hw
  rw [ht] at hB
  obtain ⟨hP, hD⟩ := jset (wc := [(a0, .inr (2, [.ref aZ, .int zc, .ref aO, .int orr, .int ol, .int mp, .ref aG, .int pl, .int fa, .int fb, .ref aP, .ref aW, .ref aK]))]) (w1 := [(a0, .inr (2, [.ref aZ, .int zc, .ref aO, .int orr, .int ol, .int mp, .ref aG, .int pl, .int x, .int y, .ref aP, .ref aW, .ref aK]))]) [0] rfl rfl hP hD hk1 hB
  have hP : va_P (dC, dI) vwCl [(a0, .inr (2, [.ref aZ, .int zc, .ref aO, .int orr, .int ol, .int mp, .ref aG, .int pl, .int x, .int y, .ref aP, .ref aW, .ref aK]))] H1 := hP
  have hD : va_D A [(a0, .inr (2, [.ref aZ, .int zc, .ref aO, .int orr, .int ol, .int mp, .ref aG, .int pl, .int x, .int y, .ref aP, .ref aW, .ref aK]))] := hD
  have hq3 : ¬ ((y < 1 ∨ 100 < y) ∨ (x < 0 ∨ y < x)) := hw
  refine lv_goto (tgt := 12) hx hb d_L_fade_6 (by decide) ?_
  refine lv_iconst (v := 0) hx hb d_L_fade_12 (by decide) ?_
  exact W.iret (v := 0) hx hb hr (fun t ht hW => ⟨⟨0, (), rfl, rfl, by have h9 := hP; rw [← ht] at h9; exact h9⟩, hS.F ht⟩) hS.2.2 d_L_fade_13
set_option maxHeartbeats 4000000 in
set_option maxRecDepth 100000 in
theorem l_fadeX (l : Launch) (dC : Nat → ClassId) (dI : Nat → Nat → Nat) (cI cJ cZ cB : ClassId) (hl : l.stackTraces = false) (a0 aZ aO aG aP aW aK : Nat) (zc orr ol mp pl fa fb : Int32) (x y : Int32) (sz : Nat) (hx0 : ((y < 1 ∨ 100 < y) ∨ (x < 0 ∨ y < x))) : Met l y_L_fade w_L_fade ({ frames := 8, cells := 2, slots := 12, locals := 126 }) (PCL (dC, dI) (TY cI cJ cZ cB) [.ref a0, .int x, .int y] [(a0, .inr (2, [.ref aZ, .int zc, .ref aO, .int orr, .int ol, .int mp, .ref aG, .int pl, .int fa, .int fb, .ref aP, .ref aW, .ref aK]))] sz (va_A [(a0, .inr (2, [.ref aZ, .int zc, .ref aO, .int orr, .int ol, .int mp, .ref aG, .int pl, .int fa, .int fb, .ref aP, .ref aW, .ref aK]))] sz)) (va_Qi (fun (r : Int32) (_ : Unit) => r = 1) (fun (_ : Unit) (t : State) => va_P (dC, dI) vwCl [(a0, .inr (2, [.ref aZ, .int zc, .ref aO, .int orr, .int ol, .int mp, .ref aG, .int pl, .int fa, .int fb, .ref aP, .ref aW, .ref aK]))] t.heap) (va_A [(a0, .inr (2, [.ref aZ, .int zc, .ref aO, .int orr, .int ol, .int mp, .ref aG, .int pl, .int fa, .int fb, .ref aP, .ref aW, .ref aK]))] sz)) 2 12 (va_A [(a0, .inr (2, [.ref aZ, .int zc, .ref aO, .int orr, .int ol, .int mp, .ref aG, .int pl, .int fa, .int fb, .ref aP, .ref aW, .ref aK]))] sz) := by
  refine met_ofWH (cc := b_L_fade) (maxL := 4) (ret := (some .int)) (by decide) rfl ?_
  intro p e s m args below meth c s₁ B hml hv
  obtain ⟨rfl, hsz, hP, hK, hD0, hE, hNc⟩ := hv
  have hx := B.exec
  have hb := B.bytes
  have hr := B.returns
  have hG : ∀ w ∈ GG, w.before _ s = true := fun w h => atoms_spec (ws := w_L_fade) B.pre w (List.mem_cons_of_mem _ h)
  have hown : s.vm.findClass R_L = some m.cls := findClass_of_methodNamed B.named
  have hlocks := B.notSynchronized
  subst hsz
  have hD := hD0.self (sz := s.heap.size)
  generalize hAe : (va_A [(a0, .inr (2, [.ref aZ, .int zc, .ref aO, .int orr, .int ol, .int mp, .ref aG, .int pl, .int fa, .int fb, .ref aP, .ref aW, .ref aK]))] s.heap.size) = A at hD hE ⊢
  have hA : ∀ q : Nat, s.heap.size ≤ q → A q := fun q h => by rw [← hAe]; exact Or.inr h
  have hS : va_S A s.heap s.heap [] := va_S.rf
  obtain ⟨H, hH⟩ : ∃ z, z = s.heap := ⟨_, rfl⟩
  rw [← hH] at hP
  have hS : va_S A s.heap H [] := by rw [hH]; exact hS
  rw [← hH]
  have hl9 := lv_entry ([.ref a0, .int x, .int y]) (n := 4) (Nat.le_of_ble_eq_true rfl)
  rw [lg_entry_eq]
  generalize (lg_sl ([.ref a0, .int x, .int y]) ++ List.replicate (4 - (lg_sl ([.ref a0, .int x, .int y])).length) Slot.unset).toArray = ls at hl9 ⊢
  have hl9 : lv_has ls 4 [(0, .ref a0), (1, .int x), (2, .int y)] := hl9
  have htab := vx_table (x := y_L_fade) B (atoms_spec (ws := w_L_fade) B.pre _ List.mem_cons_self)
  refine lv_aload_n hx hb d_L_fade_0 rfl (lv_at hl9 0 rfl) ?_
  refine lv_iload_n hx hb d_L_fade_1 rfl (lv_at hl9 1 rfl) ?_
  refine lv_iload_n hx hb d_L_fade_2 rfl (lv_at hl9 2 rfl) ?_
  have hPc := hP.sub (ws' := [(a0, .inr (2, [.ref aZ, .int zc, .ref aO, .int orr, .int ol, .int mp, .ref aG, .int pl, .int fa, .int fb, .ref aP, .ref aW, .ref aK]))]) [0] rfl
  have hDc := hD.sub (ws' := [(a0, .inr (2, [.ref aZ, .int zc, .ref aO, .int orr, .int ol, .int mp, .ref aG, .int pl, .int fa, .int fb, .ref aP, .ref aW, .ref aK]))]) [0] (by decide) rfl
  have hFc := va_free (wc := [(a0, .inr (2, [.ref aZ, .int zc, .ref aO, .int orr, .int ol, .int mp, .ref aG, .int pl, .int fa, .int fb, .ref aP, .ref aW, .ref aK]))]) hD hS hA [0] rfl
  refine vx_callv (vx_runV (C := R_C) (As := [.int x, .int y]) (rest := []) ⟨hx, hb, hml, hown, hG⟩ (c_fade l dC dI cI cJ cZ cB hl a0 aZ aO aG aP aW aK zc orr ol mp pl fa fb x y H.size ) (cwV 2 hG g_L_48 rfl rfl rfl (by decide +kernel) ⟨Nat.le_of_ble_eq_true rfl, Nat.le_of_ble_eq_true rfl⟩) ⟨PC.blind, va_recv hK hP (ci := 2) (q0 := 0) rfl rfl, PC.of hPc hK hDc hE hS hFc⟩ rfl rfl hl9.1 rfl (lv_room (Nat.le_of_ble_eq_true rfl)) d_L_fade_3 ⟨by first | exact Nat.le_of_ble_eq_true rfl | omega, by first | exact Nat.le_of_ble_eq_true rfl | omega⟩) hS (fun q _ h => hFc q h) hFc (fun q _ h => hFc q h) (fun E ce q9 u t H1 locs ht hvm hpx hB hz1 hk1 hS hce hcv hcl => ?_) (fun u t H1 locs ht hvm hw hB hz1 hk1 hS => ?_)
  · have hE9 : E = "java/lang/IllegalArgumentException" := hB.1.1
    have hB2 := hB.2
    rw [ht] at hB2
    obtain ⟨hP, hD⟩ := jset (wc := [(a0, .inr (2, [.ref aZ, .int zc, .ref aO, .int orr, .int ol, .int mp, .ref aG, .int pl, .int fa, .int fb, .ref aP, .ref aW, .ref aK]))]) (w1 := [(a0, .inr (2, [.ref aZ, .int zc, .ref aO, .int orr, .int ol, .int mp, .ref aG, .int pl, .int fa, .int fb, .ref aP, .ref aW, .ref aK]))]) [0] rfl rfl hP hD hk1 hB2
    have hP : va_P (dC, dI) vwCl [(a0, .inr (2, [.ref aZ, .int zc, .ref aO, .int orr, .int ol, .int mp, .ref aG, .int pl, .int fa, .int fb, .ref aP, .ref aW, .ref aK]))] H1 := hP
    have hD : va_D A [(a0, .inr (2, [.ref aZ, .int zc, .ref aO, .int orr, .int ol, .int mp, .ref aG, .int pl, .int fa, .int fb, .ref aP, .ref aW, .ref aK]))] := hD
    subst hE9
    refine vx_catch (own := R_L) (name := "java/lang/IllegalArgumentException") hown [] ⟨0, 6, 9, 13⟩ [] htab (fun z hz => by simp at hz) (by decide) (by decide) (hG _ k_67) (hE.1.use k_78) hce hcv hcl ?_
    refine lv_astore_n (lv' := [(3, .ref q9), (0, .ref a0), (1, .int x), (2, .int y)]) hx hb d_L_fade_9 rfl hl9 (by decide) rfl (fun ls hl9 => ?_)
    refine lv_iconst (v := 1) hx hb d_L_fade_10 (by decide) ?_
    exact W.iret (v := 1) hx hb hr (fun t ht hW => ⟨⟨1, (), rfl, rfl, by have h9 := hP; rw [← ht] at h9; exact h9⟩, hS.F ht⟩) hS.2.2 d_L_fade_11
  have hw := hw
  exact absurd hw (fun h => h hx0)
set_option maxHeartbeats 4000000 in
set_option maxRecDepth 100000 in
theorem l_price (l : Launch) (dC : Nat → ClassId) (dI : Nat → Nat → Nat) (cI cJ cZ cB : ClassId) (hl : l.stackTraces = false) (a0 aZ aO aG aP aW aK : Nat) (zc orr ol mp pl fa fb : Int32) (fP : Nat → Int32) (x y : Int32) (ou : Nat) (fU : Nat → Int64) (sz : Nat) (hx0 : ¬ ((x < 0 ∨ 23 < x) ∨ (y < 0 ∨ 1000 < y))) : Met l y_L_price w_L_price ({ frames := 8, cells := 2, slots := 12, locals := 127 }) (PCL (dC, dI) (TY cI cJ cZ cB) [.ref a0, .int x, .int y, .ref ou] [(a0, .inr (2, [.ref aZ, .int zc, .ref aO, .int orr, .int ol, .int mp, .ref aG, .int pl, .int fa, .int fb, .ref aP, .ref aW, .ref aK])), (aP, .inl (cI, 24, .inl fP)), (ou, .inl (cJ, 1, .inr (.inl fU)))] sz (va_A [(a0, .inr (2, [.ref aZ, .int zc, .ref aO, .int orr, .int ol, .int mp, .ref aG, .int pl, .int fa, .int fb, .ref aP, .ref aW, .ref aK])), (aP, .inl (cI, 24, .inl fP)), (ou, .inl (cJ, 1, .inr (.inl fU)))] sz)) (va_Qi (fun (r : Int32) (_ : Unit) => r = 0) (fun (_ : Unit) (t : State) => va_P (dC, dI) vwCl [(a0, .inr (2, [.ref aZ, .int zc, .ref aO, .int orr, .int ol, .int mp, .ref aG, .int pl, .int fa, .int fb, .ref aP, .ref aW, .ref aK])), (aP, .inl (cI, 24, .inl (upd fP x.toNatClampNeg y))), (ou, .inl (cJ, 1, .inr (.inl (vp_updL fU 0 (fP x.toNatClampNeg).toInt64))))] t.heap) (va_A [(a0, .inr (2, [.ref aZ, .int zc, .ref aO, .int orr, .int ol, .int mp, .ref aG, .int pl, .int fa, .int fb, .ref aP, .ref aW, .ref aK])), (aP, .inl (cI, 24, .inl fP)), (ou, .inl (cJ, 1, .inr (.inl fU)))] sz)) 2 12 (va_A [(a0, .inr (2, [.ref aZ, .int zc, .ref aO, .int orr, .int ol, .int mp, .ref aG, .int pl, .int fa, .int fb, .ref aP, .ref aW, .ref aK])), (aP, .inl (cI, 24, .inl fP)), (ou, .inl (cJ, 1, .inr (.inl fU)))] sz) := by
  refine met_ofWH (cc := b_L_price) (maxL := 5) (ret := (some .int)) (by decide) rfl ?_
  intro p e s m args below meth c s₁ B hml hv
  obtain ⟨rfl, hsz, hP, hK, hD0, hE, hNc⟩ := hv
  have hx := B.exec
  have hb := B.bytes
  have hr := B.returns
  have hG : ∀ w ∈ GG, w.before _ s = true := fun w h => atoms_spec (ws := w_L_price) B.pre w (List.mem_cons_of_mem _ h)
  have hown : s.vm.findClass R_L = some m.cls := findClass_of_methodNamed B.named
  have hlocks := B.notSynchronized
  subst hsz
  have hD := hD0.self (sz := s.heap.size)
  generalize hAe : (va_A [(a0, .inr (2, [.ref aZ, .int zc, .ref aO, .int orr, .int ol, .int mp, .ref aG, .int pl, .int fa, .int fb, .ref aP, .ref aW, .ref aK])), (aP, .inl (cI, 24, .inl fP)), (ou, .inl (cJ, 1, .inr (.inl fU)))] s.heap.size) = A at hD hE ⊢
  have hA : ∀ q : Nat, s.heap.size ≤ q → A q := fun q h => by rw [← hAe]; exact Or.inr h
  have hS : va_S A s.heap s.heap [] := va_S.rf
  obtain ⟨H, hH⟩ : ∃ z, z = s.heap := ⟨_, rfl⟩
  rw [← hH] at hP
  have hS : va_S A s.heap H [] := by rw [hH]; exact hS
  rw [← hH]
  have hl9 := lv_entry ([.ref a0, .int x, .int y, .ref ou]) (n := 5) (Nat.le_of_ble_eq_true rfl)
  rw [lg_entry_eq]
  generalize (lg_sl ([.ref a0, .int x, .int y, .ref ou]) ++ List.replicate (5 - (lg_sl ([.ref a0, .int x, .int y, .ref ou])).length) Slot.unset).toArray = ls at hl9 ⊢
  have hl9 : lv_has ls 5 [(0, .ref a0), (1, .int x), (2, .int y), (3, .ref ou)] := hl9
  have htab := vx_table (x := y_L_price) B (atoms_spec (ws := w_L_price) B.pre _ List.mem_cons_self)
  refine lv_aload_n hx hb d_L_price_0 rfl (lv_at hl9 3 rfl) ?_
  refine lv_iconst (v := 0) hx hb d_L_price_1 (by decide) ?_
  refine lv_aload_n hx hb d_L_price_2 rfl (lv_at hl9 0 rfl) ?_
  refine lv_iload_n hx hb d_L_price_3 rfl (lv_at hl9 1 rfl) ?_
  refine lv_iload_n hx hb d_L_price_4 rfl (lv_at hl9 2 rfl) ?_
  have hPc := hP.sub (ws' := [(a0, .inr (2, [.ref aZ, .int zc, .ref aO, .int orr, .int ol, .int mp, .ref aG, .int pl, .int fa, .int fb, .ref aP, .ref aW, .ref aK])), (aP, .inl (cI, 24, .inl fP))]) [0, 1] rfl
  have hDc := hD.sub (ws' := [(a0, .inr (2, [.ref aZ, .int zc, .ref aO, .int orr, .int ol, .int mp, .ref aG, .int pl, .int fa, .int fb, .ref aP, .ref aW, .ref aK])), (aP, .inl (cI, 24, .inl fP))]) [0, 1] (by decide) rfl
  have hFc := va_free (wc := [(a0, .inr (2, [.ref aZ, .int zc, .ref aO, .int orr, .int ol, .int mp, .ref aG, .int pl, .int fa, .int fb, .ref aP, .ref aW, .ref aK])), (aP, .inl (cI, 24, .inl fP))]) hD hS hA [0, 1] rfl
  refine vx_calli (vx_runV (C := R_C) (As := [.int x, .int y]) (rest := [.int 0, .ref ou]) ⟨hx, hb, hml, hown, hG⟩ (c_price l dC dI cI cJ cZ cB hl a0 aZ aO aG aP aW aK zc orr ol mp pl fa fb fP x y H.size ) (cwV 2 hG g_L_62 rfl rfl rfl (by decide +kernel) ⟨Nat.le_of_ble_eq_true rfl, Nat.le_of_ble_eq_true rfl⟩) ⟨PC.blind, va_recv hK hP (ci := 2) (q0 := 0) rfl rfl, PC.of hPc hK hDc hE hS hFc⟩ rfl rfl hl9.1 rfl (lv_room (Nat.le_of_ble_eq_true rfl)) d_L_price_5 ⟨by first | exact Nat.le_of_ble_eq_true rfl | omega, by first | exact Nat.le_of_ble_eq_true rfl | omega⟩) hS (fun q _ h => hFc q h) hFc (fun q _ h => hFc q h) (fun E ce q9 u t H1 locs ht hvm hpx hB hz1 hk1 hS hce hcv hcl => ?_) (fun r2 u t H1 locs ht hvm hw hB hz1 hk1 hS => ?_)
  · exact absurd hB.1.2 hx0
  have hw := hw
  rw [ht] at hB
  obtain ⟨hP, hD⟩ := jset (wc := [(a0, .inr (2, [.ref aZ, .int zc, .ref aO, .int orr, .int ol, .int mp, .ref aG, .int pl, .int fa, .int fb, .ref aP, .ref aW, .ref aK])), (aP, .inl (cI, 24, .inl fP))]) (w1 := [(a0, .inr (2, [.ref aZ, .int zc, .ref aO, .int orr, .int ol, .int mp, .ref aG, .int pl, .int fa, .int fb, .ref aP, .ref aW, .ref aK])), (aP, .inl (cI, 24, .inl (upd fP x.toNatClampNeg y)))]) [0, 1] rfl rfl hP hD hk1 hB
  have hP : va_P (dC, dI) vwCl [(a0, .inr (2, [.ref aZ, .int zc, .ref aO, .int orr, .int ol, .int mp, .ref aG, .int pl, .int fa, .int fb, .ref aP, .ref aW, .ref aK])), (aP, .inl (cI, 24, .inl (upd fP x.toNatClampNeg y))), (ou, .inl (cJ, 1, .inr (.inl fU)))] H1 := hP
  have hD : va_D A [(a0, .inr (2, [.ref aZ, .int zc, .ref aO, .int orr, .int ol, .int mp, .ref aG, .int pl, .int fa, .int fb, .ref aP, .ref aW, .ref aK])), (aP, .inl (cI, 24, .inl (upd fP x.toNatClampNeg y))), (ou, .inl (cJ, 1, .inr (.inl fU)))] := hD
  have hr2 : r2 = fP x.toNatClampNeg ∧ ¬ ((x < 0 ∨ 23 < x) ∨ (y < 0 ∨ 1000 < y)) := hw
  rw [hr2.1]
  refine lv_i2l hx hb d_L_price_8 rfl ?_
  refine va_last hx hb hK hP hD hS 2 1 rfl rfl (vp_in_nI (n := 0) (N := 1) (by decide) (by decide)) d_L_price_9 (fun H locs hP hD hS => ?_)
  have hP : va_P (dC, dI) vwCl [(a0, .inr (2, [.ref aZ, .int zc, .ref aO, .int orr, .int ol, .int mp, .ref aG, .int pl, .int fa, .int fb, .ref aP, .ref aW, .ref aK])), (aP, .inl (cI, 24, .inl (upd fP x.toNatClampNeg y))), (ou, .inl (cJ, 1, .inr (.inl (vp_updL fU (0 : Int32).toNatClampNeg ((fP x.toNatClampNeg).toInt64)))))] H := hP
  have hD : va_D A [(a0, .inr (2, [.ref aZ, .int zc, .ref aO, .int orr, .int ol, .int mp, .ref aG, .int pl, .int fa, .int fb, .ref aP, .ref aW, .ref aK])), (aP, .inl (cI, 24, .inl (upd fP x.toNatClampNeg y))), (ou, .inl (cJ, 1, .inr (.inl (vp_updL fU (0 : Int32).toNatClampNeg ((fP x.toNatClampNeg).toInt64)))))] := hD
  refine lv_goto (tgt := 17) hx hb d_L_price_10 (by decide) ?_
  refine lv_iconst (v := 0) hx hb d_L_price_17 (by decide) ?_
  exact W.iret (v := 0) hx hb hr (fun t ht hW => ⟨⟨0, (), rfl, rfl, by have h9 := hP; rw [← ht] at h9; exact h9⟩, hS.F ht⟩) hS.2.2 d_L_price_18
set_option maxHeartbeats 4000000 in
set_option maxRecDepth 100000 in
theorem l_priceX (l : Launch) (dC : Nat → ClassId) (dI : Nat → Nat → Nat) (cI cJ cZ cB : ClassId) (hl : l.stackTraces = false) (a0 aZ aO aG aP aW aK : Nat) (zc orr ol mp pl fa fb : Int32) (fP : Nat → Int32) (x y : Int32) (ou : Nat) (fU : Nat → Int64) (sz : Nat) (hx0 : ((x < 0 ∨ 23 < x) ∨ (y < 0 ∨ 1000 < y))) : Met l y_L_price w_L_price ({ frames := 8, cells := 2, slots := 12, locals := 127 }) (PCL (dC, dI) (TY cI cJ cZ cB) [.ref a0, .int x, .int y, .ref ou] [(a0, .inr (2, [.ref aZ, .int zc, .ref aO, .int orr, .int ol, .int mp, .ref aG, .int pl, .int fa, .int fb, .ref aP, .ref aW, .ref aK])), (aP, .inl (cI, 24, .inl fP)), (ou, .inl (cJ, 1, .inr (.inl fU)))] sz (va_A [(a0, .inr (2, [.ref aZ, .int zc, .ref aO, .int orr, .int ol, .int mp, .ref aG, .int pl, .int fa, .int fb, .ref aP, .ref aW, .ref aK])), (aP, .inl (cI, 24, .inl fP)), (ou, .inl (cJ, 1, .inr (.inl fU)))] sz)) (va_Qi (fun (r : Int32) (_ : Unit) => r = 1) (fun (_ : Unit) (t : State) => va_P (dC, dI) vwCl [(a0, .inr (2, [.ref aZ, .int zc, .ref aO, .int orr, .int ol, .int mp, .ref aG, .int pl, .int fa, .int fb, .ref aP, .ref aW, .ref aK])), (aP, .inl (cI, 24, .inl fP)), (ou, .inl (cJ, 1, .inr (.inl fU)))] t.heap) (va_A [(a0, .inr (2, [.ref aZ, .int zc, .ref aO, .int orr, .int ol, .int mp, .ref aG, .int pl, .int fa, .int fb, .ref aP, .ref aW, .ref aK])), (aP, .inl (cI, 24, .inl fP)), (ou, .inl (cJ, 1, .inr (.inl fU)))] sz)) 2 12 (va_A [(a0, .inr (2, [.ref aZ, .int zc, .ref aO, .int orr, .int ol, .int mp, .ref aG, .int pl, .int fa, .int fb, .ref aP, .ref aW, .ref aK])), (aP, .inl (cI, 24, .inl fP)), (ou, .inl (cJ, 1, .inr (.inl fU)))] sz) := by
  refine met_ofWH (cc := b_L_price) (maxL := 5) (ret := (some .int)) (by decide) rfl ?_
  intro p e s m args below meth c s₁ B hml hv
  obtain ⟨rfl, hsz, hP, hK, hD0, hE, hNc⟩ := hv
  have hx := B.exec
  have hb := B.bytes
  have hr := B.returns
  have hG : ∀ w ∈ GG, w.before _ s = true := fun w h => atoms_spec (ws := w_L_price) B.pre w (List.mem_cons_of_mem _ h)
  have hown : s.vm.findClass R_L = some m.cls := findClass_of_methodNamed B.named
  have hlocks := B.notSynchronized
  subst hsz
  have hD := hD0.self (sz := s.heap.size)
  generalize hAe : (va_A [(a0, .inr (2, [.ref aZ, .int zc, .ref aO, .int orr, .int ol, .int mp, .ref aG, .int pl, .int fa, .int fb, .ref aP, .ref aW, .ref aK])), (aP, .inl (cI, 24, .inl fP)), (ou, .inl (cJ, 1, .inr (.inl fU)))] s.heap.size) = A at hD hE ⊢
  have hA : ∀ q : Nat, s.heap.size ≤ q → A q := fun q h => by rw [← hAe]; exact Or.inr h
  have hS : va_S A s.heap s.heap [] := va_S.rf
  obtain ⟨H, hH⟩ : ∃ z, z = s.heap := ⟨_, rfl⟩
  rw [← hH] at hP
  have hS : va_S A s.heap H [] := by rw [hH]; exact hS
  rw [← hH]
  have hl9 := lv_entry ([.ref a0, .int x, .int y, .ref ou]) (n := 5) (Nat.le_of_ble_eq_true rfl)
  rw [lg_entry_eq]
  generalize (lg_sl ([.ref a0, .int x, .int y, .ref ou]) ++ List.replicate (5 - (lg_sl ([.ref a0, .int x, .int y, .ref ou])).length) Slot.unset).toArray = ls at hl9 ⊢
  have hl9 : lv_has ls 5 [(0, .ref a0), (1, .int x), (2, .int y), (3, .ref ou)] := hl9
  have htab := vx_table (x := y_L_price) B (atoms_spec (ws := w_L_price) B.pre _ List.mem_cons_self)
  refine lv_aload_n hx hb d_L_price_0 rfl (lv_at hl9 3 rfl) ?_
  refine lv_iconst (v := 0) hx hb d_L_price_1 (by decide) ?_
  refine lv_aload_n hx hb d_L_price_2 rfl (lv_at hl9 0 rfl) ?_
  refine lv_iload_n hx hb d_L_price_3 rfl (lv_at hl9 1 rfl) ?_
  refine lv_iload_n hx hb d_L_price_4 rfl (lv_at hl9 2 rfl) ?_
  have hPc := hP.sub (ws' := [(a0, .inr (2, [.ref aZ, .int zc, .ref aO, .int orr, .int ol, .int mp, .ref aG, .int pl, .int fa, .int fb, .ref aP, .ref aW, .ref aK])), (aP, .inl (cI, 24, .inl fP))]) [0, 1] rfl
  have hDc := hD.sub (ws' := [(a0, .inr (2, [.ref aZ, .int zc, .ref aO, .int orr, .int ol, .int mp, .ref aG, .int pl, .int fa, .int fb, .ref aP, .ref aW, .ref aK])), (aP, .inl (cI, 24, .inl fP))]) [0, 1] (by decide) rfl
  have hFc := va_free (wc := [(a0, .inr (2, [.ref aZ, .int zc, .ref aO, .int orr, .int ol, .int mp, .ref aG, .int pl, .int fa, .int fb, .ref aP, .ref aW, .ref aK])), (aP, .inl (cI, 24, .inl fP))]) hD hS hA [0, 1] rfl
  refine vx_calli (vx_runV (C := R_C) (As := [.int x, .int y]) (rest := [.int 0, .ref ou]) ⟨hx, hb, hml, hown, hG⟩ (c_price l dC dI cI cJ cZ cB hl a0 aZ aO aG aP aW aK zc orr ol mp pl fa fb fP x y H.size ) (cwV 2 hG g_L_62 rfl rfl rfl (by decide +kernel) ⟨Nat.le_of_ble_eq_true rfl, Nat.le_of_ble_eq_true rfl⟩) ⟨PC.blind, va_recv hK hP (ci := 2) (q0 := 0) rfl rfl, PC.of hPc hK hDc hE hS hFc⟩ rfl rfl hl9.1 rfl (lv_room (Nat.le_of_ble_eq_true rfl)) d_L_price_5 ⟨by first | exact Nat.le_of_ble_eq_true rfl | omega, by first | exact Nat.le_of_ble_eq_true rfl | omega⟩) hS (fun q _ h => hFc q h) hFc (fun q _ h => hFc q h) (fun E ce q9 u t H1 locs ht hvm hpx hB hz1 hk1 hS hce hcv hcl => ?_) (fun r2 u t H1 locs ht hvm hw hB hz1 hk1 hS => ?_)
  · have hE9 : E = "java/lang/IllegalArgumentException" := hB.1.1
    have hB2 := hB.2
    rw [ht] at hB2
    obtain ⟨hP, hD⟩ := jset (wc := [(a0, .inr (2, [.ref aZ, .int zc, .ref aO, .int orr, .int ol, .int mp, .ref aG, .int pl, .int fa, .int fb, .ref aP, .ref aW, .ref aK])), (aP, .inl (cI, 24, .inl fP))]) (w1 := [(a0, .inr (2, [.ref aZ, .int zc, .ref aO, .int orr, .int ol, .int mp, .ref aG, .int pl, .int fa, .int fb, .ref aP, .ref aW, .ref aK])), (aP, .inl (cI, 24, .inl fP))]) [0, 1] rfl rfl hP hD hk1 hB2
    have hP : va_P (dC, dI) vwCl [(a0, .inr (2, [.ref aZ, .int zc, .ref aO, .int orr, .int ol, .int mp, .ref aG, .int pl, .int fa, .int fb, .ref aP, .ref aW, .ref aK])), (aP, .inl (cI, 24, .inl fP)), (ou, .inl (cJ, 1, .inr (.inl fU)))] H1 := hP
    have hD : va_D A [(a0, .inr (2, [.ref aZ, .int zc, .ref aO, .int orr, .int ol, .int mp, .ref aG, .int pl, .int fa, .int fb, .ref aP, .ref aW, .ref aK])), (aP, .inl (cI, 24, .inl fP)), (ou, .inl (cJ, 1, .inr (.inl fU)))] := hD
    subst hE9
    refine vx_catch (own := R_L) (name := "java/lang/IllegalArgumentException") hown [] ⟨0, 10, 13, 13⟩ [] htab (fun z hz => by simp at hz) (by decide) (by decide) (hG _ k_67) (hE.1.use k_78) hce hcv hcl ?_
    refine lv_astore (lv' := [(4, .ref q9), (0, .ref a0), (1, .int x), (2, .int y), (3, .ref ou)]) hx hb d_L_price_13 hl9 (by decide) rfl (fun ls hl9 => ?_)
    refine lv_iconst (v := 1) hx hb d_L_price_15 (by decide) ?_
    exact W.iret (v := 1) hx hb hr (fun t ht hW => ⟨⟨1, (), rfl, rfl, by have h9 := hP; rw [← ht] at h9; exact h9⟩, hS.F ht⟩) hS.2.2 d_L_price_16
  have hw := hw
  exact absurd hw (fun h => h.2 hx0)
set_option maxHeartbeats 4000000 in
set_option maxRecDepth 100000 in
theorem l_outside (l : Launch) (dC : Nat → ClassId) (dI : Nat → Nat → Nat) (cI cJ cZ cB : ClassId) (hl : l.stackTraces = false) (a0 aZ aO aG aP aW aK : Nat) (zc orr ol mp pl fa fb : Int32) (fO : Nat → Int32) (x y : Int32) (ou : Nat) (fU : Nat → Int64) (sz : Nat) (hx0 : ¬ ((x < 0 ∨ 1439 < x) ∨ (y < (-10000) ∨ 10000 < y))) (hy0 : ¬ (24 ≤ orr ∨ x ≤ ol)) : Met l y_L_outside w_L_outside ({ frames := 8, cells := 3, slots := 18, locals := 127 }) (PCL (dC, dI) (TY cI cJ cZ cB) [.ref a0, .int x, .int y, .ref ou] [(a0, .inr (2, [.ref aZ, .int zc, .ref aO, .int orr, .int ol, .int mp, .ref aG, .int pl, .int fa, .int fb, .ref aP, .ref aW, .ref aK])), (aO, .inl (cI, 1440, .inl fO)), (ou, .inl (cJ, 1, .inr (.inl fU)))] sz (va_A [(a0, .inr (2, [.ref aZ, .int zc, .ref aO, .int orr, .int ol, .int mp, .ref aG, .int pl, .int fa, .int fb, .ref aP, .ref aW, .ref aK])), (aO, .inl (cI, 1440, .inl fO)), (ou, .inl (cJ, 1, .inr (.inl fU)))] sz)) (va_Qi (fun (r : Int32) (_ : Unit) => r = 0) (fun (_ : Unit) (t : State) => va_P (dC, dI) vwCl [(a0, .inr (2, [.ref aZ, .int zc, .ref aO, .int (orr + 1), .int x, .int mp, .ref aG, .int 0, .int fa, .int fb, .ref aP, .ref aW, .ref aK])), (aO, .inl (cI, 1440, .inl (fillO fO x.toNatClampNeg y (1440 - x.toNatClampNeg)))), (ou, .inl (cJ, 1, .inr (.inl (vp_updL fU 0 (orr + 1).toInt64))))] t.heap) (va_A [(a0, .inr (2, [.ref aZ, .int zc, .ref aO, .int orr, .int ol, .int mp, .ref aG, .int pl, .int fa, .int fb, .ref aP, .ref aW, .ref aK])), (aO, .inl (cI, 1440, .inl fO)), (ou, .inl (cJ, 1, .inr (.inl fU)))] sz)) 3 18 (va_A [(a0, .inr (2, [.ref aZ, .int zc, .ref aO, .int orr, .int ol, .int mp, .ref aG, .int pl, .int fa, .int fb, .ref aP, .ref aW, .ref aK])), (aO, .inl (cI, 1440, .inl fO)), (ou, .inl (cJ, 1, .inr (.inl fU)))] sz) := by
  refine met_ofWH (cc := b_L_outside) (maxL := 5) (ret := (some .int)) (by decide) rfl ?_
  intro p e s m args below meth c s₁ B hml hv
  obtain ⟨rfl, hsz, hP, hK, hD0, hE, hNc⟩ := hv
  have hx := B.exec
  have hb := B.bytes
  have hr := B.returns
  have hG : ∀ w ∈ GG, w.before _ s = true := fun w h => atoms_spec (ws := w_L_outside) B.pre w (List.mem_cons_of_mem _ h)
  have hown : s.vm.findClass R_L = some m.cls := findClass_of_methodNamed B.named
  have hlocks := B.notSynchronized
  subst hsz
  have hD := hD0.self (sz := s.heap.size)
  generalize hAe : (va_A [(a0, .inr (2, [.ref aZ, .int zc, .ref aO, .int orr, .int ol, .int mp, .ref aG, .int pl, .int fa, .int fb, .ref aP, .ref aW, .ref aK])), (aO, .inl (cI, 1440, .inl fO)), (ou, .inl (cJ, 1, .inr (.inl fU)))] s.heap.size) = A at hD hE ⊢
  have hA : ∀ q : Nat, s.heap.size ≤ q → A q := fun q h => by rw [← hAe]; exact Or.inr h
  have hS : va_S A s.heap s.heap [] := va_S.rf
  obtain ⟨H, hH⟩ : ∃ z, z = s.heap := ⟨_, rfl⟩
  rw [← hH] at hP
  have hS : va_S A s.heap H [] := by rw [hH]; exact hS
  rw [← hH]
  have hl9 := lv_entry ([.ref a0, .int x, .int y, .ref ou]) (n := 5) (Nat.le_of_ble_eq_true rfl)
  rw [lg_entry_eq]
  generalize (lg_sl ([.ref a0, .int x, .int y, .ref ou]) ++ List.replicate (5 - (lg_sl ([.ref a0, .int x, .int y, .ref ou])).length) Slot.unset).toArray = ls at hl9 ⊢
  have hl9 : lv_has ls 5 [(0, .ref a0), (1, .int x), (2, .int y), (3, .ref ou)] := hl9
  have htab := vx_table (x := y_L_outside) B (atoms_spec (ws := w_L_outside) B.pre _ List.mem_cons_self)
  refine lv_aload_n hx hb d_L_outside_0 rfl (lv_at hl9 3 rfl) ?_
  refine lv_iconst (v := 0) hx hb d_L_outside_1 (by decide) ?_
  refine lv_aload_n hx hb d_L_outside_2 rfl (lv_at hl9 0 rfl) ?_
  refine lv_iload_n hx hb d_L_outside_3 rfl (lv_at hl9 1 rfl) ?_
  refine lv_iload_n hx hb d_L_outside_4 rfl (lv_at hl9 2 rfl) ?_
  have hPc := hP.sub (ws' := [(a0, .inr (2, [.ref aZ, .int zc, .ref aO, .int orr, .int ol, .int mp, .ref aG, .int pl, .int fa, .int fb, .ref aP, .ref aW, .ref aK])), (aO, .inl (cI, 1440, .inl fO))]) [0, 1] rfl
  have hDc := hD.sub (ws' := [(a0, .inr (2, [.ref aZ, .int zc, .ref aO, .int orr, .int ol, .int mp, .ref aG, .int pl, .int fa, .int fb, .ref aP, .ref aW, .ref aK])), (aO, .inl (cI, 1440, .inl fO))]) [0, 1] (by decide) rfl
  have hFc := va_free (wc := [(a0, .inr (2, [.ref aZ, .int zc, .ref aO, .int orr, .int ol, .int mp, .ref aG, .int pl, .int fa, .int fb, .ref aP, .ref aW, .ref aK])), (aO, .inl (cI, 1440, .inl fO))]) hD hS hA [0, 1] rfl
  refine vx_calli (vx_runV (C := R_C) (As := [.int x, .int y]) (rest := [.int 0, .ref ou]) ⟨hx, hb, hml, hown, hG⟩ (c_outside l dC dI cI cJ cZ cB hl a0 aZ aO aG aP aW aK zc orr ol mp pl fa fb fO x y H.size ) (cwV 2 hG g_L_25 rfl rfl rfl (by decide +kernel) ⟨Nat.le_of_ble_eq_true rfl, Nat.le_of_ble_eq_true rfl⟩) ⟨PC.blind, va_recv hK hP (ci := 2) (q0 := 0) rfl rfl, PC.of hPc hK hDc hE hS hFc⟩ rfl rfl hl9.1 rfl (lv_room (Nat.le_of_ble_eq_true rfl)) d_L_outside_5 ⟨by first | exact Nat.le_of_ble_eq_true rfl | omega, by first | exact Nat.le_of_ble_eq_true rfl | omega⟩) hS (fun q _ h => hFc q h) hFc (fun q _ h => hFc q h) (fun E ce q9 u t H1 locs ht hvm hpx hB hz1 hk1 hS hce hcv hcl => ?_) (fun r2 u t H1 locs ht hvm hw hB hz1 hk1 hS => ?_)
  · exact absurd hB.1 (fun h => h.elim (fun h => hx0 h.2) (fun h => hy0 h.2.2))
  have hw := hw
  rw [ht] at hB
  obtain ⟨hP, hD⟩ := jset (wc := [(a0, .inr (2, [.ref aZ, .int zc, .ref aO, .int orr, .int ol, .int mp, .ref aG, .int pl, .int fa, .int fb, .ref aP, .ref aW, .ref aK])), (aO, .inl (cI, 1440, .inl fO))]) (w1 := [(a0, .inr (2, [.ref aZ, .int zc, .ref aO, .int (orr + 1), .int x, .int mp, .ref aG, .int 0, .int fa, .int fb, .ref aP, .ref aW, .ref aK])), (aO, .inl (cI, 1440, .inl (fillO fO x.toNatClampNeg y (1440 - x.toNatClampNeg))))]) [0, 1] rfl rfl hP hD hk1 hB
  have hP : va_P (dC, dI) vwCl [(a0, .inr (2, [.ref aZ, .int zc, .ref aO, .int (orr + 1), .int x, .int mp, .ref aG, .int 0, .int fa, .int fb, .ref aP, .ref aW, .ref aK])), (aO, .inl (cI, 1440, .inl (fillO fO x.toNatClampNeg y (1440 - x.toNatClampNeg)))), (ou, .inl (cJ, 1, .inr (.inl fU)))] H1 := hP
  have hD : va_D A [(a0, .inr (2, [.ref aZ, .int zc, .ref aO, .int (orr + 1), .int x, .int mp, .ref aG, .int 0, .int fa, .int fb, .ref aP, .ref aW, .ref aK])), (aO, .inl (cI, 1440, .inl (fillO fO x.toNatClampNeg y (1440 - x.toNatClampNeg)))), (ou, .inl (cJ, 1, .inr (.inl fU)))] := hD
  have hr2 : r2 = orr + 1 ∧ ¬ ((x < 0 ∨ 1439 < x) ∨ (y < (-10000) ∨ 10000 < y)) ∧ ¬ (24 ≤ orr ∨ x ≤ ol) := hw
  rw [hr2.1]
  refine lv_i2l hx hb d_L_outside_8 rfl ?_
  refine va_last hx hb hK hP hD hS 2 1 rfl rfl (vp_in_nI (n := 0) (N := 1) (by decide) (by decide)) d_L_outside_9 (fun H locs hP hD hS => ?_)
  have hP : va_P (dC, dI) vwCl [(a0, .inr (2, [.ref aZ, .int zc, .ref aO, .int (orr + 1), .int x, .int mp, .ref aG, .int 0, .int fa, .int fb, .ref aP, .ref aW, .ref aK])), (aO, .inl (cI, 1440, .inl (fillO fO x.toNatClampNeg y (1440 - x.toNatClampNeg)))), (ou, .inl (cJ, 1, .inr (.inl (vp_updL fU (0 : Int32).toNatClampNeg ((orr + 1).toInt64)))))] H := hP
  have hD : va_D A [(a0, .inr (2, [.ref aZ, .int zc, .ref aO, .int (orr + 1), .int x, .int mp, .ref aG, .int 0, .int fa, .int fb, .ref aP, .ref aW, .ref aK])), (aO, .inl (cI, 1440, .inl (fillO fO x.toNatClampNeg y (1440 - x.toNatClampNeg)))), (ou, .inl (cJ, 1, .inr (.inl (vp_updL fU (0 : Int32).toNatClampNeg ((orr + 1).toInt64)))))] := hD
  refine lv_goto (tgt := 21) hx hb d_L_outside_10 (by decide) ?_
  refine lv_iconst (v := 0) hx hb d_L_outside_21 (by decide) ?_
  exact W.iret (v := 0) hx hb hr (fun t ht hW => ⟨⟨0, (), rfl, rfl, by have h9 := hP; rw [← ht] at h9; exact h9⟩, hS.F ht⟩) hS.2.2 d_L_outside_22
set_option maxHeartbeats 4000000 in
set_option maxRecDepth 100000 in
theorem l_outsideX (l : Launch) (dC : Nat → ClassId) (dI : Nat → Nat → Nat) (cI cJ cZ cB : ClassId) (hl : l.stackTraces = false) (a0 aZ aO aG aP aW aK : Nat) (zc orr ol mp pl fa fb : Int32) (fO : Nat → Int32) (x y : Int32) (ou : Nat) (fU : Nat → Int64) (sz : Nat) (hx0 : ((x < 0 ∨ 1439 < x) ∨ (y < (-10000) ∨ 10000 < y))) : Met l y_L_outside w_L_outside ({ frames := 8, cells := 3, slots := 18, locals := 127 }) (PCL (dC, dI) (TY cI cJ cZ cB) [.ref a0, .int x, .int y, .ref ou] [(a0, .inr (2, [.ref aZ, .int zc, .ref aO, .int orr, .int ol, .int mp, .ref aG, .int pl, .int fa, .int fb, .ref aP, .ref aW, .ref aK])), (aO, .inl (cI, 1440, .inl fO)), (ou, .inl (cJ, 1, .inr (.inl fU)))] sz (va_A [(a0, .inr (2, [.ref aZ, .int zc, .ref aO, .int orr, .int ol, .int mp, .ref aG, .int pl, .int fa, .int fb, .ref aP, .ref aW, .ref aK])), (aO, .inl (cI, 1440, .inl fO)), (ou, .inl (cJ, 1, .inr (.inl fU)))] sz)) (va_Qi (fun (r : Int32) (_ : Unit) => r = 1) (fun (_ : Unit) (t : State) => va_P (dC, dI) vwCl [(a0, .inr (2, [.ref aZ, .int zc, .ref aO, .int orr, .int ol, .int mp, .ref aG, .int pl, .int fa, .int fb, .ref aP, .ref aW, .ref aK])), (aO, .inl (cI, 1440, .inl fO)), (ou, .inl (cJ, 1, .inr (.inl fU)))] t.heap) (va_A [(a0, .inr (2, [.ref aZ, .int zc, .ref aO, .int orr, .int ol, .int mp, .ref aG, .int pl, .int fa, .int fb, .ref aP, .ref aW, .ref aK])), (aO, .inl (cI, 1440, .inl fO)), (ou, .inl (cJ, 1, .inr (.inl fU)))] sz)) 3 18 (va_A [(a0, .inr (2, [.ref aZ, .int zc, .ref aO, .int orr, .int ol, .int mp, .ref aG, .int pl, .int fa, .int fb, .ref aP, .ref aW, .ref aK])), (aO, .inl (cI, 1440, .inl fO)), (ou, .inl (cJ, 1, .inr (.inl fU)))] sz) := by
  refine met_ofWH (cc := b_L_outside) (maxL := 5) (ret := (some .int)) (by decide) rfl ?_
  intro p e s m args below meth c s₁ B hml hv
  obtain ⟨rfl, hsz, hP, hK, hD0, hE, hNc⟩ := hv
  have hx := B.exec
  have hb := B.bytes
  have hr := B.returns
  have hG : ∀ w ∈ GG, w.before _ s = true := fun w h => atoms_spec (ws := w_L_outside) B.pre w (List.mem_cons_of_mem _ h)
  have hown : s.vm.findClass R_L = some m.cls := findClass_of_methodNamed B.named
  have hlocks := B.notSynchronized
  subst hsz
  have hD := hD0.self (sz := s.heap.size)
  generalize hAe : (va_A [(a0, .inr (2, [.ref aZ, .int zc, .ref aO, .int orr, .int ol, .int mp, .ref aG, .int pl, .int fa, .int fb, .ref aP, .ref aW, .ref aK])), (aO, .inl (cI, 1440, .inl fO)), (ou, .inl (cJ, 1, .inr (.inl fU)))] s.heap.size) = A at hD hE ⊢
  have hA : ∀ q : Nat, s.heap.size ≤ q → A q := fun q h => by rw [← hAe]; exact Or.inr h
  have hS : va_S A s.heap s.heap [] := va_S.rf
  obtain ⟨H, hH⟩ : ∃ z, z = s.heap := ⟨_, rfl⟩
  rw [← hH] at hP
  have hS : va_S A s.heap H [] := by rw [hH]; exact hS
  rw [← hH]
  have hl9 := lv_entry ([.ref a0, .int x, .int y, .ref ou]) (n := 5) (Nat.le_of_ble_eq_true rfl)
  rw [lg_entry_eq]
  generalize (lg_sl ([.ref a0, .int x, .int y, .ref ou]) ++ List.replicate (5 - (lg_sl ([.ref a0, .int x, .int y, .ref ou])).length) Slot.unset).toArray = ls at hl9 ⊢
  have hl9 : lv_has ls 5 [(0, .ref a0), (1, .int x), (2, .int y), (3, .ref ou)] := hl9
  have htab := vx_table (x := y_L_outside) B (atoms_spec (ws := w_L_outside) B.pre _ List.mem_cons_self)
  refine lv_aload_n hx hb d_L_outside_0 rfl (lv_at hl9 3 rfl) ?_
  refine lv_iconst (v := 0) hx hb d_L_outside_1 (by decide) ?_
  refine lv_aload_n hx hb d_L_outside_2 rfl (lv_at hl9 0 rfl) ?_
  refine lv_iload_n hx hb d_L_outside_3 rfl (lv_at hl9 1 rfl) ?_
  refine lv_iload_n hx hb d_L_outside_4 rfl (lv_at hl9 2 rfl) ?_
  have hPc := hP.sub (ws' := [(a0, .inr (2, [.ref aZ, .int zc, .ref aO, .int orr, .int ol, .int mp, .ref aG, .int pl, .int fa, .int fb, .ref aP, .ref aW, .ref aK])), (aO, .inl (cI, 1440, .inl fO))]) [0, 1] rfl
  have hDc := hD.sub (ws' := [(a0, .inr (2, [.ref aZ, .int zc, .ref aO, .int orr, .int ol, .int mp, .ref aG, .int pl, .int fa, .int fb, .ref aP, .ref aW, .ref aK])), (aO, .inl (cI, 1440, .inl fO))]) [0, 1] (by decide) rfl
  have hFc := va_free (wc := [(a0, .inr (2, [.ref aZ, .int zc, .ref aO, .int orr, .int ol, .int mp, .ref aG, .int pl, .int fa, .int fb, .ref aP, .ref aW, .ref aK])), (aO, .inl (cI, 1440, .inl fO))]) hD hS hA [0, 1] rfl
  refine vx_calli (vx_runV (C := R_C) (As := [.int x, .int y]) (rest := [.int 0, .ref ou]) ⟨hx, hb, hml, hown, hG⟩ (c_outside l dC dI cI cJ cZ cB hl a0 aZ aO aG aP aW aK zc orr ol mp pl fa fb fO x y H.size ) (cwV 2 hG g_L_25 rfl rfl rfl (by decide +kernel) ⟨Nat.le_of_ble_eq_true rfl, Nat.le_of_ble_eq_true rfl⟩) ⟨PC.blind, va_recv hK hP (ci := 2) (q0 := 0) rfl rfl, PC.of hPc hK hDc hE hS hFc⟩ rfl rfl hl9.1 rfl (lv_room (Nat.le_of_ble_eq_true rfl)) d_L_outside_5 ⟨by first | exact Nat.le_of_ble_eq_true rfl | omega, by first | exact Nat.le_of_ble_eq_true rfl | omega⟩) hS (fun q _ h => hFc q h) hFc (fun q _ h => hFc q h) (fun E ce q9 u t H1 locs ht hvm hpx hB hz1 hk1 hS hce hcv hcl => ?_) (fun r2 u t H1 locs ht hvm hw hB hz1 hk1 hS => ?_)
  · have hE9 : E = "java/lang/IllegalArgumentException" := hB.1.elim (fun h => h.1) (fun h => absurd hx0 h.2.1)
    have hB2 := hB.2
    rw [ht] at hB2
    obtain ⟨hP, hD⟩ := jset (wc := [(a0, .inr (2, [.ref aZ, .int zc, .ref aO, .int orr, .int ol, .int mp, .ref aG, .int pl, .int fa, .int fb, .ref aP, .ref aW, .ref aK])), (aO, .inl (cI, 1440, .inl fO))]) (w1 := [(a0, .inr (2, [.ref aZ, .int zc, .ref aO, .int orr, .int ol, .int mp, .ref aG, .int pl, .int fa, .int fb, .ref aP, .ref aW, .ref aK])), (aO, .inl (cI, 1440, .inl fO))]) [0, 1] rfl rfl hP hD hk1 hB2
    have hP : va_P (dC, dI) vwCl [(a0, .inr (2, [.ref aZ, .int zc, .ref aO, .int orr, .int ol, .int mp, .ref aG, .int pl, .int fa, .int fb, .ref aP, .ref aW, .ref aK])), (aO, .inl (cI, 1440, .inl fO)), (ou, .inl (cJ, 1, .inr (.inl fU)))] H1 := hP
    have hD : va_D A [(a0, .inr (2, [.ref aZ, .int zc, .ref aO, .int orr, .int ol, .int mp, .ref aG, .int pl, .int fa, .int fb, .ref aP, .ref aW, .ref aK])), (aO, .inl (cI, 1440, .inl fO)), (ou, .inl (cJ, 1, .inr (.inl fU)))] := hD
    subst hE9
    refine vx_catch (own := R_L) (name := "java/lang/IllegalArgumentException") hown [] ⟨0, 10, 13, 13⟩ [⟨0, 10, 17, 15⟩] htab (fun z hz => by simp at hz) (by decide) (by decide) (hG _ k_67) (hE.1.use k_78) hce hcv hcl ?_
    refine lv_astore (lv' := [(4, .ref q9), (0, .ref a0), (1, .int x), (2, .int y), (3, .ref ou)]) hx hb d_L_outside_13 hl9 (by decide) rfl (fun ls hl9 => ?_)
    refine lv_iconst (v := 1) hx hb d_L_outside_15 (by decide) ?_
    exact W.iret (v := 1) hx hb hr (fun t ht hW => ⟨⟨1, (), rfl, rfl, by have h9 := hP; rw [← ht] at h9; exact h9⟩, hS.F ht⟩) hS.2.2 d_L_outside_16
  have hw := hw
  exact absurd hw (fun h => h.2.1 hx0)
set_option maxHeartbeats 4000000 in
set_option maxRecDepth 100000 in
theorem l_outsideY (l : Launch) (dC : Nat → ClassId) (dI : Nat → Nat → Nat) (cI cJ cZ cB : ClassId) (hl : l.stackTraces = false) (a0 aZ aO aG aP aW aK : Nat) (zc orr ol mp pl fa fb : Int32) (fO : Nat → Int32) (x y : Int32) (ou : Nat) (fU : Nat → Int64) (sz : Nat) (hx0 : ¬ ((x < 0 ∨ 1439 < x) ∨ (y < (-10000) ∨ 10000 < y))) (hy0 : (24 ≤ orr ∨ x ≤ ol)) : Met l y_L_outside w_L_outside ({ frames := 8, cells := 3, slots := 18, locals := 127 }) (PCL (dC, dI) (TY cI cJ cZ cB) [.ref a0, .int x, .int y, .ref ou] [(a0, .inr (2, [.ref aZ, .int zc, .ref aO, .int orr, .int ol, .int mp, .ref aG, .int pl, .int fa, .int fb, .ref aP, .ref aW, .ref aK])), (aO, .inl (cI, 1440, .inl fO)), (ou, .inl (cJ, 1, .inr (.inl fU)))] sz (va_A [(a0, .inr (2, [.ref aZ, .int zc, .ref aO, .int orr, .int ol, .int mp, .ref aG, .int pl, .int fa, .int fb, .ref aP, .ref aW, .ref aK])), (aO, .inl (cI, 1440, .inl fO)), (ou, .inl (cJ, 1, .inr (.inl fU)))] sz)) (va_Qi (fun (r : Int32) (_ : Unit) => r = 2) (fun (_ : Unit) (t : State) => va_P (dC, dI) vwCl [(a0, .inr (2, [.ref aZ, .int zc, .ref aO, .int orr, .int ol, .int mp, .ref aG, .int pl, .int fa, .int fb, .ref aP, .ref aW, .ref aK])), (aO, .inl (cI, 1440, .inl fO)), (ou, .inl (cJ, 1, .inr (.inl fU)))] t.heap) (va_A [(a0, .inr (2, [.ref aZ, .int zc, .ref aO, .int orr, .int ol, .int mp, .ref aG, .int pl, .int fa, .int fb, .ref aP, .ref aW, .ref aK])), (aO, .inl (cI, 1440, .inl fO)), (ou, .inl (cJ, 1, .inr (.inl fU)))] sz)) 3 18 (va_A [(a0, .inr (2, [.ref aZ, .int zc, .ref aO, .int orr, .int ol, .int mp, .ref aG, .int pl, .int fa, .int fb, .ref aP, .ref aW, .ref aK])), (aO, .inl (cI, 1440, .inl fO)), (ou, .inl (cJ, 1, .inr (.inl fU)))] sz) := by
  refine met_ofWH (cc := b_L_outside) (maxL := 5) (ret := (some .int)) (by decide) rfl ?_
  intro p e s m args below meth c s₁ B hml hv
  obtain ⟨rfl, hsz, hP, hK, hD0, hE, hNc⟩ := hv
  have hx := B.exec
  have hb := B.bytes
  have hr := B.returns
  have hG : ∀ w ∈ GG, w.before _ s = true := fun w h => atoms_spec (ws := w_L_outside) B.pre w (List.mem_cons_of_mem _ h)
  have hown : s.vm.findClass R_L = some m.cls := findClass_of_methodNamed B.named
  have hlocks := B.notSynchronized
  subst hsz
  have hD := hD0.self (sz := s.heap.size)
  generalize hAe : (va_A [(a0, .inr (2, [.ref aZ, .int zc, .ref aO, .int orr, .int ol, .int mp, .ref aG, .int pl, .int fa, .int fb, .ref aP, .ref aW, .ref aK])), (aO, .inl (cI, 1440, .inl fO)), (ou, .inl (cJ, 1, .inr (.inl fU)))] s.heap.size) = A at hD hE ⊢
  have hA : ∀ q : Nat, s.heap.size ≤ q → A q := fun q h => by rw [← hAe]; exact Or.inr h
  have hS : va_S A s.heap s.heap [] := va_S.rf
  obtain ⟨H, hH⟩ : ∃ z, z = s.heap := ⟨_, rfl⟩
  rw [← hH] at hP
  have hS : va_S A s.heap H [] := by rw [hH]; exact hS
  rw [← hH]
  have hl9 := lv_entry ([.ref a0, .int x, .int y, .ref ou]) (n := 5) (Nat.le_of_ble_eq_true rfl)
  rw [lg_entry_eq]
  generalize (lg_sl ([.ref a0, .int x, .int y, .ref ou]) ++ List.replicate (5 - (lg_sl ([.ref a0, .int x, .int y, .ref ou])).length) Slot.unset).toArray = ls at hl9 ⊢
  have hl9 : lv_has ls 5 [(0, .ref a0), (1, .int x), (2, .int y), (3, .ref ou)] := hl9
  have htab := vx_table (x := y_L_outside) B (atoms_spec (ws := w_L_outside) B.pre _ List.mem_cons_self)
  refine lv_aload_n hx hb d_L_outside_0 rfl (lv_at hl9 3 rfl) ?_
  refine lv_iconst (v := 0) hx hb d_L_outside_1 (by decide) ?_
  refine lv_aload_n hx hb d_L_outside_2 rfl (lv_at hl9 0 rfl) ?_
  refine lv_iload_n hx hb d_L_outside_3 rfl (lv_at hl9 1 rfl) ?_
  refine lv_iload_n hx hb d_L_outside_4 rfl (lv_at hl9 2 rfl) ?_
  have hPc := hP.sub (ws' := [(a0, .inr (2, [.ref aZ, .int zc, .ref aO, .int orr, .int ol, .int mp, .ref aG, .int pl, .int fa, .int fb, .ref aP, .ref aW, .ref aK])), (aO, .inl (cI, 1440, .inl fO))]) [0, 1] rfl
  have hDc := hD.sub (ws' := [(a0, .inr (2, [.ref aZ, .int zc, .ref aO, .int orr, .int ol, .int mp, .ref aG, .int pl, .int fa, .int fb, .ref aP, .ref aW, .ref aK])), (aO, .inl (cI, 1440, .inl fO))]) [0, 1] (by decide) rfl
  have hFc := va_free (wc := [(a0, .inr (2, [.ref aZ, .int zc, .ref aO, .int orr, .int ol, .int mp, .ref aG, .int pl, .int fa, .int fb, .ref aP, .ref aW, .ref aK])), (aO, .inl (cI, 1440, .inl fO))]) hD hS hA [0, 1] rfl
  refine vx_calli (vx_runV (C := R_C) (As := [.int x, .int y]) (rest := [.int 0, .ref ou]) ⟨hx, hb, hml, hown, hG⟩ (c_outside l dC dI cI cJ cZ cB hl a0 aZ aO aG aP aW aK zc orr ol mp pl fa fb fO x y H.size ) (cwV 2 hG g_L_25 rfl rfl rfl (by decide +kernel) ⟨Nat.le_of_ble_eq_true rfl, Nat.le_of_ble_eq_true rfl⟩) ⟨PC.blind, va_recv hK hP (ci := 2) (q0 := 0) rfl rfl, PC.of hPc hK hDc hE hS hFc⟩ rfl rfl hl9.1 rfl (lv_room (Nat.le_of_ble_eq_true rfl)) d_L_outside_5 ⟨by first | exact Nat.le_of_ble_eq_true rfl | omega, by first | exact Nat.le_of_ble_eq_true rfl | omega⟩) hS (fun q _ h => hFc q h) hFc (fun q _ h => hFc q h) (fun E ce q9 u t H1 locs ht hvm hpx hB hz1 hk1 hS hce hcv hcl => ?_) (fun r2 u t H1 locs ht hvm hw hB hz1 hk1 hS => ?_)
  · have hE9 : E = "java/lang/IllegalStateException" := hB.1.elim (fun h => absurd h.2 hx0) (fun h => h.1)
    have hB2 := hB.2
    rw [ht] at hB2
    obtain ⟨hP, hD⟩ := jset (wc := [(a0, .inr (2, [.ref aZ, .int zc, .ref aO, .int orr, .int ol, .int mp, .ref aG, .int pl, .int fa, .int fb, .ref aP, .ref aW, .ref aK])), (aO, .inl (cI, 1440, .inl fO))]) (w1 := [(a0, .inr (2, [.ref aZ, .int zc, .ref aO, .int orr, .int ol, .int mp, .ref aG, .int pl, .int fa, .int fb, .ref aP, .ref aW, .ref aK])), (aO, .inl (cI, 1440, .inl fO))]) [0, 1] rfl rfl hP hD hk1 hB2
    have hP : va_P (dC, dI) vwCl [(a0, .inr (2, [.ref aZ, .int zc, .ref aO, .int orr, .int ol, .int mp, .ref aG, .int pl, .int fa, .int fb, .ref aP, .ref aW, .ref aK])), (aO, .inl (cI, 1440, .inl fO)), (ou, .inl (cJ, 1, .inr (.inl fU)))] H1 := hP
    have hD : va_D A [(a0, .inr (2, [.ref aZ, .int zc, .ref aO, .int orr, .int ol, .int mp, .ref aG, .int pl, .int fa, .int fb, .ref aP, .ref aW, .ref aK])), (aO, .inl (cI, 1440, .inl fO)), (ou, .inl (cJ, 1, .inr (.inl fU)))] := hD
    subst hE9
    refine vx_catch (own := R_L) (name := "java/lang/IllegalStateException") hown [⟨0, 10, 13, 13⟩] ⟨0, 10, 17, 15⟩ [] htab (fun z hz => by simp only [List.mem_singleton] at hz; subst hz; exact Or.inr ⟨by decide, "java/lang/IllegalArgumentException", hG _ k_67, hNc⟩) (by decide) (by decide) (hG _ k_68) (hE.1.use k_145) hce hcv hcl ?_
    refine lv_astore (lv' := [(4, .ref q9), (0, .ref a0), (1, .int x), (2, .int y), (3, .ref ou)]) hx hb d_L_outside_17 hl9 (by decide) rfl (fun ls hl9 => ?_)
    refine lv_iconst (v := 2) hx hb d_L_outside_19 (by decide) ?_
    exact W.iret (v := 2) hx hb hr (fun t ht hW => ⟨⟨2, (), rfl, rfl, by have h9 := hP; rw [← ht] at h9; exact h9⟩, hS.F ht⟩) hS.2.2 d_L_outside_20
  have hw := hw
  exact absurd hw (fun h => h.2.2 hy0)
set_option maxHeartbeats 4000000 in
set_option maxRecDepth 100000 in
theorem l_set (l : Launch) (dC : Nat → ClassId) (dI : Nat → Nat → Nat) (cI cJ cZ cB : ClassId) (hl : l.stackTraces = false) (a0 aZ aO aG aP aW aK : Nat) (zc orr ol mp pl fa fb : Int32) (fZ : Nat → Option Nat) (za la wa : Nat) (zh zl zf zp zr zm zw zs : Int32) (nz k : Nat) (what v : Int32) (ou : Nat) (fU : Nat → Int64) (sz : Nat) (hk : k < nz) (hn : nz ≤ 6) (hz : fZ k = some za) (hx0 : okset what v) : Met l y_L_set w_L_set ({ frames := 8, cells := 3, slots := 18, locals := 129 }) (PCL (dC, dI) (TY cI cJ cZ cB) [.ref a0, .int (nI k), .int what, .int v, .ref ou] [(a0, .inr (2, [.ref aZ, .int (nI nz), .ref aO, .int orr, .int ol, .int mp, .ref aG, .int pl, .int fa, .int fb, .ref aP, .ref aW, .ref aK])), (aZ, .inl (cZ, 6, .inr (.inr (.inr (.inr fZ))))), (za, .inr (1, [.int zh, .int zl, .int zf, .int zp, .int zr, .int zm, .int zw, .ref la, .int zs, .ref wa])), (ou, .inl (cJ, 1, .inr (.inl fU)))] sz (va_A [(a0, .inr (2, [.ref aZ, .int (nI nz), .ref aO, .int orr, .int ol, .int mp, .ref aG, .int pl, .int fa, .int fb, .ref aP, .ref aW, .ref aK])), (aZ, .inl (cZ, 6, .inr (.inr (.inr (.inr fZ))))), (za, .inr (1, [.int zh, .int zl, .int zf, .int zp, .int zr, .int zm, .int zw, .ref la, .int zs, .ref wa])), (ou, .inl (cJ, 1, .inr (.inl fU)))] sz)) (va_Qi (fun (r : Int32) (_ : Unit) => r = 0) (fun (_ : Unit) (t : State) => va_P (dC, dI) vwCl [(a0, .inr (2, [.ref aZ, .int (nI nz), .ref aO, .int orr, .int ol, .int mp, .ref aG, .int 0, .int fa, .int fb, .ref aP, .ref aW, .ref aK])), (aZ, .inl (cZ, 6, .inr (.inr (.inr (.inr fZ))))), (za, .inr (1, [.int zh, .int zl, .int (if what = 0 then v else zf), .int (if what = 1 then v else zp), .int (if what = 2 then v else zr), .int zm, .int zw, .ref la, .int zs, .ref wa])), (ou, .inl (cJ, 1, .inr (.inl (vp_updL fU 0 (if what = 0 then zf else if what = 1 then zp else zr).toInt64))))] t.heap) (va_A [(a0, .inr (2, [.ref aZ, .int (nI nz), .ref aO, .int orr, .int ol, .int mp, .ref aG, .int pl, .int fa, .int fb, .ref aP, .ref aW, .ref aK])), (aZ, .inl (cZ, 6, .inr (.inr (.inr (.inr fZ))))), (za, .inr (1, [.int zh, .int zl, .int zf, .int zp, .int zr, .int zm, .int zw, .ref la, .int zs, .ref wa])), (ou, .inl (cJ, 1, .inr (.inl fU)))] sz)) 3 18 (va_A [(a0, .inr (2, [.ref aZ, .int (nI nz), .ref aO, .int orr, .int ol, .int mp, .ref aG, .int pl, .int fa, .int fb, .ref aP, .ref aW, .ref aK])), (aZ, .inl (cZ, 6, .inr (.inr (.inr (.inr fZ))))), (za, .inr (1, [.int zh, .int zl, .int zf, .int zp, .int zr, .int zm, .int zw, .ref la, .int zs, .ref wa])), (ou, .inl (cJ, 1, .inr (.inl fU)))] sz) := by
  refine met_ofWH (cc := b_L_set) (maxL := 6) (ret := (some .int)) (by decide) rfl ?_
  intro p e s m args below meth c s₁ B hml hv
  obtain ⟨rfl, hsz, hP, hK, hD0, hE, hNc⟩ := hv
  have hx := B.exec
  have hb := B.bytes
  have hr := B.returns
  have hG : ∀ w ∈ GG, w.before _ s = true := fun w h => atoms_spec (ws := w_L_set) B.pre w (List.mem_cons_of_mem _ h)
  have hown : s.vm.findClass R_L = some m.cls := findClass_of_methodNamed B.named
  have hlocks := B.notSynchronized
  subst hsz
  have hD := hD0.self (sz := s.heap.size)
  generalize hAe : (va_A [(a0, .inr (2, [.ref aZ, .int (nI nz), .ref aO, .int orr, .int ol, .int mp, .ref aG, .int pl, .int fa, .int fb, .ref aP, .ref aW, .ref aK])), (aZ, .inl (cZ, 6, .inr (.inr (.inr (.inr fZ))))), (za, .inr (1, [.int zh, .int zl, .int zf, .int zp, .int zr, .int zm, .int zw, .ref la, .int zs, .ref wa])), (ou, .inl (cJ, 1, .inr (.inl fU)))] s.heap.size) = A at hD hE ⊢
  have hA : ∀ q : Nat, s.heap.size ≤ q → A q := fun q h => by rw [← hAe]; exact Or.inr h
  have hS : va_S A s.heap s.heap [] := va_S.rf
  obtain ⟨H, hH⟩ : ∃ z, z = s.heap := ⟨_, rfl⟩
  rw [← hH] at hP
  have hS : va_S A s.heap H [] := by rw [hH]; exact hS
  rw [← hH]
  have hl9 := lv_entry ([.ref a0, .int (nI k), .int what, .int v, .ref ou]) (n := 6) (Nat.le_of_ble_eq_true rfl)
  rw [lg_entry_eq]
  generalize (lg_sl ([.ref a0, .int (nI k), .int what, .int v, .ref ou]) ++ List.replicate (6 - (lg_sl ([.ref a0, .int (nI k), .int what, .int v, .ref ou])).length) Slot.unset).toArray = ls at hl9 ⊢
  have hl9 : lv_has ls 6 [(0, .ref a0), (1, .int (nI k)), (2, .int what), (3, .int v), (4, .ref ou)] := hl9
  have htab := vx_table (x := y_L_set) B (atoms_spec (ws := w_L_set) B.pre _ List.mem_cons_self)
  refine lv_aload hx hb d_L_set_0 (lv_at hl9 4 rfl) ?_
  refine lv_iconst (v := 0) hx hb d_L_set_2 (by decide) ?_
  refine lv_aload_n hx hb d_L_set_3 rfl (lv_at hl9 0 rfl) ?_
  refine lv_iload_n hx hb d_L_set_4 rfl (lv_at hl9 1 rfl) ?_
  refine lv_iload_n hx hb d_L_set_5 rfl (lv_at hl9 2 rfl) ?_
  refine lv_iload_n hx hb d_L_set_6 rfl (lv_at hl9 3 rfl) ?_
  have hPc := hP.sub (ws' := [(a0, .inr (2, [.ref aZ, .int (nI nz), .ref aO, .int orr, .int ol, .int mp, .ref aG, .int pl, .int fa, .int fb, .ref aP, .ref aW, .ref aK])), (aZ, .inl (cZ, 6, .inr (.inr (.inr (.inr fZ))))), (za, .inr (1, [.int zh, .int zl, .int zf, .int zp, .int zr, .int zm, .int zw, .ref la, .int zs, .ref wa]))]) [0, 1, 2] rfl
  have hDc := hD.sub (ws' := [(a0, .inr (2, [.ref aZ, .int (nI nz), .ref aO, .int orr, .int ol, .int mp, .ref aG, .int pl, .int fa, .int fb, .ref aP, .ref aW, .ref aK])), (aZ, .inl (cZ, 6, .inr (.inr (.inr (.inr fZ))))), (za, .inr (1, [.int zh, .int zl, .int zf, .int zp, .int zr, .int zm, .int zw, .ref la, .int zs, .ref wa]))]) [0, 1, 2] (by decide) rfl
  have hFc := va_free (wc := [(a0, .inr (2, [.ref aZ, .int (nI nz), .ref aO, .int orr, .int ol, .int mp, .ref aG, .int pl, .int fa, .int fb, .ref aP, .ref aW, .ref aK])), (aZ, .inl (cZ, 6, .inr (.inr (.inr (.inr fZ))))), (za, .inr (1, [.int zh, .int zl, .int zf, .int zp, .int zr, .int zm, .int zw, .ref la, .int zs, .ref wa]))]) hD hS hA [0, 1, 2] rfl
  refine vx_calli (vx_runV (C := R_C) (As := [.int (nI k), .int what, .int v]) (rest := [.int 0, .ref ou]) ⟨hx, hb, hml, hown, hG⟩ (c_set l dC dI cI cJ cZ cB hl a0 aZ aO aG aP aW aK zc orr ol mp pl fa fb fZ za la wa zh zl zf zp zr zm zw zs nz k what v H.size hk hn hz) (cwV 3 hG g_L_17 rfl rfl rfl (by decide +kernel) ⟨Nat.le_of_ble_eq_true rfl, Nat.le_of_ble_eq_true rfl⟩) ⟨PC.blind, va_recv hK hP (ci := 2) (q0 := 0) rfl rfl, PC.of hPc hK hDc hE hS hFc⟩ rfl rfl hl9.1 rfl (lv_room (Nat.le_of_ble_eq_true rfl)) d_L_set_7 ⟨by first | exact Nat.le_of_ble_eq_true rfl | omega, by first | exact Nat.le_of_ble_eq_true rfl | omega⟩) hS (fun q _ h => hFc q h) hFc (fun q _ h => hFc q h) (fun E ce q9 u t H1 locs ht hvm hpx hB hz1 hk1 hS hce hcv hcl => ?_) (fun r2 u t H1 locs ht hvm hw hB hz1 hk1 hS => ?_)
  · exact absurd hx0 hB.1.2
  have hw := hw
  rw [ht] at hB
  obtain ⟨hP, hD⟩ := jset (wc := [(a0, .inr (2, [.ref aZ, .int (nI nz), .ref aO, .int orr, .int ol, .int mp, .ref aG, .int pl, .int fa, .int fb, .ref aP, .ref aW, .ref aK])), (aZ, .inl (cZ, 6, .inr (.inr (.inr (.inr fZ))))), (za, .inr (1, [.int zh, .int zl, .int zf, .int zp, .int zr, .int zm, .int zw, .ref la, .int zs, .ref wa]))]) (w1 := [(a0, .inr (2, [.ref aZ, .int (nI nz), .ref aO, .int orr, .int ol, .int mp, .ref aG, .int 0, .int fa, .int fb, .ref aP, .ref aW, .ref aK])), (aZ, .inl (cZ, 6, .inr (.inr (.inr (.inr fZ))))), (za, .inr (1, [.int zh, .int zl, .int (if what = 0 then v else zf), .int (if what = 1 then v else zp), .int (if what = 2 then v else zr), .int zm, .int zw, .ref la, .int zs, .ref wa]))]) [0, 1, 2] rfl rfl hP hD hk1 hB
  have hP : va_P (dC, dI) vwCl [(a0, .inr (2, [.ref aZ, .int (nI nz), .ref aO, .int orr, .int ol, .int mp, .ref aG, .int 0, .int fa, .int fb, .ref aP, .ref aW, .ref aK])), (aZ, .inl (cZ, 6, .inr (.inr (.inr (.inr fZ))))), (za, .inr (1, [.int zh, .int zl, .int (if what = 0 then v else zf), .int (if what = 1 then v else zp), .int (if what = 2 then v else zr), .int zm, .int zw, .ref la, .int zs, .ref wa])), (ou, .inl (cJ, 1, .inr (.inl fU)))] H1 := hP
  have hD : va_D A [(a0, .inr (2, [.ref aZ, .int (nI nz), .ref aO, .int orr, .int ol, .int mp, .ref aG, .int 0, .int fa, .int fb, .ref aP, .ref aW, .ref aK])), (aZ, .inl (cZ, 6, .inr (.inr (.inr (.inr fZ))))), (za, .inr (1, [.int zh, .int zl, .int (if what = 0 then v else zf), .int (if what = 1 then v else zp), .int (if what = 2 then v else zr), .int zm, .int zw, .ref la, .int zs, .ref wa])), (ou, .inl (cJ, 1, .inr (.inl fU)))] := hD
  have hr2 : r2 = (if what = 0 then zf else if what = 1 then zp else zr) ∧ okset what v := hw
  rw [hr2.1]
  refine lv_i2l hx hb d_L_set_10 rfl ?_
  refine va_last hx hb hK hP hD hS 3 1 rfl rfl (vp_in_nI (n := 0) (N := 1) (by decide) (by decide)) d_L_set_11 (fun H locs hP hD hS => ?_)
  have hP : va_P (dC, dI) vwCl [(a0, .inr (2, [.ref aZ, .int (nI nz), .ref aO, .int orr, .int ol, .int mp, .ref aG, .int 0, .int fa, .int fb, .ref aP, .ref aW, .ref aK])), (aZ, .inl (cZ, 6, .inr (.inr (.inr (.inr fZ))))), (za, .inr (1, [.int zh, .int zl, .int (if what = 0 then v else zf), .int (if what = 1 then v else zp), .int (if what = 2 then v else zr), .int zm, .int zw, .ref la, .int zs, .ref wa])), (ou, .inl (cJ, 1, .inr (.inl (vp_updL fU (0 : Int32).toNatClampNeg ((if what = 0 then zf else if what = 1 then zp else zr).toInt64)))))] H := hP
  have hD : va_D A [(a0, .inr (2, [.ref aZ, .int (nI nz), .ref aO, .int orr, .int ol, .int mp, .ref aG, .int 0, .int fa, .int fb, .ref aP, .ref aW, .ref aK])), (aZ, .inl (cZ, 6, .inr (.inr (.inr (.inr fZ))))), (za, .inr (1, [.int zh, .int zl, .int (if what = 0 then v else zf), .int (if what = 1 then v else zp), .int (if what = 2 then v else zr), .int zm, .int zw, .ref la, .int zs, .ref wa])), (ou, .inl (cJ, 1, .inr (.inl (vp_updL fU (0 : Int32).toNatClampNeg ((if what = 0 then zf else if what = 1 then zp else zr).toInt64)))))] := hD
  refine lv_goto (tgt := 19) hx hb d_L_set_12 (by decide) ?_
  refine lv_iconst (v := 0) hx hb d_L_set_19 (by decide) ?_
  exact W.iret (v := 0) hx hb hr (fun t ht hW => ⟨⟨0, (), rfl, rfl, by have h9 := hP; rw [← ht] at h9; exact h9⟩, hS.F ht⟩) hS.2.2 d_L_set_20
set_option maxHeartbeats 4000000 in
set_option maxRecDepth 100000 in
theorem l_setY (l : Launch) (dC : Nat → ClassId) (dI : Nat → Nat → Nat) (cI cJ cZ cB : ClassId) (hl : l.stackTraces = false) (a0 aZ aO aG aP aW aK : Nat) (zc orr ol mp pl fa fb : Int32) (fZ : Nat → Option Nat) (za la wa : Nat) (zh zl zf zp zr zm zw zs : Int32) (nz k : Nat) (what v : Int32) (ou : Nat) (fU : Nat → Int64) (sz : Nat) (hk : k < nz) (hn : nz ≤ 6) (hz : fZ k = some za) (hx0 : ¬ okset what v) : Met l y_L_set w_L_set ({ frames := 8, cells := 3, slots := 18, locals := 129 }) (PCL (dC, dI) (TY cI cJ cZ cB) [.ref a0, .int (nI k), .int what, .int v, .ref ou] [(a0, .inr (2, [.ref aZ, .int (nI nz), .ref aO, .int orr, .int ol, .int mp, .ref aG, .int pl, .int fa, .int fb, .ref aP, .ref aW, .ref aK])), (aZ, .inl (cZ, 6, .inr (.inr (.inr (.inr fZ))))), (za, .inr (1, [.int zh, .int zl, .int zf, .int zp, .int zr, .int zm, .int zw, .ref la, .int zs, .ref wa])), (ou, .inl (cJ, 1, .inr (.inl fU)))] sz (va_A [(a0, .inr (2, [.ref aZ, .int (nI nz), .ref aO, .int orr, .int ol, .int mp, .ref aG, .int pl, .int fa, .int fb, .ref aP, .ref aW, .ref aK])), (aZ, .inl (cZ, 6, .inr (.inr (.inr (.inr fZ))))), (za, .inr (1, [.int zh, .int zl, .int zf, .int zp, .int zr, .int zm, .int zw, .ref la, .int zs, .ref wa])), (ou, .inl (cJ, 1, .inr (.inl fU)))] sz)) (va_Qi (fun (r : Int32) (_ : Unit) => r = 1) (fun (_ : Unit) (t : State) => va_P (dC, dI) vwCl [(a0, .inr (2, [.ref aZ, .int (nI nz), .ref aO, .int orr, .int ol, .int mp, .ref aG, .int pl, .int fa, .int fb, .ref aP, .ref aW, .ref aK])), (aZ, .inl (cZ, 6, .inr (.inr (.inr (.inr fZ))))), (za, .inr (1, [.int zh, .int zl, .int zf, .int zp, .int zr, .int zm, .int zw, .ref la, .int zs, .ref wa])), (ou, .inl (cJ, 1, .inr (.inl fU)))] t.heap) (va_A [(a0, .inr (2, [.ref aZ, .int (nI nz), .ref aO, .int orr, .int ol, .int mp, .ref aG, .int pl, .int fa, .int fb, .ref aP, .ref aW, .ref aK])), (aZ, .inl (cZ, 6, .inr (.inr (.inr (.inr fZ))))), (za, .inr (1, [.int zh, .int zl, .int zf, .int zp, .int zr, .int zm, .int zw, .ref la, .int zs, .ref wa])), (ou, .inl (cJ, 1, .inr (.inl fU)))] sz)) 3 18 (va_A [(a0, .inr (2, [.ref aZ, .int (nI nz), .ref aO, .int orr, .int ol, .int mp, .ref aG, .int pl, .int fa, .int fb, .ref aP, .ref aW, .ref aK])), (aZ, .inl (cZ, 6, .inr (.inr (.inr (.inr fZ))))), (za, .inr (1, [.int zh, .int zl, .int zf, .int zp, .int zr, .int zm, .int zw, .ref la, .int zs, .ref wa])), (ou, .inl (cJ, 1, .inr (.inl fU)))] sz) := by
  refine met_ofWH (cc := b_L_set) (maxL := 6) (ret := (some .int)) (by decide) rfl ?_
  intro p e s m args below meth c s₁ B hml hv
  obtain ⟨rfl, hsz, hP, hK, hD0, hE, hNc⟩ := hv
  have hx := B.exec
  have hb := B.bytes
  have hr := B.returns
  have hG : ∀ w ∈ GG, w.before _ s = true := fun w h => atoms_spec (ws := w_L_set) B.pre w (List.mem_cons_of_mem _ h)
  have hown : s.vm.findClass R_L = some m.cls := findClass_of_methodNamed B.named
  have hlocks := B.notSynchronized
  subst hsz
  have hD := hD0.self (sz := s.heap.size)
  generalize hAe : (va_A [(a0, .inr (2, [.ref aZ, .int (nI nz), .ref aO, .int orr, .int ol, .int mp, .ref aG, .int pl, .int fa, .int fb, .ref aP, .ref aW, .ref aK])), (aZ, .inl (cZ, 6, .inr (.inr (.inr (.inr fZ))))), (za, .inr (1, [.int zh, .int zl, .int zf, .int zp, .int zr, .int zm, .int zw, .ref la, .int zs, .ref wa])), (ou, .inl (cJ, 1, .inr (.inl fU)))] s.heap.size) = A at hD hE ⊢
  have hA : ∀ q : Nat, s.heap.size ≤ q → A q := fun q h => by rw [← hAe]; exact Or.inr h
  have hS : va_S A s.heap s.heap [] := va_S.rf
  obtain ⟨H, hH⟩ : ∃ z, z = s.heap := ⟨_, rfl⟩
  rw [← hH] at hP
  have hS : va_S A s.heap H [] := by rw [hH]; exact hS
  rw [← hH]
  have hl9 := lv_entry ([.ref a0, .int (nI k), .int what, .int v, .ref ou]) (n := 6) (Nat.le_of_ble_eq_true rfl)
  rw [lg_entry_eq]
  generalize (lg_sl ([.ref a0, .int (nI k), .int what, .int v, .ref ou]) ++ List.replicate (6 - (lg_sl ([.ref a0, .int (nI k), .int what, .int v, .ref ou])).length) Slot.unset).toArray = ls at hl9 ⊢
  have hl9 : lv_has ls 6 [(0, .ref a0), (1, .int (nI k)), (2, .int what), (3, .int v), (4, .ref ou)] := hl9
  have htab := vx_table (x := y_L_set) B (atoms_spec (ws := w_L_set) B.pre _ List.mem_cons_self)
  refine lv_aload hx hb d_L_set_0 (lv_at hl9 4 rfl) ?_
  refine lv_iconst (v := 0) hx hb d_L_set_2 (by decide) ?_
  refine lv_aload_n hx hb d_L_set_3 rfl (lv_at hl9 0 rfl) ?_
  refine lv_iload_n hx hb d_L_set_4 rfl (lv_at hl9 1 rfl) ?_
  refine lv_iload_n hx hb d_L_set_5 rfl (lv_at hl9 2 rfl) ?_
  refine lv_iload_n hx hb d_L_set_6 rfl (lv_at hl9 3 rfl) ?_
  have hPc := hP.sub (ws' := [(a0, .inr (2, [.ref aZ, .int (nI nz), .ref aO, .int orr, .int ol, .int mp, .ref aG, .int pl, .int fa, .int fb, .ref aP, .ref aW, .ref aK])), (aZ, .inl (cZ, 6, .inr (.inr (.inr (.inr fZ))))), (za, .inr (1, [.int zh, .int zl, .int zf, .int zp, .int zr, .int zm, .int zw, .ref la, .int zs, .ref wa]))]) [0, 1, 2] rfl
  have hDc := hD.sub (ws' := [(a0, .inr (2, [.ref aZ, .int (nI nz), .ref aO, .int orr, .int ol, .int mp, .ref aG, .int pl, .int fa, .int fb, .ref aP, .ref aW, .ref aK])), (aZ, .inl (cZ, 6, .inr (.inr (.inr (.inr fZ))))), (za, .inr (1, [.int zh, .int zl, .int zf, .int zp, .int zr, .int zm, .int zw, .ref la, .int zs, .ref wa]))]) [0, 1, 2] (by decide) rfl
  have hFc := va_free (wc := [(a0, .inr (2, [.ref aZ, .int (nI nz), .ref aO, .int orr, .int ol, .int mp, .ref aG, .int pl, .int fa, .int fb, .ref aP, .ref aW, .ref aK])), (aZ, .inl (cZ, 6, .inr (.inr (.inr (.inr fZ))))), (za, .inr (1, [.int zh, .int zl, .int zf, .int zp, .int zr, .int zm, .int zw, .ref la, .int zs, .ref wa]))]) hD hS hA [0, 1, 2] rfl
  refine vx_calli (vx_runV (C := R_C) (As := [.int (nI k), .int what, .int v]) (rest := [.int 0, .ref ou]) ⟨hx, hb, hml, hown, hG⟩ (c_set l dC dI cI cJ cZ cB hl a0 aZ aO aG aP aW aK zc orr ol mp pl fa fb fZ za la wa zh zl zf zp zr zm zw zs nz k what v H.size hk hn hz) (cwV 3 hG g_L_17 rfl rfl rfl (by decide +kernel) ⟨Nat.le_of_ble_eq_true rfl, Nat.le_of_ble_eq_true rfl⟩) ⟨PC.blind, va_recv hK hP (ci := 2) (q0 := 0) rfl rfl, PC.of hPc hK hDc hE hS hFc⟩ rfl rfl hl9.1 rfl (lv_room (Nat.le_of_ble_eq_true rfl)) d_L_set_7 ⟨by first | exact Nat.le_of_ble_eq_true rfl | omega, by first | exact Nat.le_of_ble_eq_true rfl | omega⟩) hS (fun q _ h => hFc q h) hFc (fun q _ h => hFc q h) (fun E ce q9 u t H1 locs ht hvm hpx hB hz1 hk1 hS hce hcv hcl => ?_) (fun r2 u t H1 locs ht hvm hw hB hz1 hk1 hS => ?_)
  · have hE9 : E = "java/lang/IllegalArgumentException" := hB.1.1
    have hB2 := hB.2
    rw [ht] at hB2
    obtain ⟨hP, hD⟩ := jset (wc := [(a0, .inr (2, [.ref aZ, .int (nI nz), .ref aO, .int orr, .int ol, .int mp, .ref aG, .int pl, .int fa, .int fb, .ref aP, .ref aW, .ref aK])), (aZ, .inl (cZ, 6, .inr (.inr (.inr (.inr fZ))))), (za, .inr (1, [.int zh, .int zl, .int zf, .int zp, .int zr, .int zm, .int zw, .ref la, .int zs, .ref wa]))]) (w1 := [(a0, .inr (2, [.ref aZ, .int (nI nz), .ref aO, .int orr, .int ol, .int mp, .ref aG, .int pl, .int fa, .int fb, .ref aP, .ref aW, .ref aK])), (aZ, .inl (cZ, 6, .inr (.inr (.inr (.inr fZ))))), (za, .inr (1, [.int zh, .int zl, .int zf, .int zp, .int zr, .int zm, .int zw, .ref la, .int zs, .ref wa]))]) [0, 1, 2] rfl rfl hP hD hk1 hB2
    have hP : va_P (dC, dI) vwCl [(a0, .inr (2, [.ref aZ, .int (nI nz), .ref aO, .int orr, .int ol, .int mp, .ref aG, .int pl, .int fa, .int fb, .ref aP, .ref aW, .ref aK])), (aZ, .inl (cZ, 6, .inr (.inr (.inr (.inr fZ))))), (za, .inr (1, [.int zh, .int zl, .int zf, .int zp, .int zr, .int zm, .int zw, .ref la, .int zs, .ref wa])), (ou, .inl (cJ, 1, .inr (.inl fU)))] H1 := hP
    have hD : va_D A [(a0, .inr (2, [.ref aZ, .int (nI nz), .ref aO, .int orr, .int ol, .int mp, .ref aG, .int pl, .int fa, .int fb, .ref aP, .ref aW, .ref aK])), (aZ, .inl (cZ, 6, .inr (.inr (.inr (.inr fZ))))), (za, .inr (1, [.int zh, .int zl, .int zf, .int zp, .int zr, .int zm, .int zw, .ref la, .int zs, .ref wa])), (ou, .inl (cJ, 1, .inr (.inl fU)))] := hD
    subst hE9
    refine vx_catch (own := R_L) (name := "java/lang/IllegalArgumentException") hown [] ⟨0, 12, 15, 13⟩ [] htab (fun z hz => by simp at hz) (by decide) (by decide) (hG _ k_67) (hE.1.use k_78) hce hcv hcl ?_
    refine lv_astore (lv' := [(5, .ref q9), (0, .ref a0), (1, .int (nI k)), (2, .int what), (3, .int v), (4, .ref ou)]) hx hb d_L_set_15 hl9 (by decide) rfl (fun ls hl9 => ?_)
    refine lv_iconst (v := 1) hx hb d_L_set_17 (by decide) ?_
    exact W.iret (v := 1) hx hb hr (fun t ht hW => ⟨⟨1, (), rfl, rfl, by have h9 := hP; rw [← ht] at h9; exact h9⟩, hS.F ht⟩) hS.2.2 d_L_set_18
  have hw := hw
  exact absurd hw (fun h => hx0 h.2)
set_option maxHeartbeats 4000000 in
set_option maxRecDepth 100000 in
theorem l_setX (l : Launch) (dC : Nat → ClassId) (dI : Nat → Nat → Nat) (cI cJ cZ cB : ClassId) (hl : l.stackTraces = false) (a0 aZ aO aG aP aW aK : Nat) (zc orr ol mp pl fa fb : Int32) (fZ : Nat → Option Nat) (nz : Nat) (x : Int32) (y z : Int32) (ou : Nat) (fU : Nat → Int64) (sz : Nat) (hx0 : x < 0 ∨ nI nz ≤ x) : Met l y_L_set w_L_set ({ frames := 8, cells := 1, slots := 6, locals := 128 }) (PCL (dC, dI) (TY cI cJ cZ cB) [.ref a0, .int x, .int y, .int z, .ref ou] [(a0, .inr (2, [.ref aZ, .int (nI nz), .ref aO, .int orr, .int ol, .int mp, .ref aG, .int pl, .int fa, .int fb, .ref aP, .ref aW, .ref aK])), (aZ, .inl (cZ, 6, .inr (.inr (.inr (.inr fZ))))), (ou, .inl (cJ, 1, .inr (.inl fU)))] sz (va_A [(a0, .inr (2, [.ref aZ, .int (nI nz), .ref aO, .int orr, .int ol, .int mp, .ref aG, .int pl, .int fa, .int fb, .ref aP, .ref aW, .ref aK])), (aZ, .inl (cZ, 6, .inr (.inr (.inr (.inr fZ))))), (ou, .inl (cJ, 1, .inr (.inl fU)))] sz)) (va_Qi (fun (r : Int32) (_ : Unit) => r = 1) (fun (_ : Unit) (t : State) => va_P (dC, dI) vwCl [(a0, .inr (2, [.ref aZ, .int (nI nz), .ref aO, .int orr, .int ol, .int mp, .ref aG, .int pl, .int fa, .int fb, .ref aP, .ref aW, .ref aK])), (aZ, .inl (cZ, 6, .inr (.inr (.inr (.inr fZ))))), (ou, .inl (cJ, 1, .inr (.inl fU)))] t.heap) (va_A [(a0, .inr (2, [.ref aZ, .int (nI nz), .ref aO, .int orr, .int ol, .int mp, .ref aG, .int pl, .int fa, .int fb, .ref aP, .ref aW, .ref aK])), (aZ, .inl (cZ, 6, .inr (.inr (.inr (.inr fZ))))), (ou, .inl (cJ, 1, .inr (.inl fU)))] sz)) 1 6 (va_A [(a0, .inr (2, [.ref aZ, .int (nI nz), .ref aO, .int orr, .int ol, .int mp, .ref aG, .int pl, .int fa, .int fb, .ref aP, .ref aW, .ref aK])), (aZ, .inl (cZ, 6, .inr (.inr (.inr (.inr fZ))))), (ou, .inl (cJ, 1, .inr (.inl fU)))] sz) := by
  refine met_ofWH (cc := b_L_set) (maxL := 6) (ret := (some .int)) (by decide) rfl ?_
  intro p e s m args below meth c s₁ B hml hv
  obtain ⟨rfl, hsz, hP, hK, hD0, hE, hNc⟩ := hv
  have hx := B.exec
  have hb := B.bytes
  have hr := B.returns
  have hG : ∀ w ∈ GG, w.before _ s = true := fun w h => atoms_spec (ws := w_L_set) B.pre w (List.mem_cons_of_mem _ h)
  have hown : s.vm.findClass R_L = some m.cls := findClass_of_methodNamed B.named
  have hlocks := B.notSynchronized
  subst hsz
  have hD := hD0.self (sz := s.heap.size)
  generalize hAe : (va_A [(a0, .inr (2, [.ref aZ, .int (nI nz), .ref aO, .int orr, .int ol, .int mp, .ref aG, .int pl, .int fa, .int fb, .ref aP, .ref aW, .ref aK])), (aZ, .inl (cZ, 6, .inr (.inr (.inr (.inr fZ))))), (ou, .inl (cJ, 1, .inr (.inl fU)))] s.heap.size) = A at hD hE ⊢
  have hA : ∀ q : Nat, s.heap.size ≤ q → A q := fun q h => by rw [← hAe]; exact Or.inr h
  have hS : va_S A s.heap s.heap [] := va_S.rf
  obtain ⟨H, hH⟩ : ∃ z, z = s.heap := ⟨_, rfl⟩
  rw [← hH] at hP
  have hS : va_S A s.heap H [] := by rw [hH]; exact hS
  rw [← hH]
  have hl9 := lv_entry ([.ref a0, .int x, .int y, .int z, .ref ou]) (n := 6) (Nat.le_of_ble_eq_true rfl)
  rw [lg_entry_eq]
  generalize (lg_sl ([.ref a0, .int x, .int y, .int z, .ref ou]) ++ List.replicate (6 - (lg_sl ([.ref a0, .int x, .int y, .int z, .ref ou])).length) Slot.unset).toArray = ls at hl9 ⊢
  have hl9 : lv_has ls 6 [(0, .ref a0), (1, .int x), (2, .int y), (3, .int z), (4, .ref ou)] := hl9
  have htab := vx_table (x := y_L_set) B (atoms_spec (ws := w_L_set) B.pre _ List.mem_cons_self)
  refine lv_aload hx hb d_L_set_0 (lv_at hl9 4 rfl) ?_
  refine lv_iconst (v := 0) hx hb d_L_set_2 (by decide) ?_
  refine lv_aload_n hx hb d_L_set_3 rfl (lv_at hl9 0 rfl) ?_
  refine lv_iload_n hx hb d_L_set_4 rfl (lv_at hl9 1 rfl) ?_
  refine lv_iload_n hx hb d_L_set_5 rfl (lv_at hl9 2 rfl) ?_
  refine lv_iload_n hx hb d_L_set_6 rfl (lv_at hl9 3 rfl) ?_
  have hPc := hP.sub (ws' := [(a0, .inr (2, [.ref aZ, .int (nI nz), .ref aO, .int orr, .int ol, .int mp, .ref aG, .int pl, .int fa, .int fb, .ref aP, .ref aW, .ref aK])), (aZ, .inl (cZ, 6, .inr (.inr (.inr (.inr fZ)))))]) [0, 1] rfl
  have hDc := hD.sub (ws' := [(a0, .inr (2, [.ref aZ, .int (nI nz), .ref aO, .int orr, .int ol, .int mp, .ref aG, .int pl, .int fa, .int fb, .ref aP, .ref aW, .ref aK])), (aZ, .inl (cZ, 6, .inr (.inr (.inr (.inr fZ)))))]) [0, 1] (by decide) rfl
  have hFc := va_A_nil hA hS.1
  refine vx_calli (vx_runV (C := R_C) (As := [.int x, .int y, .int z]) (rest := [.int 0, .ref ou]) ⟨hx, hb, hml, hown, hG⟩ (c_setX l dC dI cI cJ cZ cB hl a0 aZ aO aG aP aW aK zc orr ol mp pl fa fb fZ nz x y z H.size hx0) (cwV 3 hG g_L_17 rfl rfl rfl (by decide +kernel) ⟨Nat.le_of_ble_eq_true rfl, Nat.le_of_ble_eq_true rfl⟩) ⟨PC.blind, va_recv hK hP (ci := 2) (q0 := 0) rfl rfl, PC.of hPc hK hDc hE hS hFc⟩ rfl rfl hl9.1 rfl (lv_room (Nat.le_of_ble_eq_true rfl)) d_L_set_7 ⟨by first | exact Nat.le_of_ble_eq_true rfl | omega, by first | exact Nat.le_of_ble_eq_true rfl | omega⟩) hS (fun q _ h => hFc q h) hFc (fun q _ h => hFc q h) (fun E ce q9 u t H1 locs ht hvm hpx hB hz1 hk1 hS hce hcv hcl => ?_) (fun r2 u t H1 locs ht hvm hw hB hz1 hk1 hS => ?_)
  · have hE9 : E = "java/lang/IllegalArgumentException" := hB
    have hP := wp_kept hP hk1
    have hP : va_P (dC, dI) vwCl [(a0, .inr (2, [.ref aZ, .int (nI nz), .ref aO, .int orr, .int ol, .int mp, .ref aG, .int pl, .int fa, .int fb, .ref aP, .ref aW, .ref aK])), (aZ, .inl (cZ, 6, .inr (.inr (.inr (.inr fZ))))), (ou, .inl (cJ, 1, .inr (.inl fU)))] H1 := hP
    have hD : va_D A [(a0, .inr (2, [.ref aZ, .int (nI nz), .ref aO, .int orr, .int ol, .int mp, .ref aG, .int pl, .int fa, .int fb, .ref aP, .ref aW, .ref aK])), (aZ, .inl (cZ, 6, .inr (.inr (.inr (.inr fZ))))), (ou, .inl (cJ, 1, .inr (.inl fU)))] := hD
    subst hE9
    refine vx_catch (own := R_L) (name := "java/lang/IllegalArgumentException") hown [] ⟨0, 12, 15, 13⟩ [] htab (fun z hz => by simp at hz) (by decide) (by decide) (hG _ k_67) (hE.1.use k_78) hce hcv hcl ?_
    refine lv_astore (lv' := [(5, .ref q9), (0, .ref a0), (1, .int x), (2, .int y), (3, .int z), (4, .ref ou)]) hx hb d_L_set_15 hl9 (by decide) rfl (fun ls hl9 => ?_)
    refine lv_iconst (v := 1) hx hb d_L_set_17 (by decide) ?_
    exact W.iret (v := 1) hx hb hr (fun t ht hW => ⟨⟨1, (), rfl, rfl, by have h9 := hP; rw [← ht] at h9; exact h9⟩, hS.F ht⟩) hS.2.2 d_L_set_18
  have hw := hw
  exact hw.elim
set_option maxHeartbeats 4000000 in
set_option maxRecDepth 100000 in
theorem l_want (l : Launch) (dC : Nat → ClassId) (dI : Nat → Nat → Nat) (cI cJ cZ cB : ClassId) (hl : l.stackTraces = false) (a0 aZ aO aG aP aW aK : Nat) (zc orr ol mp pl fa fb : Int32) (fZ : Nat → Option Nat) (za la wa : Nat) (zh zl zf zp zr zm zw zs : Int32) (nz k : Nat) (x y : Int32) (sz : Nat) (hk : k < nz) (hn : nz ≤ 6) (hz : fZ k = some za) (hw0 : ¬ ((x < (-1) ∨ 1439 < x) ∨ (y < (-10000) ∨ 10000 < y))) : Met l y_L_want w_L_want ({ frames := 8, cells := 2, slots := 12, locals := 128 }) (PCL (dC, dI) (TY cI cJ cZ cB) [.ref a0, .int (nI k), .int x, .int y] [(a0, .inr (2, [.ref aZ, .int (nI nz), .ref aO, .int orr, .int ol, .int mp, .ref aG, .int pl, .int fa, .int fb, .ref aP, .ref aW, .ref aK])), (aZ, .inl (cZ, 6, .inr (.inr (.inr (.inr fZ))))), (za, .inr (1, [.int zh, .int zl, .int zf, .int zp, .int zr, .int zm, .int zw, .ref la, .int zs, .ref wa]))] sz (va_A [(a0, .inr (2, [.ref aZ, .int (nI nz), .ref aO, .int orr, .int ol, .int mp, .ref aG, .int pl, .int fa, .int fb, .ref aP, .ref aW, .ref aK])), (aZ, .inl (cZ, 6, .inr (.inr (.inr (.inr fZ))))), (za, .inr (1, [.int zh, .int zl, .int zf, .int zp, .int zr, .int zm, .int zw, .ref la, .int zs, .ref wa]))] sz)) (va_Qi (fun (r : Int32) (_ : Unit) => r = 0) (fun (_ : Unit) (t : State) => va_P (dC, dI) vwCl [(a0, .inr (2, [.ref aZ, .int (nI nz), .ref aO, .int orr, .int ol, .int mp, .ref aG, .int 0, .int fa, .int fb, .ref aP, .ref aW, .ref aK])), (aZ, .inl (cZ, 6, .inr (.inr (.inr (.inr fZ))))), (za, .inr (1, [.int zh, .int zl, .int zf, .int zp, .int zr, .int x, .int y, .ref la, .int zs, .ref wa]))] t.heap) (va_A [(a0, .inr (2, [.ref aZ, .int (nI nz), .ref aO, .int orr, .int ol, .int mp, .ref aG, .int pl, .int fa, .int fb, .ref aP, .ref aW, .ref aK])), (aZ, .inl (cZ, 6, .inr (.inr (.inr (.inr fZ))))), (za, .inr (1, [.int zh, .int zl, .int zf, .int zp, .int zr, .int zm, .int zw, .ref la, .int zs, .ref wa]))] sz)) 2 12 (va_A [(a0, .inr (2, [.ref aZ, .int (nI nz), .ref aO, .int orr, .int ol, .int mp, .ref aG, .int pl, .int fa, .int fb, .ref aP, .ref aW, .ref aK])), (aZ, .inl (cZ, 6, .inr (.inr (.inr (.inr fZ))))), (za, .inr (1, [.int zh, .int zl, .int zf, .int zp, .int zr, .int zm, .int zw, .ref la, .int zs, .ref wa]))] sz) := by
  refine met_ofWH (cc := b_L_want) (maxL := 5) (ret := (some .int)) (by decide) rfl ?_
  intro p e s m args below meth c s₁ B hml hv
  obtain ⟨rfl, hsz, hP, hK, hD0, hE, hNc⟩ := hv
  have hx := B.exec
  have hb := B.bytes
  have hr := B.returns
  have hG : ∀ w ∈ GG, w.before _ s = true := fun w h => atoms_spec (ws := w_L_want) B.pre w (List.mem_cons_of_mem _ h)
  have hown : s.vm.findClass R_L = some m.cls := findClass_of_methodNamed B.named
  have hlocks := B.notSynchronized
  subst hsz
  have hD := hD0.self (sz := s.heap.size)
  generalize hAe : (va_A [(a0, .inr (2, [.ref aZ, .int (nI nz), .ref aO, .int orr, .int ol, .int mp, .ref aG, .int pl, .int fa, .int fb, .ref aP, .ref aW, .ref aK])), (aZ, .inl (cZ, 6, .inr (.inr (.inr (.inr fZ))))), (za, .inr (1, [.int zh, .int zl, .int zf, .int zp, .int zr, .int zm, .int zw, .ref la, .int zs, .ref wa]))] s.heap.size) = A at hD hE ⊢
  have hA : ∀ q : Nat, s.heap.size ≤ q → A q := fun q h => by rw [← hAe]; exact Or.inr h
  have hS : va_S A s.heap s.heap [] := va_S.rf
  obtain ⟨H, hH⟩ : ∃ z, z = s.heap := ⟨_, rfl⟩
  rw [← hH] at hP
  have hS : va_S A s.heap H [] := by rw [hH]; exact hS
  rw [← hH]
  have hl9 := lv_entry ([.ref a0, .int (nI k), .int x, .int y]) (n := 5) (Nat.le_of_ble_eq_true rfl)
  rw [lg_entry_eq]
  generalize (lg_sl ([.ref a0, .int (nI k), .int x, .int y]) ++ List.replicate (5 - (lg_sl ([.ref a0, .int (nI k), .int x, .int y])).length) Slot.unset).toArray = ls at hl9 ⊢
  have hl9 : lv_has ls 5 [(0, .ref a0), (1, .int (nI k)), (2, .int x), (3, .int y)] := hl9
  have htab := vx_table (x := y_L_want) B (atoms_spec (ws := w_L_want) B.pre _ List.mem_cons_self)
  refine lv_aload_n hx hb d_L_want_0 rfl (lv_at hl9 0 rfl) ?_
  refine lv_iload_n hx hb d_L_want_1 rfl (lv_at hl9 1 rfl) ?_
  refine lv_iload_n hx hb d_L_want_2 rfl (lv_at hl9 2 rfl) ?_
  refine lv_iload_n hx hb d_L_want_3 rfl (lv_at hl9 3 rfl) ?_
  have hPc := hP.sub (ws' := [(a0, .inr (2, [.ref aZ, .int (nI nz), .ref aO, .int orr, .int ol, .int mp, .ref aG, .int pl, .int fa, .int fb, .ref aP, .ref aW, .ref aK])), (aZ, .inl (cZ, 6, .inr (.inr (.inr (.inr fZ))))), (za, .inr (1, [.int zh, .int zl, .int zf, .int zp, .int zr, .int zm, .int zw, .ref la, .int zs, .ref wa]))]) [0, 1, 2] rfl
  have hDc := hD.sub (ws' := [(a0, .inr (2, [.ref aZ, .int (nI nz), .ref aO, .int orr, .int ol, .int mp, .ref aG, .int pl, .int fa, .int fb, .ref aP, .ref aW, .ref aK])), (aZ, .inl (cZ, 6, .inr (.inr (.inr (.inr fZ))))), (za, .inr (1, [.int zh, .int zl, .int zf, .int zp, .int zr, .int zm, .int zw, .ref la, .int zs, .ref wa]))]) [0, 1, 2] (by decide) rfl
  have hFc := va_free (wc := [(a0, .inr (2, [.ref aZ, .int (nI nz), .ref aO, .int orr, .int ol, .int mp, .ref aG, .int pl, .int fa, .int fb, .ref aP, .ref aW, .ref aK])), (aZ, .inl (cZ, 6, .inr (.inr (.inr (.inr fZ))))), (za, .inr (1, [.int zh, .int zl, .int zf, .int zp, .int zr, .int zm, .int zw, .ref la, .int zs, .ref wa]))]) hD hS hA [0, 1, 2] rfl
  refine vx_callv (vx_runV (C := R_C) (As := [.int (nI k), .int x, .int y]) (rest := []) ⟨hx, hb, hml, hown, hG⟩ (c_want l dC dI cI cJ cZ cB hl a0 aZ aO aG aP aW aK zc orr ol mp pl fa fb fZ za la wa zh zl zf zp zr zm zw zs nz k x y H.size hk hn hz) (cwV 3 hG g_L_21 rfl rfl rfl (by decide +kernel) ⟨Nat.le_of_ble_eq_true rfl, Nat.le_of_ble_eq_true rfl⟩) ⟨PC.blind, va_recv hK hP (ci := 2) (q0 := 0) rfl rfl, PC.of hPc hK hDc hE hS hFc⟩ rfl rfl hl9.1 rfl (lv_room (Nat.le_of_ble_eq_true rfl)) d_L_want_4 ⟨by first | exact Nat.le_of_ble_eq_true rfl | omega, by first | exact Nat.le_of_ble_eq_true rfl | omega⟩) hS (fun q _ h => hFc q h) hFc (fun q _ h => hFc q h) (fun E ce q9 u t H1 locs ht hvm hpx hB hz1 hk1 hS hce hcv hcl => ?_) (fun u t H1 locs ht hvm hw hB hz1 hk1 hS => ?_)
  · exact absurd hB.1.2 hw0
  have hw := hw
  rw [ht] at hB
  obtain ⟨hP, hD⟩ := jset (wc := [(a0, .inr (2, [.ref aZ, .int (nI nz), .ref aO, .int orr, .int ol, .int mp, .ref aG, .int pl, .int fa, .int fb, .ref aP, .ref aW, .ref aK])), (aZ, .inl (cZ, 6, .inr (.inr (.inr (.inr fZ))))), (za, .inr (1, [.int zh, .int zl, .int zf, .int zp, .int zr, .int zm, .int zw, .ref la, .int zs, .ref wa]))]) (w1 := [(a0, .inr (2, [.ref aZ, .int (nI nz), .ref aO, .int orr, .int ol, .int mp, .ref aG, .int 0, .int fa, .int fb, .ref aP, .ref aW, .ref aK])), (aZ, .inl (cZ, 6, .inr (.inr (.inr (.inr fZ))))), (za, .inr (1, [.int zh, .int zl, .int zf, .int zp, .int zr, .int x, .int y, .ref la, .int zs, .ref wa]))]) [0, 1, 2] rfl rfl hP hD hk1 hB
  have hP : va_P (dC, dI) vwCl [(a0, .inr (2, [.ref aZ, .int (nI nz), .ref aO, .int orr, .int ol, .int mp, .ref aG, .int 0, .int fa, .int fb, .ref aP, .ref aW, .ref aK])), (aZ, .inl (cZ, 6, .inr (.inr (.inr (.inr fZ))))), (za, .inr (1, [.int zh, .int zl, .int zf, .int zp, .int zr, .int x, .int y, .ref la, .int zs, .ref wa]))] H1 := hP
  have hD : va_D A [(a0, .inr (2, [.ref aZ, .int (nI nz), .ref aO, .int orr, .int ol, .int mp, .ref aG, .int 0, .int fa, .int fb, .ref aP, .ref aW, .ref aK])), (aZ, .inl (cZ, 6, .inr (.inr (.inr (.inr fZ))))), (za, .inr (1, [.int zh, .int zl, .int zf, .int zp, .int zr, .int x, .int y, .ref la, .int zs, .ref wa]))] := hD
  have hq3 : ¬ ((x < (-1) ∨ 1439 < x) ∨ (y < (-10000) ∨ 10000 < y)) := hw
  refine lv_goto (tgt := 14) hx hb d_L_want_7 (by decide) ?_
  refine lv_iconst (v := 0) hx hb d_L_want_14 (by decide) ?_
  exact W.iret (v := 0) hx hb hr (fun t ht hW => ⟨⟨0, (), rfl, rfl, by have h9 := hP; rw [← ht] at h9; exact h9⟩, hS.F ht⟩) hS.2.2 d_L_want_15
set_option maxHeartbeats 4000000 in
set_option maxRecDepth 100000 in
theorem l_wantY (l : Launch) (dC : Nat → ClassId) (dI : Nat → Nat → Nat) (cI cJ cZ cB : ClassId) (hl : l.stackTraces = false) (a0 aZ aO aG aP aW aK : Nat) (zc orr ol mp pl fa fb : Int32) (fZ : Nat → Option Nat) (za la wa : Nat) (zh zl zf zp zr zm zw zs : Int32) (nz k : Nat) (x y : Int32) (sz : Nat) (hk : k < nz) (hn : nz ≤ 6) (hz : fZ k = some za) (hw0 : ((x < (-1) ∨ 1439 < x) ∨ (y < (-10000) ∨ 10000 < y))) : Met l y_L_want w_L_want ({ frames := 8, cells := 2, slots := 12, locals := 128 }) (PCL (dC, dI) (TY cI cJ cZ cB) [.ref a0, .int (nI k), .int x, .int y] [(a0, .inr (2, [.ref aZ, .int (nI nz), .ref aO, .int orr, .int ol, .int mp, .ref aG, .int pl, .int fa, .int fb, .ref aP, .ref aW, .ref aK])), (aZ, .inl (cZ, 6, .inr (.inr (.inr (.inr fZ))))), (za, .inr (1, [.int zh, .int zl, .int zf, .int zp, .int zr, .int zm, .int zw, .ref la, .int zs, .ref wa]))] sz (va_A [(a0, .inr (2, [.ref aZ, .int (nI nz), .ref aO, .int orr, .int ol, .int mp, .ref aG, .int pl, .int fa, .int fb, .ref aP, .ref aW, .ref aK])), (aZ, .inl (cZ, 6, .inr (.inr (.inr (.inr fZ))))), (za, .inr (1, [.int zh, .int zl, .int zf, .int zp, .int zr, .int zm, .int zw, .ref la, .int zs, .ref wa]))] sz)) (va_Qi (fun (r : Int32) (_ : Unit) => r = 1) (fun (_ : Unit) (t : State) => va_P (dC, dI) vwCl [(a0, .inr (2, [.ref aZ, .int (nI nz), .ref aO, .int orr, .int ol, .int mp, .ref aG, .int pl, .int fa, .int fb, .ref aP, .ref aW, .ref aK])), (aZ, .inl (cZ, 6, .inr (.inr (.inr (.inr fZ))))), (za, .inr (1, [.int zh, .int zl, .int zf, .int zp, .int zr, .int zm, .int zw, .ref la, .int zs, .ref wa]))] t.heap) (va_A [(a0, .inr (2, [.ref aZ, .int (nI nz), .ref aO, .int orr, .int ol, .int mp, .ref aG, .int pl, .int fa, .int fb, .ref aP, .ref aW, .ref aK])), (aZ, .inl (cZ, 6, .inr (.inr (.inr (.inr fZ))))), (za, .inr (1, [.int zh, .int zl, .int zf, .int zp, .int zr, .int zm, .int zw, .ref la, .int zs, .ref wa]))] sz)) 2 12 (va_A [(a0, .inr (2, [.ref aZ, .int (nI nz), .ref aO, .int orr, .int ol, .int mp, .ref aG, .int pl, .int fa, .int fb, .ref aP, .ref aW, .ref aK])), (aZ, .inl (cZ, 6, .inr (.inr (.inr (.inr fZ))))), (za, .inr (1, [.int zh, .int zl, .int zf, .int zp, .int zr, .int zm, .int zw, .ref la, .int zs, .ref wa]))] sz) := by
  refine met_ofWH (cc := b_L_want) (maxL := 5) (ret := (some .int)) (by decide) rfl ?_
  intro p e s m args below meth c s₁ B hml hv
  obtain ⟨rfl, hsz, hP, hK, hD0, hE, hNc⟩ := hv
  have hx := B.exec
  have hb := B.bytes
  have hr := B.returns
  have hG : ∀ w ∈ GG, w.before _ s = true := fun w h => atoms_spec (ws := w_L_want) B.pre w (List.mem_cons_of_mem _ h)
  have hown : s.vm.findClass R_L = some m.cls := findClass_of_methodNamed B.named
  have hlocks := B.notSynchronized
  subst hsz
  have hD := hD0.self (sz := s.heap.size)
  generalize hAe : (va_A [(a0, .inr (2, [.ref aZ, .int (nI nz), .ref aO, .int orr, .int ol, .int mp, .ref aG, .int pl, .int fa, .int fb, .ref aP, .ref aW, .ref aK])), (aZ, .inl (cZ, 6, .inr (.inr (.inr (.inr fZ))))), (za, .inr (1, [.int zh, .int zl, .int zf, .int zp, .int zr, .int zm, .int zw, .ref la, .int zs, .ref wa]))] s.heap.size) = A at hD hE ⊢
  have hA : ∀ q : Nat, s.heap.size ≤ q → A q := fun q h => by rw [← hAe]; exact Or.inr h
  have hS : va_S A s.heap s.heap [] := va_S.rf
  obtain ⟨H, hH⟩ : ∃ z, z = s.heap := ⟨_, rfl⟩
  rw [← hH] at hP
  have hS : va_S A s.heap H [] := by rw [hH]; exact hS
  rw [← hH]
  have hl9 := lv_entry ([.ref a0, .int (nI k), .int x, .int y]) (n := 5) (Nat.le_of_ble_eq_true rfl)
  rw [lg_entry_eq]
  generalize (lg_sl ([.ref a0, .int (nI k), .int x, .int y]) ++ List.replicate (5 - (lg_sl ([.ref a0, .int (nI k), .int x, .int y])).length) Slot.unset).toArray = ls at hl9 ⊢
  have hl9 : lv_has ls 5 [(0, .ref a0), (1, .int (nI k)), (2, .int x), (3, .int y)] := hl9
  have htab := vx_table (x := y_L_want) B (atoms_spec (ws := w_L_want) B.pre _ List.mem_cons_self)
  refine lv_aload_n hx hb d_L_want_0 rfl (lv_at hl9 0 rfl) ?_
  refine lv_iload_n hx hb d_L_want_1 rfl (lv_at hl9 1 rfl) ?_
  refine lv_iload_n hx hb d_L_want_2 rfl (lv_at hl9 2 rfl) ?_
  refine lv_iload_n hx hb d_L_want_3 rfl (lv_at hl9 3 rfl) ?_
  have hPc := hP.sub (ws' := [(a0, .inr (2, [.ref aZ, .int (nI nz), .ref aO, .int orr, .int ol, .int mp, .ref aG, .int pl, .int fa, .int fb, .ref aP, .ref aW, .ref aK])), (aZ, .inl (cZ, 6, .inr (.inr (.inr (.inr fZ))))), (za, .inr (1, [.int zh, .int zl, .int zf, .int zp, .int zr, .int zm, .int zw, .ref la, .int zs, .ref wa]))]) [0, 1, 2] rfl
  have hDc := hD.sub (ws' := [(a0, .inr (2, [.ref aZ, .int (nI nz), .ref aO, .int orr, .int ol, .int mp, .ref aG, .int pl, .int fa, .int fb, .ref aP, .ref aW, .ref aK])), (aZ, .inl (cZ, 6, .inr (.inr (.inr (.inr fZ))))), (za, .inr (1, [.int zh, .int zl, .int zf, .int zp, .int zr, .int zm, .int zw, .ref la, .int zs, .ref wa]))]) [0, 1, 2] (by decide) rfl
  have hFc := va_free (wc := [(a0, .inr (2, [.ref aZ, .int (nI nz), .ref aO, .int orr, .int ol, .int mp, .ref aG, .int pl, .int fa, .int fb, .ref aP, .ref aW, .ref aK])), (aZ, .inl (cZ, 6, .inr (.inr (.inr (.inr fZ))))), (za, .inr (1, [.int zh, .int zl, .int zf, .int zp, .int zr, .int zm, .int zw, .ref la, .int zs, .ref wa]))]) hD hS hA [0, 1, 2] rfl
  refine vx_callv (vx_runV (C := R_C) (As := [.int (nI k), .int x, .int y]) (rest := []) ⟨hx, hb, hml, hown, hG⟩ (c_want l dC dI cI cJ cZ cB hl a0 aZ aO aG aP aW aK zc orr ol mp pl fa fb fZ za la wa zh zl zf zp zr zm zw zs nz k x y H.size hk hn hz) (cwV 3 hG g_L_21 rfl rfl rfl (by decide +kernel) ⟨Nat.le_of_ble_eq_true rfl, Nat.le_of_ble_eq_true rfl⟩) ⟨PC.blind, va_recv hK hP (ci := 2) (q0 := 0) rfl rfl, PC.of hPc hK hDc hE hS hFc⟩ rfl rfl hl9.1 rfl (lv_room (Nat.le_of_ble_eq_true rfl)) d_L_want_4 ⟨by first | exact Nat.le_of_ble_eq_true rfl | omega, by first | exact Nat.le_of_ble_eq_true rfl | omega⟩) hS (fun q _ h => hFc q h) hFc (fun q _ h => hFc q h) (fun E ce q9 u t H1 locs ht hvm hpx hB hz1 hk1 hS hce hcv hcl => ?_) (fun u t H1 locs ht hvm hw hB hz1 hk1 hS => ?_)
  · have hE9 : E = "java/lang/IllegalArgumentException" := hB.1.1
    have hB2 := hB.2
    rw [ht] at hB2
    obtain ⟨hP, hD⟩ := jset (wc := [(a0, .inr (2, [.ref aZ, .int (nI nz), .ref aO, .int orr, .int ol, .int mp, .ref aG, .int pl, .int fa, .int fb, .ref aP, .ref aW, .ref aK])), (aZ, .inl (cZ, 6, .inr (.inr (.inr (.inr fZ))))), (za, .inr (1, [.int zh, .int zl, .int zf, .int zp, .int zr, .int zm, .int zw, .ref la, .int zs, .ref wa]))]) (w1 := [(a0, .inr (2, [.ref aZ, .int (nI nz), .ref aO, .int orr, .int ol, .int mp, .ref aG, .int pl, .int fa, .int fb, .ref aP, .ref aW, .ref aK])), (aZ, .inl (cZ, 6, .inr (.inr (.inr (.inr fZ))))), (za, .inr (1, [.int zh, .int zl, .int zf, .int zp, .int zr, .int zm, .int zw, .ref la, .int zs, .ref wa]))]) [0, 1, 2] rfl rfl hP hD hk1 hB2
    have hP : va_P (dC, dI) vwCl [(a0, .inr (2, [.ref aZ, .int (nI nz), .ref aO, .int orr, .int ol, .int mp, .ref aG, .int pl, .int fa, .int fb, .ref aP, .ref aW, .ref aK])), (aZ, .inl (cZ, 6, .inr (.inr (.inr (.inr fZ))))), (za, .inr (1, [.int zh, .int zl, .int zf, .int zp, .int zr, .int zm, .int zw, .ref la, .int zs, .ref wa]))] H1 := hP
    have hD : va_D A [(a0, .inr (2, [.ref aZ, .int (nI nz), .ref aO, .int orr, .int ol, .int mp, .ref aG, .int pl, .int fa, .int fb, .ref aP, .ref aW, .ref aK])), (aZ, .inl (cZ, 6, .inr (.inr (.inr (.inr fZ))))), (za, .inr (1, [.int zh, .int zl, .int zf, .int zp, .int zr, .int zm, .int zw, .ref la, .int zs, .ref wa]))] := hD
    subst hE9
    refine vx_catch (own := R_L) (name := "java/lang/IllegalArgumentException") hown [] ⟨0, 7, 10, 13⟩ [] htab (fun z hz => by simp at hz) (by decide) (by decide) (hG _ k_67) (hE.1.use k_78) hce hcv hcl ?_
    refine lv_astore (lv' := [(4, .ref q9), (0, .ref a0), (1, .int (nI k)), (2, .int x), (3, .int y)]) hx hb d_L_want_10 hl9 (by decide) rfl (fun ls hl9 => ?_)
    refine lv_iconst (v := 1) hx hb d_L_want_12 (by decide) ?_
    exact W.iret (v := 1) hx hb hr (fun t ht hW => ⟨⟨1, (), rfl, rfl, by have h9 := hP; rw [← ht] at h9; exact h9⟩, hS.F ht⟩) hS.2.2 d_L_want_13
  have hw := hw
  exact absurd hw (fun h => h hw0)
set_option maxHeartbeats 4000000 in
set_option maxRecDepth 100000 in
theorem l_wantX (l : Launch) (dC : Nat → ClassId) (dI : Nat → Nat → Nat) (cI cJ cZ cB : ClassId) (hl : l.stackTraces = false) (a0 aZ aO aG aP aW aK : Nat) (zc orr ol mp pl fa fb : Int32) (fZ : Nat → Option Nat) (nz : Nat) (x : Int32) (y z : Int32) (sz : Nat) (hx0 : x < 0 ∨ nI nz ≤ x) : Met l y_L_want w_L_want ({ frames := 8, cells := 1, slots := 6, locals := 127 }) (PCL (dC, dI) (TY cI cJ cZ cB) [.ref a0, .int x, .int y, .int z] [(a0, .inr (2, [.ref aZ, .int (nI nz), .ref aO, .int orr, .int ol, .int mp, .ref aG, .int pl, .int fa, .int fb, .ref aP, .ref aW, .ref aK])), (aZ, .inl (cZ, 6, .inr (.inr (.inr (.inr fZ)))))] sz (va_A [(a0, .inr (2, [.ref aZ, .int (nI nz), .ref aO, .int orr, .int ol, .int mp, .ref aG, .int pl, .int fa, .int fb, .ref aP, .ref aW, .ref aK])), (aZ, .inl (cZ, 6, .inr (.inr (.inr (.inr fZ)))))] sz)) (va_Qi (fun (r : Int32) (_ : Unit) => r = 1) (fun (_ : Unit) (t : State) => va_P (dC, dI) vwCl [(a0, .inr (2, [.ref aZ, .int (nI nz), .ref aO, .int orr, .int ol, .int mp, .ref aG, .int pl, .int fa, .int fb, .ref aP, .ref aW, .ref aK])), (aZ, .inl (cZ, 6, .inr (.inr (.inr (.inr fZ)))))] t.heap) (va_A [(a0, .inr (2, [.ref aZ, .int (nI nz), .ref aO, .int orr, .int ol, .int mp, .ref aG, .int pl, .int fa, .int fb, .ref aP, .ref aW, .ref aK])), (aZ, .inl (cZ, 6, .inr (.inr (.inr (.inr fZ)))))] sz)) 1 6 (va_A [(a0, .inr (2, [.ref aZ, .int (nI nz), .ref aO, .int orr, .int ol, .int mp, .ref aG, .int pl, .int fa, .int fb, .ref aP, .ref aW, .ref aK])), (aZ, .inl (cZ, 6, .inr (.inr (.inr (.inr fZ)))))] sz) := by
  refine met_ofWH (cc := b_L_want) (maxL := 5) (ret := (some .int)) (by decide) rfl ?_
  intro p e s m args below meth c s₁ B hml hv
  obtain ⟨rfl, hsz, hP, hK, hD0, hE, hNc⟩ := hv
  have hx := B.exec
  have hb := B.bytes
  have hr := B.returns
  have hG : ∀ w ∈ GG, w.before _ s = true := fun w h => atoms_spec (ws := w_L_want) B.pre w (List.mem_cons_of_mem _ h)
  have hown : s.vm.findClass R_L = some m.cls := findClass_of_methodNamed B.named
  have hlocks := B.notSynchronized
  subst hsz
  have hD := hD0.self (sz := s.heap.size)
  generalize hAe : (va_A [(a0, .inr (2, [.ref aZ, .int (nI nz), .ref aO, .int orr, .int ol, .int mp, .ref aG, .int pl, .int fa, .int fb, .ref aP, .ref aW, .ref aK])), (aZ, .inl (cZ, 6, .inr (.inr (.inr (.inr fZ)))))] s.heap.size) = A at hD hE ⊢
  have hA : ∀ q : Nat, s.heap.size ≤ q → A q := fun q h => by rw [← hAe]; exact Or.inr h
  have hS : va_S A s.heap s.heap [] := va_S.rf
  obtain ⟨H, hH⟩ : ∃ z, z = s.heap := ⟨_, rfl⟩
  rw [← hH] at hP
  have hS : va_S A s.heap H [] := by rw [hH]; exact hS
  rw [← hH]
  have hl9 := lv_entry ([.ref a0, .int x, .int y, .int z]) (n := 5) (Nat.le_of_ble_eq_true rfl)
  rw [lg_entry_eq]
  generalize (lg_sl ([.ref a0, .int x, .int y, .int z]) ++ List.replicate (5 - (lg_sl ([.ref a0, .int x, .int y, .int z])).length) Slot.unset).toArray = ls at hl9 ⊢
  have hl9 : lv_has ls 5 [(0, .ref a0), (1, .int x), (2, .int y), (3, .int z)] := hl9
  have htab := vx_table (x := y_L_want) B (atoms_spec (ws := w_L_want) B.pre _ List.mem_cons_self)
  refine lv_aload_n hx hb d_L_want_0 rfl (lv_at hl9 0 rfl) ?_
  refine lv_iload_n hx hb d_L_want_1 rfl (lv_at hl9 1 rfl) ?_
  refine lv_iload_n hx hb d_L_want_2 rfl (lv_at hl9 2 rfl) ?_
  refine lv_iload_n hx hb d_L_want_3 rfl (lv_at hl9 3 rfl) ?_
  have hPc := hP.sub (ws' := [(a0, .inr (2, [.ref aZ, .int (nI nz), .ref aO, .int orr, .int ol, .int mp, .ref aG, .int pl, .int fa, .int fb, .ref aP, .ref aW, .ref aK])), (aZ, .inl (cZ, 6, .inr (.inr (.inr (.inr fZ)))))]) [0, 1] rfl
  have hDc := hD.sub (ws' := [(a0, .inr (2, [.ref aZ, .int (nI nz), .ref aO, .int orr, .int ol, .int mp, .ref aG, .int pl, .int fa, .int fb, .ref aP, .ref aW, .ref aK])), (aZ, .inl (cZ, 6, .inr (.inr (.inr (.inr fZ)))))]) [0, 1] (by decide) rfl
  have hFc := va_A_nil hA hS.1
  refine vx_callv (vx_runV (C := R_C) (As := [.int x, .int y, .int z]) (rest := []) ⟨hx, hb, hml, hown, hG⟩ (c_wantX l dC dI cI cJ cZ cB hl a0 aZ aO aG aP aW aK zc orr ol mp pl fa fb fZ nz x y z H.size hx0) (cwV 3 hG g_L_21 rfl rfl rfl (by decide +kernel) ⟨Nat.le_of_ble_eq_true rfl, Nat.le_of_ble_eq_true rfl⟩) ⟨PC.blind, va_recv hK hP (ci := 2) (q0 := 0) rfl rfl, PC.of hPc hK hDc hE hS hFc⟩ rfl rfl hl9.1 rfl (lv_room (Nat.le_of_ble_eq_true rfl)) d_L_want_4 ⟨by first | exact Nat.le_of_ble_eq_true rfl | omega, by first | exact Nat.le_of_ble_eq_true rfl | omega⟩) hS (fun q _ h => hFc q h) hFc (fun q _ h => hFc q h) (fun E ce q9 u t H1 locs ht hvm hpx hB hz1 hk1 hS hce hcv hcl => ?_) (fun u t H1 locs ht hvm hw hB hz1 hk1 hS => ?_)
  · have hE9 : E = "java/lang/IllegalArgumentException" := hB
    have hP := wp_kept hP hk1
    have hP : va_P (dC, dI) vwCl [(a0, .inr (2, [.ref aZ, .int (nI nz), .ref aO, .int orr, .int ol, .int mp, .ref aG, .int pl, .int fa, .int fb, .ref aP, .ref aW, .ref aK])), (aZ, .inl (cZ, 6, .inr (.inr (.inr (.inr fZ)))))] H1 := hP
    have hD : va_D A [(a0, .inr (2, [.ref aZ, .int (nI nz), .ref aO, .int orr, .int ol, .int mp, .ref aG, .int pl, .int fa, .int fb, .ref aP, .ref aW, .ref aK])), (aZ, .inl (cZ, 6, .inr (.inr (.inr (.inr fZ)))))] := hD
    subst hE9
    refine vx_catch (own := R_L) (name := "java/lang/IllegalArgumentException") hown [] ⟨0, 7, 10, 13⟩ [] htab (fun z hz => by simp at hz) (by decide) (by decide) (hG _ k_67) (hE.1.use k_78) hce hcv hcl ?_
    refine lv_astore (lv' := [(4, .ref q9), (0, .ref a0), (1, .int x), (2, .int y), (3, .int z)]) hx hb d_L_want_10 hl9 (by decide) rfl (fun ls hl9 => ?_)
    refine lv_iconst (v := 1) hx hb d_L_want_12 (by decide) ?_
    exact W.iret (v := 1) hx hb hr (fun t ht hW => ⟨⟨1, (), rfl, rfl, by have h9 := hP; rw [← ht] at h9; exact h9⟩, hS.F ht⟩) hS.2.2 d_L_want_13
  have hw := hw
  exact hw.elim
set_option maxHeartbeats 4000000 in
set_option maxRecDepth 100000 in
theorem l_lesson (l : Launch) (dC : Nat → ClassId) (dI : Nat → Nat → Nat) (cI cJ cZ cB : ClassId) (hl : l.stackTraces = false) (a0 aZ aO aG aP aW aK : Nat) (zc orr ol mp pl fa fb : Int32) (fZ : Nat → Option Nat) (za la wa : Nat) (zh zl zf zp zr zm zw zs : Int32) (ea eb : Int64) (nz k : Nat) (x : Int32) (ou : Nat) (fU : Nat → Int64) (sz : Nat) (hk : k < nz) (hn : nz ≤ 6) (hz : fZ k = some za) (hx0 : ¬ (x < 0 ∨ 1 < x)) : Met l y_L_lesson w_L_lesson ({ frames := 8, cells := 1, slots := 6, locals := 127 }) (PCL (dC, dI) (TY cI cJ cZ cB) [.ref a0, .int (nI k), .int x, .ref ou] [(a0, .inr (2, [.ref aZ, .int (nI nz), .ref aO, .int orr, .int ol, .int mp, .ref aG, .int pl, .int fa, .int fb, .ref aP, .ref aW, .ref aK])), (aZ, .inl (cZ, 6, .inr (.inr (.inr (.inr fZ))))), (za, .inr (1, [.int zh, .int zl, .int zf, .int zp, .int zr, .int zm, .int zw, .ref la, .int zs, .ref wa])), (la, .inr (0, [.long ea, .long eb])), (ou, .inl (cJ, 1, .inr (.inl fU)))] sz (va_A [(a0, .inr (2, [.ref aZ, .int (nI nz), .ref aO, .int orr, .int ol, .int mp, .ref aG, .int pl, .int fa, .int fb, .ref aP, .ref aW, .ref aK])), (aZ, .inl (cZ, 6, .inr (.inr (.inr (.inr fZ))))), (za, .inr (1, [.int zh, .int zl, .int zf, .int zp, .int zr, .int zm, .int zw, .ref la, .int zs, .ref wa])), (la, .inr (0, [.long ea, .long eb])), (ou, .inl (cJ, 1, .inr (.inl fU)))] sz)) (va_Qi (fun (r : Int32) (_ : Unit) => r = 0) (fun (_ : Unit) (t : State) => va_P (dC, dI) vwCl [(a0, .inr (2, [.ref aZ, .int (nI nz), .ref aO, .int orr, .int ol, .int mp, .ref aG, .int pl, .int fa, .int fb, .ref aP, .ref aW, .ref aK])), (aZ, .inl (cZ, 6, .inr (.inr (.inr (.inr fZ))))), (za, .inr (1, [.int zh, .int zl, .int zf, .int zp, .int zr, .int zm, .int zw, .ref la, .int zs, .ref wa])), (la, .inr (0, [.long ea, .long eb])), (ou, .inl (cJ, 1, .inr (.inl (vp_updL fU 0 (if x = 0 then ea else eb)))))] t.heap) (va_A [(a0, .inr (2, [.ref aZ, .int (nI nz), .ref aO, .int orr, .int ol, .int mp, .ref aG, .int pl, .int fa, .int fb, .ref aP, .ref aW, .ref aK])), (aZ, .inl (cZ, 6, .inr (.inr (.inr (.inr fZ))))), (za, .inr (1, [.int zh, .int zl, .int zf, .int zp, .int zr, .int zm, .int zw, .ref la, .int zs, .ref wa])), (la, .inr (0, [.long ea, .long eb])), (ou, .inl (cJ, 1, .inr (.inl fU)))] sz)) 1 6 (va_A [(a0, .inr (2, [.ref aZ, .int (nI nz), .ref aO, .int orr, .int ol, .int mp, .ref aG, .int pl, .int fa, .int fb, .ref aP, .ref aW, .ref aK])), (aZ, .inl (cZ, 6, .inr (.inr (.inr (.inr fZ))))), (za, .inr (1, [.int zh, .int zl, .int zf, .int zp, .int zr, .int zm, .int zw, .ref la, .int zs, .ref wa])), (la, .inr (0, [.long ea, .long eb])), (ou, .inl (cJ, 1, .inr (.inl fU)))] sz) := by
  refine met_ofWH (cc := b_L_lesson) (maxL := 5) (ret := (some .int)) (by decide) rfl ?_
  intro p e s m args below meth c s₁ B hml hv
  obtain ⟨rfl, hsz, hP, hK, hD0, hE, hNc⟩ := hv
  have hx := B.exec
  have hb := B.bytes
  have hr := B.returns
  have hG : ∀ w ∈ GG, w.before _ s = true := fun w h => atoms_spec (ws := w_L_lesson) B.pre w (List.mem_cons_of_mem _ h)
  have hown : s.vm.findClass R_L = some m.cls := findClass_of_methodNamed B.named
  have hlocks := B.notSynchronized
  subst hsz
  have hD := hD0.self (sz := s.heap.size)
  generalize hAe : (va_A [(a0, .inr (2, [.ref aZ, .int (nI nz), .ref aO, .int orr, .int ol, .int mp, .ref aG, .int pl, .int fa, .int fb, .ref aP, .ref aW, .ref aK])), (aZ, .inl (cZ, 6, .inr (.inr (.inr (.inr fZ))))), (za, .inr (1, [.int zh, .int zl, .int zf, .int zp, .int zr, .int zm, .int zw, .ref la, .int zs, .ref wa])), (la, .inr (0, [.long ea, .long eb])), (ou, .inl (cJ, 1, .inr (.inl fU)))] s.heap.size) = A at hD hE ⊢
  have hA : ∀ q : Nat, s.heap.size ≤ q → A q := fun q h => by rw [← hAe]; exact Or.inr h
  have hS : va_S A s.heap s.heap [] := va_S.rf
  obtain ⟨H, hH⟩ : ∃ z, z = s.heap := ⟨_, rfl⟩
  rw [← hH] at hP
  have hS : va_S A s.heap H [] := by rw [hH]; exact hS
  rw [← hH]
  have hl9 := lv_entry ([.ref a0, .int (nI k), .int x, .ref ou]) (n := 5) (Nat.le_of_ble_eq_true rfl)
  rw [lg_entry_eq]
  generalize (lg_sl ([.ref a0, .int (nI k), .int x, .ref ou]) ++ List.replicate (5 - (lg_sl ([.ref a0, .int (nI k), .int x, .ref ou])).length) Slot.unset).toArray = ls at hl9 ⊢
  have hl9 : lv_has ls 5 [(0, .ref a0), (1, .int (nI k)), (2, .int x), (3, .ref ou)] := hl9
  have htab := vx_table (x := y_L_lesson) B (atoms_spec (ws := w_L_lesson) B.pre _ List.mem_cons_self)
  refine lv_aload_n hx hb d_L_lesson_0 rfl (lv_at hl9 3 rfl) ?_
  refine lv_iconst (v := 0) hx hb d_L_lesson_1 (by decide) ?_
  refine lv_aload_n hx hb d_L_lesson_2 rfl (lv_at hl9 0 rfl) ?_
  refine lv_iload_n hx hb d_L_lesson_3 rfl (lv_at hl9 1 rfl) ?_
  refine lv_iload_n hx hb d_L_lesson_4 rfl (lv_at hl9 2 rfl) ?_
  have hPc := hP.sub (ws' := [(a0, .inr (2, [.ref aZ, .int (nI nz), .ref aO, .int orr, .int ol, .int mp, .ref aG, .int pl, .int fa, .int fb, .ref aP, .ref aW, .ref aK])), (aZ, .inl (cZ, 6, .inr (.inr (.inr (.inr fZ))))), (za, .inr (1, [.int zh, .int zl, .int zf, .int zp, .int zr, .int zm, .int zw, .ref la, .int zs, .ref wa])), (la, .inr (0, [.long ea, .long eb]))]) [0, 1, 2, 3] rfl
  have hDc := hD.sub (ws' := [(a0, .inr (2, [.ref aZ, .int (nI nz), .ref aO, .int orr, .int ol, .int mp, .ref aG, .int pl, .int fa, .int fb, .ref aP, .ref aW, .ref aK])), (aZ, .inl (cZ, 6, .inr (.inr (.inr (.inr fZ))))), (za, .inr (1, [.int zh, .int zl, .int zf, .int zp, .int zr, .int zm, .int zw, .ref la, .int zs, .ref wa])), (la, .inr (0, [.long ea, .long eb]))]) [0, 1, 2, 3] (by decide) rfl
  have hFc := va_A_nil hA hS.1
  refine vx_calll (vx_runV (C := R_C) (As := [.int (nI k), .int x]) (rest := [.int 0, .ref ou]) ⟨hx, hb, hml, hown, hG⟩ (c_lesson l dC dI cI cJ cZ cB hl a0 aZ aO aG aP aW aK zc orr ol mp pl fa fb fZ za la wa zh zl zf zp zr zm zw zs ea eb nz k x H.size hk hn hz) (cwV 2 hG g_L_55 rfl rfl rfl (by decide +kernel) ⟨Nat.le_of_ble_eq_true rfl, Nat.le_of_ble_eq_true rfl⟩) ⟨PC.blind, va_recv hK hP (ci := 2) (q0 := 0) rfl rfl, PC.of hPc hK hDc hE hS hFc⟩ rfl rfl hl9.1 rfl (lv_room (Nat.le_of_ble_eq_true rfl)) d_L_lesson_5 ⟨by first | exact Nat.le_of_ble_eq_true rfl | omega, by first | exact Nat.le_of_ble_eq_true rfl | omega⟩) hS (fun q _ h => hFc q h) hFc (fun q _ h => hFc q h) (fun E ce q9 u t H1 locs ht hvm hpx hB hz1 hk1 hS hce hcv hcl => ?_) (fun r2 u t H1 locs ht hvm hw hB hz1 hk1 hS => ?_)
  · exact absurd hB.2 hx0
  have hw := hw
  have hP := wp_kept hP hk1
  have hr2 : r2 = (if x = 0 then ea else eb) ∧ ¬ (x < 0 ∨ 1 < x) := hw
  rw [hr2.1]
  refine va_last hx hb hK hP hD hS 4 1 rfl rfl (vp_in_nI (n := 0) (N := 1) (by decide) (by decide)) d_L_lesson_8 (fun H locs hP hD hS => ?_)
  have hP : va_P (dC, dI) vwCl [(a0, .inr (2, [.ref aZ, .int (nI nz), .ref aO, .int orr, .int ol, .int mp, .ref aG, .int pl, .int fa, .int fb, .ref aP, .ref aW, .ref aK])), (aZ, .inl (cZ, 6, .inr (.inr (.inr (.inr fZ))))), (za, .inr (1, [.int zh, .int zl, .int zf, .int zp, .int zr, .int zm, .int zw, .ref la, .int zs, .ref wa])), (la, .inr (0, [.long ea, .long eb])), (ou, .inl (cJ, 1, .inr (.inl (vp_updL fU (0 : Int32).toNatClampNeg (if x = 0 then ea else eb)))))] H := hP
  have hD : va_D A [(a0, .inr (2, [.ref aZ, .int (nI nz), .ref aO, .int orr, .int ol, .int mp, .ref aG, .int pl, .int fa, .int fb, .ref aP, .ref aW, .ref aK])), (aZ, .inl (cZ, 6, .inr (.inr (.inr (.inr fZ))))), (za, .inr (1, [.int zh, .int zl, .int zf, .int zp, .int zr, .int zm, .int zw, .ref la, .int zs, .ref wa])), (la, .inr (0, [.long ea, .long eb])), (ou, .inl (cJ, 1, .inr (.inl (vp_updL fU (0 : Int32).toNatClampNeg (if x = 0 then ea else eb)))))] := hD
  refine lv_goto (tgt := 16) hx hb d_L_lesson_9 (by decide) ?_
  refine lv_iconst (v := 0) hx hb d_L_lesson_16 (by decide) ?_
  exact W.iret (v := 0) hx hb hr (fun t ht hW => ⟨⟨0, (), rfl, rfl, by have h9 := hP; rw [← ht] at h9; exact h9⟩, hS.F ht⟩) hS.2.2 d_L_lesson_17
set_option maxHeartbeats 4000000 in
set_option maxRecDepth 100000 in
theorem l_lessonY (l : Launch) (dC : Nat → ClassId) (dI : Nat → Nat → Nat) (cI cJ cZ cB : ClassId) (hl : l.stackTraces = false) (a0 aZ aO aG aP aW aK : Nat) (zc orr ol mp pl fa fb : Int32) (fZ : Nat → Option Nat) (za la wa : Nat) (zh zl zf zp zr zm zw zs : Int32) (ea eb : Int64) (nz k : Nat) (x : Int32) (ou : Nat) (fU : Nat → Int64) (sz : Nat) (hk : k < nz) (hn : nz ≤ 6) (hz : fZ k = some za) (hx0 : (x < 0 ∨ 1 < x)) : Met l y_L_lesson w_L_lesson ({ frames := 8, cells := 1, slots := 6, locals := 127 }) (PCL (dC, dI) (TY cI cJ cZ cB) [.ref a0, .int (nI k), .int x, .ref ou] [(a0, .inr (2, [.ref aZ, .int (nI nz), .ref aO, .int orr, .int ol, .int mp, .ref aG, .int pl, .int fa, .int fb, .ref aP, .ref aW, .ref aK])), (aZ, .inl (cZ, 6, .inr (.inr (.inr (.inr fZ))))), (za, .inr (1, [.int zh, .int zl, .int zf, .int zp, .int zr, .int zm, .int zw, .ref la, .int zs, .ref wa])), (la, .inr (0, [.long ea, .long eb])), (ou, .inl (cJ, 1, .inr (.inl fU)))] sz (va_A [(a0, .inr (2, [.ref aZ, .int (nI nz), .ref aO, .int orr, .int ol, .int mp, .ref aG, .int pl, .int fa, .int fb, .ref aP, .ref aW, .ref aK])), (aZ, .inl (cZ, 6, .inr (.inr (.inr (.inr fZ))))), (za, .inr (1, [.int zh, .int zl, .int zf, .int zp, .int zr, .int zm, .int zw, .ref la, .int zs, .ref wa])), (la, .inr (0, [.long ea, .long eb])), (ou, .inl (cJ, 1, .inr (.inl fU)))] sz)) (va_Qi (fun (r : Int32) (_ : Unit) => r = 1) (fun (_ : Unit) (t : State) => va_P (dC, dI) vwCl [(a0, .inr (2, [.ref aZ, .int (nI nz), .ref aO, .int orr, .int ol, .int mp, .ref aG, .int pl, .int fa, .int fb, .ref aP, .ref aW, .ref aK])), (aZ, .inl (cZ, 6, .inr (.inr (.inr (.inr fZ))))), (za, .inr (1, [.int zh, .int zl, .int zf, .int zp, .int zr, .int zm, .int zw, .ref la, .int zs, .ref wa])), (la, .inr (0, [.long ea, .long eb])), (ou, .inl (cJ, 1, .inr (.inl fU)))] t.heap) (va_A [(a0, .inr (2, [.ref aZ, .int (nI nz), .ref aO, .int orr, .int ol, .int mp, .ref aG, .int pl, .int fa, .int fb, .ref aP, .ref aW, .ref aK])), (aZ, .inl (cZ, 6, .inr (.inr (.inr (.inr fZ))))), (za, .inr (1, [.int zh, .int zl, .int zf, .int zp, .int zr, .int zm, .int zw, .ref la, .int zs, .ref wa])), (la, .inr (0, [.long ea, .long eb])), (ou, .inl (cJ, 1, .inr (.inl fU)))] sz)) 1 6 (va_A [(a0, .inr (2, [.ref aZ, .int (nI nz), .ref aO, .int orr, .int ol, .int mp, .ref aG, .int pl, .int fa, .int fb, .ref aP, .ref aW, .ref aK])), (aZ, .inl (cZ, 6, .inr (.inr (.inr (.inr fZ))))), (za, .inr (1, [.int zh, .int zl, .int zf, .int zp, .int zr, .int zm, .int zw, .ref la, .int zs, .ref wa])), (la, .inr (0, [.long ea, .long eb])), (ou, .inl (cJ, 1, .inr (.inl fU)))] sz) := by
  refine met_ofWH (cc := b_L_lesson) (maxL := 5) (ret := (some .int)) (by decide) rfl ?_
  intro p e s m args below meth c s₁ B hml hv
  obtain ⟨rfl, hsz, hP, hK, hD0, hE, hNc⟩ := hv
  have hx := B.exec
  have hb := B.bytes
  have hr := B.returns
  have hG : ∀ w ∈ GG, w.before _ s = true := fun w h => atoms_spec (ws := w_L_lesson) B.pre w (List.mem_cons_of_mem _ h)
  have hown : s.vm.findClass R_L = some m.cls := findClass_of_methodNamed B.named
  have hlocks := B.notSynchronized
  subst hsz
  have hD := hD0.self (sz := s.heap.size)
  generalize hAe : (va_A [(a0, .inr (2, [.ref aZ, .int (nI nz), .ref aO, .int orr, .int ol, .int mp, .ref aG, .int pl, .int fa, .int fb, .ref aP, .ref aW, .ref aK])), (aZ, .inl (cZ, 6, .inr (.inr (.inr (.inr fZ))))), (za, .inr (1, [.int zh, .int zl, .int zf, .int zp, .int zr, .int zm, .int zw, .ref la, .int zs, .ref wa])), (la, .inr (0, [.long ea, .long eb])), (ou, .inl (cJ, 1, .inr (.inl fU)))] s.heap.size) = A at hD hE ⊢
  have hA : ∀ q : Nat, s.heap.size ≤ q → A q := fun q h => by rw [← hAe]; exact Or.inr h
  have hS : va_S A s.heap s.heap [] := va_S.rf
  obtain ⟨H, hH⟩ : ∃ z, z = s.heap := ⟨_, rfl⟩
  rw [← hH] at hP
  have hS : va_S A s.heap H [] := by rw [hH]; exact hS
  rw [← hH]
  have hl9 := lv_entry ([.ref a0, .int (nI k), .int x, .ref ou]) (n := 5) (Nat.le_of_ble_eq_true rfl)
  rw [lg_entry_eq]
  generalize (lg_sl ([.ref a0, .int (nI k), .int x, .ref ou]) ++ List.replicate (5 - (lg_sl ([.ref a0, .int (nI k), .int x, .ref ou])).length) Slot.unset).toArray = ls at hl9 ⊢
  have hl9 : lv_has ls 5 [(0, .ref a0), (1, .int (nI k)), (2, .int x), (3, .ref ou)] := hl9
  have htab := vx_table (x := y_L_lesson) B (atoms_spec (ws := w_L_lesson) B.pre _ List.mem_cons_self)
  refine lv_aload_n hx hb d_L_lesson_0 rfl (lv_at hl9 3 rfl) ?_
  refine lv_iconst (v := 0) hx hb d_L_lesson_1 (by decide) ?_
  refine lv_aload_n hx hb d_L_lesson_2 rfl (lv_at hl9 0 rfl) ?_
  refine lv_iload_n hx hb d_L_lesson_3 rfl (lv_at hl9 1 rfl) ?_
  refine lv_iload_n hx hb d_L_lesson_4 rfl (lv_at hl9 2 rfl) ?_
  have hPc := hP.sub (ws' := [(a0, .inr (2, [.ref aZ, .int (nI nz), .ref aO, .int orr, .int ol, .int mp, .ref aG, .int pl, .int fa, .int fb, .ref aP, .ref aW, .ref aK])), (aZ, .inl (cZ, 6, .inr (.inr (.inr (.inr fZ))))), (za, .inr (1, [.int zh, .int zl, .int zf, .int zp, .int zr, .int zm, .int zw, .ref la, .int zs, .ref wa])), (la, .inr (0, [.long ea, .long eb]))]) [0, 1, 2, 3] rfl
  have hDc := hD.sub (ws' := [(a0, .inr (2, [.ref aZ, .int (nI nz), .ref aO, .int orr, .int ol, .int mp, .ref aG, .int pl, .int fa, .int fb, .ref aP, .ref aW, .ref aK])), (aZ, .inl (cZ, 6, .inr (.inr (.inr (.inr fZ))))), (za, .inr (1, [.int zh, .int zl, .int zf, .int zp, .int zr, .int zm, .int zw, .ref la, .int zs, .ref wa])), (la, .inr (0, [.long ea, .long eb]))]) [0, 1, 2, 3] (by decide) rfl
  have hFc := va_A_nil hA hS.1
  refine vx_calll (vx_runV (C := R_C) (As := [.int (nI k), .int x]) (rest := [.int 0, .ref ou]) ⟨hx, hb, hml, hown, hG⟩ (c_lesson l dC dI cI cJ cZ cB hl a0 aZ aO aG aP aW aK zc orr ol mp pl fa fb fZ za la wa zh zl zf zp zr zm zw zs ea eb nz k x H.size hk hn hz) (cwV 2 hG g_L_55 rfl rfl rfl (by decide +kernel) ⟨Nat.le_of_ble_eq_true rfl, Nat.le_of_ble_eq_true rfl⟩) ⟨PC.blind, va_recv hK hP (ci := 2) (q0 := 0) rfl rfl, PC.of hPc hK hDc hE hS hFc⟩ rfl rfl hl9.1 rfl (lv_room (Nat.le_of_ble_eq_true rfl)) d_L_lesson_5 ⟨by first | exact Nat.le_of_ble_eq_true rfl | omega, by first | exact Nat.le_of_ble_eq_true rfl | omega⟩) hS (fun q _ h => hFc q h) hFc (fun q _ h => hFc q h) (fun E ce q9 u t H1 locs ht hvm hpx hB hz1 hk1 hS hce hcv hcl => ?_) (fun r2 u t H1 locs ht hvm hw hB hz1 hk1 hS => ?_)
  · have hE9 : E = "java/lang/IllegalArgumentException" := hB.1
    have hP := wp_kept hP hk1
    have hP : va_P (dC, dI) vwCl [(a0, .inr (2, [.ref aZ, .int (nI nz), .ref aO, .int orr, .int ol, .int mp, .ref aG, .int pl, .int fa, .int fb, .ref aP, .ref aW, .ref aK])), (aZ, .inl (cZ, 6, .inr (.inr (.inr (.inr fZ))))), (za, .inr (1, [.int zh, .int zl, .int zf, .int zp, .int zr, .int zm, .int zw, .ref la, .int zs, .ref wa])), (la, .inr (0, [.long ea, .long eb])), (ou, .inl (cJ, 1, .inr (.inl fU)))] H1 := hP
    have hD : va_D A [(a0, .inr (2, [.ref aZ, .int (nI nz), .ref aO, .int orr, .int ol, .int mp, .ref aG, .int pl, .int fa, .int fb, .ref aP, .ref aW, .ref aK])), (aZ, .inl (cZ, 6, .inr (.inr (.inr (.inr fZ))))), (za, .inr (1, [.int zh, .int zl, .int zf, .int zp, .int zr, .int zm, .int zw, .ref la, .int zs, .ref wa])), (la, .inr (0, [.long ea, .long eb])), (ou, .inl (cJ, 1, .inr (.inl fU)))] := hD
    subst hE9
    refine vx_catch (own := R_L) (name := "java/lang/IllegalArgumentException") hown [] ⟨0, 9, 12, 13⟩ [] htab (fun z hz => by simp at hz) (by decide) (by decide) (hG _ k_67) (hE.1.use k_78) hce hcv hcl ?_
    refine lv_astore (lv' := [(4, .ref q9), (0, .ref a0), (1, .int (nI k)), (2, .int x), (3, .ref ou)]) hx hb d_L_lesson_12 hl9 (by decide) rfl (fun ls hl9 => ?_)
    refine lv_iconst (v := 1) hx hb d_L_lesson_14 (by decide) ?_
    exact W.iret (v := 1) hx hb hr (fun t ht hW => ⟨⟨1, (), rfl, rfl, by have h9 := hP; rw [← ht] at h9; exact h9⟩, hS.F ht⟩) hS.2.2 d_L_lesson_15
  have hw := hw
  exact absurd hw (fun h => h.2 hx0)
set_option maxHeartbeats 4000000 in
set_option maxRecDepth 100000 in
theorem l_lessonX (l : Launch) (dC : Nat → ClassId) (dI : Nat → Nat → Nat) (cI cJ cZ cB : ClassId) (hl : l.stackTraces = false) (a0 aZ aO aG aP aW aK : Nat) (zc orr ol mp pl fa fb : Int32) (fZ : Nat → Option Nat) (nz : Nat) (x : Int32) (y : Int32) (ou : Nat) (fU : Nat → Int64) (sz : Nat) (hx0 : x < 0 ∨ nI nz ≤ x) : Met l y_L_lesson w_L_lesson ({ frames := 8, cells := 1, slots := 6, locals := 126 }) (PCL (dC, dI) (TY cI cJ cZ cB) [.ref a0, .int x, .int y, .ref ou] [(a0, .inr (2, [.ref aZ, .int (nI nz), .ref aO, .int orr, .int ol, .int mp, .ref aG, .int pl, .int fa, .int fb, .ref aP, .ref aW, .ref aK])), (aZ, .inl (cZ, 6, .inr (.inr (.inr (.inr fZ))))), (ou, .inl (cJ, 1, .inr (.inl fU)))] sz (va_A [(a0, .inr (2, [.ref aZ, .int (nI nz), .ref aO, .int orr, .int ol, .int mp, .ref aG, .int pl, .int fa, .int fb, .ref aP, .ref aW, .ref aK])), (aZ, .inl (cZ, 6, .inr (.inr (.inr (.inr fZ))))), (ou, .inl (cJ, 1, .inr (.inl fU)))] sz)) (va_Qi (fun (r : Int32) (_ : Unit) => r = 1) (fun (_ : Unit) (t : State) => va_P (dC, dI) vwCl [(a0, .inr (2, [.ref aZ, .int (nI nz), .ref aO, .int orr, .int ol, .int mp, .ref aG, .int pl, .int fa, .int fb, .ref aP, .ref aW, .ref aK])), (aZ, .inl (cZ, 6, .inr (.inr (.inr (.inr fZ))))), (ou, .inl (cJ, 1, .inr (.inl fU)))] t.heap) (va_A [(a0, .inr (2, [.ref aZ, .int (nI nz), .ref aO, .int orr, .int ol, .int mp, .ref aG, .int pl, .int fa, .int fb, .ref aP, .ref aW, .ref aK])), (aZ, .inl (cZ, 6, .inr (.inr (.inr (.inr fZ))))), (ou, .inl (cJ, 1, .inr (.inl fU)))] sz)) 1 6 (va_A [(a0, .inr (2, [.ref aZ, .int (nI nz), .ref aO, .int orr, .int ol, .int mp, .ref aG, .int pl, .int fa, .int fb, .ref aP, .ref aW, .ref aK])), (aZ, .inl (cZ, 6, .inr (.inr (.inr (.inr fZ))))), (ou, .inl (cJ, 1, .inr (.inl fU)))] sz) := by
  refine met_ofWH (cc := b_L_lesson) (maxL := 5) (ret := (some .int)) (by decide) rfl ?_
  intro p e s m args below meth c s₁ B hml hv
  obtain ⟨rfl, hsz, hP, hK, hD0, hE, hNc⟩ := hv
  have hx := B.exec
  have hb := B.bytes
  have hr := B.returns
  have hG : ∀ w ∈ GG, w.before _ s = true := fun w h => atoms_spec (ws := w_L_lesson) B.pre w (List.mem_cons_of_mem _ h)
  have hown : s.vm.findClass R_L = some m.cls := findClass_of_methodNamed B.named
  have hlocks := B.notSynchronized
  subst hsz
  have hD := hD0.self (sz := s.heap.size)
  generalize hAe : (va_A [(a0, .inr (2, [.ref aZ, .int (nI nz), .ref aO, .int orr, .int ol, .int mp, .ref aG, .int pl, .int fa, .int fb, .ref aP, .ref aW, .ref aK])), (aZ, .inl (cZ, 6, .inr (.inr (.inr (.inr fZ))))), (ou, .inl (cJ, 1, .inr (.inl fU)))] s.heap.size) = A at hD hE ⊢
  have hA : ∀ q : Nat, s.heap.size ≤ q → A q := fun q h => by rw [← hAe]; exact Or.inr h
  have hS : va_S A s.heap s.heap [] := va_S.rf
  obtain ⟨H, hH⟩ : ∃ z, z = s.heap := ⟨_, rfl⟩
  rw [← hH] at hP
  have hS : va_S A s.heap H [] := by rw [hH]; exact hS
  rw [← hH]
  have hl9 := lv_entry ([.ref a0, .int x, .int y, .ref ou]) (n := 5) (Nat.le_of_ble_eq_true rfl)
  rw [lg_entry_eq]
  generalize (lg_sl ([.ref a0, .int x, .int y, .ref ou]) ++ List.replicate (5 - (lg_sl ([.ref a0, .int x, .int y, .ref ou])).length) Slot.unset).toArray = ls at hl9 ⊢
  have hl9 : lv_has ls 5 [(0, .ref a0), (1, .int x), (2, .int y), (3, .ref ou)] := hl9
  have htab := vx_table (x := y_L_lesson) B (atoms_spec (ws := w_L_lesson) B.pre _ List.mem_cons_self)
  refine lv_aload_n hx hb d_L_lesson_0 rfl (lv_at hl9 3 rfl) ?_
  refine lv_iconst (v := 0) hx hb d_L_lesson_1 (by decide) ?_
  refine lv_aload_n hx hb d_L_lesson_2 rfl (lv_at hl9 0 rfl) ?_
  refine lv_iload_n hx hb d_L_lesson_3 rfl (lv_at hl9 1 rfl) ?_
  refine lv_iload_n hx hb d_L_lesson_4 rfl (lv_at hl9 2 rfl) ?_
  have hPc := hP.sub (ws' := [(a0, .inr (2, [.ref aZ, .int (nI nz), .ref aO, .int orr, .int ol, .int mp, .ref aG, .int pl, .int fa, .int fb, .ref aP, .ref aW, .ref aK])), (aZ, .inl (cZ, 6, .inr (.inr (.inr (.inr fZ)))))]) [0, 1] rfl
  have hDc := hD.sub (ws' := [(a0, .inr (2, [.ref aZ, .int (nI nz), .ref aO, .int orr, .int ol, .int mp, .ref aG, .int pl, .int fa, .int fb, .ref aP, .ref aW, .ref aK])), (aZ, .inl (cZ, 6, .inr (.inr (.inr (.inr fZ)))))]) [0, 1] (by decide) rfl
  have hFc := va_A_nil hA hS.1
  refine vx_calll (vx_runV (C := R_C) (As := [.int x, .int y]) (rest := [.int 0, .ref ou]) ⟨hx, hb, hml, hown, hG⟩ (c_lessonX l dC dI cI cJ cZ cB hl a0 aZ aO aG aP aW aK zc orr ol mp pl fa fb fZ nz x y H.size hx0) (cwV 2 hG g_L_55 rfl rfl rfl (by decide +kernel) ⟨Nat.le_of_ble_eq_true rfl, Nat.le_of_ble_eq_true rfl⟩) ⟨PC.blind, va_recv hK hP (ci := 2) (q0 := 0) rfl rfl, PC.of hPc hK hDc hE hS hFc⟩ rfl rfl hl9.1 rfl (lv_room (Nat.le_of_ble_eq_true rfl)) d_L_lesson_5 ⟨by first | exact Nat.le_of_ble_eq_true rfl | omega, by first | exact Nat.le_of_ble_eq_true rfl | omega⟩) hS (fun q _ h => hFc q h) hFc (fun q _ h => hFc q h) (fun E ce q9 u t H1 locs ht hvm hpx hB hz1 hk1 hS hce hcv hcl => ?_) (fun r2 u t H1 locs ht hvm hw hB hz1 hk1 hS => ?_)
  · have hE9 : E = "java/lang/IllegalArgumentException" := hB
    have hP := wp_kept hP hk1
    have hP : va_P (dC, dI) vwCl [(a0, .inr (2, [.ref aZ, .int (nI nz), .ref aO, .int orr, .int ol, .int mp, .ref aG, .int pl, .int fa, .int fb, .ref aP, .ref aW, .ref aK])), (aZ, .inl (cZ, 6, .inr (.inr (.inr (.inr fZ))))), (ou, .inl (cJ, 1, .inr (.inl fU)))] H1 := hP
    have hD : va_D A [(a0, .inr (2, [.ref aZ, .int (nI nz), .ref aO, .int orr, .int ol, .int mp, .ref aG, .int pl, .int fa, .int fb, .ref aP, .ref aW, .ref aK])), (aZ, .inl (cZ, 6, .inr (.inr (.inr (.inr fZ))))), (ou, .inl (cJ, 1, .inr (.inl fU)))] := hD
    subst hE9
    refine vx_catch (own := R_L) (name := "java/lang/IllegalArgumentException") hown [] ⟨0, 9, 12, 13⟩ [] htab (fun z hz => by simp at hz) (by decide) (by decide) (hG _ k_67) (hE.1.use k_78) hce hcv hcl ?_
    refine lv_astore (lv' := [(4, .ref q9), (0, .ref a0), (1, .int x), (2, .int y), (3, .ref ou)]) hx hb d_L_lesson_12 hl9 (by decide) rfl (fun ls hl9 => ?_)
    refine lv_iconst (v := 1) hx hb d_L_lesson_14 (by decide) ?_
    exact W.iret (v := 1) hx hb hr (fun t ht hW => ⟨⟨1, (), rfl, rfl, by have h9 := hP; rw [← ht] at h9; exact h9⟩, hS.F ht⟩) hS.2.2 d_L_lesson_15
  have hw := hw
  exact hw.elim
set_option maxHeartbeats 4000000 in
set_option maxRecDepth 100000 in
theorem l_day1 (l : Launch) (dC : Nat → ClassId) (dI : Nat → Nat → Nat) (cI cJ cZ cB : ClassId) (hl : l.stackTraces = false) (a0 aZ aO aG aP aW aK : Nat) (zc orr ol mp pl fa fb : Int32) (fZ : Nat → Option Nat) (za la wa : Nat) (zh zl zf zp zr zm zw zs : Int32) (ea eb : Int64) (nz k : Nat) (mn : Int32) (x1 y1 g1 a1 b1 : Int64) (sz : Nat) (hk : k < nz) (hn : nz ≤ 6) (hz : fZ k = some za) (hx1 : ea * (fb - fa).toInt64 + mn.toInt64 * eb * fa.toInt64 = x1) (hy1 : eb * fb.toInt64 = y1) (hg1 : cdv y1 (labs x1) 100 = g1) (hn1 : ¬ g1 = 0) (ha1 : x1 / g1 = a1) (hb1 : y1 / g1 = b1) (hbig : b1 ≤ 1000000000) (hmn0 : ¬ (mn < (-1440) ∨ 1440 < mn)) : Met l y_L_day w_L_day ({ frames := 8, cells := 1, slots := 6, locals := 127 }) (PCL (dC, dI) (TY cI cJ cZ cB) [.ref a0, .int (nI k), .int mn] [(a0, .inr (2, [.ref aZ, .int (nI nz), .ref aO, .int orr, .int ol, .int mp, .ref aG, .int pl, .int fa, .int fb, .ref aP, .ref aW, .ref aK])), (aZ, .inl (cZ, 6, .inr (.inr (.inr (.inr fZ))))), (za, .inr (1, [.int zh, .int zl, .int zf, .int zp, .int zr, .int zm, .int zw, .ref la, .int zs, .ref wa])), (la, .inr (0, [.long ea, .long eb]))] sz (va_A [(a0, .inr (2, [.ref aZ, .int (nI nz), .ref aO, .int orr, .int ol, .int mp, .ref aG, .int pl, .int fa, .int fb, .ref aP, .ref aW, .ref aK])), (aZ, .inl (cZ, 6, .inr (.inr (.inr (.inr fZ))))), (za, .inr (1, [.int zh, .int zl, .int zf, .int zp, .int zr, .int zm, .int zw, .ref la, .int zs, .ref wa])), (la, .inr (0, [.long ea, .long eb]))] sz)) (va_Qi (fun (r : Int32) (_ : Unit) => r = 0) (fun (_ : Unit) (t : State) => va_P (dC, dI) vwCl [(a0, .inr (2, [.ref aZ, .int (nI nz), .ref aO, .int orr, .int ol, .int mp, .ref aG, .int pl, .int fa, .int fb, .ref aP, .ref aW, .ref aK])), (aZ, .inl (cZ, 6, .inr (.inr (.inr (.inr fZ))))), (za, .inr (1, [.int zh, .int zl, .int zf, .int zp, .int zr, .int zm, .int zw, .ref la, .int zs, .ref wa])), (la, .inr (0, [.long a1, .long b1]))] t.heap) (va_A [(a0, .inr (2, [.ref aZ, .int (nI nz), .ref aO, .int orr, .int ol, .int mp, .ref aG, .int pl, .int fa, .int fb, .ref aP, .ref aW, .ref aK])), (aZ, .inl (cZ, 6, .inr (.inr (.inr (.inr fZ))))), (za, .inr (1, [.int zh, .int zl, .int zf, .int zp, .int zr, .int zm, .int zw, .ref la, .int zs, .ref wa])), (la, .inr (0, [.long ea, .long eb]))] sz)) 1 6 (va_A [(a0, .inr (2, [.ref aZ, .int (nI nz), .ref aO, .int orr, .int ol, .int mp, .ref aG, .int pl, .int fa, .int fb, .ref aP, .ref aW, .ref aK])), (aZ, .inl (cZ, 6, .inr (.inr (.inr (.inr fZ))))), (za, .inr (1, [.int zh, .int zl, .int zf, .int zp, .int zr, .int zm, .int zw, .ref la, .int zs, .ref wa])), (la, .inr (0, [.long ea, .long eb]))] sz) := by
  refine met_ofWH (cc := b_L_day) (maxL := 4) (ret := (some .int)) (by decide) rfl ?_
  intro p e s m args below meth c s₁ B hml hv
  obtain ⟨rfl, hsz, hP, hK, hD0, hE, hNc⟩ := hv
  have hx := B.exec
  have hb := B.bytes
  have hr := B.returns
  have hG : ∀ w ∈ GG, w.before _ s = true := fun w h => atoms_spec (ws := w_L_day) B.pre w (List.mem_cons_of_mem _ h)
  have hown : s.vm.findClass R_L = some m.cls := findClass_of_methodNamed B.named
  have hlocks := B.notSynchronized
  subst hsz
  have hD := hD0.self (sz := s.heap.size)
  generalize hAe : (va_A [(a0, .inr (2, [.ref aZ, .int (nI nz), .ref aO, .int orr, .int ol, .int mp, .ref aG, .int pl, .int fa, .int fb, .ref aP, .ref aW, .ref aK])), (aZ, .inl (cZ, 6, .inr (.inr (.inr (.inr fZ))))), (za, .inr (1, [.int zh, .int zl, .int zf, .int zp, .int zr, .int zm, .int zw, .ref la, .int zs, .ref wa])), (la, .inr (0, [.long ea, .long eb]))] s.heap.size) = A at hD hE ⊢
  have hA : ∀ q : Nat, s.heap.size ≤ q → A q := fun q h => by rw [← hAe]; exact Or.inr h
  have hS : va_S A s.heap s.heap [] := va_S.rf
  obtain ⟨H, hH⟩ : ∃ z, z = s.heap := ⟨_, rfl⟩
  rw [← hH] at hP
  have hS : va_S A s.heap H [] := by rw [hH]; exact hS
  rw [← hH]
  have hl9 := lv_entry ([.ref a0, .int (nI k), .int mn]) (n := 4) (Nat.le_of_ble_eq_true rfl)
  rw [lg_entry_eq]
  generalize (lg_sl ([.ref a0, .int (nI k), .int mn]) ++ List.replicate (4 - (lg_sl ([.ref a0, .int (nI k), .int mn])).length) Slot.unset).toArray = ls at hl9 ⊢
  have hl9 : lv_has ls 4 [(0, .ref a0), (1, .int (nI k)), (2, .int mn)] := hl9
  have htab := vx_table (x := y_L_day) B (atoms_spec (ws := w_L_day) B.pre _ List.mem_cons_self)
  refine lv_aload_n hx hb d_L_day_0 rfl (lv_at hl9 0 rfl) ?_
  refine lv_iload_n hx hb d_L_day_1 rfl (lv_at hl9 1 rfl) ?_
  refine lv_iload_n hx hb d_L_day_2 rfl (lv_at hl9 2 rfl) ?_
  have hPc := hP.sub (ws' := [(a0, .inr (2, [.ref aZ, .int (nI nz), .ref aO, .int orr, .int ol, .int mp, .ref aG, .int pl, .int fa, .int fb, .ref aP, .ref aW, .ref aK])), (aZ, .inl (cZ, 6, .inr (.inr (.inr (.inr fZ))))), (za, .inr (1, [.int zh, .int zl, .int zf, .int zp, .int zr, .int zm, .int zw, .ref la, .int zs, .ref wa])), (la, .inr (0, [.long ea, .long eb]))]) [0, 1, 2, 3] rfl
  have hDc := hD.sub (ws' := [(a0, .inr (2, [.ref aZ, .int (nI nz), .ref aO, .int orr, .int ol, .int mp, .ref aG, .int pl, .int fa, .int fb, .ref aP, .ref aW, .ref aK])), (aZ, .inl (cZ, 6, .inr (.inr (.inr (.inr fZ))))), (za, .inr (1, [.int zh, .int zl, .int zf, .int zp, .int zr, .int zm, .int zw, .ref la, .int zs, .ref wa])), (la, .inr (0, [.long ea, .long eb]))]) [0, 1, 2, 3] (by decide) rfl
  have hFc := va_free (wc := [(a0, .inr (2, [.ref aZ, .int (nI nz), .ref aO, .int orr, .int ol, .int mp, .ref aG, .int pl, .int fa, .int fb, .ref aP, .ref aW, .ref aK])), (aZ, .inl (cZ, 6, .inr (.inr (.inr (.inr fZ))))), (za, .inr (1, [.int zh, .int zl, .int zf, .int zp, .int zr, .int zm, .int zw, .ref la, .int zs, .ref wa])), (la, .inr (0, [.long ea, .long eb]))]) hD hS hA [0, 1, 2, 3] rfl
  refine vx_callv (vx_runV (C := R_C) (As := [.int (nI k), .int mn]) (rest := []) ⟨hx, hb, hml, hown, hG⟩ (c_day1 l dC dI cI cJ cZ cB hl a0 aZ aO aG aP aW aK zc orr ol mp pl fa fb fZ za la wa zh zl zf zp zr zm zw zs ea eb nz k mn x1 y1 g1 a1 b1 H.size hk hn hz hx1 hy1 hg1 hn1 ha1 hb1 hbig) (cwV 2 hG g_L_52 rfl rfl rfl (by decide +kernel) ⟨Nat.le_of_ble_eq_true rfl, Nat.le_of_ble_eq_true rfl⟩) ⟨PC.blind, va_recv hK hP (ci := 2) (q0 := 0) rfl rfl, PC.of hPc hK hDc hE hS hFc⟩ rfl rfl hl9.1 rfl (lv_room (Nat.le_of_ble_eq_true rfl)) d_L_day_3 ⟨by first | exact Nat.le_of_ble_eq_true rfl | omega, by first | exact Nat.le_of_ble_eq_true rfl | omega⟩) hS (fun q _ h => hFc q h) hFc (fun q _ h => hFc q h) (fun E ce q9 u t H1 locs ht hvm hpx hB hz1 hk1 hS hce hcv hcl => ?_) (fun u t H1 locs ht hvm hw hB hz1 hk1 hS => ?_)
  · exact absurd hB.1.2 hmn0
  have hw := hw
  rw [ht] at hB
  obtain ⟨hP, hD⟩ := jset (wc := [(a0, .inr (2, [.ref aZ, .int (nI nz), .ref aO, .int orr, .int ol, .int mp, .ref aG, .int pl, .int fa, .int fb, .ref aP, .ref aW, .ref aK])), (aZ, .inl (cZ, 6, .inr (.inr (.inr (.inr fZ))))), (za, .inr (1, [.int zh, .int zl, .int zf, .int zp, .int zr, .int zm, .int zw, .ref la, .int zs, .ref wa])), (la, .inr (0, [.long ea, .long eb]))]) (w1 := [(a0, .inr (2, [.ref aZ, .int (nI nz), .ref aO, .int orr, .int ol, .int mp, .ref aG, .int pl, .int fa, .int fb, .ref aP, .ref aW, .ref aK])), (aZ, .inl (cZ, 6, .inr (.inr (.inr (.inr fZ))))), (za, .inr (1, [.int zh, .int zl, .int zf, .int zp, .int zr, .int zm, .int zw, .ref la, .int zs, .ref wa])), (la, .inr (0, [.long a1, .long b1]))]) [0, 1, 2, 3] rfl rfl hP hD hk1 hB
  have hP : va_P (dC, dI) vwCl [(a0, .inr (2, [.ref aZ, .int (nI nz), .ref aO, .int orr, .int ol, .int mp, .ref aG, .int pl, .int fa, .int fb, .ref aP, .ref aW, .ref aK])), (aZ, .inl (cZ, 6, .inr (.inr (.inr (.inr fZ))))), (za, .inr (1, [.int zh, .int zl, .int zf, .int zp, .int zr, .int zm, .int zw, .ref la, .int zs, .ref wa])), (la, .inr (0, [.long a1, .long b1]))] H1 := hP
  have hD : va_D A [(a0, .inr (2, [.ref aZ, .int (nI nz), .ref aO, .int orr, .int ol, .int mp, .ref aG, .int pl, .int fa, .int fb, .ref aP, .ref aW, .ref aK])), (aZ, .inl (cZ, 6, .inr (.inr (.inr (.inr fZ))))), (za, .inr (1, [.int zh, .int zl, .int zf, .int zp, .int zr, .int zm, .int zw, .ref la, .int zs, .ref wa])), (la, .inr (0, [.long a1, .long b1]))] := hD
  have hq3 : ¬ (mn < (-1440) ∨ 1440 < mn) := hw
  refine lv_goto (tgt := 12) hx hb d_L_day_6 (by decide) ?_
  refine lv_iconst (v := 0) hx hb d_L_day_12 (by decide) ?_
  exact W.iret (v := 0) hx hb hr (fun t ht hW => ⟨⟨0, (), rfl, rfl, by have h9 := hP; rw [← ht] at h9; exact h9⟩, hS.F ht⟩) hS.2.2 d_L_day_13
set_option maxHeartbeats 4000000 in
set_option maxRecDepth 100000 in
theorem l_day2 (l : Launch) (dC : Nat → ClassId) (dI : Nat → Nat → Nat) (cI cJ cZ cB : ClassId) (hl : l.stackTraces = false) (a0 aZ aO aG aP aW aK : Nat) (zc orr ol mp pl fa fb : Int32) (fZ : Nat → Option Nat) (za la wa : Nat) (zh zl zf zp zr zm zw zs : Int32) (ea eb : Int64) (nz k : Nat) (mn : Int32) (x1 y1 g1 a1 b1 : Int64) (x2 g2 : Int64) (sz : Nat) (hk : k < nz) (hn : nz ≤ 6) (hz : fZ k = some za) (hx1 : ea * (fb - fa).toInt64 + mn.toInt64 * eb * fa.toInt64 = x1) (hy1 : eb * fb.toInt64 = y1) (hg1 : cdv y1 (labs x1) 100 = g1) (hn1 : ¬ g1 = 0) (ha1 : x1 / g1 = a1) (hb1 : y1 / g1 = b1) (hbig : ¬ b1 ≤ 1000000000) (hb0 : ¬ b1 = 0) (hx2 : mill a1 b1 = x2) (hg2 : cdv 1000000 (labs x2) 100 = g2) (hn2 : ¬ g2 = 0) (hmn0 : ¬ (mn < (-1440) ∨ 1440 < mn)) : Met l y_L_day w_L_day ({ frames := 8, cells := 1, slots := 6, locals := 127 }) (PCL (dC, dI) (TY cI cJ cZ cB) [.ref a0, .int (nI k), .int mn] [(a0, .inr (2, [.ref aZ, .int (nI nz), .ref aO, .int orr, .int ol, .int mp, .ref aG, .int pl, .int fa, .int fb, .ref aP, .ref aW, .ref aK])), (aZ, .inl (cZ, 6, .inr (.inr (.inr (.inr fZ))))), (za, .inr (1, [.int zh, .int zl, .int zf, .int zp, .int zr, .int zm, .int zw, .ref la, .int zs, .ref wa])), (la, .inr (0, [.long ea, .long eb]))] sz (va_A [(a0, .inr (2, [.ref aZ, .int (nI nz), .ref aO, .int orr, .int ol, .int mp, .ref aG, .int pl, .int fa, .int fb, .ref aP, .ref aW, .ref aK])), (aZ, .inl (cZ, 6, .inr (.inr (.inr (.inr fZ))))), (za, .inr (1, [.int zh, .int zl, .int zf, .int zp, .int zr, .int zm, .int zw, .ref la, .int zs, .ref wa])), (la, .inr (0, [.long ea, .long eb]))] sz)) (va_Qi (fun (r : Int32) (_ : Unit) => r = 0) (fun (_ : Unit) (t : State) => va_P (dC, dI) vwCl [(a0, .inr (2, [.ref aZ, .int (nI nz), .ref aO, .int orr, .int ol, .int mp, .ref aG, .int pl, .int fa, .int fb, .ref aP, .ref aW, .ref aK])), (aZ, .inl (cZ, 6, .inr (.inr (.inr (.inr fZ))))), (za, .inr (1, [.int zh, .int zl, .int zf, .int zp, .int zr, .int zm, .int zw, .ref la, .int zs, .ref wa])), (la, .inr (0, [.long (x2 / g2), .long (1000000 / g2)]))] t.heap) (va_A [(a0, .inr (2, [.ref aZ, .int (nI nz), .ref aO, .int orr, .int ol, .int mp, .ref aG, .int pl, .int fa, .int fb, .ref aP, .ref aW, .ref aK])), (aZ, .inl (cZ, 6, .inr (.inr (.inr (.inr fZ))))), (za, .inr (1, [.int zh, .int zl, .int zf, .int zp, .int zr, .int zm, .int zw, .ref la, .int zs, .ref wa])), (la, .inr (0, [.long ea, .long eb]))] sz)) 1 6 (va_A [(a0, .inr (2, [.ref aZ, .int (nI nz), .ref aO, .int orr, .int ol, .int mp, .ref aG, .int pl, .int fa, .int fb, .ref aP, .ref aW, .ref aK])), (aZ, .inl (cZ, 6, .inr (.inr (.inr (.inr fZ))))), (za, .inr (1, [.int zh, .int zl, .int zf, .int zp, .int zr, .int zm, .int zw, .ref la, .int zs, .ref wa])), (la, .inr (0, [.long ea, .long eb]))] sz) := by
  refine met_ofWH (cc := b_L_day) (maxL := 4) (ret := (some .int)) (by decide) rfl ?_
  intro p e s m args below meth c s₁ B hml hv
  obtain ⟨rfl, hsz, hP, hK, hD0, hE, hNc⟩ := hv
  have hx := B.exec
  have hb := B.bytes
  have hr := B.returns
  have hG : ∀ w ∈ GG, w.before _ s = true := fun w h => atoms_spec (ws := w_L_day) B.pre w (List.mem_cons_of_mem _ h)
  have hown : s.vm.findClass R_L = some m.cls := findClass_of_methodNamed B.named
  have hlocks := B.notSynchronized
  subst hsz
  have hD := hD0.self (sz := s.heap.size)
  generalize hAe : (va_A [(a0, .inr (2, [.ref aZ, .int (nI nz), .ref aO, .int orr, .int ol, .int mp, .ref aG, .int pl, .int fa, .int fb, .ref aP, .ref aW, .ref aK])), (aZ, .inl (cZ, 6, .inr (.inr (.inr (.inr fZ))))), (za, .inr (1, [.int zh, .int zl, .int zf, .int zp, .int zr, .int zm, .int zw, .ref la, .int zs, .ref wa])), (la, .inr (0, [.long ea, .long eb]))] s.heap.size) = A at hD hE ⊢
  have hA : ∀ q : Nat, s.heap.size ≤ q → A q := fun q h => by rw [← hAe]; exact Or.inr h
  have hS : va_S A s.heap s.heap [] := va_S.rf
  obtain ⟨H, hH⟩ : ∃ z, z = s.heap := ⟨_, rfl⟩
  rw [← hH] at hP
  have hS : va_S A s.heap H [] := by rw [hH]; exact hS
  rw [← hH]
  have hl9 := lv_entry ([.ref a0, .int (nI k), .int mn]) (n := 4) (Nat.le_of_ble_eq_true rfl)
  rw [lg_entry_eq]
  generalize (lg_sl ([.ref a0, .int (nI k), .int mn]) ++ List.replicate (4 - (lg_sl ([.ref a0, .int (nI k), .int mn])).length) Slot.unset).toArray = ls at hl9 ⊢
  have hl9 : lv_has ls 4 [(0, .ref a0), (1, .int (nI k)), (2, .int mn)] := hl9
  have htab := vx_table (x := y_L_day) B (atoms_spec (ws := w_L_day) B.pre _ List.mem_cons_self)
  refine lv_aload_n hx hb d_L_day_0 rfl (lv_at hl9 0 rfl) ?_
  refine lv_iload_n hx hb d_L_day_1 rfl (lv_at hl9 1 rfl) ?_
  refine lv_iload_n hx hb d_L_day_2 rfl (lv_at hl9 2 rfl) ?_
  have hPc := hP.sub (ws' := [(a0, .inr (2, [.ref aZ, .int (nI nz), .ref aO, .int orr, .int ol, .int mp, .ref aG, .int pl, .int fa, .int fb, .ref aP, .ref aW, .ref aK])), (aZ, .inl (cZ, 6, .inr (.inr (.inr (.inr fZ))))), (za, .inr (1, [.int zh, .int zl, .int zf, .int zp, .int zr, .int zm, .int zw, .ref la, .int zs, .ref wa])), (la, .inr (0, [.long ea, .long eb]))]) [0, 1, 2, 3] rfl
  have hDc := hD.sub (ws' := [(a0, .inr (2, [.ref aZ, .int (nI nz), .ref aO, .int orr, .int ol, .int mp, .ref aG, .int pl, .int fa, .int fb, .ref aP, .ref aW, .ref aK])), (aZ, .inl (cZ, 6, .inr (.inr (.inr (.inr fZ))))), (za, .inr (1, [.int zh, .int zl, .int zf, .int zp, .int zr, .int zm, .int zw, .ref la, .int zs, .ref wa])), (la, .inr (0, [.long ea, .long eb]))]) [0, 1, 2, 3] (by decide) rfl
  have hFc := va_free (wc := [(a0, .inr (2, [.ref aZ, .int (nI nz), .ref aO, .int orr, .int ol, .int mp, .ref aG, .int pl, .int fa, .int fb, .ref aP, .ref aW, .ref aK])), (aZ, .inl (cZ, 6, .inr (.inr (.inr (.inr fZ))))), (za, .inr (1, [.int zh, .int zl, .int zf, .int zp, .int zr, .int zm, .int zw, .ref la, .int zs, .ref wa])), (la, .inr (0, [.long ea, .long eb]))]) hD hS hA [0, 1, 2, 3] rfl
  refine vx_callv (vx_runV (C := R_C) (As := [.int (nI k), .int mn]) (rest := []) ⟨hx, hb, hml, hown, hG⟩ (c_day2 l dC dI cI cJ cZ cB hl a0 aZ aO aG aP aW aK zc orr ol mp pl fa fb fZ za la wa zh zl zf zp zr zm zw zs ea eb nz k mn x1 y1 g1 a1 b1 x2 g2 H.size hk hn hz hx1 hy1 hg1 hn1 ha1 hb1 hbig hb0 hx2 hg2 hn2) (cwV 2 hG g_L_52 rfl rfl rfl (by decide +kernel) ⟨Nat.le_of_ble_eq_true rfl, Nat.le_of_ble_eq_true rfl⟩) ⟨PC.blind, va_recv hK hP (ci := 2) (q0 := 0) rfl rfl, PC.of hPc hK hDc hE hS hFc⟩ rfl rfl hl9.1 rfl (lv_room (Nat.le_of_ble_eq_true rfl)) d_L_day_3 ⟨by first | exact Nat.le_of_ble_eq_true rfl | omega, by first | exact Nat.le_of_ble_eq_true rfl | omega⟩) hS (fun q _ h => hFc q h) hFc (fun q _ h => hFc q h) (fun E ce q9 u t H1 locs ht hvm hpx hB hz1 hk1 hS hce hcv hcl => ?_) (fun u t H1 locs ht hvm hw hB hz1 hk1 hS => ?_)
  · exact absurd hB.1.2 hmn0
  have hw := hw
  rw [ht] at hB
  obtain ⟨hP, hD⟩ := jset (wc := [(a0, .inr (2, [.ref aZ, .int (nI nz), .ref aO, .int orr, .int ol, .int mp, .ref aG, .int pl, .int fa, .int fb, .ref aP, .ref aW, .ref aK])), (aZ, .inl (cZ, 6, .inr (.inr (.inr (.inr fZ))))), (za, .inr (1, [.int zh, .int zl, .int zf, .int zp, .int zr, .int zm, .int zw, .ref la, .int zs, .ref wa])), (la, .inr (0, [.long ea, .long eb]))]) (w1 := [(a0, .inr (2, [.ref aZ, .int (nI nz), .ref aO, .int orr, .int ol, .int mp, .ref aG, .int pl, .int fa, .int fb, .ref aP, .ref aW, .ref aK])), (aZ, .inl (cZ, 6, .inr (.inr (.inr (.inr fZ))))), (za, .inr (1, [.int zh, .int zl, .int zf, .int zp, .int zr, .int zm, .int zw, .ref la, .int zs, .ref wa])), (la, .inr (0, [.long (x2 / g2), .long (1000000 / g2)]))]) [0, 1, 2, 3] rfl rfl hP hD hk1 hB
  have hP : va_P (dC, dI) vwCl [(a0, .inr (2, [.ref aZ, .int (nI nz), .ref aO, .int orr, .int ol, .int mp, .ref aG, .int pl, .int fa, .int fb, .ref aP, .ref aW, .ref aK])), (aZ, .inl (cZ, 6, .inr (.inr (.inr (.inr fZ))))), (za, .inr (1, [.int zh, .int zl, .int zf, .int zp, .int zr, .int zm, .int zw, .ref la, .int zs, .ref wa])), (la, .inr (0, [.long (x2 / g2), .long (1000000 / g2)]))] H1 := hP
  have hD : va_D A [(a0, .inr (2, [.ref aZ, .int (nI nz), .ref aO, .int orr, .int ol, .int mp, .ref aG, .int pl, .int fa, .int fb, .ref aP, .ref aW, .ref aK])), (aZ, .inl (cZ, 6, .inr (.inr (.inr (.inr fZ))))), (za, .inr (1, [.int zh, .int zl, .int zf, .int zp, .int zr, .int zm, .int zw, .ref la, .int zs, .ref wa])), (la, .inr (0, [.long (x2 / g2), .long (1000000 / g2)]))] := hD
  have hq3 : ¬ (mn < (-1440) ∨ 1440 < mn) := hw
  refine lv_goto (tgt := 12) hx hb d_L_day_6 (by decide) ?_
  refine lv_iconst (v := 0) hx hb d_L_day_12 (by decide) ?_
  exact W.iret (v := 0) hx hb hr (fun t ht hW => ⟨⟨0, (), rfl, rfl, by have h9 := hP; rw [← ht] at h9; exact h9⟩, hS.F ht⟩) hS.2.2 d_L_day_13
set_option maxHeartbeats 4000000 in
set_option maxRecDepth 100000 in
theorem l_dayX (l : Launch) (dC : Nat → ClassId) (dI : Nat → Nat → Nat) (cI cJ cZ cB : ClassId) (hl : l.stackTraces = false) (a0 aZ aO aG aP aW aK : Nat) (zc orr ol mp pl fa fb : Int32) (fZ : Nat → Option Nat) (nz : Nat) (x : Int32) (y : Int32) (sz : Nat) (hx0 : x < 0 ∨ nI nz ≤ x) : Met l y_L_day w_L_day ({ frames := 8, cells := 1, slots := 6, locals := 126 }) (PCL (dC, dI) (TY cI cJ cZ cB) [.ref a0, .int x, .int y] [(a0, .inr (2, [.ref aZ, .int (nI nz), .ref aO, .int orr, .int ol, .int mp, .ref aG, .int pl, .int fa, .int fb, .ref aP, .ref aW, .ref aK])), (aZ, .inl (cZ, 6, .inr (.inr (.inr (.inr fZ)))))] sz (va_A [(a0, .inr (2, [.ref aZ, .int (nI nz), .ref aO, .int orr, .int ol, .int mp, .ref aG, .int pl, .int fa, .int fb, .ref aP, .ref aW, .ref aK])), (aZ, .inl (cZ, 6, .inr (.inr (.inr (.inr fZ)))))] sz)) (va_Qi (fun (r : Int32) (_ : Unit) => r = 1) (fun (_ : Unit) (t : State) => va_P (dC, dI) vwCl [(a0, .inr (2, [.ref aZ, .int (nI nz), .ref aO, .int orr, .int ol, .int mp, .ref aG, .int pl, .int fa, .int fb, .ref aP, .ref aW, .ref aK])), (aZ, .inl (cZ, 6, .inr (.inr (.inr (.inr fZ)))))] t.heap) (va_A [(a0, .inr (2, [.ref aZ, .int (nI nz), .ref aO, .int orr, .int ol, .int mp, .ref aG, .int pl, .int fa, .int fb, .ref aP, .ref aW, .ref aK])), (aZ, .inl (cZ, 6, .inr (.inr (.inr (.inr fZ)))))] sz)) 1 6 (va_A [(a0, .inr (2, [.ref aZ, .int (nI nz), .ref aO, .int orr, .int ol, .int mp, .ref aG, .int pl, .int fa, .int fb, .ref aP, .ref aW, .ref aK])), (aZ, .inl (cZ, 6, .inr (.inr (.inr (.inr fZ)))))] sz) := by
  refine met_ofWH (cc := b_L_day) (maxL := 4) (ret := (some .int)) (by decide) rfl ?_
  intro p e s m args below meth c s₁ B hml hv
  obtain ⟨rfl, hsz, hP, hK, hD0, hE, hNc⟩ := hv
  have hx := B.exec
  have hb := B.bytes
  have hr := B.returns
  have hG : ∀ w ∈ GG, w.before _ s = true := fun w h => atoms_spec (ws := w_L_day) B.pre w (List.mem_cons_of_mem _ h)
  have hown : s.vm.findClass R_L = some m.cls := findClass_of_methodNamed B.named
  have hlocks := B.notSynchronized
  subst hsz
  have hD := hD0.self (sz := s.heap.size)
  generalize hAe : (va_A [(a0, .inr (2, [.ref aZ, .int (nI nz), .ref aO, .int orr, .int ol, .int mp, .ref aG, .int pl, .int fa, .int fb, .ref aP, .ref aW, .ref aK])), (aZ, .inl (cZ, 6, .inr (.inr (.inr (.inr fZ)))))] s.heap.size) = A at hD hE ⊢
  have hA : ∀ q : Nat, s.heap.size ≤ q → A q := fun q h => by rw [← hAe]; exact Or.inr h
  have hS : va_S A s.heap s.heap [] := va_S.rf
  obtain ⟨H, hH⟩ : ∃ z, z = s.heap := ⟨_, rfl⟩
  rw [← hH] at hP
  have hS : va_S A s.heap H [] := by rw [hH]; exact hS
  rw [← hH]
  have hl9 := lv_entry ([.ref a0, .int x, .int y]) (n := 4) (Nat.le_of_ble_eq_true rfl)
  rw [lg_entry_eq]
  generalize (lg_sl ([.ref a0, .int x, .int y]) ++ List.replicate (4 - (lg_sl ([.ref a0, .int x, .int y])).length) Slot.unset).toArray = ls at hl9 ⊢
  have hl9 : lv_has ls 4 [(0, .ref a0), (1, .int x), (2, .int y)] := hl9
  have htab := vx_table (x := y_L_day) B (atoms_spec (ws := w_L_day) B.pre _ List.mem_cons_self)
  refine lv_aload_n hx hb d_L_day_0 rfl (lv_at hl9 0 rfl) ?_
  refine lv_iload_n hx hb d_L_day_1 rfl (lv_at hl9 1 rfl) ?_
  refine lv_iload_n hx hb d_L_day_2 rfl (lv_at hl9 2 rfl) ?_
  have hPc := hP.sub (ws' := [(a0, .inr (2, [.ref aZ, .int (nI nz), .ref aO, .int orr, .int ol, .int mp, .ref aG, .int pl, .int fa, .int fb, .ref aP, .ref aW, .ref aK])), (aZ, .inl (cZ, 6, .inr (.inr (.inr (.inr fZ)))))]) [0, 1] rfl
  have hDc := hD.sub (ws' := [(a0, .inr (2, [.ref aZ, .int (nI nz), .ref aO, .int orr, .int ol, .int mp, .ref aG, .int pl, .int fa, .int fb, .ref aP, .ref aW, .ref aK])), (aZ, .inl (cZ, 6, .inr (.inr (.inr (.inr fZ)))))]) [0, 1] (by decide) rfl
  have hFc := va_A_nil hA hS.1
  refine vx_callv (vx_runV (C := R_C) (As := [.int x, .int y]) (rest := []) ⟨hx, hb, hml, hown, hG⟩ (c_dayX l dC dI cI cJ cZ cB hl a0 aZ aO aG aP aW aK zc orr ol mp pl fa fb fZ nz x y H.size hx0) (cwV 2 hG g_L_52 rfl rfl rfl (by decide +kernel) ⟨Nat.le_of_ble_eq_true rfl, Nat.le_of_ble_eq_true rfl⟩) ⟨PC.blind, va_recv hK hP (ci := 2) (q0 := 0) rfl rfl, PC.of hPc hK hDc hE hS hFc⟩ rfl rfl hl9.1 rfl (lv_room (Nat.le_of_ble_eq_true rfl)) d_L_day_3 ⟨by first | exact Nat.le_of_ble_eq_true rfl | omega, by first | exact Nat.le_of_ble_eq_true rfl | omega⟩) hS (fun q _ h => hFc q h) hFc (fun q _ h => hFc q h) (fun E ce q9 u t H1 locs ht hvm hpx hB hz1 hk1 hS hce hcv hcl => ?_) (fun u t H1 locs ht hvm hw hB hz1 hk1 hS => ?_)
  · have hE9 : E = "java/lang/IllegalArgumentException" := hB
    have hP := wp_kept hP hk1
    have hP : va_P (dC, dI) vwCl [(a0, .inr (2, [.ref aZ, .int (nI nz), .ref aO, .int orr, .int ol, .int mp, .ref aG, .int pl, .int fa, .int fb, .ref aP, .ref aW, .ref aK])), (aZ, .inl (cZ, 6, .inr (.inr (.inr (.inr fZ)))))] H1 := hP
    have hD : va_D A [(a0, .inr (2, [.ref aZ, .int (nI nz), .ref aO, .int orr, .int ol, .int mp, .ref aG, .int pl, .int fa, .int fb, .ref aP, .ref aW, .ref aK])), (aZ, .inl (cZ, 6, .inr (.inr (.inr (.inr fZ)))))] := hD
    subst hE9
    refine vx_catch (own := R_L) (name := "java/lang/IllegalArgumentException") hown [] ⟨0, 6, 9, 13⟩ [] htab (fun z hz => by simp at hz) (by decide) (by decide) (hG _ k_67) (hE.1.use k_78) hce hcv hcl ?_
    refine lv_astore_n (lv' := [(3, .ref q9), (0, .ref a0), (1, .int x), (2, .int y)]) hx hb d_L_day_9 rfl hl9 (by decide) rfl (fun ls hl9 => ?_)
    refine lv_iconst (v := 1) hx hb d_L_day_10 (by decide) ?_
    exact W.iret (v := 1) hx hb hr (fun t ht hW => ⟨⟨1, (), rfl, rfl, by have h9 := hP; rw [← ht] at h9; exact h9⟩, hS.F ht⟩) hS.2.2 d_L_day_11
  have hw := hw
  exact hw.elim
set_option maxHeartbeats 4000000 in
set_option maxRecDepth 100000 in
theorem l_zone (l : Launch) (dC : Nat → ClassId) (dI : Nat → Nat → Nat) (cI cJ cZ cB : ClassId) (hl : l.stackTraces = false) (a0 aZ aO aG aP aW aK : Nat) (zc orr ol mp pl fa fb : Int32) (fZ : Nat → Option Nat) (nz : Nat) (x y : Int32) (ou : Nat) (fU : Nat → Int64) (sz : Nat) (hn : nz ≤ 6) (hx0 : ¬ ((x < 1 ∨ 1000 < x) ∨ (y < 1 ∨ 1000 < y))) (hlt : nz < 6) : Met l y_L_zone w_L_zone ({ frames := 8, cells := 5, slots := 1465, locals := 127 }) (PCL (dC, dI) (TY cI cJ cZ cB) [.ref a0, .int x, .int y, .ref ou] [(a0, .inr (2, [.ref aZ, .int (nI nz), .ref aO, .int orr, .int ol, .int mp, .ref aG, .int pl, .int fa, .int fb, .ref aP, .ref aW, .ref aK])), (aZ, .inl (cZ, 6, .inr (.inr (.inr (.inr fZ))))), (ou, .inl (cJ, 1, .inr (.inl fU)))] sz (va_A [(a0, .inr (2, [.ref aZ, .int (nI nz), .ref aO, .int orr, .int ol, .int mp, .ref aG, .int pl, .int fa, .int fb, .ref aP, .ref aW, .ref aK])), (aZ, .inl (cZ, 6, .inr (.inr (.inr (.inr fZ))))), (ou, .inl (cJ, 1, .inr (.inl fU)))] sz)) (va_Qi (fun (r : Int32) (_ : Nat × Nat × Nat) => r = 0) (fun (u : Nat × Nat × Nat) (t : State) => va_P (dC, dI) vwCl [(ou, .inl (cJ, 1, .inr (.inl (vp_updL fU 0 (nI nz).toInt64)))), (a0, .inr (2, [.ref aZ, .int (nI (nz + 1)), .ref aO, .int orr, .int ol, .int mp, .ref aG, .int 0, .int fa, .int fb, .ref aP, .ref aW, .ref aK])), (aZ, .inl (cZ, 6, .inr (.inr (.inr (.inr (va_up fZ nz (some u.1))))))), (u.1, .inr (1, [.int x, .int y, .int 0, .int 1000, .int 0, .int (-1), .int 0, .ref u.2.1, .int (-1), .ref u.2.2])), (u.2.1, .inr (0, [.long 0, .long 1])), (u.2.2, .inl (cI, 1441, .inl (fun _ => 0)))] t.heap ∧ va_D (va_A [(a0, .inr (2, [.ref aZ, .int (nI nz), .ref aO, .int orr, .int ol, .int mp, .ref aG, .int pl, .int fa, .int fb, .ref aP, .ref aW, .ref aK])), (aZ, .inl (cZ, 6, .inr (.inr (.inr (.inr fZ))))), (ou, .inl (cJ, 1, .inr (.inl fU)))] sz) [(ou, .inl (cJ, 1, .inr (.inl (vp_updL fU 0 (nI nz).toInt64)))), (a0, .inr (2, [.ref aZ, .int (nI (nz + 1)), .ref aO, .int orr, .int ol, .int mp, .ref aG, .int 0, .int fa, .int fb, .ref aP, .ref aW, .ref aK])), (aZ, .inl (cZ, 6, .inr (.inr (.inr (.inr (va_up fZ nz (some u.1))))))), (u.1, .inr (1, [.int x, .int y, .int 0, .int 1000, .int 0, .int (-1), .int 0, .ref u.2.1, .int (-1), .ref u.2.2])), (u.2.1, .inr (0, [.long 0, .long 1])), (u.2.2, .inl (cI, 1441, .inl (fun _ => 0)))]) (va_A [(a0, .inr (2, [.ref aZ, .int (nI nz), .ref aO, .int orr, .int ol, .int mp, .ref aG, .int pl, .int fa, .int fb, .ref aP, .ref aW, .ref aK])), (aZ, .inl (cZ, 6, .inr (.inr (.inr (.inr fZ))))), (ou, .inl (cJ, 1, .inr (.inl fU)))] sz)) 5 1465 (va_A [(a0, .inr (2, [.ref aZ, .int (nI nz), .ref aO, .int orr, .int ol, .int mp, .ref aG, .int pl, .int fa, .int fb, .ref aP, .ref aW, .ref aK])), (aZ, .inl (cZ, 6, .inr (.inr (.inr (.inr fZ))))), (ou, .inl (cJ, 1, .inr (.inl fU)))] sz) := by
  refine met_ofWH (cc := b_L_zone) (maxL := 5) (ret := (some .int)) (by decide) rfl ?_
  intro p e s m args below meth c s₁ B hml hv
  obtain ⟨rfl, hsz, hP, hK, hD0, hE, hNc⟩ := hv
  have hx := B.exec
  have hb := B.bytes
  have hr := B.returns
  have hG : ∀ w ∈ GG, w.before _ s = true := fun w h => atoms_spec (ws := w_L_zone) B.pre w (List.mem_cons_of_mem _ h)
  have hown : s.vm.findClass R_L = some m.cls := findClass_of_methodNamed B.named
  have hlocks := B.notSynchronized
  subst hsz
  have hD := hD0.self (sz := s.heap.size)
  generalize hAe : (va_A [(a0, .inr (2, [.ref aZ, .int (nI nz), .ref aO, .int orr, .int ol, .int mp, .ref aG, .int pl, .int fa, .int fb, .ref aP, .ref aW, .ref aK])), (aZ, .inl (cZ, 6, .inr (.inr (.inr (.inr fZ))))), (ou, .inl (cJ, 1, .inr (.inl fU)))] s.heap.size) = A at hD hE ⊢
  have hA : ∀ q : Nat, s.heap.size ≤ q → A q := fun q h => by rw [← hAe]; exact Or.inr h
  have hS : va_S A s.heap s.heap [] := va_S.rf
  obtain ⟨H, hH⟩ : ∃ z, z = s.heap := ⟨_, rfl⟩
  rw [← hH] at hP
  have hS : va_S A s.heap H [] := by rw [hH]; exact hS
  rw [← hH]
  have hl9 := lv_entry ([.ref a0, .int x, .int y, .ref ou]) (n := 5) (Nat.le_of_ble_eq_true rfl)
  rw [lg_entry_eq]
  generalize (lg_sl ([.ref a0, .int x, .int y, .ref ou]) ++ List.replicate (5 - (lg_sl ([.ref a0, .int x, .int y, .ref ou])).length) Slot.unset).toArray = ls at hl9 ⊢
  have hl9 : lv_has ls 5 [(0, .ref a0), (1, .int x), (2, .int y), (3, .ref ou)] := hl9
  have htab := vx_table (x := y_L_zone) B (atoms_spec (ws := w_L_zone) B.pre _ List.mem_cons_self)
  refine lv_aload_n hx hb d_L_zone_0 rfl (lv_at hl9 3 rfl) ?_
  refine lv_iconst (v := 0) hx hb d_L_zone_1 (by decide) ?_
  refine lv_aload_n hx hb d_L_zone_2 rfl (lv_at hl9 0 rfl) ?_
  refine lv_iload_n hx hb d_L_zone_3 rfl (lv_at hl9 1 rfl) ?_
  refine lv_iload_n hx hb d_L_zone_4 rfl (lv_at hl9 2 rfl) ?_
  have hPc := hP.sub (ws' := [(a0, .inr (2, [.ref aZ, .int (nI nz), .ref aO, .int orr, .int ol, .int mp, .ref aG, .int pl, .int fa, .int fb, .ref aP, .ref aW, .ref aK])), (aZ, .inl (cZ, 6, .inr (.inr (.inr (.inr fZ)))))]) [0, 1] rfl
  have hDc := hD.sub (ws' := [(a0, .inr (2, [.ref aZ, .int (nI nz), .ref aO, .int orr, .int ol, .int mp, .ref aG, .int pl, .int fa, .int fb, .ref aP, .ref aW, .ref aK])), (aZ, .inl (cZ, 6, .inr (.inr (.inr (.inr fZ)))))]) [0, 1] (by decide) rfl
  have hFc := va_free (wc := [(a0, .inr (2, [.ref aZ, .int (nI nz), .ref aO, .int orr, .int ol, .int mp, .ref aG, .int pl, .int fa, .int fb, .ref aP, .ref aW, .ref aK])), (aZ, .inl (cZ, 6, .inr (.inr (.inr (.inr fZ)))))]) hD hS hA [0, 1] rfl
  refine vx_calli (vx_runV (C := R_C) (As := [.int x, .int y]) (rest := [.int 0, .ref ou]) ⟨hx, hb, hml, hown, hG⟩ (c_zone l dC dI cI cJ cZ cB hl a0 aZ aO aG aP aW aK zc orr ol mp pl fa fb fZ nz x y H.size hn) (cwV 2 hG g_L_7 rfl rfl rfl (by decide +kernel) ⟨Nat.le_of_ble_eq_true rfl, Nat.le_of_ble_eq_true rfl⟩) ⟨PC.blind, va_recv hK hP (ci := 2) (q0 := 0) rfl rfl, PC.of hPc hK hDc hE hS hFc⟩ rfl rfl hl9.1 rfl (lv_room (Nat.le_of_ble_eq_true rfl)) d_L_zone_5 ⟨by first | exact Nat.le_of_ble_eq_true rfl | omega, by first | exact Nat.le_of_ble_eq_true rfl | omega⟩) hS (fun q _ h => hFc q h) hFc (fun q _ h => hFc q h) (fun E ce q9 u t H1 locs ht hvm hpx hB hz1 hk1 hS hce hcv hcl => ?_) (fun r2 u t H1 locs ht hvm hw hB hz1 hk1 hS => ?_)
  · exact absurd hB.1 (fun h => h.elim (fun h => hx0 h.2) (fun h => h.2.2 hlt))
  have hw := hw
  obtain ⟨q1, q2, q3⟩ := u
  obtain ⟨hP1, hD1⟩ := hB
  rw [ht] at hP1
  obtain ⟨hP, hD⟩ := va_join (wr := [(ou, .inl (cJ, 1, .inr (.inl fU)))]) (w1 := [(a0, .inr (2, [.ref aZ, .int (nI (nz + 1)), .ref aO, .int orr, .int ol, .int mp, .ref aG, .int 0, .int fa, .int fb, .ref aP, .ref aW, .ref aK])), (aZ, .inl (cZ, 6, .inr (.inr (.inr (.inr (va_up fZ nz (some q1))))))), (q1, .inr (1, [.int x, .int y, .int 0, .int 1000, .int 0, .int (-1), .int 0, .ref q2, .int (-1), .ref q3])), (q2, .inr (0, [.long 0, .long 1])), (q3, .inl (cI, 1441, .inl (fun _ => 0)))]) hP hD [0, 1] [2] rfl rfl (by decide) (by decide) hk1 hFc hP1 hD1
  have hP : va_P (dC, dI) vwCl [(ou, .inl (cJ, 1, .inr (.inl fU))), (a0, .inr (2, [.ref aZ, .int (nI (nz + 1)), .ref aO, .int orr, .int ol, .int mp, .ref aG, .int 0, .int fa, .int fb, .ref aP, .ref aW, .ref aK])), (aZ, .inl (cZ, 6, .inr (.inr (.inr (.inr (va_up fZ nz (some q1))))))), (q1, .inr (1, [.int x, .int y, .int 0, .int 1000, .int 0, .int (-1), .int 0, .ref q2, .int (-1), .ref q3])), (q2, .inr (0, [.long 0, .long 1])), (q3, .inl (cI, 1441, .inl (fun _ => 0)))] H1 := hP
  have hD : va_D A [(ou, .inl (cJ, 1, .inr (.inl fU))), (a0, .inr (2, [.ref aZ, .int (nI (nz + 1)), .ref aO, .int orr, .int ol, .int mp, .ref aG, .int 0, .int fa, .int fb, .ref aP, .ref aW, .ref aK])), (aZ, .inl (cZ, 6, .inr (.inr (.inr (.inr (va_up fZ nz (some q1))))))), (q1, .inr (1, [.int x, .int y, .int 0, .int 1000, .int 0, .int (-1), .int 0, .ref q2, .int (-1), .ref q3])), (q2, .inr (0, [.long 0, .long 1])), (q3, .inl (cI, 1441, .inl (fun _ => 0)))] := hD
  have hr2 : r2 = nI nz ∧ ¬ ((x < 1 ∨ 1000 < x) ∨ (y < 1 ∨ 1000 < y)) ∧ nz < 6 := hw
  rw [hr2.1]
  refine lv_i2l hx hb d_L_zone_8 rfl ?_
  refine va_last hx hb hK hP hD hS 0 1 rfl rfl (vp_in_nI (n := 0) (N := 1) (by decide) (by decide)) d_L_zone_9 (fun H locs hP hD hS => ?_)
  have hP : va_P (dC, dI) vwCl [(ou, .inl (cJ, 1, .inr (.inl (vp_updL fU (0 : Int32).toNatClampNeg ((nI nz).toInt64))))), (a0, .inr (2, [.ref aZ, .int (nI (nz + 1)), .ref aO, .int orr, .int ol, .int mp, .ref aG, .int 0, .int fa, .int fb, .ref aP, .ref aW, .ref aK])), (aZ, .inl (cZ, 6, .inr (.inr (.inr (.inr (va_up fZ nz (some q1))))))), (q1, .inr (1, [.int x, .int y, .int 0, .int 1000, .int 0, .int (-1), .int 0, .ref q2, .int (-1), .ref q3])), (q2, .inr (0, [.long 0, .long 1])), (q3, .inl (cI, 1441, .inl (fun _ => 0)))] H := hP
  have hD : va_D A [(ou, .inl (cJ, 1, .inr (.inl (vp_updL fU (0 : Int32).toNatClampNeg ((nI nz).toInt64))))), (a0, .inr (2, [.ref aZ, .int (nI (nz + 1)), .ref aO, .int orr, .int ol, .int mp, .ref aG, .int 0, .int fa, .int fb, .ref aP, .ref aW, .ref aK])), (aZ, .inl (cZ, 6, .inr (.inr (.inr (.inr (va_up fZ nz (some q1))))))), (q1, .inr (1, [.int x, .int y, .int 0, .int 1000, .int 0, .int (-1), .int 0, .ref q2, .int (-1), .ref q3])), (q2, .inr (0, [.long 0, .long 1])), (q3, .inl (cI, 1441, .inl (fun _ => 0)))] := hD
  refine lv_goto (tgt := 21) hx hb d_L_zone_10 (by decide) ?_
  refine lv_iconst (v := 0) hx hb d_L_zone_21 (by decide) ?_
  exact W.iret (v := 0) hx hb hr (fun t ht hW => ⟨⟨0, (q1, q2, q3), rfl, rfl, ⟨by have h9 := hP; rw [← ht] at h9; exact h9, hD⟩⟩, hS.F ht⟩) hS.2.2 d_L_zone_22
set_option maxHeartbeats 4000000 in
set_option maxRecDepth 100000 in
theorem l_zoneX (l : Launch) (dC : Nat → ClassId) (dI : Nat → Nat → Nat) (cI cJ cZ cB : ClassId) (hl : l.stackTraces = false) (a0 aZ aO aG aP aW aK : Nat) (zc orr ol mp pl fa fb : Int32) (fZ : Nat → Option Nat) (nz : Nat) (x y : Int32) (ou : Nat) (fU : Nat → Int64) (sz : Nat) (hn : nz ≤ 6) (hx0 : ((x < 1 ∨ 1000 < x) ∨ (y < 1 ∨ 1000 < y))) : Met l y_L_zone w_L_zone ({ frames := 8, cells := 5, slots := 1465, locals := 127 }) (PCL (dC, dI) (TY cI cJ cZ cB) [.ref a0, .int x, .int y, .ref ou] [(a0, .inr (2, [.ref aZ, .int (nI nz), .ref aO, .int orr, .int ol, .int mp, .ref aG, .int pl, .int fa, .int fb, .ref aP, .ref aW, .ref aK])), (aZ, .inl (cZ, 6, .inr (.inr (.inr (.inr fZ))))), (ou, .inl (cJ, 1, .inr (.inl fU)))] sz (va_A [(a0, .inr (2, [.ref aZ, .int (nI nz), .ref aO, .int orr, .int ol, .int mp, .ref aG, .int pl, .int fa, .int fb, .ref aP, .ref aW, .ref aK])), (aZ, .inl (cZ, 6, .inr (.inr (.inr (.inr fZ))))), (ou, .inl (cJ, 1, .inr (.inl fU)))] sz)) (va_Qi (fun (r : Int32) (_ : Unit) => r = 1) (fun (_ : Unit) (t : State) => va_P (dC, dI) vwCl [(a0, .inr (2, [.ref aZ, .int (nI nz), .ref aO, .int orr, .int ol, .int mp, .ref aG, .int pl, .int fa, .int fb, .ref aP, .ref aW, .ref aK])), (aZ, .inl (cZ, 6, .inr (.inr (.inr (.inr fZ))))), (ou, .inl (cJ, 1, .inr (.inl fU)))] t.heap) (va_A [(a0, .inr (2, [.ref aZ, .int (nI nz), .ref aO, .int orr, .int ol, .int mp, .ref aG, .int pl, .int fa, .int fb, .ref aP, .ref aW, .ref aK])), (aZ, .inl (cZ, 6, .inr (.inr (.inr (.inr fZ))))), (ou, .inl (cJ, 1, .inr (.inl fU)))] sz)) 5 1465 (va_A [(a0, .inr (2, [.ref aZ, .int (nI nz), .ref aO, .int orr, .int ol, .int mp, .ref aG, .int pl, .int fa, .int fb, .ref aP, .ref aW, .ref aK])), (aZ, .inl (cZ, 6, .inr (.inr (.inr (.inr fZ))))), (ou, .inl (cJ, 1, .inr (.inl fU)))] sz) := by
  refine met_ofWH (cc := b_L_zone) (maxL := 5) (ret := (some .int)) (by decide) rfl ?_
  intro p e s m args below meth c s₁ B hml hv
  obtain ⟨rfl, hsz, hP, hK, hD0, hE, hNc⟩ := hv
  have hx := B.exec
  have hb := B.bytes
  have hr := B.returns
  have hG : ∀ w ∈ GG, w.before _ s = true := fun w h => atoms_spec (ws := w_L_zone) B.pre w (List.mem_cons_of_mem _ h)
  have hown : s.vm.findClass R_L = some m.cls := findClass_of_methodNamed B.named
  have hlocks := B.notSynchronized
  subst hsz
  have hD := hD0.self (sz := s.heap.size)
  generalize hAe : (va_A [(a0, .inr (2, [.ref aZ, .int (nI nz), .ref aO, .int orr, .int ol, .int mp, .ref aG, .int pl, .int fa, .int fb, .ref aP, .ref aW, .ref aK])), (aZ, .inl (cZ, 6, .inr (.inr (.inr (.inr fZ))))), (ou, .inl (cJ, 1, .inr (.inl fU)))] s.heap.size) = A at hD hE ⊢
  have hA : ∀ q : Nat, s.heap.size ≤ q → A q := fun q h => by rw [← hAe]; exact Or.inr h
  have hS : va_S A s.heap s.heap [] := va_S.rf
  obtain ⟨H, hH⟩ : ∃ z, z = s.heap := ⟨_, rfl⟩
  rw [← hH] at hP
  have hS : va_S A s.heap H [] := by rw [hH]; exact hS
  rw [← hH]
  have hl9 := lv_entry ([.ref a0, .int x, .int y, .ref ou]) (n := 5) (Nat.le_of_ble_eq_true rfl)
  rw [lg_entry_eq]
  generalize (lg_sl ([.ref a0, .int x, .int y, .ref ou]) ++ List.replicate (5 - (lg_sl ([.ref a0, .int x, .int y, .ref ou])).length) Slot.unset).toArray = ls at hl9 ⊢
  have hl9 : lv_has ls 5 [(0, .ref a0), (1, .int x), (2, .int y), (3, .ref ou)] := hl9
  have htab := vx_table (x := y_L_zone) B (atoms_spec (ws := w_L_zone) B.pre _ List.mem_cons_self)
  refine lv_aload_n hx hb d_L_zone_0 rfl (lv_at hl9 3 rfl) ?_
  refine lv_iconst (v := 0) hx hb d_L_zone_1 (by decide) ?_
  refine lv_aload_n hx hb d_L_zone_2 rfl (lv_at hl9 0 rfl) ?_
  refine lv_iload_n hx hb d_L_zone_3 rfl (lv_at hl9 1 rfl) ?_
  refine lv_iload_n hx hb d_L_zone_4 rfl (lv_at hl9 2 rfl) ?_
  have hPc := hP.sub (ws' := [(a0, .inr (2, [.ref aZ, .int (nI nz), .ref aO, .int orr, .int ol, .int mp, .ref aG, .int pl, .int fa, .int fb, .ref aP, .ref aW, .ref aK])), (aZ, .inl (cZ, 6, .inr (.inr (.inr (.inr fZ)))))]) [0, 1] rfl
  have hDc := hD.sub (ws' := [(a0, .inr (2, [.ref aZ, .int (nI nz), .ref aO, .int orr, .int ol, .int mp, .ref aG, .int pl, .int fa, .int fb, .ref aP, .ref aW, .ref aK])), (aZ, .inl (cZ, 6, .inr (.inr (.inr (.inr fZ)))))]) [0, 1] (by decide) rfl
  have hFc := va_free (wc := [(a0, .inr (2, [.ref aZ, .int (nI nz), .ref aO, .int orr, .int ol, .int mp, .ref aG, .int pl, .int fa, .int fb, .ref aP, .ref aW, .ref aK])), (aZ, .inl (cZ, 6, .inr (.inr (.inr (.inr fZ)))))]) hD hS hA [0, 1] rfl
  refine vx_calli (vx_runV (C := R_C) (As := [.int x, .int y]) (rest := [.int 0, .ref ou]) ⟨hx, hb, hml, hown, hG⟩ (c_zone l dC dI cI cJ cZ cB hl a0 aZ aO aG aP aW aK zc orr ol mp pl fa fb fZ nz x y H.size hn) (cwV 2 hG g_L_7 rfl rfl rfl (by decide +kernel) ⟨Nat.le_of_ble_eq_true rfl, Nat.le_of_ble_eq_true rfl⟩) ⟨PC.blind, va_recv hK hP (ci := 2) (q0 := 0) rfl rfl, PC.of hPc hK hDc hE hS hFc⟩ rfl rfl hl9.1 rfl (lv_room (Nat.le_of_ble_eq_true rfl)) d_L_zone_5 ⟨by first | exact Nat.le_of_ble_eq_true rfl | omega, by first | exact Nat.le_of_ble_eq_true rfl | omega⟩) hS (fun q _ h => hFc q h) hFc (fun q _ h => hFc q h) (fun E ce q9 u t H1 locs ht hvm hpx hB hz1 hk1 hS hce hcv hcl => ?_) (fun r2 u t H1 locs ht hvm hw hB hz1 hk1 hS => ?_)
  · have hE9 : E = "java/lang/IllegalArgumentException" := hB.1.elim (fun h => h.1) (fun h => absurd hx0 h.2.1)
    have hB2 := hB.2
    rw [ht] at hB2
    obtain ⟨hP, hD⟩ := jset (wc := [(a0, .inr (2, [.ref aZ, .int (nI nz), .ref aO, .int orr, .int ol, .int mp, .ref aG, .int pl, .int fa, .int fb, .ref aP, .ref aW, .ref aK])), (aZ, .inl (cZ, 6, .inr (.inr (.inr (.inr fZ)))))]) (w1 := [(a0, .inr (2, [.ref aZ, .int (nI nz), .ref aO, .int orr, .int ol, .int mp, .ref aG, .int pl, .int fa, .int fb, .ref aP, .ref aW, .ref aK])), (aZ, .inl (cZ, 6, .inr (.inr (.inr (.inr fZ)))))]) [0, 1] rfl rfl hP hD hk1 hB2
    have hP : va_P (dC, dI) vwCl [(a0, .inr (2, [.ref aZ, .int (nI nz), .ref aO, .int orr, .int ol, .int mp, .ref aG, .int pl, .int fa, .int fb, .ref aP, .ref aW, .ref aK])), (aZ, .inl (cZ, 6, .inr (.inr (.inr (.inr fZ))))), (ou, .inl (cJ, 1, .inr (.inl fU)))] H1 := hP
    have hD : va_D A [(a0, .inr (2, [.ref aZ, .int (nI nz), .ref aO, .int orr, .int ol, .int mp, .ref aG, .int pl, .int fa, .int fb, .ref aP, .ref aW, .ref aK])), (aZ, .inl (cZ, 6, .inr (.inr (.inr (.inr fZ))))), (ou, .inl (cJ, 1, .inr (.inl fU)))] := hD
    subst hE9
    refine vx_catch (own := R_L) (name := "java/lang/IllegalArgumentException") hown [] ⟨0, 10, 13, 13⟩ [⟨0, 10, 17, 15⟩] htab (fun z hz => by simp at hz) (by decide) (by decide) (hG _ k_67) (hE.1.use k_78) hce hcv hcl ?_
    refine lv_astore (lv' := [(4, .ref q9), (0, .ref a0), (1, .int x), (2, .int y), (3, .ref ou)]) hx hb d_L_zone_13 hl9 (by decide) rfl (fun ls hl9 => ?_)
    refine lv_iconst (v := 1) hx hb d_L_zone_15 (by decide) ?_
    exact W.iret (v := 1) hx hb hr (fun t ht hW => ⟨⟨1, (), rfl, rfl, by have h9 := hP; rw [← ht] at h9; exact h9⟩, hS.F ht⟩) hS.2.2 d_L_zone_16
  have hw := hw
  exact absurd hw (fun h => h.2.1 hx0)
set_option maxHeartbeats 4000000 in
set_option maxRecDepth 100000 in
theorem l_zoneY (l : Launch) (dC : Nat → ClassId) (dI : Nat → Nat → Nat) (cI cJ cZ cB : ClassId) (hl : l.stackTraces = false) (a0 aZ aO aG aP aW aK : Nat) (zc orr ol mp pl fa fb : Int32) (fZ : Nat → Option Nat) (nz : Nat) (x y : Int32) (ou : Nat) (fU : Nat → Int64) (sz : Nat) (hn : nz ≤ 6) (hx0 : ¬ ((x < 1 ∨ 1000 < x) ∨ (y < 1 ∨ 1000 < y))) (hlt : ¬ nz < 6) : Met l y_L_zone w_L_zone ({ frames := 8, cells := 5, slots := 1465, locals := 127 }) (PCL (dC, dI) (TY cI cJ cZ cB) [.ref a0, .int x, .int y, .ref ou] [(a0, .inr (2, [.ref aZ, .int (nI nz), .ref aO, .int orr, .int ol, .int mp, .ref aG, .int pl, .int fa, .int fb, .ref aP, .ref aW, .ref aK])), (aZ, .inl (cZ, 6, .inr (.inr (.inr (.inr fZ))))), (ou, .inl (cJ, 1, .inr (.inl fU)))] sz (va_A [(a0, .inr (2, [.ref aZ, .int (nI nz), .ref aO, .int orr, .int ol, .int mp, .ref aG, .int pl, .int fa, .int fb, .ref aP, .ref aW, .ref aK])), (aZ, .inl (cZ, 6, .inr (.inr (.inr (.inr fZ))))), (ou, .inl (cJ, 1, .inr (.inl fU)))] sz)) (va_Qi (fun (r : Int32) (_ : Unit) => r = 2) (fun (_ : Unit) (t : State) => va_P (dC, dI) vwCl [(a0, .inr (2, [.ref aZ, .int (nI nz), .ref aO, .int orr, .int ol, .int mp, .ref aG, .int pl, .int fa, .int fb, .ref aP, .ref aW, .ref aK])), (aZ, .inl (cZ, 6, .inr (.inr (.inr (.inr fZ))))), (ou, .inl (cJ, 1, .inr (.inl fU)))] t.heap) (va_A [(a0, .inr (2, [.ref aZ, .int (nI nz), .ref aO, .int orr, .int ol, .int mp, .ref aG, .int pl, .int fa, .int fb, .ref aP, .ref aW, .ref aK])), (aZ, .inl (cZ, 6, .inr (.inr (.inr (.inr fZ))))), (ou, .inl (cJ, 1, .inr (.inl fU)))] sz)) 5 1465 (va_A [(a0, .inr (2, [.ref aZ, .int (nI nz), .ref aO, .int orr, .int ol, .int mp, .ref aG, .int pl, .int fa, .int fb, .ref aP, .ref aW, .ref aK])), (aZ, .inl (cZ, 6, .inr (.inr (.inr (.inr fZ))))), (ou, .inl (cJ, 1, .inr (.inl fU)))] sz) := by
  refine met_ofWH (cc := b_L_zone) (maxL := 5) (ret := (some .int)) (by decide) rfl ?_
  intro p e s m args below meth c s₁ B hml hv
  obtain ⟨rfl, hsz, hP, hK, hD0, hE, hNc⟩ := hv
  have hx := B.exec
  have hb := B.bytes
  have hr := B.returns
  have hG : ∀ w ∈ GG, w.before _ s = true := fun w h => atoms_spec (ws := w_L_zone) B.pre w (List.mem_cons_of_mem _ h)
  have hown : s.vm.findClass R_L = some m.cls := findClass_of_methodNamed B.named
  have hlocks := B.notSynchronized
  subst hsz
  have hD := hD0.self (sz := s.heap.size)
  generalize hAe : (va_A [(a0, .inr (2, [.ref aZ, .int (nI nz), .ref aO, .int orr, .int ol, .int mp, .ref aG, .int pl, .int fa, .int fb, .ref aP, .ref aW, .ref aK])), (aZ, .inl (cZ, 6, .inr (.inr (.inr (.inr fZ))))), (ou, .inl (cJ, 1, .inr (.inl fU)))] s.heap.size) = A at hD hE ⊢
  have hA : ∀ q : Nat, s.heap.size ≤ q → A q := fun q h => by rw [← hAe]; exact Or.inr h
  have hS : va_S A s.heap s.heap [] := va_S.rf
  obtain ⟨H, hH⟩ : ∃ z, z = s.heap := ⟨_, rfl⟩
  rw [← hH] at hP
  have hS : va_S A s.heap H [] := by rw [hH]; exact hS
  rw [← hH]
  have hl9 := lv_entry ([.ref a0, .int x, .int y, .ref ou]) (n := 5) (Nat.le_of_ble_eq_true rfl)
  rw [lg_entry_eq]
  generalize (lg_sl ([.ref a0, .int x, .int y, .ref ou]) ++ List.replicate (5 - (lg_sl ([.ref a0, .int x, .int y, .ref ou])).length) Slot.unset).toArray = ls at hl9 ⊢
  have hl9 : lv_has ls 5 [(0, .ref a0), (1, .int x), (2, .int y), (3, .ref ou)] := hl9
  have htab := vx_table (x := y_L_zone) B (atoms_spec (ws := w_L_zone) B.pre _ List.mem_cons_self)
  refine lv_aload_n hx hb d_L_zone_0 rfl (lv_at hl9 3 rfl) ?_
  refine lv_iconst (v := 0) hx hb d_L_zone_1 (by decide) ?_
  refine lv_aload_n hx hb d_L_zone_2 rfl (lv_at hl9 0 rfl) ?_
  refine lv_iload_n hx hb d_L_zone_3 rfl (lv_at hl9 1 rfl) ?_
  refine lv_iload_n hx hb d_L_zone_4 rfl (lv_at hl9 2 rfl) ?_
  have hPc := hP.sub (ws' := [(a0, .inr (2, [.ref aZ, .int (nI nz), .ref aO, .int orr, .int ol, .int mp, .ref aG, .int pl, .int fa, .int fb, .ref aP, .ref aW, .ref aK])), (aZ, .inl (cZ, 6, .inr (.inr (.inr (.inr fZ)))))]) [0, 1] rfl
  have hDc := hD.sub (ws' := [(a0, .inr (2, [.ref aZ, .int (nI nz), .ref aO, .int orr, .int ol, .int mp, .ref aG, .int pl, .int fa, .int fb, .ref aP, .ref aW, .ref aK])), (aZ, .inl (cZ, 6, .inr (.inr (.inr (.inr fZ)))))]) [0, 1] (by decide) rfl
  have hFc := va_free (wc := [(a0, .inr (2, [.ref aZ, .int (nI nz), .ref aO, .int orr, .int ol, .int mp, .ref aG, .int pl, .int fa, .int fb, .ref aP, .ref aW, .ref aK])), (aZ, .inl (cZ, 6, .inr (.inr (.inr (.inr fZ)))))]) hD hS hA [0, 1] rfl
  refine vx_calli (vx_runV (C := R_C) (As := [.int x, .int y]) (rest := [.int 0, .ref ou]) ⟨hx, hb, hml, hown, hG⟩ (c_zone l dC dI cI cJ cZ cB hl a0 aZ aO aG aP aW aK zc orr ol mp pl fa fb fZ nz x y H.size hn) (cwV 2 hG g_L_7 rfl rfl rfl (by decide +kernel) ⟨Nat.le_of_ble_eq_true rfl, Nat.le_of_ble_eq_true rfl⟩) ⟨PC.blind, va_recv hK hP (ci := 2) (q0 := 0) rfl rfl, PC.of hPc hK hDc hE hS hFc⟩ rfl rfl hl9.1 rfl (lv_room (Nat.le_of_ble_eq_true rfl)) d_L_zone_5 ⟨by first | exact Nat.le_of_ble_eq_true rfl | omega, by first | exact Nat.le_of_ble_eq_true rfl | omega⟩) hS (fun q _ h => hFc q h) hFc (fun q _ h => hFc q h) (fun E ce q9 u t H1 locs ht hvm hpx hB hz1 hk1 hS hce hcv hcl => ?_) (fun r2 u t H1 locs ht hvm hw hB hz1 hk1 hS => ?_)
  · have hE9 : E = "java/lang/IllegalStateException" := hB.1.elim (fun h => absurd h.2 hx0) (fun h => h.1)
    have hB2 := hB.2
    rw [ht] at hB2
    obtain ⟨hP, hD⟩ := jset (wc := [(a0, .inr (2, [.ref aZ, .int (nI nz), .ref aO, .int orr, .int ol, .int mp, .ref aG, .int pl, .int fa, .int fb, .ref aP, .ref aW, .ref aK])), (aZ, .inl (cZ, 6, .inr (.inr (.inr (.inr fZ)))))]) (w1 := [(a0, .inr (2, [.ref aZ, .int (nI nz), .ref aO, .int orr, .int ol, .int mp, .ref aG, .int pl, .int fa, .int fb, .ref aP, .ref aW, .ref aK])), (aZ, .inl (cZ, 6, .inr (.inr (.inr (.inr fZ)))))]) [0, 1] rfl rfl hP hD hk1 hB2
    have hP : va_P (dC, dI) vwCl [(a0, .inr (2, [.ref aZ, .int (nI nz), .ref aO, .int orr, .int ol, .int mp, .ref aG, .int pl, .int fa, .int fb, .ref aP, .ref aW, .ref aK])), (aZ, .inl (cZ, 6, .inr (.inr (.inr (.inr fZ))))), (ou, .inl (cJ, 1, .inr (.inl fU)))] H1 := hP
    have hD : va_D A [(a0, .inr (2, [.ref aZ, .int (nI nz), .ref aO, .int orr, .int ol, .int mp, .ref aG, .int pl, .int fa, .int fb, .ref aP, .ref aW, .ref aK])), (aZ, .inl (cZ, 6, .inr (.inr (.inr (.inr fZ))))), (ou, .inl (cJ, 1, .inr (.inl fU)))] := hD
    subst hE9
    refine vx_catch (own := R_L) (name := "java/lang/IllegalStateException") hown [⟨0, 10, 13, 13⟩] ⟨0, 10, 17, 15⟩ [] htab (fun z hz => by simp only [List.mem_singleton] at hz; subst hz; exact Or.inr ⟨by decide, "java/lang/IllegalArgumentException", hG _ k_67, hNc⟩) (by decide) (by decide) (hG _ k_68) (hE.1.use k_145) hce hcv hcl ?_
    refine lv_astore (lv' := [(4, .ref q9), (0, .ref a0), (1, .int x), (2, .int y), (3, .ref ou)]) hx hb d_L_zone_17 hl9 (by decide) rfl (fun ls hl9 => ?_)
    refine lv_iconst (v := 2) hx hb d_L_zone_19 (by decide) ?_
    exact W.iret (v := 2) hx hb hr (fun t ht hW => ⟨⟨2, (), rfl, rfl, by have h9 := hP; rw [← ht] at h9; exact h9⟩, hS.F ht⟩) hS.2.2 d_L_zone_20
  have hw := hw
  exact absurd hw (fun h => hlt h.2.2)
