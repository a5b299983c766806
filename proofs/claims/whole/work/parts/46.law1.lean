/-- what the law needs of the room -/
theorem lw_rc : 2587 ≤ room_1.cells := by decide +kernel
theorem lw_rs : 766801 ≤ room_1.slots := by decide +kernel
def lw_P (b : Addr) (xs : List Int32) (args : Array Value) (s : State) : Prop := args = #[.ref b] ∧ s.IntsAt b xs ∧ xs.length ≤ 2560 ∧ (Jvm.Cond.and given_1 narrow_1).before args s = true
def lw_Q (_ : Array Value) (s : State) (o : Outcome) (t : State) : Prop := o = .returned (some (.int 1)) ∧ Framed s o t [] room_1.cells room_1.slots
def lw_Z (below : List Frame) (a : Array Value) (s : State) : State → Prop := fun t => ∃ o, t.status = .running ∧ Ended t below o ∧ lw_Q a s o t
/-- the law's own end, with 1 on the stack, nothing written that was there before, its room as the claim has it -/
theorem lw_ret {p : Program} {l : Launch} {e : Env} {s : State} {m : MethodId} {below : List Frame} {meth : Method} {c : Code} {b : Nat} (hx : p.tables.exec = Jvm.exec) (hb : c.code = code) (hr : meth.sig.returnType = ret) (hlocks : meth.locks = false) {pc : Nat} {H : Heap} {ls : Array Slot} (hdg : decode code pc = .ok (.ireturn, 1)) : W p l e room_1 s m #[Value.ref b] below meth c H [] room_1.cells room_1.slots (lw_Z below #[Value.ref b] s) (F0 m pc ls [.int 1]) := by
  intro T hT X
  obtain ⟨fs, hret, hrun, hended, hW, hframe⟩ := X.leave (v := some (.int 1)) (hlocks := hlocks) (fun h => by rw [hr] at h; cases h)
  have hmeth' : T.vm.method? m = some meth := X.method'
  refine ⟨T.setFrames fs, ?_, .returned (some (.int 1)), hrun, hended, rfl, ⟨_, rfl⟩, hW, hframe⟩
  jvm_step X.here [X.here.top, hx, hb, hdg, hmeth', hr, ret, narrow_b1]
  (try refine ⟨rfl, ?_⟩); (try refine ⟨rfl, ?_⟩)
  first | (intro acts; rw [hret _ acts rfl rfl rfl]) | rw [hret _ _ rfl rfl rfl]
  exact Steps.refl _
/-- what holds at the law's entry: the machine, the code, the tables' words (any of lw_tbl by 'hts w (by decide +kernel)'), the script of L ints xs at the cell b, what the Statement gives of the start (any of its parts by flat_of_before) -/
def lw_At (p : Program) (s : State) (m : MethodId) (meth : Method) (c : Code) (b L : Nat) (xs : Nat → Int32) : Prop :=
  p.tables.exec = Jvm.exec ∧ c.code = code ∧ meth.sig.returnType = ret ∧ c.maxLocals = 8 ∧ s.vm.findClass R_L = some m.cls ∧ (∀ w ∈ lw_tbl, w.before #[Value.ref b] s = true) ∧ va_X b L xs s s.heap ∧ b < s.heap.size ∧ meth.locks = false ∧ (Jvm.Cond.and given_1 narrow_1).before #[Value.ref b] s = true
theorem liftM0 {l : Launch} {y : MethodName} {ws : List Cond} {rm : Room} {D : va_G} {tys : List (ClassId × FieldType)} {av : List Value} {WW w : va_W} {sz : Nat} {kv : Int32} {rv : Int32} (is : List Nat)
    (h : Met l y ws rm (PC D tys av w sz (va_A [] sz)) (va_Qi (fun (r : Int32) (_ : Unit) => r = rv) (fun (_ : Unit) (_ : State) => True) (va_A [] sz)) 0 0 (va_A [] sz))
    (hC : is.map (fun i => WW[i]?) = w.map some) (hnd : va_nd is = true) (hr : rmM rm) :
    Met l y ws RM (PC D tys av WW sz (va_A WW sz)) (va_Qi (fun (r : Int32) (_ : Unit) => kv = 0 → r = rv) (fun (_ : Unit) (t : State) => va_P D vwCl WW t.heap ∧ va_D (va_A WW sz) WW) (va_A WW sz)) 0 0 (va_A WW sz) := by
  have hsub : ∀ q, va_A [] sz q → va_A WW sz q := by
    rintro q (⟨k, e, h⟩ | h)
    · simp at h
    · exact Or.inr h
  refine met_up h hr ⟨Nat.le_refl _, Nat.le_refl _⟩ ?_ ?_ hsub
  · rintro a s ⟨q0, q1, qP, qK, qD, qE⟩
    exact ⟨q0, q1, vP_sub is hC qP, qK, qD.sub is hnd hC, qE.less hsub⟩
  · rintro a s o t ⟨q0, q1, qP, qK, qD, qE⟩ ⟨⟨r, u, ho, hpost, _⟩, hF⟩
    have hk : ∀ q : Nat, q < s.heap.size → ¬ va_A [] s.heap.size q → t.heap[q]? = s.heap[q]? := fun q h9 h8 => hF.2 q h9 (fun z => h8 (by rw [q1]; exact z))
    exact ⟨⟨r, u, ho, fun _ => hpost, wp_kept qP hk, qD.self (sz := sz)⟩, hF.1, fun q h9 h8 => hF.2 q h9 (fun z => h8 (hsub q z))⟩
/-! ===== the law's world: the class's cells, then the reference's ===== -/
theorem app_l {α : Type} {w1 w2 : List α} {k : Nat} {q : α} (h : w1[k]? = some q) : (w1 ++ w2)[k]? = some q := by
  rw [List.getElem?_append_left (List.getElem?_eq_some_iff.mp h).1]; exact h
theorem app_r {α : Type} {w1 w2 : List α} {k : Nat} {q : α} (h : w2[k]? = some q) : (w1 ++ w2)[w1.length + k]? = some q := by
  rw [List.getElem?_append_right (by omega), Nat.add_sub_cancel_left]; exact h
theorem wp_l {D : va_G} {cl : List vw_C} {w1 w2 : va_W} {H : Heap} (h : va_P D cl (w1 ++ w2) H) : va_P D cl w1 H := fun k q hq => h k q (app_l hq)
theorem wp_r {D : va_G} {cl : List vw_C} {w1 w2 : va_W} {H : Heap} (h : va_P D cl (w1 ++ w2) H) : va_P D cl w2 H := fun _ q hq => h _ q (app_r hq)
theorem wd_l {A : Nat → Prop} {w1 w2 : va_W} (h : va_D A (w1 ++ w2)) : va_D A w1 := ⟨fun i j p q hi hj e => h.1 i j p q (app_l hi) (app_l hj) e, fun k q hk => h.2 k q (app_l hk)⟩
theorem wd_r {A : Nat → Prop} {w1 w2 : va_W} (h : va_D A (w1 ++ w2)) : va_D A w2 := ⟨fun i j p q hi hj e => Nat.add_left_cancel (h.1 _ _ p q (app_r hi) (app_r hj) e), fun _ q hk => h.2 _ q (app_r hk)⟩
theorem wd_x {A : Nat → Prop} {w1 w2 : va_W} (h : va_D A (w1 ++ w2)) : ∀ (i j : Nat) (p q : Nat × va_E), w1[i]? = some p → w2[j]? = some q → p.1 ≠ q.1 := fun i j p q hi hj e => by
  have h1 := h.1 _ _ p q (app_l hi) (app_r hj) e
  have h2 := (List.getElem?_eq_some_iff.mp hi).1
  omega
theorem wf_l {A0 : Nat → Prop} {w1 w2 : va_W} {H0 H : Heap} {locs : List Loc} (hD : va_D A0 (w1 ++ w2)) (hS : va_S A0 H0 H locs) (hA : ∀ q, H0.size ≤ q → A0 q) : ∀ q, va_A w1 H.size q → A0 q := by
  rintro q (⟨k, e, h⟩ | h)
  · exact hD.2 k (q, e) (app_l h)
  · exact hA q (Nat.le_trans hS.1 h)
theorem wf_r {A0 : Nat → Prop} {w1 w2 : va_W} {H0 H : Heap} {locs : List Loc} (hD : va_D A0 (w1 ++ w2)) (hS : va_S A0 H0 H locs) (hA : ∀ q, H0.size ≤ q → A0 q) : ∀ q, va_A w2 H.size q → A0 q := by
  rintro q (⟨k, e, h⟩ | h)
  · exact hD.2 _ (q, e) (app_r h)
  · exact hA q (Nat.le_trans hS.1 h)
theorem wj_l {A0 : Nat → Prop} {D : va_G} {cl : List vw_C} {w1 w2 w3 : va_W} {H H1 : Heap} (hP : va_P D cl (w1 ++ w2) H) (hD : va_D A0 (w1 ++ w2)) (hk : ∀ q : Nat, q < H.size → ¬ va_A w1 H.size q → H1[q]? = H[q]?) (hF : ∀ q, va_A w1 H.size q → A0 q) (hP1 : va_P D cl w3 H1) (hD1 : va_D (va_A w1 H.size) w3) : va_P D cl (w3 ++ w2) H1 ∧ va_D A0 (w3 ++ w2) := by
  have apart : ∀ (k : Nat) (q : Nat × va_E), w2[k]? = some q → q.1 < H.size ∧ ¬ va_A w1 H.size q.1 := by
    intro k q hq
    have hl := (hP _ q (app_r hq)).lt
    refine ⟨hl, ?_⟩
    rintro (⟨j, e, hj⟩ | h)
    · exact wd_x hD j k (q.1, e) q hj hq rfl
    · exact absurd hl (Nat.not_lt.mpr h)
  refine ⟨va_P.app hP1 (fun k q hq => (hP _ q (app_r hq)).kept (hk q.1 (apart k q hq).1 (apart k q hq).2)), va_D.app (hD1.weaken (fun k q _ h => hF q.1 h)) (wd_r hD) (fun i j x y hx hy e => ?_)⟩
  exact (apart j y hy).2 (by rw [← e]; exact hD1.2 i x hx)
theorem wj_r {A0 : Nat → Prop} {D : va_G} {cl : List vw_C} {w1 w2 w3 : va_W} {H H1 : Heap} (hP : va_P D cl (w1 ++ w2) H) (hD : va_D A0 (w1 ++ w2)) (hk : ∀ q : Nat, q < H.size → ¬ va_A w2 H.size q → H1[q]? = H[q]?) (hF : ∀ q, va_A w2 H.size q → A0 q) (hP1 : va_P D cl w3 H1) (hD1 : va_D (va_A w2 H.size) w3) : va_P D cl (w1 ++ w3) H1 ∧ va_D A0 (w1 ++ w3) := by
  have apart : ∀ (k : Nat) (q : Nat × va_E), w1[k]? = some q → q.1 < H.size ∧ ¬ va_A w2 H.size q.1 := by
    intro k q hq
    have hl := (hP _ q (app_l hq)).lt
    refine ⟨hl, ?_⟩
    rintro (⟨j, e, hj⟩ | h)
    · exact wd_x hD k j q (q.1, e) hq hj rfl
    · exact absurd hl (Nat.not_lt.mpr h)
  refine ⟨va_P.app (fun k q hq => (hP _ q (app_l hq)).kept (hk q.1 (apart k q hq).1 (apart k q hq).2)) hP1, va_D.app (wd_l hD) (hD1.weaken (fun k q _ h => hF q.1 h)) (fun i j x y hx hy e => ?_)⟩
  exact (apart i x hx).2 (by rw [e]; exact hD1.2 j y hy)
theorem recv_R {dC : Nat → ClassId} {dI : Nat → Nat → Nat} {cI cJ cB : ClassId} {m0 mH mL mB mP mR mA mW mU mV mM mT mQ mO mF mS mE mX mD : Nat} {tys : List (ClassId × FieldType)} {s : State} {H : Heap} {J : JS} (hK : va_K (dC, dI) vwCl tys s) (hP : va_P (dC, dI) vwCl (wR cI cJ cB m0 mH mL mB mP mR mA mW mU mV mM mT mQ mO mF mS mE mX mD J) H) : ∃ cell : Cell, H[m0]? = some cell ∧ cell.vm.isStatics = false ∧ s.vm.findClass R_M = some cell.cls := by
  obtain ⟨zs, nz, nr, ol, mp, pl, fa, fb, th, fZ, fO, fG, fP, fW, fK, fU, rH, rL, rB, rP, rR, rA, rW, rU, rV, rM, rT, rO, rF, rS, rE, rX, rD⟩ := J
  exact va_recv hK hP (ci := 3) (q0 := 0) rfl rfl
theorem out_get {cI cJ cZ : ClassId} {a0 aZ aO aG aP aW aK ou : Nat} {w2 : va_W} (J : JS) : ∃ f : Nat → Int64, (wC cI cJ cZ a0 aZ aO aG aP aW aK ou J ++ w2)[7]? = some (ou, .inl (cJ, 1, .inr (.inl f))) ∧ f 0 = outJ J := by
  obtain ⟨zs, nz, nr, ol, mp, pl, fa, fb, th, fZ, fO, fG, fP, fW, fK, fU, rH, rL, rB, rP, rR, rA, rW, rU, rV, rM, rT, rO, rF, rS, rE, rX, rD⟩ := J
  exact ⟨fU, rfl, rfl⟩
theorem thrown_J (l : Launch) (dC : Nat → ClassId) (dI : Nat → Nat → Nat) (cI cJ cZ cB : ClassId) (m0 mH mL mB mP mR mA mW mU mV mM mT mQ mO mF mS mE mX mD : Nat) (J : JS) : SMi l dC dI cI cJ cZ cB m0 mH mL mB mP mR mA mW mU mV mM mT mQ mO mF mS mE mX mD y_M_thrown w_M_thrown [.ref m0] J 0 (thJ J) J := by
  obtain ⟨zs, nz, nr, ol, mp, pl, fa, fb, th, fZ, fO, fG, fP, fW, fK, fU, rH, rL, rB, rP, rR, rA, rW, rU, rV, rM, rT, rO, rF, rS, rE, rX, rD⟩ := J
  exact fun sz => liftM0 [0] (m_thrown l dC dI cI cJ cZ cB m0 mH mL mB mP mR mA mW mU mV mM mT mQ mO mF mS mE mX mD th (nI nz) (nI nr) mp fa fb pl sz) rfl rfl ⟨by decide, by decide, by decide, by decide⟩
/-- what stands through the law's walk -/
def LC (p : Program) (l : Launch) (s : State) (m : MethodId) (meth : Method) (c : Code) (b L : Nat) (xs : Nat → Int32) (dC : Nat → ClassId) (dI : Nat → Nat → Nat) (cI cJ cZ cB : ClassId) : Prop :=
  p.tables.exec = Jvm.exec ∧ c.code = code ∧ c.maxLocals = 8 ∧ s.vm.findClass R_L = some m.cls ∧ (∀ w ∈ GG, w.before #[Value.ref b] s = true) ∧ va_X b L xs s s.heap ∧ b < s.heap.size ∧ va_K (dC, dI) vwCl (TY cI cJ cZ cB) s ∧ va_Nc "java/lang/IllegalStateException" "java/lang/IllegalArgumentException" s ∧ EV (fun q : Nat => s.heap.size ≤ q) s ∧ l.stackTraces = false ∧ L ≤ 2560
/-- behind a call: the way on -/
def LK (p : Program) (l : Launch) (e : Env) (s : State) (m : MethodId) (below : List Frame) (meth : Method) (c : Code) (b : Nat) (dC : Nat → ClassId) (dI : Nat → Nat → Nat) (cI cJ cZ cB : ClassId) (a0 aZ aO aG aP aW aK ou : Nat) (m0 mH mL mB mP mR mA mW mU mV mM mT mQ mO mF mS mE mX mD : Nat) (i cells slots : Nat) : Prop :=
  ∀ (J : JS) (H : Heap) (locs : List Loc) (ls : Array Slot), Inv J → va_P (dC, dI) vwCl (wC cI cJ cZ a0 aZ aO aG aP aW aK ou J ++ wR cI cJ cB m0 mH mL mB mP mR mA mW mU mV mM mT mQ mO mF mS mE mX mD J) H → va_D (fun q : Nat => s.heap.size ≤ q) (wC cI cJ cZ a0 aZ aO aG aP aW aK ou J ++ wR cI cJ cB m0 mH mL mB mP mR mA mW mU mV mM mT mQ mO mF mS mE mX mD J) → va_S (fun q : Nat => s.heap.size ≤ q) s.heap H locs → lv_has ls 8 [(4, .int (nI i)), (3, .ref ou), (2, .ref m0), (1, .ref a0), (0, .ref b)] → W p l e room_1 s m #[Value.ref b] below meth c H locs cells slots (lw_Z below #[Value.ref b] s) (F0 m 1209 ls [])
theorem g_L_76 : GoodIn GG (va_wsS R_L 76 y_L_zone w_L_zone) := goodG (List.forall_mem_append.mpr ⟨List.forall_mem_cons.mpr ⟨k_64, List.forall_mem_cons.mpr ⟨k_65, List.forall_mem_cons.mpr ⟨k_0, fun _ h => absurd h List.not_mem_nil⟩⟩⟩, List.forall_mem_cons.mpr ⟨k_66, fun _ h => h⟩⟩)
theorem g_L_81 : GoodIn GG (wsV R_L 81 R_M y_M_zone w_M_zone) := goodG (List.forall_mem_append.mpr ⟨List.forall_mem_cons.mpr ⟨k_521, List.forall_mem_cons.mpr ⟨k_522, List.forall_mem_cons.mpr ⟨k_523, List.forall_mem_cons.mpr ⟨k_2, fun _ h => absurd h List.not_mem_nil⟩⟩⟩⟩, List.forall_mem_cons.mpr ⟨k_524, fun _ h => h⟩⟩)
theorem g_L_82 : GoodIn GG (wsV R_L 82 R_M y_M_thrown w_M_thrown) := goodG (List.forall_mem_append.mpr ⟨List.forall_mem_cons.mpr ⟨k_517, List.forall_mem_cons.mpr ⟨k_518, List.forall_mem_cons.mpr ⟨k_519, List.forall_mem_cons.mpr ⟨k_2, fun _ h => absurd h List.not_mem_nil⟩⟩⟩⟩, List.forall_mem_cons.mpr ⟨k_520, fun _ h => h⟩⟩)
theorem g_L_86 : GoodIn GG (va_wsS R_L 86 y_L_set w_L_set) := goodG (List.forall_mem_append.mpr ⟨List.forall_mem_cons.mpr ⟨k_220, List.forall_mem_cons.mpr ⟨k_221, List.forall_mem_cons.mpr ⟨k_0, fun _ h => absurd h List.not_mem_nil⟩⟩⟩, List.forall_mem_cons.mpr ⟨k_222, fun _ h => h⟩⟩)
theorem g_L_89 : GoodIn GG (wsV R_L 89 R_M y_M_set w_M_set) := goodG (List.forall_mem_append.mpr ⟨List.forall_mem_cons.mpr ⟨k_532, List.forall_mem_cons.mpr ⟨k_533, List.forall_mem_cons.mpr ⟨k_534, List.forall_mem_cons.mpr ⟨k_2, fun _ h => absurd h List.not_mem_nil⟩⟩⟩⟩, List.forall_mem_cons.mpr ⟨k_535, fun _ h => h⟩⟩)
theorem g_L_90 : GoodIn GG (va_wsS R_L 90 y_L_want w_L_want) := goodG (List.forall_mem_append.mpr ⟨List.forall_mem_cons.mpr ⟨k_232, List.forall_mem_cons.mpr ⟨k_233, List.forall_mem_cons.mpr ⟨k_0, fun _ h => absurd h List.not_mem_nil⟩⟩⟩, List.forall_mem_cons.mpr ⟨k_234, fun _ h => h⟩⟩)
theorem g_L_93 : GoodIn GG (wsV R_L 93 R_M y_M_want w_M_want) := goodG (List.forall_mem_append.mpr ⟨List.forall_mem_cons.mpr ⟨k_540, List.forall_mem_cons.mpr ⟨k_541, List.forall_mem_cons.mpr ⟨k_542, List.forall_mem_cons.mpr ⟨k_2, fun _ h => absurd h List.not_mem_nil⟩⟩⟩⟩, List.forall_mem_cons.mpr ⟨k_543, fun _ h => h⟩⟩)
theorem g_L_94 : GoodIn GG (va_wsS R_L 94 y_L_outside w_L_outside) := goodG (List.forall_mem_append.mpr ⟨List.forall_mem_cons.mpr ⟨k_239, List.forall_mem_cons.mpr ⟨k_240, List.forall_mem_cons.mpr ⟨k_0, fun _ h => absurd h List.not_mem_nil⟩⟩⟩, List.forall_mem_cons.mpr ⟨k_241, fun _ h => h⟩⟩)
theorem g_L_96 : GoodIn GG (wsV R_L 96 R_M y_M_outside w_M_outside) := goodG (List.forall_mem_append.mpr ⟨List.forall_mem_cons.mpr ⟨k_544, List.forall_mem_cons.mpr ⟨k_545, List.forall_mem_cons.mpr ⟨k_546, List.forall_mem_cons.mpr ⟨k_2, fun _ h => absurd h List.not_mem_nil⟩⟩⟩⟩, List.forall_mem_cons.mpr ⟨k_547, fun _ h => h⟩⟩)
theorem g_L_97 : GoodIn GG (va_wsS R_L 97 y_L_machine w_L_machine) := goodG (List.forall_mem_append.mpr ⟨List.forall_mem_cons.mpr ⟨k_248, List.forall_mem_cons.mpr ⟨k_249, List.forall_mem_cons.mpr ⟨k_0, fun _ h => absurd h List.not_mem_nil⟩⟩⟩, List.forall_mem_cons.mpr ⟨k_250, fun _ h => h⟩⟩)
theorem g_L_100 : GoodIn GG (wsV R_L 100 R_M y_M_machine w_M_machine) := goodG (List.forall_mem_append.mpr ⟨List.forall_mem_cons.mpr ⟨k_548, List.forall_mem_cons.mpr ⟨k_549, List.forall_mem_cons.mpr ⟨k_550, List.forall_mem_cons.mpr ⟨k_2, fun _ h => absurd h List.not_mem_nil⟩⟩⟩⟩, List.forall_mem_cons.mpr ⟨k_551, fun _ h => h⟩⟩)
theorem g_L_101 : GoodIn GG (va_wsS R_L 101 y_L_start w_L_start) := goodG (List.forall_mem_append.mpr ⟨List.forall_mem_cons.mpr ⟨k_256, List.forall_mem_cons.mpr ⟨k_257, List.forall_mem_cons.mpr ⟨k_0, fun _ h => absurd h List.not_mem_nil⟩⟩⟩, List.forall_mem_cons.mpr ⟨k_258, fun _ h => h⟩⟩)
theorem g_L_103 : GoodIn GG (wsV R_L 103 R_M y_M_start w_M_start) := goodG (List.forall_mem_append.mpr ⟨List.forall_mem_cons.mpr ⟨k_553, List.forall_mem_cons.mpr ⟨k_554, List.forall_mem_cons.mpr ⟨k_555, List.forall_mem_cons.mpr ⟨k_2, fun _ h => absurd h List.not_mem_nil⟩⟩⟩⟩, List.forall_mem_cons.mpr ⟨k_556, fun _ h => h⟩⟩)
theorem g_L_104 : GoodIn GG (va_wsS R_L 104 y_L_late w_L_late) := goodG (List.forall_mem_append.mpr ⟨List.forall_mem_cons.mpr ⟨k_303, List.forall_mem_cons.mpr ⟨k_304, List.forall_mem_cons.mpr ⟨k_0, fun _ h => absurd h List.not_mem_nil⟩⟩⟩, List.forall_mem_cons.mpr ⟨k_305, fun _ h => h⟩⟩)
theorem g_L_106 : GoodIn GG (wsV R_L 106 R_M y_M_late w_M_late) := goodG (List.forall_mem_append.mpr ⟨List.forall_mem_cons.mpr ⟨k_581, List.forall_mem_cons.mpr ⟨k_582, List.forall_mem_cons.mpr ⟨k_583, List.forall_mem_cons.mpr ⟨k_2, fun _ h => absurd h List.not_mem_nil⟩⟩⟩⟩, List.forall_mem_cons.mpr ⟨k_584, fun _ h => h⟩⟩)
theorem g_L_107 : GoodIn GG (va_wsS R_L 107 y_L_at w_L_at) := goodG (List.forall_mem_append.mpr ⟨List.forall_mem_cons.mpr ⟨k_310, List.forall_mem_cons.mpr ⟨k_311, List.forall_mem_cons.mpr ⟨k_0, fun _ h => absurd h List.not_mem_nil⟩⟩⟩, List.forall_mem_cons.mpr ⟨k_312, fun _ h => h⟩⟩)
theorem g_L_109 : GoodIn GG (wsV R_L 109 R_M y_M_at w_M_at) := goodG (List.forall_mem_append.mpr ⟨List.forall_mem_cons.mpr ⟨k_585, List.forall_mem_cons.mpr ⟨k_586, List.forall_mem_cons.mpr ⟨k_587, List.forall_mem_cons.mpr ⟨k_2, fun _ h => absurd h List.not_mem_nil⟩⟩⟩⟩, List.forall_mem_cons.mpr ⟨k_588, fun _ h => h⟩⟩)
theorem g_L_110 : GoodIn GG (va_wsS R_L 110 y_L_used w_L_used) := goodG (List.forall_mem_append.mpr ⟨List.forall_mem_cons.mpr ⟨k_317, List.forall_mem_cons.mpr ⟨k_318, List.forall_mem_cons.mpr ⟨k_0, fun _ h => absurd h List.not_mem_nil⟩⟩⟩, List.forall_mem_cons.mpr ⟨k_319, fun _ h => h⟩⟩)
theorem g_L_112 : GoodIn GG (wsV R_L 112 R_M y_M_used w_M_used) := goodG (List.forall_mem_append.mpr ⟨List.forall_mem_cons.mpr ⟨k_589, List.forall_mem_cons.mpr ⟨k_590, List.forall_mem_cons.mpr ⟨k_591, List.forall_mem_cons.mpr ⟨k_2, fun _ h => absurd h List.not_mem_nil⟩⟩⟩⟩, List.forall_mem_cons.mpr ⟨k_592, fun _ h => h⟩⟩)
theorem g_L_113 : GoodIn GG (va_wsS R_L 113 y_L_cold w_L_cold) := goodG (List.forall_mem_append.mpr ⟨List.forall_mem_cons.mpr ⟨k_324, List.forall_mem_cons.mpr ⟨k_325, List.forall_mem_cons.mpr ⟨k_0, fun _ h => absurd h List.not_mem_nil⟩⟩⟩, List.forall_mem_cons.mpr ⟨k_326, fun _ h => h⟩⟩)
theorem g_L_115 : GoodIn GG (wsV R_L 115 R_M y_M_cold w_M_cold) := goodG (List.forall_mem_append.mpr ⟨List.forall_mem_cons.mpr ⟨k_593, List.forall_mem_cons.mpr ⟨k_594, List.forall_mem_cons.mpr ⟨k_595, List.forall_mem_cons.mpr ⟨k_2, fun _ h => absurd h List.not_mem_nil⟩⟩⟩⟩, List.forall_mem_cons.mpr ⟨k_596, fun _ h => h⟩⟩)
theorem g_L_116 : GoodIn GG (va_wsS R_L 116 y_L_fade w_L_fade) := goodG (List.forall_mem_append.mpr ⟨List.forall_mem_cons.mpr ⟨k_331, List.forall_mem_cons.mpr ⟨k_332, List.forall_mem_cons.mpr ⟨k_0, fun _ h => absurd h List.not_mem_nil⟩⟩⟩, List.forall_mem_cons.mpr ⟨k_333, fun _ h => h⟩⟩)
theorem g_L_119 : GoodIn GG (wsV R_L 119 R_M y_M_fade w_M_fade) := goodG (List.forall_mem_append.mpr ⟨List.forall_mem_cons.mpr ⟨k_597, List.forall_mem_cons.mpr ⟨k_598, List.forall_mem_cons.mpr ⟨k_599, List.forall_mem_cons.mpr ⟨k_2, fun _ h => absurd h List.not_mem_nil⟩⟩⟩⟩, List.forall_mem_cons.mpr ⟨k_600, fun _ h => h⟩⟩)
theorem g_L_120 : GoodIn GG (va_wsS R_L 120 y_L_day w_L_day) := goodG (List.forall_mem_append.mpr ⟨List.forall_mem_cons.mpr ⟨k_338, List.forall_mem_cons.mpr ⟨k_339, List.forall_mem_cons.mpr ⟨k_0, fun _ h => absurd h List.not_mem_nil⟩⟩⟩, List.forall_mem_cons.mpr ⟨k_340, fun _ h => h⟩⟩)
theorem g_L_122 : GoodIn GG (wsV R_L 122 R_M y_M_day w_M_day) := goodG (List.forall_mem_append.mpr ⟨List.forall_mem_cons.mpr ⟨k_601, List.forall_mem_cons.mpr ⟨k_602, List.forall_mem_cons.mpr ⟨k_603, List.forall_mem_cons.mpr ⟨k_2, fun _ h => absurd h List.not_mem_nil⟩⟩⟩⟩, List.forall_mem_cons.mpr ⟨k_604, fun _ h => h⟩⟩)
theorem g_L_123 : GoodIn GG (va_wsS R_L 123 y_L_lesson w_L_lesson) := goodG (List.forall_mem_append.mpr ⟨List.forall_mem_cons.mpr ⟨k_365, List.forall_mem_cons.mpr ⟨k_366, List.forall_mem_cons.mpr ⟨k_0, fun _ h => absurd h List.not_mem_nil⟩⟩⟩, List.forall_mem_cons.mpr ⟨k_367, fun _ h => h⟩⟩)
theorem g_L_125 : GoodIn GG (wsV R_L 125 R_M y_M_lesson w_M_lesson) := goodG (List.forall_mem_append.mpr ⟨List.forall_mem_cons.mpr ⟨k_610, List.forall_mem_cons.mpr ⟨k_611, List.forall_mem_cons.mpr ⟨k_612, List.forall_mem_cons.mpr ⟨k_2, fun _ h => absurd h List.not_mem_nil⟩⟩⟩⟩, List.forall_mem_cons.mpr ⟨k_613, fun _ h => h⟩⟩)
theorem g_L_126 : GoodIn GG (va_wsS R_L 126 y_L_taught w_L_taught) := goodG (List.forall_mem_append.mpr ⟨List.forall_mem_cons.mpr ⟨k_372, List.forall_mem_cons.mpr ⟨k_373, List.forall_mem_cons.mpr ⟨k_0, fun _ h => absurd h List.not_mem_nil⟩⟩⟩, List.forall_mem_cons.mpr ⟨k_374, fun _ h => h⟩⟩)
theorem g_L_128 : GoodIn GG (wsV R_L 128 R_M y_M_taught w_M_taught) := goodG (List.forall_mem_append.mpr ⟨List.forall_mem_cons.mpr ⟨k_614, List.forall_mem_cons.mpr ⟨k_615, List.forall_mem_cons.mpr ⟨k_616, List.forall_mem_cons.mpr ⟨k_2, fun _ h => absurd h List.not_mem_nil⟩⟩⟩⟩, List.forall_mem_cons.mpr ⟨k_617, fun _ h => h⟩⟩)
theorem g_L_129 : GoodIn GG (va_wsS R_L 129 y_L_price w_L_price) := goodG (List.forall_mem_append.mpr ⟨List.forall_mem_cons.mpr ⟨k_389, List.forall_mem_cons.mpr ⟨k_390, List.forall_mem_cons.mpr ⟨k_0, fun _ h => absurd h List.not_mem_nil⟩⟩⟩, List.forall_mem_cons.mpr ⟨k_391, fun _ h => h⟩⟩)
theorem g_L_131 : GoodIn GG (wsV R_L 131 R_M y_M_price w_M_price) := goodG (List.forall_mem_append.mpr ⟨List.forall_mem_cons.mpr ⟨k_619, List.forall_mem_cons.mpr ⟨k_620, List.forall_mem_cons.mpr ⟨k_621, List.forall_mem_cons.mpr ⟨k_2, fun _ h => absurd h List.not_mem_nil⟩⟩⟩⟩, List.forall_mem_cons.mpr ⟨k_622, fun _ h => h⟩⟩)
theorem g_L_132 : GoodIn GG (va_wsS R_L 132 y_L_cheapest w_L_cheapest) := goodG (List.forall_mem_append.mpr ⟨List.forall_mem_cons.mpr ⟨k_396, List.forall_mem_cons.mpr ⟨k_397, List.forall_mem_cons.mpr ⟨k_0, fun _ h => absurd h List.not_mem_nil⟩⟩⟩, List.forall_mem_cons.mpr ⟨k_398, fun _ h => h⟩⟩)
theorem g_L_134 : GoodIn GG (wsV R_L 134 R_M y_M_cheapest w_M_cheapest) := goodG (List.forall_mem_append.mpr ⟨List.forall_mem_cons.mpr ⟨k_623, List.forall_mem_cons.mpr ⟨k_624, List.forall_mem_cons.mpr ⟨k_625, List.forall_mem_cons.mpr ⟨k_2, fun _ h => absurd h List.not_mem_nil⟩⟩⟩⟩, List.forall_mem_cons.mpr ⟨k_626, fun _ h => h⟩⟩)
theorem g_L_135 : GoodIn GG (va_wsS R_L 135 y_L_costs w_L_costs) := goodG (List.forall_mem_append.mpr ⟨List.forall_mem_cons.mpr ⟨k_425, List.forall_mem_cons.mpr ⟨k_426, List.forall_mem_cons.mpr ⟨k_0, fun _ h => absurd h List.not_mem_nil⟩⟩⟩, List.forall_mem_cons.mpr ⟨k_427, fun _ h => h⟩⟩)
theorem g_L_138 : GoodIn GG (wsV R_L 138 R_M y_M_costs w_M_costs) := goodG (List.forall_mem_append.mpr ⟨List.forall_mem_cons.mpr ⟨k_636, List.forall_mem_cons.mpr ⟨k_637, List.forall_mem_cons.mpr ⟨k_638, List.forall_mem_cons.mpr ⟨k_2, fun _ h => absurd h List.not_mem_nil⟩⟩⟩⟩, List.forall_mem_cons.mpr ⟨k_639, fun _ h => h⟩⟩)
