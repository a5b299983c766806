section
-- ===== PART A: goes FIRST, ahead of the names: the tables' words, and 'selects' of the private methods out of them =====
/-- a private method of a class that the tables say can be made, by its rows of tables_1 -/
def lw_okq (q : MethodName × Nat) : Prop := (q.1.cls ≠ "java/lang/invoke/MethodHandle" ∧ q.1.cls ≠ "java/lang/invoke/VarHandle") ∧ Cond.instantiable q.1.cls q.2 ∈ tables_1 ∧ Cond.privateMethod q.1 ∈ tables_1 ∧ Cond.instanceMethod q.1 ∈ tables_1
theorem lw_p0 : lw_okq (⟨"java/lang/Throwable", "fillInStackTrace", "(I)Ljava/lang/Throwable;"⟩, 6) := ⟨⟨by decide +kernel, by decide +kernel⟩, List.mem_of_getElem? (i := 114) (by decide +kernel), List.mem_of_getElem? (i := 112) (by decide +kernel), List.mem_of_getElem? (i := 113) (by decide +kernel)⟩
theorem lw_p1 : lw_okq (⟨"StartTimes", "knownZone", "(I)LStartTimes$Zone;"⟩, 13) := ⟨⟨by decide +kernel, by decide +kernel⟩, List.mem_of_getElem? (i := 12) (by decide +kernel), List.mem_of_getElem? (i := 228) (by decide +kernel), List.mem_of_getElem? (i := 229) (by decide +kernel)⟩
theorem lw_p2 : lw_okq (⟨"StartTimes", "plannedZone", "(I)LStartTimes$Zone;"⟩, 13) := ⟨⟨by decide +kernel, by decide +kernel⟩, List.mem_of_getElem? (i := 12) (by decide +kernel), List.mem_of_getElem? (i := 264) (by decide +kernel), List.mem_of_getElem? (i := 265) (by decide +kernel)⟩
theorem lw_p3 : lw_okq (⟨"StartTimes", "makePlan", "()V"⟩, 13) := ⟨⟨by decide +kernel, by decide +kernel⟩, List.mem_of_getElem? (i := 12) (by decide +kernel), List.mem_of_getElem? (i := 268) (by decide +kernel), List.mem_of_getElem? (i := 269) (by decide +kernel)⟩
theorem lw_p4 : lw_okq (⟨"StartTimes", "planZone", "(LStartTimes$Zone;)V"⟩, 13) := ⟨⟨by decide +kernel, by decide +kernel⟩, List.mem_of_getElem? (i := 12) (by decide +kernel), List.mem_of_getElem? (i := 272) (by decide +kernel), List.mem_of_getElem? (i := 273) (by decide +kernel)⟩
theorem lw_p5 : lw_okq (⟨"StartTimes", "leaveUnheated", "(LStartTimes$Zone;I)V"⟩, 13) := ⟨⟨by decide +kernel, by decide +kernel⟩, List.mem_of_getElem? (i := 12) (by decide +kernel), List.mem_of_getElem? (i := 276) (by decide +kernel), List.mem_of_getElem? (i := 277) (by decide +kernel)⟩
theorem lw_p6 : lw_okq (⟨"StartTimes", "warmthAfter", "(LStartTimes$Zone;III)I"⟩, 13) := ⟨⟨by decide +kernel, by decide +kernel⟩, List.mem_of_getElem? (i := 12) (by decide +kernel), List.mem_of_getElem? (i := 280) (by decide +kernel), List.mem_of_getElem? (i := 281) (by decide +kernel)⟩
theorem lw_p7 : lw_okq (⟨"StartTimes$Zone", "wantsWarmth", "()Z"⟩, 10) := ⟨⟨by decide +kernel, by decide +kernel⟩, List.mem_of_getElem? (i := 159) (by decide +kernel), List.mem_of_getElem? (i := 284) (by decide +kernel), List.mem_of_getElem? (i := 285) (by decide +kernel)⟩
theorem lw_p8 : lw_okq (⟨"StartTimes", "latestStart", "(LStartTimes$Zone;)I"⟩, 13) := ⟨⟨by decide +kernel, by decide +kernel⟩, List.mem_of_getElem? (i := 12) (by decide +kernel), List.mem_of_getElem? (i := 288) (by decide +kernel), List.mem_of_getElem? (i := 289) (by decide +kernel)⟩
theorem lw_p9 : lw_okq (⟨"StartTimes", "warmthIfStarted", "(LStartTimes$Zone;I)I"⟩, 13) := ⟨⟨by decide +kernel, by decide +kernel⟩, List.mem_of_getElem? (i := 12) (by decide +kernel), List.mem_of_getElem? (i := 292) (by decide +kernel), List.mem_of_getElem? (i := 293) (by decide +kernel)⟩
theorem lw_p10 : lw_okq (⟨"StartTimes", "shareOf", "(LStartTimes$Zone;I)I"⟩, 13) := ⟨⟨by decide +kernel, by decide +kernel⟩, List.mem_of_getElem? (i := 12) (by decide +kernel), List.mem_of_getElem? (i := 296) (by decide +kernel), List.mem_of_getElem? (i := 297) (by decide +kernel)⟩
theorem lw_p11 : lw_okq (⟨"StartTimes", "heatFromStart", "(LStartTimes$Zone;)V"⟩, 13) := ⟨⟨by decide +kernel, by decide +kernel⟩, List.mem_of_getElem? (i := 12) (by decide +kernel), List.mem_of_getElem? (i := 300) (by decide +kernel), List.mem_of_getElem? (i := 301) (by decide +kernel)⟩
theorem lw_p12 : lw_okq (⟨"StartTimes$Lesson", "learn", "(III)V"⟩, 2) := ⟨⟨by decide +kernel, by decide +kernel⟩, List.mem_of_getElem? (i := 165) (by decide +kernel), List.mem_of_getElem? (i := 346) (by decide +kernel), List.mem_of_getElem? (i := 347) (by decide +kernel)⟩
theorem lw_p13 : lw_okq (⟨"StartTimes$Lesson", "keepInLowestTerms", "(JJ)V"⟩, 2) := ⟨⟨by decide +kernel, by decide +kernel⟩, List.mem_of_getElem? (i := 165) (by decide +kernel), List.mem_of_getElem? (i := 350) (by decide +kernel), List.mem_of_getElem? (i := 351) (by decide +kernel)⟩
theorem lw_p14 : lw_okq (⟨"StartTimes$Lesson", "millionths", "()J"⟩, 2) := ⟨⟨by decide +kernel, by decide +kernel⟩, List.mem_of_getElem? (i := 165) (by decide +kernel), List.mem_of_getElem? (i := 361) (by decide +kernel), List.mem_of_getElem? (i := 362) (by decide +kernel)⟩
theorem lw_p15 : lw_okq (⟨"StartTimes$Lesson", "wholeMinutes", "()I"⟩, 2) := ⟨⟨by decide +kernel, by decide +kernel⟩, List.mem_of_getElem? (i := 165) (by decide +kernel), List.mem_of_getElem? (i := 380) (by decide +kernel), List.mem_of_getElem? (i := 381) (by decide +kernel)⟩
def lw_privs_1 : List (MethodName × Nat) := [(⟨"java/lang/Throwable", "fillInStackTrace", "(I)Ljava/lang/Throwable;"⟩, 6), (⟨"StartTimes", "knownZone", "(I)LStartTimes$Zone;"⟩, 13), (⟨"StartTimes", "plannedZone", "(I)LStartTimes$Zone;"⟩, 13), (⟨"StartTimes", "makePlan", "()V"⟩, 13), (⟨"StartTimes", "planZone", "(LStartTimes$Zone;)V"⟩, 13), (⟨"StartTimes", "leaveUnheated", "(LStartTimes$Zone;I)V"⟩, 13), (⟨"StartTimes", "warmthAfter", "(LStartTimes$Zone;III)I"⟩, 13), (⟨"StartTimes$Zone", "wantsWarmth", "()Z"⟩, 10), (⟨"StartTimes", "latestStart", "(LStartTimes$Zone;)I"⟩, 13), (⟨"StartTimes", "warmthIfStarted", "(LStartTimes$Zone;I)I"⟩, 13), (⟨"StartTimes", "shareOf", "(LStartTimes$Zone;I)I"⟩, 13), (⟨"StartTimes", "heatFromStart", "(LStartTimes$Zone;)V"⟩, 13), (⟨"StartTimes$Lesson", "learn", "(III)V"⟩, 2), (⟨"StartTimes$Lesson", "keepInLowestTerms", "(JJ)V"⟩, 2), (⟨"StartTimes$Lesson", "millionths", "()J"⟩, 2), (⟨"StartTimes$Lesson", "wholeMinutes", "()I"⟩, 2)]
theorem lw_r1 : ∀ q ∈ lw_privs_1, lw_okq q := List.forall_mem_cons.mpr ⟨lw_p0, List.forall_mem_cons.mpr ⟨lw_p1, List.forall_mem_cons.mpr ⟨lw_p2, List.forall_mem_cons.mpr ⟨lw_p3, List.forall_mem_cons.mpr ⟨lw_p4, List.forall_mem_cons.mpr ⟨lw_p5, List.forall_mem_cons.mpr ⟨lw_p6, List.forall_mem_cons.mpr ⟨lw_p7, List.forall_mem_cons.mpr ⟨lw_p8, List.forall_mem_cons.mpr ⟨lw_p9, List.forall_mem_cons.mpr ⟨lw_p10, List.forall_mem_cons.mpr ⟨lw_p11, List.forall_mem_cons.mpr ⟨lw_p12, List.forall_mem_cons.mpr ⟨lw_p13, List.forall_mem_cons.mpr ⟨lw_p14, List.forall_mem_cons.mpr ⟨lw_p15, fun _ h => absurd h List.not_mem_nil⟩⟩⟩⟩⟩⟩⟩⟩⟩⟩⟩⟩⟩⟩⟩⟩
theorem lw_p16 : lw_okq (⟨"StartTimes", "weighSets", "(LStartTimes$Zone;II)V"⟩, 13) := ⟨⟨by decide +kernel, by decide +kernel⟩, List.mem_of_getElem? (i := 12) (by decide +kernel), List.mem_of_getElem? (i := 411) (by decide +kernel), List.mem_of_getElem? (i := 412) (by decide +kernel)⟩
theorem lw_p17 : lw_okq (⟨"StartTimes", "warmthThrough", "(LStartTimes$Zone;IIII)I"⟩, 13) := ⟨⟨by decide +kernel, by decide +kernel⟩, List.mem_of_getElem? (i := 12) (by decide +kernel), List.mem_of_getElem? (i := 418) (by decide +kernel), List.mem_of_getElem? (i := 419) (by decide +kernel)⟩
theorem lw_p18 : lw_okq (⟨"StartTimes", "costOfMinutes", "(LStartTimes$Zone;II)J"⟩, 13) := ⟨⟨by decide +kernel, by decide +kernel⟩, List.mem_of_getElem? (i := 12) (by decide +kernel), List.mem_of_getElem? (i := 422) (by decide +kernel), List.mem_of_getElem? (i := 423) (by decide +kernel)⟩
theorem lw_p19 : lw_okq (⟨"StartTimesModel", "fails", "(ZI)Z"⟩, 25) := ⟨⟨by decide +kernel, by decide +kernel⟩, List.mem_of_getElem? (i := 434) (by decide +kernel), List.mem_of_getElem? (i := 529) (by decide +kernel), List.mem_of_getElem? (i := 530) (by decide +kernel)⟩
theorem lw_p20 : lw_okq (⟨"StartTimesModel", "isZone", "(I)Z"⟩, 25) := ⟨⟨by decide +kernel, by decide +kernel⟩, List.mem_of_getElem? (i := 434) (by decide +kernel), List.mem_of_getElem? (i := 537) (by decide +kernel), List.mem_of_getElem? (i := 538) (by decide +kernel)⟩
theorem lw_p21 : lw_okq (⟨"StartTimesModel", "plan", "()V"⟩, 25) := ⟨⟨by decide +kernel, by decide +kernel⟩, List.mem_of_getElem? (i := 434) (by decide +kernel), List.mem_of_getElem? (i := 558) (by decide +kernel), List.mem_of_getElem? (i := 559) (by decide +kernel)⟩
theorem lw_p22 : lw_okq (⟨"StartTimesModel", "findOutsides", "()V"⟩, 25) := ⟨⟨by decide +kernel, by decide +kernel⟩, List.mem_of_getElem? (i := 434) (by decide +kernel), List.mem_of_getElem? (i := 562) (by decide +kernel), List.mem_of_getElem? (i := 563) (by decide +kernel)⟩
theorem lw_p23 : lw_okq (⟨"StartTimesModel", "planZone", "(I)V"⟩, 25) := ⟨⟨by decide +kernel, by decide +kernel⟩, List.mem_of_getElem? (i := 434) (by decide +kernel), List.mem_of_getElem? (i := 566) (by decide +kernel), List.mem_of_getElem? (i := 567) (by decide +kernel)⟩
theorem lw_p24 : lw_okq (⟨"StartTimesModel", "stepped", "(IIII)I"⟩, 25) := ⟨⟨by decide +kernel, by decide +kernel⟩, List.mem_of_getElem? (i := 434) (by decide +kernel), List.mem_of_getElem? (i := 570) (by decide +kernel), List.mem_of_getElem? (i := 571) (by decide +kernel)⟩
theorem lw_p25 : lw_okq (⟨"StartTimesModel", "isWarm", "(III)Z"⟩, 25) := ⟨⟨by decide +kernel, by decide +kernel⟩, List.mem_of_getElem? (i := 434) (by decide +kernel), List.mem_of_getElem? (i := 574) (by decide +kernel), List.mem_of_getElem? (i := 575) (by decide +kernel)⟩
theorem lw_p26 : lw_okq (⟨"StartTimesModel", "heatIn", "(II)I"⟩, 25) := ⟨⟨by decide +kernel, by decide +kernel⟩, List.mem_of_getElem? (i := 434) (by decide +kernel), List.mem_of_getElem? (i := 578) (by decide +kernel), List.mem_of_getElem? (i := 579) (by decide +kernel)⟩
theorem lw_p27 : lw_okq (⟨"StartTimesModel", "areQuarters", "(III)Z"⟩, 25) := ⟨⟨by decide +kernel, by decide +kernel⟩, List.mem_of_getElem? (i := 434) (by decide +kernel), List.mem_of_getElem? (i := 628) (by decide +kernel), List.mem_of_getElem? (i := 629) (by decide +kernel)⟩
theorem lw_p28 : lw_okq (⟨"StartTimesModel", "reckoned", "(IIII)J"⟩, 25) := ⟨⟨by decide +kernel, by decide +kernel⟩, List.mem_of_getElem? (i := 434) (by decide +kernel), List.mem_of_getElem? (i := 632) (by decide +kernel), List.mem_of_getElem? (i := 633) (by decide +kernel)⟩
def lw_privs_2 : List (MethodName × Nat) := [(⟨"StartTimes", "weighSets", "(LStartTimes$Zone;II)V"⟩, 13), (⟨"StartTimes", "warmthThrough", "(LStartTimes$Zone;IIII)I"⟩, 13), (⟨"StartTimes", "costOfMinutes", "(LStartTimes$Zone;II)J"⟩, 13), (⟨"StartTimesModel", "fails", "(ZI)Z"⟩, 25), (⟨"StartTimesModel", "isZone", "(I)Z"⟩, 25), (⟨"StartTimesModel", "plan", "()V"⟩, 25), (⟨"StartTimesModel", "findOutsides", "()V"⟩, 25), (⟨"StartTimesModel", "planZone", "(I)V"⟩, 25), (⟨"StartTimesModel", "stepped", "(IIII)I"⟩, 25), (⟨"StartTimesModel", "isWarm", "(III)Z"⟩, 25), (⟨"StartTimesModel", "heatIn", "(II)I"⟩, 25), (⟨"StartTimesModel", "areQuarters", "(III)Z"⟩, 25), (⟨"StartTimesModel", "reckoned", "(IIII)J"⟩, 25)]
theorem lw_r2 : ∀ q ∈ lw_privs_2, lw_okq q := List.forall_mem_cons.mpr ⟨lw_p16, List.forall_mem_cons.mpr ⟨lw_p17, List.forall_mem_cons.mpr ⟨lw_p18, List.forall_mem_cons.mpr ⟨lw_p19, List.forall_mem_cons.mpr ⟨lw_p20, List.forall_mem_cons.mpr ⟨lw_p21, List.forall_mem_cons.mpr ⟨lw_p22, List.forall_mem_cons.mpr ⟨lw_p23, List.forall_mem_cons.mpr ⟨lw_p24, List.forall_mem_cons.mpr ⟨lw_p25, List.forall_mem_cons.mpr ⟨lw_p26, List.forall_mem_cons.mpr ⟨lw_p27, List.forall_mem_cons.mpr ⟨lw_p28, fun _ h => absurd h List.not_mem_nil⟩⟩⟩⟩⟩⟩⟩⟩⟩⟩⟩⟩⟩
def lw_privs : List (MethodName × Nat) := lw_privs_1 ++ (lw_privs_2)
def lw_tbl : List Cond := k2_sels lw_privs ++ tables_1
theorem lw_privs_ok : ∀ q ∈ lw_privs, lw_okq q := by
  show ∀ q ∈ lw_privs_1 ++ (lw_privs_2), lw_okq q
  exact List.forall_mem_append.mpr ⟨lw_r1, lw_r2⟩
end
section
/-! ===== BEGIN words of one list among another's, by their places ===== -/
theorem goodIn_r {big : List Cond} (ws : List Cond) (ps : List Nat) (hp : ws = ps.filterMap (fun i => big[i]?)) (h : ws.all goodWord = true) : GoodIn big ws := by
  intro w hw
  have h1 := List.all_eq_true.mp h w hw
  rw [hp] at hw
  obtain ⟨i, -, hi⟩ := List.mem_filterMap.mp hw
  have hm : w ∈ big := by first | exact List.mem_of_getElem? hi | exact List.getElem?_mem hi
  exact ⟨hm, good_of_word h1⟩
theorem goodIn_app {big a b : List Cond} (ha : GoodIn big a) (hb : GoodIn big b) : GoodIn big (a ++ b) := fun w h => (List.mem_append.mp h).elim (ha w) (hb w)
theorem goodIn_ca {big a b : List Cond} {c : Cond} (ha : GoodIn big (c :: a)) (hb : GoodIn big b) : GoodIn big (c :: (a ++ b)) := fun w h => (List.mem_cons.mp h).elim (fun e => ha w (List.mem_cons.mpr (Or.inl e))) (fun h => (List.mem_append.mp h).elim (fun h => ha w (List.mem_cons.mpr (Or.inr h))) (hb w))
theorem goodIn_sub {big ws : List Cond} (hm : ∀ w ∈ ws, w ∈ big) (h : ws.all goodWord = true) : GoodIn big ws := fun w hw => ⟨hm w hw, good_of_word (List.all_eq_true.mp h w hw)⟩
/-! ===== END ===== -/

/-! ===== BEGIN exceptions that leave a method, and their catching by the caller (launches without stack traces) ===== -/
section VXA
/-! The laws vx_back, vx_callV, vx_callS, vx_callSW, vx_throw0, vx_throwS follow proofs of the library, with one case more: JvmDerived/Free/Laws.lean (Back.of_free), Shelf42/LK1.lean (callV, callS), Shelf/KitTraced.lean (throwNew0V, throwNewS). -/
/-- where a method has thrown q: the class by its name, the cell, what was written, the world -/
def vx_T (XC : String → State → State → Prop) (st : State) (q : Addr) (t : State) (mc ms : Nat) (free : Addr → Prop) : Prop :=
  ∃ (E : String) (ce : Cell) (L : List Loc), XC E st t ∧ t.heap[q]? = some ce ∧ ce.vm = .none ∧ st.vm.findClass E = some ce.cls ∧ st.WarmedH t.vm ∧ st.sameButNew ({ t with vm := st.vm } : State) L mc ms ∧ ∀ z ∈ L, free z.base
def vx_Q (Qc : Array Value → State → Outcome → State → Prop) (XC : String → State → State → Prop) (mc ms : Nat) (free : Addr → Prop) : Array Value → State → Outcome → State → Prop := fun a st o t =>
  (Qc a st o t ∧ ∃ L, FrameEnd st o t L mc ms ∧ ∀ q ∈ L, free q.base) ∨ ∃ q, o = .threw q ∧ vx_T XC st q t mc ms free
/-- a callee that returns or throws -/
def vx_Met (l : Launch) (y : MethodName) (ws : List Cond) (rm : Room) (Pc : Array Value → State → Prop) (Qc : Array Value → State → Outcome → State → Prop) (XC : String → State → State → Prop) (mc ms : Nat) (free : Addr → Prop) : Prop :=
  MetFree l y (headSpec ws rm) Pc (fun _ _ _ _ _ => True) (vx_Q Qc XC mc ms free)
def vx_Post (XC : String → State → State → Prop) (mc ms : Nat) (free : Addr → Prop) : Pt → Array Value → Addr → Pt → Prop := fun A a q B =>
  ∃ (g : JFrame) (mk : MethodId) (t : State) (L : List Loc) (E : String) (ce : Cell), B.U.heap = t.heap ∧ B.U.vm = t.vm ∧ XC E (A.U.calling g mk a) t ∧ t.heap[q]? = some ce ∧ ce.vm = .none ∧ A.U.vm.findClass E = some ce.cls ∧ B.locs = A.locs ++ L ∧ (∀ z ∈ L, free z.base) ∧ B.cells = A.cells + mc ∧ B.slots = A.slots + ms
def vx_Back (l : Launch) (R : Room) (p : Program) (e : Env) (below : List Frame) (s : State) (sargs : Array Value) (y : MethodName) (len W9 : Nat)
    (Pre : Pt → Array Value → Prop) (Post : Pt → Array Value → Option Value → Pt → Prop) (PostX : Pt → Array Value → Addr → Pt → Prop) : Prop :=
  ∀ (m : MethodId) (meth : Method) (c : Code) (A : Pt) (g : JFrame) (ig : Instr) (mk : MethodId) (a : Array Value),
    Stand p l e R s m sargs below meth c A.U A.locs A.cells A.slots → g.method = m → g.locals.size = c.maxLocals → decode c.code g.pc = .ok (ig, len) →
    2 * g.monitorRoom + (g.stack.map fun v => v.category).sum ≤ W9 → A.U.methodNamed? y = some mk → Pre A a →
    (∃ (v : Option Value) (B : Pt), Stand p l e R s m sargs below meth c B.U B.locs B.cells B.slots ∧ Post A a v B ∧
      Steps p.tables e below (doInvoke e (A.U.setTop g) [] mk a).1 (B.U.setTop { g with pc := g.pc + len, stack := v.toList ++ g.stack })) ∨
    (∃ (q : Addr) (B : Pt), Stand p l e R s m sargs below meth c B.U B.locs B.cells B.slots ∧ PostX A a q B ∧
      Steps p.tables e below (doInvoke e (A.U.setTop g) [] mk a).1 ((B.U.setTop g).pushFrame (.throwing q)))
section Payer
variable {l : Launch} {R : Room} {p : Program} {e : Env} {below : List Frame} {s : State} {sargs : Array Value} {y : MethodName} {len W9 : Nat}
theorem vx_back {ws : List Cond} {rm : Room} {Pc : Array Value → State → Prop} {Qc : Array Value → State → Outcome → State → Prop} {XC : String → State → State → Prop} {mc ms : Nat} {free : Addr → Prop} {bytes : ByteArray} {maxL : Nat} {ret : Option FieldType}
    (hM : vx_Met l y ws rm Pc Qc XC mc ms free) (hblind : FrameBlind Pc) (hrc : rm.cells = mc) (hrs : rm.slots = ms)
    (hframes : rm.frames + 1 ≤ R.frames) (hlocals : W9 + (maxL + 11) + rm.locals ≤ R.locals)
    (hws : ∀ w ∈ ws, ∀ a' U, s.WarmedH U.vm → w.before a' U = true) (hcode : Cond.code y bytes maxL ret ∈ ws) (hinit : ∀ a' U, s.WarmedH U.vm → (Cond.initialized y.cls).before a' U = true) :
    vx_Back l R p e below s sargs y len W9 (PreOf R mc ms Pc) (PostOf Qc mc ms free) (vx_Post XC mc ms free) := by
  intro m meth c A g ig mk a X hg hsize hdg hW hn hp
  have h1 : (headSpec ws rm).pre.before a A.U = true := atoms_intro fun w hw => hws w hw _ _ X.warmed
  have h2 : (Cond.code y bytes maxL ret).before a A.U = true := hws _ hcode _ _ X.warmed
  have h3 : (Cond.initialized y.cls).before a A.U = true := hinit _ _ X.warmed
  have h4 : A.cells + (headSpec ws rm).room.cells ≤ R.cells := by rw [show (headSpec ws rm).room.cells = mc from hrc]; exact hp.1
  have h5 : A.slots + (headSpec ws rm).room.slots ≤ R.slots := by rw [show (headSpec ws rm).room.slots = ms from hrs]; exact hp.2.1
  have hPc : Pc a (A.U.calling g mk a) := hblind _ _ _ _ hp.2.2
  obtain ⟨U, Ls, c0, s0⟩ := A
  dsimp only [Pt.U, Pt.locs, Pt.cells, Pt.slots] at h1 h2 h3 h4 h5 X hn hPc ⊢
  obtain ⟨methY, cY, hmY, hcY, -, hlY, -, -, -, -⟩ := Cond.code_spec hn h2
  obtain ⟨kY, hkY, -⟩ := className_of_methodNamed hn
  have hinitY : kY.init = .initialized := Cond.initialized_spec (findClass_of_methodNamed hn) hkY h3
  have h : At U g.method c below := by rw [hg]; exact X.here
  have hlocals9 : W9 + (maxL + 11) + (headSpec ws rm).room.locals ≤ R.locals := hlocals
  have happ : (headSpec ws rm).appliesLoose y e.platform (U.calling g mk a) = true :=
    Spec.appliesLoose_calling (g := g) h hdg hn hkY hinitY
      (X.room_calling (g := g) (R' := (headSpec ws rm).room) hsize hmY hcY hframes (by rw [hlY]; omega) h4 h5) h1
  obtain ⟨mid, hmid⟩ := h.above
  have hfr : (U.setTop g).frames = (.java g :: mid) ++ below := by rw [State.frames_setTop' g h.top, hmid]; rfl
  obtain ⟨o, s₂, hsteps, -, hend, hq⟩ := Steps.callFree hM p X.admits X.cas X.clock (acts := []) hfr happ hPc trivial
  have hq' : vx_Q Qc XC mc ms free a (U.calling g mk a) o s₂ := hq
  rw [State.frames_setTop' g h.top] at hend
  obtain ⟨g₀, hg0⟩ := Option.isSome_iff_exists.mp h.top
  obtain ⟨r, hr⟩ := State.topJava?_eq_some.mp hg0
  have hr' : (({ U with heap := s₂.heap, slotsUsed := s₂.slotsUsed } : State).setVm s₂.vm).frames = .java g₀ :: r := hr
  rcases hq' with ⟨hqc, L, hfe, hL⟩ | ⟨q, rfl, E, ce, L, hx, hce, hcv, hcl, hW₂, hsm, hL⟩
  · obtain ⟨⟨v, rfl⟩, hW₂, e2, q2, q3, q4, q5, q6⟩ := id hfe
    have e3 : s₂ = ({ (U.calling g mk a).setFrames s₂.frames with heap := s₂.heap, slotsUsed := s₂.slotsUsed } : State).setVm s₂.vm := by
      have : s₂ = ({ s₂ with vm := (U.calling g mk a).vm } : State).setVm s₂.vm := rfl
      rw [e2] at this
      exact this
    obtain ⟨c₂, i₂, len₂, hc₂, hd₂, hf₂⟩ := hend
    have hW' : U.WarmedH s₂.vm := hW₂
    have hcc : c₂ = c := by
      have h1 : s₂.code? g.method = U.code? g.method := by
        rw [State.code?_eq, State.code?_eq, hW'.alike.method?]
      exact Option.some.inj (hc₂.symm.trans (h1.trans h.code))
    subst hcc
    have hlen : len₂ = len := by rw [hdg] at hd₂; cases hd₂; rfl
    subst hlen
    have hs₂ : s₂ = (({ U with heap := s₂.heap, slotsUsed := s₂.slotsUsed } : State).setVm s₂.vm).setTop { g with pc := g.pc + len₂, stack := v.toList ++ g.stack } := by
      refine e3.trans ?_
      rw [hf₂, State.calling_eq h.top, State.setFrames_setFrames, State.setTop_of_frames _ hr', hr]
      rfl
    have hsame : U.sameButNew ({ U with heap := s₂.heap, slotsUsed := s₂.slotsUsed } : State) L mc ms := by
      refine ⟨?_, q2, q3, q4, q5, q6⟩
      obtain ⟨t, ht, -⟩ := State.frames_cons hr
      show ({ U with heap := s₂.heap, slotsUsed := s₂.slotsUsed } : State) = { U.setFrames U.frames with heap := s₂.heap, slotsUsed := s₂.slotsUsed }
      rw [State.setFrames_self ht]
    subst hg
    refine Or.inl ⟨v, ⟨(({ U with heap := s₂.heap, slotsUsed := s₂.slotsUsed } : State).setVm s₂.vm), Ls ++ L, c0 + mc, s0 + ms⟩,
      ⟨X.admits, X.cas, X.clock, X.frames, X.room, X.hears, X.method, X.code, (X.here.setHeapUsed s₂.heap s₂.slotsUsed).setVm hW'.alike, X.tail, State.WarmedH.trans X.warmed hW', X.limits, X.bytes, X.same.trans (hsame.setVm s.vm)⟩,
      ⟨g, mk, s₂, L, rfl, rfl, hqc, rfl, hL, rfl, rfl⟩, ?_⟩
    show Steps p.tables e below _ ((({ U with heap := s₂.heap, slotsUsed := s₂.slotsUsed } : State).setVm s₂.vm).setTop { g with pc := g.pc + len₂, stack := v.toList ++ g.stack })
    rw [← hs₂]
    exact hsteps
  · obtain ⟨e2, q2, q3, q4, q5, q6⟩ := id hsm
    have e3 : s₂ = ({ (U.calling g mk a).setFrames s₂.frames with heap := s₂.heap, slotsUsed := s₂.slotsUsed } : State).setVm s₂.vm := by
      have : s₂ = ({ s₂ with vm := (U.calling g mk a).vm } : State).setVm s₂.vm := rfl
      rw [e2] at this
      exact this
    have hf₂ : s₂.frames = .throwing q :: .java g :: U.frames.tail := hend
    have hW' : U.WarmedH s₂.vm := hW₂
    have hs₂ : s₂ = ((({ U with heap := s₂.heap, slotsUsed := s₂.slotsUsed } : State).setVm s₂.vm).setTop g).pushFrame (.throwing q) := by
      refine e3.trans ?_
      rw [hf₂, State.calling_eq h.top, State.setFrames_setFrames, State.pushFrame, State.frames_setTop _ hr', State.setTop_of_frames _ hr', State.setFrames_setFrames, hr]
      rfl
    have hsame : U.sameButNew ({ U with heap := s₂.heap, slotsUsed := s₂.slotsUsed } : State) L mc ms := by
      refine ⟨?_, q2, q3, q4, q5, q6⟩
      obtain ⟨t, ht, -⟩ := State.frames_cons hr
      show ({ U with heap := s₂.heap, slotsUsed := s₂.slotsUsed } : State) = { U.setFrames U.frames with heap := s₂.heap, slotsUsed := s₂.slotsUsed }
      rw [State.setFrames_self ht]
    subst hg
    refine Or.inr ⟨q, ⟨(({ U with heap := s₂.heap, slotsUsed := s₂.slotsUsed } : State).setVm s₂.vm), Ls ++ L, c0 + mc, s0 + ms⟩,
      ⟨X.admits, X.cas, X.clock, X.frames, X.room, X.hears, X.method, X.code, (X.here.setHeapUsed s₂.heap s₂.slotsUsed).setVm hW'.alike, X.tail, State.WarmedH.trans X.warmed hW', X.limits, X.bytes, X.same.trans (hsame.setVm s.vm)⟩,
      ⟨g, mk, s₂, L, E, ce, rfl, rfl, hx, hce, hcv, hcl, rfl, hL, rfl, rfl⟩, ?_⟩
    show Steps p.tables e below _ (((({ U with heap := s₂.heap, slotsUsed := s₂.slotsUsed } : State).setVm s₂.vm).setTop g).pushFrame (.throwing q))
    rw [← hs₂]
    exact hsteps
end Payer
section Calls
variable {p : Program} {l : Launch} {e : Env} {R : Room} {s : State} {m : MethodId} {args : Array Value} {below : List Frame} {meth : Method} {c : Code} {T : State} {locs : List Loc} {cells slots : Nat}
theorem vx_callV (X : Stand p l e R s m args below meth c T locs cells slots) (hexec : p.tables.exec = Jvm.exec) {own C : String} {index : Nat} {y : MethodName} {bytes : ByteArray} {maxL : Nat} {ret : Option FieldType}
    (hown : s.vm.findClass own = some m.cls) (hlink : (Cond.methodLink own index y).before args s = true) (hinst : (Cond.instanceMethod y).before args s = true) (hsel : (Cond.selects C y y).before args s = true)
    (hcode : (Cond.code y bytes maxL ret).before args s = true) (hy : y.cls ≠ "java/lang/invoke/MethodHandle" ∧ y.cls ≠ "java/lang/invoke/VarHandle")
    {W9 : Nat} {Pre : Pt → Array Value → Prop} {Post : Pt → Array Value → Option Value → Pt → Prop} {PostX : Pt → Array Value → Addr → Pt → Prop} (hK : vx_Back l R p e below s args y 3 W9 Pre Post PostX)
    {b : Addr} {cellB : Cell} (hcell : T.heap[b]? = some cellB) (hobj : cellB.vm.isStatics = false) (hcls : s.vm.findClass C = some cellB.cls)
    {g : JFrame} (hg : g.method = m) (hsize : g.locals.size = c.maxLocals) {argsL rest : List Value} (hlen : ∀ sig, parseMethodDescriptor y.desc = some sig → argsL.length = sig.parameters.length)
    (hstack : g.stack = argsL.reverse ++ .ref b :: rest) (hW : 2 * g.monitorRoom + (rest.map fun v => v.category).sum ≤ W9) (hdg : decode c.code g.pc = .ok (.invokevirtual index, 3))
    (hpre : ∀ vm₁, s.WarmedH vm₁ → Pre ⟨T.setVm vm₁, locs, cells, slots⟩ (Value.ref b :: argsL).toArray) :
    (∃ (v : Option Value) (vm₁ : Vm) (B : Pt), s.WarmedH vm₁ ∧ Stand p l e R s m args below meth c B.U B.locs B.cells B.slots ∧ Post ⟨T.setVm vm₁, locs, cells, slots⟩ (Value.ref b :: argsL).toArray v B ∧
      ∀ target, Steps p.tables e below (B.U.setTop { g with pc := g.pc + 3, stack := v.toList ++ rest }) target → Steps p.tables e below (T.setTop g) target) ∨
    (∃ (q : Addr) (vm₁ : Vm) (B : Pt), s.WarmedH vm₁ ∧ Stand p l e R s m args below meth c B.U B.locs B.cells B.slots ∧ PostX ⟨T.setVm vm₁, locs, cells, slots⟩ (Value.ref b :: argsL).toArray q B ∧
      Steps p.tables e below (T.setTop g) ((B.U.setTop { g with stack := rest }).pushFrame (.throwing q))) := by
  obtain ⟨mk, methM, hnamed, hmethM, hstM, habM⟩ := Cond.instanceMethod_spec hinst
  obtain ⟨methM', cM, hmethM', -, -, -, -, -, -, hsigM⟩ := Cond.code_spec hnamed hcode
  cases hmethM.symm.trans hmethM'
  obtain ⟨c2, r2, m2, q1, q2, q3, q4, kP, hkP, hkPi⟩ := Cond.selects_spec hsel
  cases hcls.symm.trans q1
  cases (State.methodFound?_of_named hnamed hy).symm.trans q2
  cases hnamed.symm.trans q3
  have hselP : selectMethod e.platform s.vm cellB.cls mk = .method mk := by rw [Launch.admits_selectMethod X.admits]; exact q4
  obtain ⟨vm₁, X₁, hstep₁⟩ := X.invokevirtual hexec hown hlink hnamed hmethM hstM hkP hkPi hy (a := b) (cell := cellB) hcell
    (fun z h => by rw [h] at hobj; cases hobj) hselP hmethM habM hkP hkPi (g := g) hg (argsL := argsL) (rest := rest) (hlen _ hsigM) hstack hdg
  rcases hK m meth c ⟨T.setVm vm₁, locs, cells, slots⟩ { g with stack := rest } (.invokevirtual index) mk (Value.ref b :: argsL).toArray X₁ hg hsize hdg hW (X₁.named hnamed) (hpre vm₁ X₁.warmed) with ⟨v, B, X', hpost, hsteps⟩ | ⟨q, B, X', hpost, hsteps⟩
  · exact Or.inl ⟨v, vm₁, B, X₁.warmed, X', hpost, fun target h => hstep₁ _ fun acts => by rw [doInvoke_state]; exact hsteps.trans h⟩
  · exact Or.inr ⟨q, vm₁, B, X₁.warmed, X', hpost, hstep₁ _ fun acts => by rw [doInvoke_state]; exact hsteps⟩
theorem vx_callS (X : Stand p l e R s m args below meth c T locs cells slots) (hexec : p.tables.exec = Jvm.exec) {own : String} {index : Nat} {y : MethodName} {bytes : ByteArray} {maxL : Nat} {ret : Option FieldType}
    (hown : s.vm.findClass own = some m.cls) (hlink : (Cond.methodLink own index y).before args s = true) (hstat : (Cond.static y).before args s = true) (hinit : (Cond.initialized y.cls).before args s = true)
    (hcode : (Cond.code y bytes maxL ret).before args s = true) (hy : y.cls ≠ "java/lang/invoke/MethodHandle" ∧ y.cls ≠ "java/lang/invoke/VarHandle")
    {W9 : Nat} {Pre : Pt → Array Value → Prop} {Post : Pt → Array Value → Option Value → Pt → Prop} {PostX : Pt → Array Value → Addr → Pt → Prop} (hK : vx_Back l R p e below s args y 3 W9 Pre Post PostX)
    {g : JFrame} (hg : g.method = m) (hsize : g.locals.size = c.maxLocals) {argsL rest : List Value} (hlen : ∀ sig, parseMethodDescriptor y.desc = some sig → argsL.length = sig.parameters.length)
    (hstack : g.stack = argsL.reverse ++ rest) (hW : 2 * g.monitorRoom + (rest.map fun v => v.category).sum ≤ W9) (hdg : decode c.code g.pc = .ok (.invokestatic index, 3))
    (hpre : ∀ vm₁, s.WarmedH vm₁ → Pre ⟨T.setVm vm₁, locs, cells, slots⟩ argsL.toArray) :
    (∃ (v : Option Value) (vm₁ : Vm) (B : Pt), s.WarmedH vm₁ ∧ Stand p l e R s m args below meth c B.U B.locs B.cells B.slots ∧ Post ⟨T.setVm vm₁, locs, cells, slots⟩ argsL.toArray v B ∧
      ∀ target, Steps p.tables e below (B.U.setTop { g with pc := g.pc + 3, stack := v.toList ++ rest }) target → Steps p.tables e below (T.setTop g) target) ∨
    (∃ (q : Addr) (vm₁ : Vm) (B : Pt), s.WarmedH vm₁ ∧ Stand p l e R s m args below meth c B.U B.locs B.cells B.slots ∧ PostX ⟨T.setVm vm₁, locs, cells, slots⟩ argsL.toArray q B ∧
      Steps p.tables e below (T.setTop g) ((B.U.setTop { g with stack := rest }).pushFrame (.throwing q))) := by
  obtain ⟨mk, hnamed⟩ := Cond.code_named hcode
  obtain ⟨methM, cM, hmethM, -, -, -, -, -, -, hsigM⟩ := Cond.code_spec hnamed hcode
  have hstatic : methM.isStatic = true := Cond.static_spec hnamed hmethM hstat
  obtain ⟨kP, hkP, -⟩ := className_of_methodNamed hnamed
  have hinitP : kP.init = .initialized := Cond.initialized_spec (findClass_of_methodNamed hnamed) hkP hinit
  obtain ⟨vm₁, X₁, hstep₁⟩ := X.invokestatic hexec hown hlink hnamed hmethM hstatic hkP hinitP hy (g := g) hg (argsL := argsL) (rest := rest) (hlen _ hsigM) hstack hdg
  rcases hK m meth c ⟨T.setVm vm₁, locs, cells, slots⟩ { g with stack := rest } (.invokestatic index) mk argsL.toArray X₁ hg hsize hdg hW (X₁.named hnamed) (hpre vm₁ X₁.warmed) with ⟨v, B, X', hpost, hsteps⟩ | ⟨q, B, X', hpost, hsteps⟩
  · exact Or.inl ⟨v, vm₁, B, X₁.warmed, X', hpost, fun target h => hstep₁ _ fun acts => by rw [doInvoke_state]; exact hsteps.trans h⟩
  · exact Or.inr ⟨q, vm₁, B, X₁.warmed, X', hpost, hstep₁ _ fun acts => by rw [doInvoke_state]; exact hsteps⟩
end Calls
theorem vx_cls {s : State} {T : State} {vm₁ : Vm} {E : String} {k : ClassId} (hW : s.WarmedH vm₁) (h : (T.setVm vm₁).vm.findClass E = some k) : s.vm.findClass E = some k := by
  have h1 : vm₁.findClass E = some k := h
  rw [hW.alike.findClass] at h1
  exact h1
/-- the method's frame g, with q thrown over it -/
def vx_W (p : Program) (l : Launch) (e : Env) (R : Room) (s : State) (m : MethodId) (args : Array Value) (below : List Frame) (meth : Method) (c : Code) (H : Heap) (locs : List Loc) (cells slots : Nat) (Q : State → Prop) (g : JFrame) (q : Addr) : Prop :=
  ∀ T : State, T.heap = H → Stand p l e R s m args below meth c T locs cells slots → ∃ t, Steps p.tables e below ((T.setTop g).pushFrame (.throwing q)) t ∧ Q t
def vx_Run (p : Program) (l : Launch) (e : Env) (R : Room) (s : State) (m : MethodId) (args : Array Value) (below : List Frame) (meth : Method) (c : Code) (H : Heap) (locs : List Loc) (cells slots mc ms : Nat) (g : JFrame) (rest : List Value) (Qa : State → Outcome → State → Prop) (XC : String → State → State → Prop) (free : Addr → Prop) : Prop :=
  ∀ T : State, T.heap = H → Stand p l e R s m args below meth c T locs cells slots →
    (∃ (v : Option Value) (st₀ t T' : State) (L : List Loc), st₀.heap = H ∧ Stand p l e R s m args below meth c T' (locs ++ L) (cells + mc) (slots + ms) ∧ (∀ q ∈ L, free q.base) ∧ T'.heap = t.heap ∧ T'.vm = t.vm ∧ Qa st₀ (.returned v) t ∧
      Goes p e below T g T' { g with pc := g.pc + 3, stack := v.toList ++ rest }) ∨
    (∃ (q : Addr) (st₀ t T' : State) (L : List Loc) (E : String) (ce : Cell), st₀.heap = H ∧ Stand p l e R s m args below meth c T' (locs ++ L) (cells + mc) (slots + ms) ∧ (∀ z ∈ L, free z.base) ∧ T'.heap = t.heap ∧ T'.vm = t.vm ∧ XC E st₀ t ∧ t.heap[q]? = some ce ∧ ce.vm = .none ∧ s.vm.findClass E = some ce.cls ∧
      Steps p.tables e below (T.setTop g) ((T'.setTop { g with stack := rest }).pushFrame (.throwing q)))
def vx_X {S : Type} (px : S → Prop) (B : String → S → State → Prop) (A : Nat → Prop) : String → State → State → Prop := fun E st t => ∃ u : S, px u ∧ B E u t ∧ va_F A st t
section Runs
variable {p : Program} {l : Launch} {e : Env} {R : Room} {s : State} {m : MethodId} {args : Array Value} {below : List Frame} {meth : Method} {c : Code} {H : Heap} {locs : List Loc} {cells slots : Nat}
variable {y : MethodName} {bytes cc : ByteArray} {maxL nL mc ms n index : Nat} {ret : Option FieldType} {ws : List Cond} {rm : Room} {Pc : Array Value → State → Prop} {Qc : Array Value → State → Outcome → State → Prop} {XC : String → State → State → Prop} {free : Addr → Prop} {Ts : List Cond} {own C : String} {b : Addr} {As rest : List Value} {g : JFrame}
theorem vx_callBack (cb : CallB R s args own index y bytes maxL ret ws rm mc ms n) (hM : vx_Met l y ws rm Pc Qc XC mc ms free) (hbl : FrameBlind Pc) : vx_Back l R p e below s args y 3 8 (PreOf R mc ms Pc) (PostOf Qc mc ms free) (vx_Post XC mc ms free) := by
  obtain ⟨hrc, hrs, hfr, hlo, hws, hcw, -, hini, -⟩ := cb
  exact vx_back (bytes := bytes) (maxL := maxL) (ret := ret) hM hbl hrc hrs hfr hlo hws hcw (fun a' U hW => word_at hW (Or.inl (by first | rfl | simp [Cond.onTables, Cond.keeps, Cond.steady])) hini)
theorem vx_runV (S : CallFix p m c cc nL s args Ts own) (hM : vx_Met l y ws rm Pc Qc XC mc ms free) (cw : CallW R s args own C index y bytes maxL ret ws rm mc ms n) (hp : PreV s H C b Pc As)
    (hg : g.method = m) (hn : As.length = n) (hsize : g.locals.size = nL) (hstack : g.stack = As.reverse ++ .ref b :: rest) (hW : 2 * g.monitorRoom + (rest.map fun v => v.category).sum ≤ 8) (hdg : decode cc g.pc = .ok (.invokevirtual index, 3)) (hf : cells + mc ≤ R.cells ∧ slots + ms ≤ R.slots) :
    vx_Run p l e R s m args below meth c H locs cells slots mc ms g rest (Qc (Value.ref b :: As).toArray) XC free := by
  have hK : vx_Back l R p e below s args y 3 8 (PreOf R mc ms Pc) (PostOf Qc mc ms free) (vx_Post XC mc ms free) := vx_callBack cw.1 hM hp.1
  obtain ⟨⟨-, -, -, -, -, -, hcode, -, hy, hlen, hl⟩, hin, hse⟩ := cw
  obtain ⟨hx, hb, hml, ho, -⟩ := S
  obtain ⟨-, ⟨cellB, hcB, hoB, hclB⟩, hPc⟩ := hp
  intro T hT X
  rcases vx_callV X hx (C := C) (bytes := bytes) (maxL := maxL) (ret := ret) ho hl hin hse hcode hy hK (by rw [hT]; exact hcB) hoB hclB hg (hsize.trans hml.symm) (argsL := As) (rest := rest) (fun sig h => hn.trans (hlen sig h)) hstack hW (by rw [hb]; exact hdg)
    (fun vm₁ hW₁ => ⟨hf.1, hf.2, hPc (T.setVm vm₁) hT hW₁⟩) with ⟨v, vm₁, ⟨U', l2, c2, s2⟩, hW₁, X', ⟨g', mk, t, L, e1, e2, hq, h1, hL, h2, h3⟩, st⟩ | ⟨q, vm₁, ⟨U', l2, c2, s2⟩, hW₁, X', ⟨g', mk, t, L, E, ce, e1, e2, hq, hce, hcv, hcl, h1, hL, h2, h3⟩, st⟩
  · dsimp only [Pt.U, Pt.locs, Pt.cells, Pt.slots] at X' e1 e2 h1 h2 h3 st
    subst h1; subst h2; subst h3
    exact Or.inl ⟨v, (T.setVm vm₁).calling g' mk (Value.ref b :: As).toArray, t, U', L, hT, X', hL, e1, e2, hq, st⟩
  · dsimp only [Pt.U, Pt.locs, Pt.cells, Pt.slots] at X' e1 e2 h1 h2 h3 st hcl
    subst h1; subst h2; subst h3
    exact Or.inr ⟨q, (T.setVm vm₁).calling g' mk (Value.ref b :: As).toArray, t, U', L, E, ce, hT, X', hL, e1, e2, hq, hce, hcv, vx_cls hW₁ hcl, st⟩
theorem vx_runS (S : CallFix p m c cc nL s args Ts own) (hM : vx_Met l y ws rm Pc Qc XC mc ms free) (cw : CallB R s args own index y bytes maxL ret ws rm mc ms n ∧ (Cond.static y).before args s = true) (hp : PreS s H Pc As)
    (hg : g.method = m) (hn : As.length = n) (hsize : g.locals.size = nL) (hstack : g.stack = As.reverse ++ rest) (hW : 2 * g.monitorRoom + (rest.map fun v => v.category).sum ≤ 8) (hdg : decode cc g.pc = .ok (.invokestatic index, 3)) (hf : cells + mc ≤ R.cells ∧ slots + ms ≤ R.slots) :
    vx_Run p l e R s m args below meth c H locs cells slots mc ms g rest (Qc As.toArray) XC free := by
  have hK : vx_Back l R p e below s args y 3 8 (PreOf R mc ms Pc) (PostOf Qc mc ms free) (vx_Post XC mc ms free) := vx_callBack cw.1 hM hp.1
  obtain ⟨⟨-, -, -, -, -, -, hcode, hini, hy, hlen, hl⟩, hstt⟩ := cw
  obtain ⟨hx, hb, hml, ho, -⟩ := S
  intro T hT X
  rcases vx_callS X hx (bytes := bytes) (maxL := maxL) (ret := ret) ho hl hstt hini hcode hy hK hg (hsize.trans hml.symm) (argsL := As) (rest := rest) (fun sig h => hn.trans (hlen sig h)) hstack hW (by rw [hb]; exact hdg)
    (fun vm₁ hW₁ => ⟨hf.1, hf.2, hp.2 (T.setVm vm₁) hT hW₁⟩) with ⟨v, vm₁, ⟨U', l2, c2, s2⟩, hW₁, X', ⟨g', mk, t, L, e1, e2, hq, h1, hL, h2, h3⟩, st⟩ | ⟨q, vm₁, ⟨U', l2, c2, s2⟩, hW₁, X', ⟨g', mk, t, L, E, ce, e1, e2, hq, hce, hcv, hcl, h1, hL, h2, h3⟩, st⟩
  · dsimp only [Pt.U, Pt.locs, Pt.cells, Pt.slots] at X' e1 e2 h1 h2 h3 st
    subst h1; subst h2; subst h3
    exact Or.inl ⟨v, (T.setVm vm₁).calling g' mk As.toArray, t, U', L, hT, X', hL, e1, e2, hq, st⟩
  · dsimp only [Pt.U, Pt.locs, Pt.cells, Pt.slots] at X' e1 e2 h1 h2 h3 st hcl
    subst h1; subst h2; subst h3
    exact Or.inr ⟨q, (T.setVm vm₁).calling g' mk As.toArray, t, U', L, E, ce, hT, X', hL, e1, e2, hq, hce, hcv, vx_cls hW₁ hcl, st⟩
end Runs
section Rows
variable {p : Program} {l : Launch} {e : Env} {R : Room} {s : State} {m : MethodId} {args : Array Value} {below : List Frame} {meth : Method} {c : Code} {H : Heap} {locs : List Loc} {cells slots : Nat} {Q : State → Prop}
variable {mc ms : Nat} {free : Addr → Prop} {A0 A1 : Nat → Prop} {H0 : Heap} {a : Array Value} {pc : Nat} {ls : Array Slot} {st0 rest : List Value}
theorem vx_keep {st₀ t T' : State} {L : List Loc} (h0 : st₀.heap = H) (e1 : T'.heap = t.heap) (hS : va_S A0 H0 H locs) (hA : ∀ q, q < H.size → A1 q → A0 q) (hf : ∀ q, free q → A0 q) (hL : ∀ q ∈ L, free q.base) (hF : va_F A1 st₀ t) :
    H.size ≤ T'.heap.size ∧ (∀ q : Nat, q < H.size → ¬ A1 q → T'.heap[q]? = H[q]?) ∧ va_S A0 H0 T'.heap (locs ++ L) := by
  obtain ⟨hz, hk⟩ := hF
  rw [h0] at hz hk
  exact ⟨by rw [e1]; exact hz, fun q h1 h2 => by rw [e1]; exact hk q h1 h2,
    ⟨Nat.le_trans hS.1 (by rw [e1]; exact hz), fun q h1 h2 => by rw [e1, hk q (Nat.lt_of_lt_of_le h1 hS.1) (fun z => h2 (hA q (Nat.lt_of_lt_of_le h1 hS.1) z))]; exact hS.2.1 q h1 h2, fun q hq => by
      rcases List.mem_append.mp hq with h | h
      · exact hS.2.2 q h
      · exact hf _ (hL q h)⟩⟩
theorem vx_calli {S SX : Type} {post : Int32 → S → Prop} {px : SX → Prop} {B : S → State → Prop} {BX : String → SX → State → Prop} {AX : Nat → Prop} (hr : vx_Run p l e R s m args below meth c H locs cells slots mc ms (F0 m pc ls st0) rest (va_Qi post B A1 a) (vx_X px BX AX) free) (hS : va_S A0 H0 H locs) (hA : ∀ q, q < H.size → A1 q → A0 q) (hf : ∀ q, free q → A0 q) (hAX : ∀ q, q < H.size → AX q → A0 q)
    (kx : ∀ (E : String) (ce : Cell) (q9 : Addr) (u : SX) (t : State) (H1 : Heap) (locs1 : List Loc), t.heap = H1 → s.vm.Alike t.vm → px u → BX E u t → H.size ≤ H1.size → (∀ q : Nat, q < H.size → ¬ AX q → H1[q]? = H[q]?) → va_S A0 H0 H1 locs1 → H1[q9]? = some ce → ce.vm = .none → s.vm.findClass E = some ce.cls → vx_W p l e R s m args below meth c H1 locs1 (cells + mc) (slots + ms) Q (F0 m pc ls rest) q9)
    (kk : ∀ (r : Int32) (u : S) (t : State) (H1 : Heap) (locs1 : List Loc), t.heap = H1 → s.vm.Alike t.vm → post r u → B u t → H.size ≤ H1.size → (∀ q : Nat, q < H.size → ¬ A1 q → H1[q]? = H[q]?) → va_S A0 H0 H1 locs1 → W p l e R s m args below meth c H1 locs1 (cells + mc) (slots + ms) Q (F0 m (pc + 3) ls (.int r :: rest))) : W p l e R s m args below meth c H locs cells slots Q (F0 m pc ls st0) := by
  intro T hT X
  rcases hr T hT X with ⟨v, st₀, t, T', L, h0, X', hL, e1, e2, ⟨⟨r, u, hv, hp, hb⟩, hF⟩, st⟩ | ⟨q, st₀, t, T', L, E, ce, h0, X', hL, e1, e2, ⟨u, hp, hb, hF⟩, hce, hcv, hcl, st⟩
  · cases hv
    obtain ⟨k1, k2, k3⟩ := vx_keep h0 e1 hS hA hf hL hF
    obtain ⟨t2, a1, b1⟩ := kk r u t T'.heap (locs ++ L) e1.symm (by rw [← e2]; exact X'.warmed.alike) hp hb k1 k2 k3 T' rfl X'
    exact ⟨t2, st t2 a1, b1⟩
  · obtain ⟨k1, k2, k3⟩ := vx_keep h0 e1 hS hAX hf hL hF
    obtain ⟨t2, a1, b1⟩ := kx E ce q u t T'.heap (locs ++ L) e1.symm (by rw [← e2]; exact X'.warmed.alike) hp hb k1 k2 k3 (by rw [e1]; exact hce) hcv hcl T' rfl X'
    exact ⟨t2, st.trans a1, b1⟩
theorem vx_calll {S SX : Type} {post : Int64 → S → Prop} {px : SX → Prop} {B : S → State → Prop} {BX : String → SX → State → Prop} {AX : Nat → Prop} (hr : vx_Run p l e R s m args below meth c H locs cells slots mc ms (F0 m pc ls st0) rest (va_Ql post B A1 a) (vx_X px BX AX) free) (hS : va_S A0 H0 H locs) (hA : ∀ q, q < H.size → A1 q → A0 q) (hf : ∀ q, free q → A0 q) (hAX : ∀ q, q < H.size → AX q → A0 q)
    (kx : ∀ (E : String) (ce : Cell) (q9 : Addr) (u : SX) (t : State) (H1 : Heap) (locs1 : List Loc), t.heap = H1 → s.vm.Alike t.vm → px u → BX E u t → H.size ≤ H1.size → (∀ q : Nat, q < H.size → ¬ AX q → H1[q]? = H[q]?) → va_S A0 H0 H1 locs1 → H1[q9]? = some ce → ce.vm = .none → s.vm.findClass E = some ce.cls → vx_W p l e R s m args below meth c H1 locs1 (cells + mc) (slots + ms) Q (F0 m pc ls rest) q9)
    (kk : ∀ (r : Int64) (u : S) (t : State) (H1 : Heap) (locs1 : List Loc), t.heap = H1 → s.vm.Alike t.vm → post r u → B u t → H.size ≤ H1.size → (∀ q : Nat, q < H.size → ¬ A1 q → H1[q]? = H[q]?) → va_S A0 H0 H1 locs1 → W p l e R s m args below meth c H1 locs1 (cells + mc) (slots + ms) Q (F0 m (pc + 3) ls (.long r :: rest))) : W p l e R s m args below meth c H locs cells slots Q (F0 m pc ls st0) := by
  intro T hT X
  rcases hr T hT X with ⟨v, st₀, t, T', L, h0, X', hL, e1, e2, ⟨⟨r, u, hv, hp, hb⟩, hF⟩, st⟩ | ⟨q, st₀, t, T', L, E, ce, h0, X', hL, e1, e2, ⟨u, hp, hb, hF⟩, hce, hcv, hcl, st⟩
  · cases hv
    obtain ⟨k1, k2, k3⟩ := vx_keep h0 e1 hS hA hf hL hF
    obtain ⟨t2, a1, b1⟩ := kk r u t T'.heap (locs ++ L) e1.symm (by rw [← e2]; exact X'.warmed.alike) hp hb k1 k2 k3 T' rfl X'
    exact ⟨t2, st t2 a1, b1⟩
  · obtain ⟨k1, k2, k3⟩ := vx_keep h0 e1 hS hAX hf hL hF
    obtain ⟨t2, a1, b1⟩ := kx E ce q u t T'.heap (locs ++ L) e1.symm (by rw [← e2]; exact X'.warmed.alike) hp hb k1 k2 k3 (by rw [e1]; exact hce) hcv hcl T' rfl X'
    exact ⟨t2, st.trans a1, b1⟩
theorem vx_callf {S SX : Type} {post : UInt32 → S → Prop} {px : SX → Prop} {B : S → State → Prop} {BX : String → SX → State → Prop} {AX : Nat → Prop} (hr : vx_Run p l e R s m args below meth c H locs cells slots mc ms (F0 m pc ls st0) rest (va_Qf post B A1 a) (vx_X px BX AX) free) (hS : va_S A0 H0 H locs) (hA : ∀ q, q < H.size → A1 q → A0 q) (hf : ∀ q, free q → A0 q) (hAX : ∀ q, q < H.size → AX q → A0 q)
    (kx : ∀ (E : String) (ce : Cell) (q9 : Addr) (u : SX) (t : State) (H1 : Heap) (locs1 : List Loc), t.heap = H1 → s.vm.Alike t.vm → px u → BX E u t → H.size ≤ H1.size → (∀ q : Nat, q < H.size → ¬ AX q → H1[q]? = H[q]?) → va_S A0 H0 H1 locs1 → H1[q9]? = some ce → ce.vm = .none → s.vm.findClass E = some ce.cls → vx_W p l e R s m args below meth c H1 locs1 (cells + mc) (slots + ms) Q (F0 m pc ls rest) q9)
    (kk : ∀ (r : UInt32) (u : S) (t : State) (H1 : Heap) (locs1 : List Loc), t.heap = H1 → s.vm.Alike t.vm → post r u → B u t → H.size ≤ H1.size → (∀ q : Nat, q < H.size → ¬ A1 q → H1[q]? = H[q]?) → va_S A0 H0 H1 locs1 → W p l e R s m args below meth c H1 locs1 (cells + mc) (slots + ms) Q (F0 m (pc + 3) ls (.float r :: rest))) : W p l e R s m args below meth c H locs cells slots Q (F0 m pc ls st0) := by
  intro T hT X
  rcases hr T hT X with ⟨v, st₀, t, T', L, h0, X', hL, e1, e2, ⟨⟨r, u, hv, hp, hb⟩, hF⟩, st⟩ | ⟨q, st₀, t, T', L, E, ce, h0, X', hL, e1, e2, ⟨u, hp, hb, hF⟩, hce, hcv, hcl, st⟩
  · cases hv
    obtain ⟨k1, k2, k3⟩ := vx_keep h0 e1 hS hA hf hL hF
    obtain ⟨t2, a1, b1⟩ := kk r u t T'.heap (locs ++ L) e1.symm (by rw [← e2]; exact X'.warmed.alike) hp hb k1 k2 k3 T' rfl X'
    exact ⟨t2, st t2 a1, b1⟩
  · obtain ⟨k1, k2, k3⟩ := vx_keep h0 e1 hS hAX hf hL hF
    obtain ⟨t2, a1, b1⟩ := kx E ce q u t T'.heap (locs ++ L) e1.symm (by rw [← e2]; exact X'.warmed.alike) hp hb k1 k2 k3 (by rw [e1]; exact hce) hcv hcl T' rfl X'
    exact ⟨t2, st.trans a1, b1⟩
theorem vx_calld {S SX : Type} {post : UInt64 → S → Prop} {px : SX → Prop} {B : S → State → Prop} {BX : String → SX → State → Prop} {AX : Nat → Prop} (hr : vx_Run p l e R s m args below meth c H locs cells slots mc ms (F0 m pc ls st0) rest (va_Qd post B A1 a) (vx_X px BX AX) free) (hS : va_S A0 H0 H locs) (hA : ∀ q, q < H.size → A1 q → A0 q) (hf : ∀ q, free q → A0 q) (hAX : ∀ q, q < H.size → AX q → A0 q)
    (kx : ∀ (E : String) (ce : Cell) (q9 : Addr) (u : SX) (t : State) (H1 : Heap) (locs1 : List Loc), t.heap = H1 → s.vm.Alike t.vm → px u → BX E u t → H.size ≤ H1.size → (∀ q : Nat, q < H.size → ¬ AX q → H1[q]? = H[q]?) → va_S A0 H0 H1 locs1 → H1[q9]? = some ce → ce.vm = .none → s.vm.findClass E = some ce.cls → vx_W p l e R s m args below meth c H1 locs1 (cells + mc) (slots + ms) Q (F0 m pc ls rest) q9)
    (kk : ∀ (r : UInt64) (u : S) (t : State) (H1 : Heap) (locs1 : List Loc), t.heap = H1 → s.vm.Alike t.vm → post r u → B u t → H.size ≤ H1.size → (∀ q : Nat, q < H.size → ¬ A1 q → H1[q]? = H[q]?) → va_S A0 H0 H1 locs1 → W p l e R s m args below meth c H1 locs1 (cells + mc) (slots + ms) Q (F0 m (pc + 3) ls (.double r :: rest))) : W p l e R s m args below meth c H locs cells slots Q (F0 m pc ls st0) := by
  intro T hT X
  rcases hr T hT X with ⟨v, st₀, t, T', L, h0, X', hL, e1, e2, ⟨⟨r, u, hv, hp, hb⟩, hF⟩, st⟩ | ⟨q, st₀, t, T', L, E, ce, h0, X', hL, e1, e2, ⟨u, hp, hb, hF⟩, hce, hcv, hcl, st⟩
  · cases hv
    obtain ⟨k1, k2, k3⟩ := vx_keep h0 e1 hS hA hf hL hF
    obtain ⟨t2, a1, b1⟩ := kk r u t T'.heap (locs ++ L) e1.symm (by rw [← e2]; exact X'.warmed.alike) hp hb k1 k2 k3 T' rfl X'
    exact ⟨t2, st t2 a1, b1⟩
  · obtain ⟨k1, k2, k3⟩ := vx_keep h0 e1 hS hAX hf hL hF
    obtain ⟨t2, a1, b1⟩ := kx E ce q u t T'.heap (locs ++ L) e1.symm (by rw [← e2]; exact X'.warmed.alike) hp hb k1 k2 k3 (by rw [e1]; exact hce) hcv hcl T' rfl X'
    exact ⟨t2, st.trans a1, b1⟩
theorem vx_callv {S SX : Type} {post : S → Prop} {px : SX → Prop} {B : S → State → Prop} {BX : String → SX → State → Prop} {AX : Nat → Prop} (hr : vx_Run p l e R s m args below meth c H locs cells slots mc ms (F0 m pc ls st0) rest (va_Qv post B A1 a) (vx_X px BX AX) free) (hS : va_S A0 H0 H locs) (hA : ∀ q, q < H.size → A1 q → A0 q) (hf : ∀ q, free q → A0 q) (hAX : ∀ q, q < H.size → AX q → A0 q)
    (kx : ∀ (E : String) (ce : Cell) (q9 : Addr) (u : SX) (t : State) (H1 : Heap) (locs1 : List Loc), t.heap = H1 → s.vm.Alike t.vm → px u → BX E u t → H.size ≤ H1.size → (∀ q : Nat, q < H.size → ¬ AX q → H1[q]? = H[q]?) → va_S A0 H0 H1 locs1 → H1[q9]? = some ce → ce.vm = .none → s.vm.findClass E = some ce.cls → vx_W p l e R s m args below meth c H1 locs1 (cells + mc) (slots + ms) Q (F0 m pc ls rest) q9)
    (kk : ∀ (u : S) (t : State) (H1 : Heap) (locs1 : List Loc), t.heap = H1 → s.vm.Alike t.vm → post u → B u t → H.size ≤ H1.size → (∀ q : Nat, q < H.size → ¬ A1 q → H1[q]? = H[q]?) → va_S A0 H0 H1 locs1 → W p l e R s m args below meth c H1 locs1 (cells + mc) (slots + ms) Q (F0 m (pc + 3) ls (rest))) : W p l e R s m args below meth c H locs cells slots Q (F0 m pc ls st0) := by
  intro T hT X
  rcases hr T hT X with ⟨v, st₀, t, T', L, h0, X', hL, e1, e2, ⟨⟨u, hv, hp, hb⟩, hF⟩, st⟩ | ⟨q, st₀, t, T', L, E, ce, h0, X', hL, e1, e2, ⟨u, hp, hb, hF⟩, hce, hcv, hcl, st⟩
  · cases hv
    obtain ⟨k1, k2, k3⟩ := vx_keep h0 e1 hS hA hf hL hF
    obtain ⟨t2, a1, b1⟩ := kk u t T'.heap (locs ++ L) e1.symm (by rw [← e2]; exact X'.warmed.alike) hp hb k1 k2 k3 T' rfl X'
    exact ⟨t2, st t2 a1, b1⟩
  · obtain ⟨k1, k2, k3⟩ := vx_keep h0 e1 hS hAX hf hL hF
    obtain ⟨t2, a1, b1⟩ := kx E ce q u t T'.heap (locs ++ L) e1.symm (by rw [← e2]; exact X'.warmed.alike) hp hb k1 k2 k3 (by rw [e1]; exact hce) hcv hcl T' rfl X'
    exact ⟨t2, st.trans a1, b1⟩
/-- caught by the row x of this method's table; the rows ahead don't take it -/
theorem vx_catch {own name : String} {E : String} {ce : Cell} {q : Addr} (hown : s.vm.findClass own = some m.cls) (pre : List ExceptionTableEntry) (x : ExceptionTableEntry) (suf : List ExceptionTableEntry) (hsplit : c.exceptionTable.toList = pre ++ x :: suf)
    (hpass : ∀ z ∈ pre, covers z pc = false ∨ (z.catchType ≠ 0 ∧ ∃ nm : String, (Cond.classLink own z.catchType nm).before args s = true ∧ va_Nc E nm s)) (hx : covers x pc = true) (h0 : x.catchType ≠ 0)
    (hlink : (Cond.classLink own x.catchType name).before args s = true) (hcast : (Cond.castable E name).before args s = true) (hcell : H[q]? = some ce) (hv : ce.vm = .none) (hcl : s.vm.findClass E = some ce.cls)
    (kk : W p l e R s m args below meth c H locs cells slots Q (F0 m x.handlerPc ls [.ref q])) : vx_W p l e R s m args below meth c H locs cells slots Q (F0 m pc ls rest) q := by
  intro T hT X
  have hpl : e.platform.magicAccessors = ({} : Platform).magicAccessors := by rw [X.admits.platform]
  obtain ⟨c3, c4, hc3, hc4, hasg⟩ := Cond.castable_spec hcast
  cases Option.some.inj (hc3.symm.trans hcl)
  obtain ⟨c5, hc5, hcl5⟩ := Cond.classLink_spec hown hlink e.platform hpl
  cases Option.some.inj (hc4.symm.trans hc5)
  obtain ⟨vm', X', st⟩ := X.thenCaughtThrough q (g := F0 m pc ls rest) rfl (Steps.refl _) (by rw [hT]; exact hcell) (by rw [hv]; rfl) (by obtain ⟨k9, h9, -⟩ := Vm.findClass_spec hcl; exact ⟨k9, h9⟩) pre x suf hsplit
    (fun z hz => by
      rcases hpass z hz with h | ⟨hz0, nm, hl1, hn1⟩
      · exact Or.inl h
      · obtain ⟨c6, hc6, hcl6⟩ := Cond.classLink_spec hown hl1 e.platform hpl
        obtain ⟨a8, b8, h1, h2, h3⟩ := hn1
        cases Option.some.inj (h1.symm.trans hcl)
        cases Option.some.inj (h2.symm.trans hc6)
        exact Or.inr ⟨hz0, _, hcl6, h3⟩) hx (Or.inr ⟨h0, c4, hcl5, hasg⟩)
  obtain ⟨t, a1, b1⟩ := kk (T.setVm vm') hT X'
  exact ⟨t, st.trans a1, b1⟩
end Rows
section Ends
variable {p : Program} {l : Launch} {e : Env} {R : Room} {s : State} {m : MethodId} {args : Array Value} {below : List Frame} {meth : Method} {c : Code} {H : Heap} {locs : List Loc} {cells slots : Nat} {Q : State → Prop}
variable {mc ms : Nat} {free : Addr → Prop} {A0 A1 : Nat → Prop} {H0 : Heap} {a : Array Value} {ls : Array Slot} {st0 rest : List Value}
variable {Qc : Array Value → State → Outcome → State → Prop} {XC : String → State → State → Prop}
/-- what a body that may throw owes at its end -/
def vx_MQ (below : List Frame) (Qc : Array Value → State → Outcome → State → Prop) (XC : String → State → State → Prop) (a : Array Value) (s : State) (mc ms : Nat) (free : Addr → Prop) : State → Prop := fun t =>
  ∃ o, t.status = .running ∧ Ended t below o ∧ vx_Q Qc XC mc ms free a s o t
theorem vx_ret {g : JFrame} {mc ms : Nat} (k : W p l e R s m args below meth c H locs cells slots (MQ below Qc args s mc ms free) g) : W p l e R s m args below meth c H locs cells slots (vx_MQ below Qc XC args s mc ms free) g := by
  intro T hT X
  obtain ⟨t, a1, o, b1, b2, b3, b4⟩ := k T hT X
  exact ⟨t, a1, o, b1, b2, Or.inl ⟨b3, b4⟩⟩
/-- not caught here: it goes on to the caller -/
theorem vx_widen {g : JFrame} {q : Addr} {k n : Nat} (h1 : cells ≤ k) (h2 : slots ≤ n) (kk : vx_W p l e R s m args below meth c H locs k n Q g q) : vx_W p l e R s m args below meth c H locs cells slots Q g q := fun T hT X => kk T hT (stand_widen X h1 h2)
theorem vx_out {pc : Nat} {E : String} {ce : Cell} {q : Addr} {mc ms : Nat} (hout : ∀ x ∈ c.exceptionTable.toList, covers x pc = false) (hlocks : meth.locks = false) (hcell : H[q]? = some ce) (hv : ce.vm = .none) (hcl : s.vm.findClass E = some ce.cls)
    (hx : ∀ t : State, t.heap = H → s.vm.Alike t.vm → XC E s t) (hf : ∀ z ∈ locs, free z.base) (hc : cells ≤ mc) (hs : slots ≤ ms) :
    vx_W p l e R s m args below meth c H locs cells slots (vx_MQ below Qc XC args s mc ms free) (F0 m pc ls rest) q := by
  intro T hT X
  obtain ⟨st1, hrun, hend, hW, hsm⟩ := X.leaveThrown q (g := F0 m pc ls rest) rfl rfl rfl hout hlocks
  have hcell9 : (T.setFrames (.throwing q :: below)).heap[q]? = some ce := by
    show T.heap[q]? = some ce
    rw [hT]; exact hcell
  exact ⟨_, st1, .threw q, hrun, hend, Or.inr ⟨q, rfl, E, ce, locs, hx _ hT hW.alike, hcell9, hv, hcl, hW, hsm.mono hc hs, hf⟩⟩
theorem vx_frame {U : State} {k n : Nat} (h : s.sameButNew ({ U with vm := s.vm } : State) locs k n) : s.heap.size ≤ U.heap.size ∧ ∀ q : Nat, q < s.heap.size → (∀ z ∈ locs, z.base ≠ q) → U.heap[q]? = s.heap[q]? := by
  obtain ⟨-, h2, -, -, -, h6⟩ := h
  refine ⟨h2, fun q hq hz => ?_⟩
  obtain ⟨c9, e1, e2, e3, e4⟩ := h6 q _ (Array.getElem?_eq_getElem hq)
  have hs : c9.slots = (s.heap[q]).slots := Array.ext_getElem? fun i => e4 i fun hm => hz _ hm rfl
  have h9 : c9 = s.heap[q] := by
    rw [hs] at e2
    exact e2
  have e5 : U.heap[q]? = some c9 := e1
  rw [e5, h9, Array.getElem?_eq_getElem hq]
/-- the words of a throw but the four that speak of the heap -/
def vx_no (w : Cond) : Bool := decide (w ≠ .isRef (.static Bundle.tN "UNASSIGNED_STACK" Bundle.steD)) && decide (w ≠ .isRef (.static Bundle.tN "SUPPRESSED_SENTINEL" Bundle.listD)) && decide (w ≠ .laysStatic Bundle.tN "UNASSIGNED_STACK" Bundle.steD) && decide (w ≠ .laysStatic Bundle.tN "SUPPRESSED_SENTINEL" Bundle.listD)
def vx_at0 (own : String) (ic : Nat) (X : String) (names : List String) : List Cond := (Bundle.ownAtoms0 own ic X names).filter vx_no
def vx_atS (own : String) (ic : Nat) (X : String) (names : List String) : List Cond := (Bundle.ownAtoms own ic X names).filter vx_no
/-- a word that the tables alone decide, or a good one -/
def vx_ot (w : Cond) : Bool := w.onTables || goodWord w
theorem vx_ot_at {args a' : Array Value} {s U : State} {w : Cond} (hW : s.WarmedH U.vm) (hvm : s.vm = U.vm) (hg : vx_ot w = true) (h : w.before args s = true) : w.before a' U = true := by
  simp only [vx_ot, Bool.or_eq_true] at hg
  rcases hg with hg | hg
  · exact va_tabs hg hvm h
  · exact word_at hW (good_of_word hg) h
/-- a list's words: the good ones out of the method's own list, the others by premises of their own -/
theorem vx_hat {args : Array Value} {s : State} {L B : List Cond} (h1 : ∀ w ∈ L.filter goodWord, w.before args s = true) (h2 : ∀ w ∈ L.filter (fun w => !goodWord w), w ∈ B) (h3 : ∀ w ∈ B, w.before args s = true) : ∀ w ∈ L, w.before args s = true := by
  intro w hw
  by_cases g : goodWord w = true
  · exact h1 w (List.mem_filter.mpr ⟨hw, g⟩)
  · refine h3 w (h2 w (List.mem_filter.mpr ⟨hw, ?_⟩))
    show (!goodWord w) = true
    cases hgw : goodWord w
    · rfl
    · exact absurd hgw g
theorem vx_c {args : Array Value} {s : State} {w : Cond} {B : List Cond} (h : w.before args s = true) (t : ∀ w ∈ B, w.before args s = true) : ∀ w' ∈ w :: B, w'.before args s = true := fun w' h' => (List.mem_cons.mp h').elim (fun e => by rw [e]; exact h) (t w')
theorem vx_n {args : Array Value} {s : State} : ∀ w ∈ ([] : List Cond), w.before args s = true := fun _ h => nomatch h
theorem vx_own {args : Array Value} {s : State} {L : List Cond} (h1 : ∀ w ∈ L.filter vx_no, w.before args s = true)
    (hU : (Cond.isRef (.static Bundle.tN "UNASSIGNED_STACK" Bundle.steD)).before args s = true) (hN : (Cond.isRef (.static Bundle.tN "SUPPRESSED_SENTINEL" Bundle.listD)).before args s = true)
    (lU : (Cond.laysStatic Bundle.tN "UNASSIGNED_STACK" Bundle.steD).before args s = true) (lN : (Cond.laysStatic Bundle.tN "SUPPRESSED_SENTINEL" Bundle.listD).before args s = true) : ∀ w ∈ L, w.before args s = true := by
  intro w hw
  by_cases e1 : w = .isRef (.static Bundle.tN "UNASSIGNED_STACK" Bundle.steD)
  · rw [e1]; exact hU
  · by_cases e2 : w = .isRef (.static Bundle.tN "SUPPRESSED_SENTINEL" Bundle.listD)
    · rw [e2]; exact hN
    · by_cases e3 : w = .laysStatic Bundle.tN "UNASSIGNED_STACK" Bundle.steD
      · rw [e3]; exact lU
      · by_cases e4 : w = .laysStatic Bundle.tN "SUPPRESSED_SENTINEL" Bundle.listD
        · rw [e4]; exact lN
        · exact h1 w (List.mem_filter.mpr ⟨hw, by unfold vx_no; rw [decide_eq_true e1, decide_eq_true e2, decide_eq_true e3, decide_eq_true e4]; rfl⟩)
/-- where a static field lies, its class's statics cell in H -/
def vx_L (C n d : String) (A : Nat → Prop) (U : State) (H : Heap) : Prop := ∃ (c : ClassId) (k : Class) (i : Nat) (f : Field) (a : Nat) (cell : Cell), U.vm.findClass C = some c ∧ U.fieldFound? C n d = some (c, k, i, f) ∧ f.isStatic = true ∧ k.statics = some a ∧ H[a]? = some cell ∧ cell.vm.isStatics = true ∧ cell.cls = c ∧ f.slot < cell.slots.size ∧ k.staticTypes[f.slot]? = some f.type ∧ ¬ A a
theorem vx_L.moved {C n d : String} {A : Nat → Prop} {u U : State} {H : Heap} (hvm : u.vm.Alike U.vm) (h : vx_L C n d A u H) : vx_L C n d A U H := by
  obtain ⟨c, k, i, f, a, cell, h1, h2, h3, h4, h5, h6, h7, h8, h9, h10⟩ := h
  obtain ⟨k', hi', he⟩ := State.fieldFound?_setVm hvm h2
  exact ⟨c, k', i, f, a, cell, by rw [hvm.findClass]; exact h1, hi', h3, by rw [he]; exact h4, h5, h6, h7, h8, by rw [he]; exact h9, h10⟩
theorem vx_L.kept {C n d : String} {A : Nat → Prop} {U : State} {H H1 : Heap} (h : vx_L C n d A U H) (hq : ∀ a : Nat, a < H.size → ¬ A a → H1[a]? = H[a]?) : vx_L C n d A U H1 := by
  obtain ⟨c, k, i, f, a, cell, h1, h2, h3, h4, h5, h6, h7, h8, h9, h10⟩ := h
  exact ⟨c, k, i, f, a, cell, h1, h2, h3, h4, by rw [hq a (Array.getElem?_eq_some_iff.mp h5).1 h10]; exact h5, h6, h7, h8, h9, h10⟩
theorem vx_L.narrow {C n d : String} {A B : Nat → Prop} {U : State} {H : Heap} (h : vx_L C n d A U H) (hAB : ∀ q, B q → A q) : vx_L C n d B U H := by
  obtain ⟨c, k, i, f, a, cell, h1, h2, h3, h4, h5, h6, h7, h8, h9, h10⟩ := h
  exact ⟨c, k, i, f, a, cell, h1, h2, h3, h4, h5, h6, h7, h8, h9, fun z => h10 (hAB _ z)⟩
theorem vx_L.word {C n d : String} {A : Nat → Prop} {s : State} {args : Array Value} (h : vx_L C n d A s s.heap) : (Cond.laysStatic C n d).before args s = true := by
  obtain ⟨c, k, i, f, a, cell, h1, h2, h3, h4, h5, h6, h7, h8, h9, -⟩ := h
  show (Cond.laysStatic C n d).holds args s none s [] = true
  exact Cond.laysStatic_of h1 h2 h3 h4 h5 h6 h7 h8 h9
/-- .. and what it holds: null or some reference -/
def vx_Zq (C n d : String) (A : Nat → Prop) (U : State) (H : Heap) : Prop := va_Zq C n d A U H ∧ vx_L C n d A U H
theorem vx_Zq.moved {C n d : String} {A : Nat → Prop} {u U : State} {H : Heap} (hvm : u.vm.Alike U.vm) (h : vx_Zq C n d A u H) : vx_Zq C n d A U H := ⟨va_Zq.moved hvm h.1, vx_L.moved hvm h.2⟩
theorem vx_Zq.kept {C n d : String} {A : Nat → Prop} {U : State} {H H1 : Heap} (h : vx_Zq C n d A U H) (hq : ∀ a : Nat, a < H.size → ¬ A a → H1[a]? = H[a]?) : vx_Zq C n d A U H1 := ⟨va_Zq.kept h.1 hq, vx_L.kept h.2 hq⟩
theorem vx_Zq.narrow {C n d : String} {A B : Nat → Prop} {U : State} {H : Heap} (h : vx_Zq C n d A U H) (hAB : ∀ q, B q → A q) : vx_Zq C n d B U H := ⟨va_Zq.narrow h.1 hAB, vx_L.narrow h.2 hAB⟩
theorem vx_Zqof {args : Array Value} {s : State} {C n d : String} {A : Nat → Prop} (hl : (Cond.laysStatic C n d).before args s = true) (hini : (Cond.initialized C).before args s = true) (h : (Cond.isRef (.static C n d)).before args s = true) (hA : ∀ a : Nat, a < s.heap.size → ¬ A a) : vx_Zq C n d A s s.heap := by
  refine ⟨va_Zqof hl hini h hA, ?_⟩
  obtain ⟨c, k, i, f, a, cell, h1, h2, h3, h4, h5, h6, h7, h8, h9⟩ := Cond.laysStatic_spec hl
  exact ⟨c, k, i, f, a, cell, h1, h2, h3, h4, h5, h6, h7, h8, h9, hA a (Array.getElem?_eq_some_iff.mp h5).1⟩
theorem vx_isRef {C n d : String} {v : Value} {A : Nat → Prop} {s : State} {args : Array Value} (h : va_Z C n d v A s s.heap) (hv : v.isRef = true) : (Cond.isRef (.static C n d)).before args s = true := by
  obtain ⟨cf, kf, fi, f, a, cell, h1, h2, h3, h4, h5, h6, h7, -⟩ := h
  have he : (Term.static C n d).eval args s none [] s = some v := by
    simp [Term.eval, State.fieldNamed?, h1, h2, h4, h5, h6, h7]
  simp only [Cond.before, Cond.holds, Cond.value, he]
  cases v <;> simp_all [Value.isRef]
theorem vx_isRefq {C n d : String} {A : Nat → Prop} {s : State} {args : Array Value} (h : va_Zq C n d A s s.heap) : (Cond.isRef (.static C n d)).before args s = true := by
  rcases h with h | ⟨t, h⟩
  · exact vx_isRef h rfl
  · exact vx_isRef h rfl
/-- the same frame, seen from here: as if the method were called anew in this heap -/
theorem vx_rebase {T : State} (X : Stand p l e R s m args below meth c T locs cells slots) {R' : Room} (hf : R'.frames ≤ R.frames) (hl : R'.locals ≤ R.locals) (hc : cells + R'.cells ≤ R.cells) (hs : slots + R'.slots ≤ R.slots) :
    Stand p l e R' ((T.setVm s.vm).setFrames (.invoking m args :: below)) m args below meth c T [] 0 0 := by
  have htop : (T.setVm s.vm).topJava?.isSome := X.here.top
  have hF : ((T.setVm s.vm).setFrames (.invoking m args :: below)).frames = .invoking m args :: below := State.frames_setFrames _ (State.cur_lt_of_top htop)
  obtain ⟨g₀, hg0⟩ := Option.isSome_iff_exists.mp htop
  obtain ⟨r, hr⟩ := State.topJava?_eq_some.mp hg0
  have hl9 : e.platform.stackLimits (T.setVm s.vm).me = e.platform.stackLimits s.me := X.limits
  have hb9 : (T.setVm s.vm).me.stackBytes = s.me.stackBytes := X.bytes
  refine ⟨X.admits, X.cas, X.clock, hF, ?_, X.hears, X.method, X.code, X.here, X.tail, X.warmed, ?_, ?_, ?_⟩
  · have h := X.room
    have hU : ((T.setVm s.vm).setFrames (.invoking m args :: below)).localsInUse = s.localsInUse := by
      rw [State.localsInUse_invoking hF (meth := meth) (c := c) X.method X.code, State.localsInUse_invoking X.frames X.method X.code]
    simp only [State.hasRoom, Bool.and_eq_true, decide_eq_true_eq] at h ⊢
    obtain ⟨⟨⟨⟨h1, h2, h3, h4, h5, h6⟩, h7⟩, h8⟩, h9⟩ := h
    rw [X.frames, List.length_cons] at h2 h3
    have q1 := X.heapSize
    have q2 := X.used
    simp only [hF, hU, List.length_cons, State.stackLimits_setFrames, State.stackBytes_setFrames, hl9, hb9]
    refine ⟨⟨⟨⟨by omega, by omega, by omega, by omega, by omega, h6⟩, ?_⟩, ?_⟩, X.book⟩
    · show T.heap.size + R'.cells ≤ e.platform.maxCells
      omega
    · show T.slotsUsed + R'.slots ≤ e.platform.maxSlots
      omega
  · rw [State.stackLimits_setFrames]; rfl
  · rw [State.stackBytes_setFrames]; rfl
  · refine ⟨?_, Nat.le_refl _, Nat.le_refl _, ?_, ?_, fun a c9 h9 => ⟨c9, h9, rfl, rfl, fun _ _ => rfl⟩⟩
    · obtain ⟨t, ht, -⟩ := State.frames_cons hr
      show T.setVm s.vm = { ((T.setVm s.vm).setFrames (.invoking m args :: below)).setFrames (T.setVm s.vm).frames with heap := T.heap, slotsUsed := T.slotsUsed }
      rw [State.setFrames_setFrames, State.setFrames_self ht]
      rfl
    · show T.slotsUsed = T.slotsUsed + ((T.heap.toList.drop T.heap.size).map (·.slots.size)).sum
      rw [List.drop_eq_nil_of_le (Nat.le_of_eq Array.length_toList)]
      rfl
    · show ((T.heap.toList.drop T.heap.size).map (·.slots.size)).sum ≤ 0
      rw [List.drop_eq_nil_of_le (Nat.le_of_eq Array.length_toList)]
      exact Nat.le_refl _
/-- 'throw new E()': new; dup; invokespecial; athrow -/
theorem vx_throw0 {cc : ByteArray} {pc : Nat} (hexec : p.tables.exec = Jvm.exec) (hb : c.code = cc) (hl : l.stackTraces = false) {own cls : String} {names : List String} {ik ic mc ms : Nat} {A : Nat → Prop}
    (hown : s.vm.findClass own = some m.cls) (hcls : Bundle.fit cls = true) (hnames : ∀ n ∈ names, Bundle.fit n = true)
    (hk : (Cond.classLink own ik cls).before args s = true) (hini : (Cond.initialized cls).before args s = true) (hat : ∀ w ∈ vx_at0 own ic cls names, w.before args s = true)
    (hgood : ∀ w ∈ Cond.classLink own ik cls :: Cond.initialized cls :: vx_at0 own ic cls names, vx_ot w = true)
    (hU : vx_Zq Bundle.tN "UNASSIGNED_STACK" Bundle.steD A s s.heap) (hN : vx_Zq Bundle.tN "SUPPRESSED_SENTINEL" Bundle.listD A s s.heap) (hS : va_S A s.heap H locs) (hsize : ls.size = c.maxLocals)
    (d0 : decode cc pc = .ok (.new ik, 3)) (d3 : decode cc (pc + 3) = .ok (.dup, 1)) (d4 : decode cc (pc + 4) = .ok (.invokespecial ic, 3)) (d7 : decode cc (pc + 7) = .ok (.athrow, 1))
    (hout : ∀ x ∈ c.exceptionTable.toList, covers x (pc + 7) = false)
    (hRframes : names.length + 3 < R.frames) (hRlocals : (rest.map fun v => v.category).sum + (13 * (names.length + 1) + 42) ≤ R.locals) (hRcells : cells + 1 ≤ R.cells) (hRslots : slots + 6 ≤ R.slots) (hlocks : meth.locks = false)
    (hx : ∀ t : State, s.vm.Alike t.vm → H.size ≤ t.heap.size → (∀ q : Nat, q < H.size → t.heap[q]? = H[q]?) → XC cls s t)
    (hf : ∀ z ∈ locs, free z.base) (hc : cells + 1 ≤ mc) (hs : slots + 6 ≤ ms) :
    W p l e R s m args below meth c H locs cells slots (vx_MQ below Qc XC args s mc ms free) (F0 m pc ls rest) := by
  intro T hT X
  have htr : e.platform.stackTraces = false := (show e.platform.stackTraces = l.stackTraces by rw [X.admits.platform]).trans hl
  have Y := vx_rebase X (R' := { frames := R.frames, locals := R.locals, cells := 1, slots := 6 }) (Nat.le_refl _) (Nat.le_refl _) hRcells hRslots
  obtain ⟨s', hA⟩ : ∃ z, z = (T.setVm s.vm).setFrames (.invoking m args :: below) := ⟨_, rfl⟩
  rw [← hA] at Y
  have hvm : s'.vm = s.vm := by rw [hA]; rfl
  have hhp : s'.heap = H := by rw [hA]; exact hT
  have hW0 : s.WarmedH s'.vm := by rw [hvm]; exact State.WarmedH.refl s
  have hat' : ∀ w ∈ vx_at0 own ic cls names, w.before args s' = true := fun w hw => vx_ot_at hW0 hvm.symm (hgood w (List.mem_cons_of_mem _ (List.mem_cons_of_mem _ hw))) (hat w hw)
  have hk' : (Cond.classLink own ik cls).before args s' = true := vx_ot_at hW0 hvm.symm (hgood _ List.mem_cons_self) hk
  have hini' : (Cond.initialized cls).before args s' = true := vx_ot_at hW0 hvm.symm (hgood _ (List.mem_cons_of_mem _ List.mem_cons_self)) hini
  have hU' : vx_Zq Bundle.tN "UNASSIGNED_STACK" Bundle.steD A s' s'.heap := by rw [hhp]; exact vx_Zq.moved hW0.alike (hU.kept hS.2.1)
  have hN' : vx_Zq Bundle.tN "SUPPRESSED_SENTINEL" Bundle.listD A s' s'.heap := by rw [hhp]; exact vx_Zq.moved hW0.alike (hN.kept hS.2.1)
  have h : ∀ w ∈ Bundle.ownAtoms0 own ic cls names, w.before args s' = true := vx_own hat' (vx_isRefq hU'.1) (vx_isRefq hN'.1) hU'.2.word hN'.2.word
  have hown' : s'.vm.findClass own = some m.cls := by rw [hvm]; exact hown
  have hins : (Cond.instantiable cls 6).before args s' = true := h _ (by simp [Bundle.ownAtoms0])
  obtain ⟨vm₁, cX, kX, hfX, hkX, -, -, X₁, st1⟩ := Y.newCold hexec (own := own) (C := cls) (index := ik) (n := 6) hown' hk' hins hini'
    (g := F0 m pc ls rest) rfl (by rw [hb]; exact d0) (Nat.le_refl _) (Nat.le_refl _)
  generalize hT1 : (T.setVm vm₁).pushCell { cls := cX, slots := kX.instanceTypes.map defaultValue, vm := .none } = T1 at X₁ st1
  have hcat : (Value.ref T.heap.size).category = 1 := rfl
  have hcellA : T1.heap[T.heap.size]? = some (freshCell cX kX) := by rw [← hT1]; exact State.heap_pushCell_size _ _
  have d3' : decode c.code (pc + 3) = .ok (.dup, 1) := by rw [hb]; exact d3
  obtain ⟨U, hsteps, hrun, hend, hW, hsame, ce, hce, hO⟩ := X₁.ctorThrow0 hexec htr (own := own) (cls := cls) (names := names) (ic := ic) hown' hcls hnames h (fun x hx => nomatch hx) hfX hkX hcellA (by rw [hhp, hT]; exact Nat.le_refl _)
    (g := { method := m, pc := pc + 4, locals := ls, stack := .ref T.heap.size :: .ref T.heap.size :: rest, locked := none }) rfl hsize rfl rfl (rest := rest) rfl
    (by rw [hb]; exact d4) (by rw [hb]; exact d7) hout hRframes (by simp only [List.map_cons, List.sum_cons, hcat]; omega) hlocks
  obtain ⟨f1, f2⟩ := vx_frame hsame
  rw [hhp] at f1 f2
  have hWs : s.WarmedH U.vm := State.WarmedH.trans hW0 hW
  have hcl : s.vm.findClass cls = some ce.cls := by
    have h9 := hO.cls
    rw [hvm] at h9
    exact h9
  have hall : s.sameButNew ({ U with vm := s.vm } : State) locs mc ms := by
    subst hA
    obtain ⟨e1, e2⟩ := hsame
    rw [State.setFrames_setFrames] at e1
    have h2 : (T.setVm s.vm).sameButNew ({ U with vm := s.vm } : State) [] (0 + 1) (0 + 6) := ⟨e1, e2⟩
    have h3 := X.same.trans h2
    rw [List.append_nil] at h3
    exact h3.mono hc hs
  refine ⟨U, ?_, .threw T.heap.size, hrun, hend, Or.inr ⟨T.heap.size, rfl, cls, ce, locs, hx U hWs.alike f1 (fun q hq => f2 q hq (fun z hz => nomatch hz)), hce, hO.vm, hcl, hWs, hall, hf⟩⟩
  refine st1 _ ?_
  show Steps p.tables e below (T1.setTop { method := m, pc := pc + 3, locals := ls, stack := .ref T.heap.size :: rest, locked := none }) _
  jvm_step X₁.here [X₁.here.top, hexec, d3', Value.category]
  exact hsteps
/-- 'throw new E("text")': new; dup; ldc; invokespecial; athrow -/
theorem vx_throwS {cc : ByteArray} {pc : Nat} (hexec : p.tables.exec = Jvm.exec) (hb : c.code = cc) (hl : l.stackTraces = false) {own cls text : String} {names : List String} {ik is ic mc ms sa : Nat} {A : Nat → Prop}
    (hown : s.vm.findClass own = some m.cls) (hcls : Bundle.fit cls = true) (hnames : ∀ n ∈ names, Bundle.fit n = true)
    (hk : (Cond.classLink own ik cls).before args s = true) (hini : (Cond.initialized cls).before args s = true) (hstr : vk_R own is text sa s) (hat : ∀ w ∈ vx_atS own ic cls names, w.before args s = true)
    (hgood : ∀ w ∈ Cond.classLink own ik cls :: Cond.initialized cls :: vx_atS own ic cls names, vx_ot w = true)
    (hU : vx_Zq Bundle.tN "UNASSIGNED_STACK" Bundle.steD A s s.heap) (hN : vx_Zq Bundle.tN "SUPPRESSED_SENTINEL" Bundle.listD A s s.heap) (hS : va_S A s.heap H locs) (hsize : ls.size = c.maxLocals)
    (d0 : decode cc pc = .ok (.new ik, 3)) (d3 : decode cc (pc + 3) = .ok (.dup, 1)) (d4 : decode cc (pc + 4) = .ok (.ldc is, 2)) (d6 : decode cc (pc + 6) = .ok (.invokespecial ic, 3)) (d9 : decode cc (pc + 9) = .ok (.athrow, 1))
    (hout : ∀ x ∈ c.exceptionTable.toList, covers x (pc + 9) = false)
    (hRframes : names.length + 3 < R.frames) (hRlocals : (rest.map fun v => v.category).sum + (13 * (names.length + 1) + 43) ≤ R.locals) (hRcells : cells + 1 ≤ R.cells) (hRslots : slots + 6 ≤ R.slots) (hlocks : meth.locks = false)
    (hx : ∀ t : State, s.vm.Alike t.vm → H.size ≤ t.heap.size → (∀ q : Nat, q < H.size → t.heap[q]? = H[q]?) → XC cls s t)
    (hf : ∀ z ∈ locs, free z.base) (hc : cells + 1 ≤ mc) (hs : slots + 6 ≤ ms) :
    W p l e R s m args below meth c H locs cells slots (vx_MQ below Qc XC args s mc ms free) (F0 m pc ls rest) := by
  intro T hT X
  have htr : e.platform.stackTraces = false := (show e.platform.stackTraces = l.stackTraces by rw [X.admits.platform]).trans hl
  have Y := vx_rebase X (R' := { frames := R.frames, locals := R.locals, cells := 1, slots := 6 }) (Nat.le_refl _) (Nat.le_refl _) hRcells hRslots
  obtain ⟨s', hA⟩ : ∃ z, z = (T.setVm s.vm).setFrames (.invoking m args :: below) := ⟨_, rfl⟩
  rw [← hA] at Y
  have hvm : s'.vm = s.vm := by rw [hA]; rfl
  have hhp : s'.heap = H := by rw [hA]; exact hT
  have hW0 : s.WarmedH s'.vm := by rw [hvm]; exact State.WarmedH.refl s
  have hat' : ∀ w ∈ vx_atS own ic cls names, w.before args s' = true := fun w hw => vx_ot_at hW0 hvm.symm (hgood w (List.mem_cons_of_mem _ (List.mem_cons_of_mem _ hw))) (hat w hw)
  have hk' : (Cond.classLink own ik cls).before args s' = true := vx_ot_at hW0 hvm.symm (hgood _ List.mem_cons_self) hk
  have hini' : (Cond.initialized cls).before args s' = true := vx_ot_at hW0 hvm.symm (hgood _ (List.mem_cons_of_mem _ List.mem_cons_self)) hini
  have hU' : vx_Zq Bundle.tN "UNASSIGNED_STACK" Bundle.steD A s' s'.heap := by rw [hhp]; exact vx_Zq.moved hW0.alike (hU.kept hS.2.1)
  have hN' : vx_Zq Bundle.tN "SUPPRESSED_SENTINEL" Bundle.listD A s' s'.heap := by rw [hhp]; exact vx_Zq.moved hW0.alike (hN.kept hS.2.1)
  have h : ∀ w ∈ Bundle.ownAtoms own ic cls names, w.before args s' = true := vx_own hat' (vx_isRefq hU'.1) (vx_isRefq hN'.1) hU'.2.word hN'.2.word
  have hown' : s'.vm.findClass own = some m.cls := by rw [hvm]; exact hown
  have hins : (Cond.instantiable cls 6).before args s' = true := h _ (by simp [Bundle.ownAtoms])
  obtain ⟨vm₁, cX, kX, hfX, hkX, -, -, X₁, st1⟩ := Y.newCold hexec (own := own) (C := cls) (index := ik) (n := 6) hown' hk' hins hini'
    (g := F0 m pc ls rest) rfl (by rw [hb]; exact d0) (Nat.le_refl _) (Nat.le_refl _)
  generalize hT1 : (T.setVm vm₁).pushCell { cls := cX, slots := kX.instanceTypes.map defaultValue, vm := .none } = T1 at X₁ st1
  have hcat : (Value.ref T.heap.size).category = 1 := rfl
  have hcellA : T1.heap[T.heap.size]? = some (freshCell cX kX) := by rw [← hT1]; exact State.heap_pushCell_size _ _
  have d3' : decode c.code (pc + 3) = .ok (.dup, 1) := by rw [hb]; exact d3
  have d4' : decode c.code (pc + 4) = .ok (.ldc is, 2) := by rw [hb]; exact d4
  have hstr' : vk_R own is text sa s' := vk_R.warm hW0 hstr
  obtain ⟨U, hsteps, hrun, hend, hW, hsame, ce, hce, hO⟩ := X₁.ctorThrowS hexec htr (own := own) (cls := cls) (names := names) (ic := ic) hown' hcls hnames h (fun x hx => nomatch hx) hfX hkX hcellA (by rw [hhp, hT]; exact Nat.le_refl _) (msg := .ref sa) rfl
    (g := { method := m, pc := pc + 6, locals := ls, stack := .ref sa :: .ref T.heap.size :: .ref T.heap.size :: rest, locked := none }) rfl hsize rfl rfl (rest := rest) rfl
    (by rw [hb]; exact d6) (by rw [hb]; exact d9) hout hRframes (by simp only [List.map_cons, List.sum_cons, hcat]; omega) hlocks
  obtain ⟨f1, f2⟩ := vx_frame hsame
  rw [hhp] at f1 f2
  have hWs : s.WarmedH U.vm := State.WarmedH.trans hW0 hW
  have hcl : s.vm.findClass cls = some ce.cls := by
    have h9 := hO.cls
    rw [hvm] at h9
    exact h9
  have hall : s.sameButNew ({ U with vm := s.vm } : State) locs mc ms := by
    subst hA
    obtain ⟨e1, e2⟩ := hsame
    rw [State.setFrames_setFrames] at e1
    have h2 : (T.setVm s.vm).sameButNew ({ U with vm := s.vm } : State) [] (0 + 1) (0 + 6) := ⟨e1, e2⟩
    have h3 := X.same.trans h2
    rw [List.append_nil] at h3
    exact h3.mono hc hs
  refine ⟨U, ?_, .threw T.heap.size, hrun, hend, Or.inr ⟨T.heap.size, rfl, cls, ce, locs, hx U hWs.alike f1 (fun q hq => f2 q hq (fun z hz => nomatch hz)), hce, hO.vm, hcl, hWs, hall, hf⟩⟩
  refine st1 _ ?_
  show Steps p.tables e below (T1.setTop { method := m, pc := pc + 3, locals := ls, stack := .ref T.heap.size :: rest, locked := none }) _
  jvm_step X₁.here [X₁.here.top, hexec, d3', Value.category]
  exact X₁.ldcString hexec (own := own) (text := text) (index := is) (a := sa) hown' hstr'.1 hstr'.2
    (g := { method := m, pc := pc + 4, locals := ls, stack := .ref T.heap.size :: .ref T.heap.size :: rest, locked := none }) rfl d4' _ hsteps
/-- 'throw new E("text")', the text by a wide index -/
theorem vx_throwSW {cc : ByteArray} {pc : Nat} (hexec : p.tables.exec = Jvm.exec) (hb : c.code = cc) (hl : l.stackTraces = false) {own cls text : String} {names : List String} {ik is ic mc ms sa : Nat} {A : Nat → Prop}
    (hown : s.vm.findClass own = some m.cls) (hcls : Bundle.fit cls = true) (hnames : ∀ n ∈ names, Bundle.fit n = true)
    (hk : (Cond.classLink own ik cls).before args s = true) (hini : (Cond.initialized cls).before args s = true) (hstr : vk_R own is text sa s) (hat : ∀ w ∈ vx_atS own ic cls names, w.before args s = true)
    (hgood : ∀ w ∈ Cond.classLink own ik cls :: Cond.initialized cls :: vx_atS own ic cls names, vx_ot w = true)
    (hU : vx_Zq Bundle.tN "UNASSIGNED_STACK" Bundle.steD A s s.heap) (hN : vx_Zq Bundle.tN "SUPPRESSED_SENTINEL" Bundle.listD A s s.heap) (hS : va_S A s.heap H locs) (hsize : ls.size = c.maxLocals)
    (d0 : decode cc pc = .ok (.new ik, 3)) (d3 : decode cc (pc + 3) = .ok (.dup, 1)) (d4 : decode cc (pc + 4) = .ok (.ldc_w is, 3)) (d7 : decode cc (pc + 7) = .ok (.invokespecial ic, 3)) (d10 : decode cc (pc + 10) = .ok (.athrow, 1))
    (hout : ∀ x ∈ c.exceptionTable.toList, covers x (pc + 10) = false)
    (hRframes : names.length + 3 < R.frames) (hRlocals : (rest.map fun v => v.category).sum + (13 * (names.length + 1) + 43) ≤ R.locals) (hRcells : cells + 1 ≤ R.cells) (hRslots : slots + 6 ≤ R.slots) (hlocks : meth.locks = false)
    (hx : ∀ t : State, s.vm.Alike t.vm → H.size ≤ t.heap.size → (∀ q : Nat, q < H.size → t.heap[q]? = H[q]?) → XC cls s t)
    (hf : ∀ z ∈ locs, free z.base) (hc : cells + 1 ≤ mc) (hs : slots + 6 ≤ ms) :
    W p l e R s m args below meth c H locs cells slots (vx_MQ below Qc XC args s mc ms free) (F0 m pc ls rest) := by
  intro T hT X
  have htr : e.platform.stackTraces = false := (show e.platform.stackTraces = l.stackTraces by rw [X.admits.platform]).trans hl
  have Y := vx_rebase X (R' := { frames := R.frames, locals := R.locals, cells := 1, slots := 6 }) (Nat.le_refl _) (Nat.le_refl _) hRcells hRslots
  obtain ⟨s', hA⟩ : ∃ z, z = (T.setVm s.vm).setFrames (.invoking m args :: below) := ⟨_, rfl⟩
  rw [← hA] at Y
  have hvm : s'.vm = s.vm := by rw [hA]; rfl
  have hhp : s'.heap = H := by rw [hA]; exact hT
  have hW0 : s.WarmedH s'.vm := by rw [hvm]; exact State.WarmedH.refl s
  have hat' : ∀ w ∈ vx_atS own ic cls names, w.before args s' = true := fun w hw => vx_ot_at hW0 hvm.symm (hgood w (List.mem_cons_of_mem _ (List.mem_cons_of_mem _ hw))) (hat w hw)
  have hk' : (Cond.classLink own ik cls).before args s' = true := vx_ot_at hW0 hvm.symm (hgood _ List.mem_cons_self) hk
  have hini' : (Cond.initialized cls).before args s' = true := vx_ot_at hW0 hvm.symm (hgood _ (List.mem_cons_of_mem _ List.mem_cons_self)) hini
  have hU' : vx_Zq Bundle.tN "UNASSIGNED_STACK" Bundle.steD A s' s'.heap := by rw [hhp]; exact vx_Zq.moved hW0.alike (hU.kept hS.2.1)
  have hN' : vx_Zq Bundle.tN "SUPPRESSED_SENTINEL" Bundle.listD A s' s'.heap := by rw [hhp]; exact vx_Zq.moved hW0.alike (hN.kept hS.2.1)
  have h : ∀ w ∈ Bundle.ownAtoms own ic cls names, w.before args s' = true := vx_own hat' (vx_isRefq hU'.1) (vx_isRefq hN'.1) hU'.2.word hN'.2.word
  have hown' : s'.vm.findClass own = some m.cls := by rw [hvm]; exact hown
  have hins : (Cond.instantiable cls 6).before args s' = true := h _ (by simp [Bundle.ownAtoms])
  obtain ⟨vm₁, cX, kX, hfX, hkX, -, -, X₁, st1⟩ := Y.newCold hexec (own := own) (C := cls) (index := ik) (n := 6) hown' hk' hins hini'
    (g := F0 m pc ls rest) rfl (by rw [hb]; exact d0) (Nat.le_refl _) (Nat.le_refl _)
  generalize hT1 : (T.setVm vm₁).pushCell { cls := cX, slots := kX.instanceTypes.map defaultValue, vm := .none } = T1 at X₁ st1
  have hcat : (Value.ref T.heap.size).category = 1 := rfl
  have hcellA : T1.heap[T.heap.size]? = some (freshCell cX kX) := by rw [← hT1]; exact State.heap_pushCell_size _ _
  have d3' : decode c.code (pc + 3) = .ok (.dup, 1) := by rw [hb]; exact d3
  have d4' : decode c.code (pc + 4) = .ok (.ldc_w is, 3) := by rw [hb]; exact d4
  have hstr' : vk_R own is text sa s' := vk_R.warm hW0 hstr
  obtain ⟨U, hsteps, hrun, hend, hW, hsame, ce, hce, hO⟩ := X₁.ctorThrowS hexec htr (own := own) (cls := cls) (names := names) (ic := ic) hown' hcls hnames h (fun x hx => nomatch hx) hfX hkX hcellA (by rw [hhp, hT]; exact Nat.le_refl _) (msg := .ref sa) rfl
    (g := { method := m, pc := pc + 7, locals := ls, stack := .ref sa :: .ref T.heap.size :: .ref T.heap.size :: rest, locked := none }) rfl hsize rfl rfl (rest := rest) rfl
    (by rw [hb]; exact d7) (by rw [hb]; exact d10) hout hRframes (by simp only [List.map_cons, List.sum_cons, hcat]; omega) hlocks
  obtain ⟨f1, f2⟩ := vx_frame hsame
  rw [hhp] at f1 f2
  have hWs : s.WarmedH U.vm := State.WarmedH.trans hW0 hW
  have hcl : s.vm.findClass cls = some ce.cls := by
    have h9 := hO.cls
    rw [hvm] at h9
    exact h9
  have hall : s.sameButNew ({ U with vm := s.vm } : State) locs mc ms := by
    subst hA
    obtain ⟨e1, e2⟩ := hsame
    rw [State.setFrames_setFrames] at e1
    have h2 : (T.setVm s.vm).sameButNew ({ U with vm := s.vm } : State) [] (0 + 1) (0 + 6) := ⟨e1, e2⟩
    have h3 := X.same.trans h2
    rw [List.append_nil] at h3
    exact h3.mono hc hs
  refine ⟨U, ?_, .threw T.heap.size, hrun, hend, Or.inr ⟨T.heap.size, rfl, cls, ce, locs, hx U hWs.alike f1 (fun q hq => f2 q hq (fun z hz => nomatch hz)), hce, hO.vm, hcl, hWs, hall, hf⟩⟩
  refine st1 _ ?_
  show Steps p.tables e below (T1.setTop { method := m, pc := pc + 3, locals := ls, stack := .ref T.heap.size :: rest, locked := none }) _
  jvm_step X₁.here [X₁.here.top, hexec, d3', Value.category]
  exact X₁.ldcStringW hexec (own := own) (text := text) (index := is) (a := sa) hown' hstr'.1 hstr'.2
    (g := { method := m, pc := pc + 4, locals := ls, stack := .ref T.heap.size :: .ref T.heap.size :: rest, locked := none }) rfl d4' _ hsteps
end Ends
section Bodies
variable {l : Launch}
theorem vx_ofW {y : MethodName} {ws ws' : List Cond} {rm : Room} {Pc : Array Value → State → Prop} {Qc : Array Value → State → Outcome → State → Prop} {XC : String → State → State → Prop} {mc ms : Nat} {free : Addr → Prop} {cc : ByteArray} {maxL : Nat} {ret : Option FieldType}
    (hy : plainName y.cls = true) (hw : ws = Cond.code y cc maxL ret :: ws')
    (body : ∀ p e s m args below meth c s₁, BodyLoose p l y (headSpec ws rm) cc maxL ret e s m args below meth c s₁ → c.maxLocals = maxL → (∀ x ∈ c.exceptionTable.toList, False) → Pc args s →
      W p l e (headSpec ws rm).room s m args below meth c s.heap [] 0 0 (vx_MQ below Qc XC args s mc ms free) (entryFrame m args maxL)) : vx_Met l y ws rm Pc Qc XC mc ms free := by
  refine MetFree.of_bodyS (code := cc) (maxLocals := maxL) (ret := ret) hy ?_ ?_
  · intro args s m h hn
    obtain ⟨meth, c, h1, h2, h3, h4, h5, h6, -, -⟩ := Cond.code_spec hn (atoms_spec (ws := ws) h _ (by rw [hw]; exact List.mem_cons_self))
    exact ⟨meth, c, h1, h2, h3, h4, h5, h6⟩
  · intro p e s m args below meth c s₁ B hml hP _
    have hh0 : s₁.heap = s.heap := by rw [B.state]; rfl
    have ht : ∀ x ∈ c.exceptionTable.toList, False := by
      obtain ⟨meth9, c9, h1, h2, -, -, -, -, h7, -⟩ := Cond.code_spec B.named (atoms_spec (ws := ws) B.pre _ (by rw [hw]; exact List.mem_cons_self))
      cases Option.some.inj (h1.symm.trans B.method)
      cases Option.some.inj (h2.symm.trans (Stand.of_body B).code)
      intro x hx
      rw [Array.isEmpty_iff.mp h7] at hx
      cases hx
    obtain ⟨t, a1, o, b1, b2, b3⟩ := body p e s m args below meth c s₁ B hml ht hP s₁ hh0 (Stand.of_body B)
    exact ⟨t, o, a1, b1, b2, b3⟩
/-- the table of a body with handlers -/
theorem vx_table {p : Program} {x y : MethodName} {S : Spec} {cc bytes : ByteArray} {maxL maxL' : Nat} {ret ret' : Option FieldType} {e : Env} {s s₁ : State} {m : MethodId} {args : Array Value} {below : List Frame} {meth : Method} {c : Code} {hh : List (Nat × Nat × Nat × Nat)}
    (B : BodyLoose p l y S cc maxL ret e s m args below meth c s₁) (h : (Cond.codeWith y bytes maxL' ret' hh).before args s = true) : c.exceptionTable.toList = tableOf hh := by
  obtain ⟨m9, meth9, c9, hn9, h1, h2, -, -, h6, -⟩ := Cond.codeWith_spec h
  cases Option.some.inj (hn9.symm.trans B.named)
  cases Option.some.inj (h1.symm.trans B.method)
  cases Option.some.inj (h2.symm.trans (Stand.of_body B).code)
  rw [← h6, table_eq]
end Bodies
end VXA
/-! ===== END ===== -/
/-! ===== BEGIN a static call of a method with an exception table ===== -/
section VXS
variable {p : Program} {l : Launch} {e : Env} {R : Room} {s : State} {m : MethodId} {args : Array Value} {below : List Frame} {meth : Method} {c : Code} {T : State} {H : Heap} {locs : List Loc} {cells slots : Nat}
abbrev vx_CSW (R : Room) (s : State) (args : Array Value) (own : String) (index : Nat) (y : MethodName) (bytes : ByteArray) (maxL : Nat) (ret : Option FieldType) (hh : List (Nat × Nat × Nat × Nat)) (ws : List Cond) (rm : Room) (mc ms n : Nat) : Prop :=
  (rm.cells = mc ∧ rm.slots = ms ∧ rm.frames + 1 ≤ R.frames ∧ 8 + (maxL + 11) + rm.locals ≤ R.locals ∧ (∀ w ∈ ws, ∀ (a' : Array Value) (U : State), s.WarmedH U.vm → w.before a' U = true) ∧ Cond.codeWith y bytes maxL ret hh ∈ ws) ∧
  (Cond.codeWith y bytes maxL ret hh).before args s = true ∧ (Cond.initialized y.cls).before args s = true ∧ (y.cls ≠ "java/lang/invoke/MethodHandle" ∧ y.cls ≠ "java/lang/invoke/VarHandle") ∧
  (∀ sig, parseMethodDescriptor y.desc = some sig → n = sig.parameters.length) ∧ (Cond.methodLink own index y).before args s = true ∧ (Cond.static y).before args s = true
theorem vx_cwSW {own : String} {index maxL mc ms : Nat} {y : MethodName} {bytes : ByteArray} {ret : Option FieldType} {hh : List (Nat × Nat × Nat × Nat)} {Ts ws ws' : List Cond} {rm : Room} (n : Nat) (ht : ∀ w ∈ Ts, w.before args s = true) (hT : GoodIn Ts (va_wsS own index y ws)) (hw : ws = Cond.codeWith y bytes maxL ret hh :: ws') (hrc : rm.cells = mc) (hrs : rm.slots = ms)
    (hd : y.cls ≠ "java/lang/invoke/MethodHandle" ∧ y.cls ≠ "java/lang/invoke/VarHandle" ∧ (parseMethodDescriptor y.desc).map (fun d => d.parameters.length) = some n) (hR : rm.frames + 1 ≤ R.frames ∧ 8 + (maxL + 11) + rm.locals ≤ R.locals) :
    vx_CSW R s args own index y bytes maxL ret hh ws rm mc ms n := by
  have ok : ∀ w ∈ va_wsS own index y ws, w.before args s = true := fun w h => ht w (hT w h).1
  have hG : GoodIn Ts ws := fun w h => hT w (by unfold va_wsS; exact List.mem_append_right _ h)
  have hc : Cond.codeWith y bytes maxL ret hh ∈ ws := by rw [hw]; exact List.mem_cons_self
  refine ⟨⟨hrc, hrs, hR.1, hR.2, pay_in ht hG, hc⟩, ht _ (hG _ hc).1, ok _ (by simp [va_wsS]), ⟨hd.1, hd.2.1⟩, fun sig h => ?_, ok _ (by simp [va_wsS]), ok _ (by simp [va_wsS])⟩
  have h2 := hd.2.2
  rw [h] at h2
  exact (Option.some.inj h2).symm
theorem vx_callSW (X : Stand p l e R s m args below meth c T locs cells slots) (hexec : p.tables.exec = Jvm.exec) {own : String} {index : Nat} {y : MethodName} {bytes : ByteArray} {maxL : Nat} {ret : Option FieldType} {hh : List (Nat × Nat × Nat × Nat)}
    (hown : s.vm.findClass own = some m.cls) (hlink : (Cond.methodLink own index y).before args s = true) (hstat : (Cond.static y).before args s = true) (hinit : (Cond.initialized y.cls).before args s = true)
    (hcode : (Cond.codeWith y bytes maxL ret hh).before args s = true) (hy : y.cls ≠ "java/lang/invoke/MethodHandle" ∧ y.cls ≠ "java/lang/invoke/VarHandle")
    {W9 : Nat} {Pre : Pt → Array Value → Prop} {Post : Pt → Array Value → Option Value → Pt → Prop} (hK : Back l R p e below s args y 3 W9 Pre Post)
    {g : JFrame} (hg : g.method = m) (hsize : g.locals.size = c.maxLocals) {argsL rest : List Value} (hlen : ∀ sig, parseMethodDescriptor y.desc = some sig → argsL.length = sig.parameters.length)
    (hstack : g.stack = argsL.reverse ++ rest) (hW : 2 * g.monitorRoom + (rest.map fun v => v.category).sum ≤ W9) (hdg : decode c.code g.pc = .ok (.invokestatic index, 3))
    (hpre : ∀ vm₁, s.WarmedH vm₁ → Pre ⟨T.setVm vm₁, locs, cells, slots⟩ argsL.toArray) :
    ∃ (v : Option Value) (vm₁ : Vm) (B : Pt), s.WarmedH vm₁ ∧ Stand p l e R s m args below meth c B.U B.locs B.cells B.slots ∧ Post ⟨T.setVm vm₁, locs, cells, slots⟩ argsL.toArray v B ∧
      ∀ target, Steps p.tables e below (B.U.setTop { g with pc := g.pc + 3, stack := v.toList ++ rest }) target → Steps p.tables e below (T.setTop g) target := by
  obtain ⟨mk, methM, cM, hnamed, hmethM, -, -, -, -, -, -, hsigM⟩ := Cond.codeWith_spec hcode
  have hstatic : methM.isStatic = true := Cond.static_spec hnamed hmethM hstat
  obtain ⟨kP, hkP, -⟩ := className_of_methodNamed hnamed
  have hinitP : kP.init = .initialized := Cond.initialized_spec (findClass_of_methodNamed hnamed) hkP hinit
  obtain ⟨vm₁, X₁, hstep₁⟩ := X.invokestatic hexec hown hlink hnamed hmethM hstatic hkP hinitP hy (g := g) hg (argsL := argsL) (rest := rest) (hlen _ hsigM) hstack hdg
  obtain ⟨v, B, X', hpost, hsteps⟩ := hK m meth c ⟨T.setVm vm₁, locs, cells, slots⟩ { g with stack := rest } (.invokestatic index) mk argsL.toArray X₁ hg hsize hdg hW (X₁.named hnamed) (hpre vm₁ X₁.warmed)
  exact ⟨v, vm₁, B, X₁.warmed, X', hpost, fun target h => hstep₁ _ fun acts => by rw [doInvoke_state]; exact hsteps.trans h⟩
theorem vx_runSW {y : MethodName} {bytes cc : ByteArray} {maxL nL mc ms n index : Nat} {ret : Option FieldType} {hh : List (Nat × Nat × Nat × Nat)} {ws : List Cond} {rm : Room} {Pc : Array Value → State → Prop} {Qc : Array Value → State → Outcome → State → Prop} {free : Addr → Prop} {Ts : List Cond} {own : String} {As rest : List Value} {g : JFrame}
    (S : CallFix p m c cc nL s args Ts own) (hM : Met l y ws rm Pc Qc mc ms free) (cw : vx_CSW R s args own index y bytes maxL ret hh ws rm mc ms n) (hp : PreS s H Pc As)
    (hg : g.method = m) (hn : As.length = n) (hsize : g.locals.size = nL) (hstack : g.stack = As.reverse ++ rest) (hW : 2 * g.monitorRoom + (rest.map fun v => v.category).sum ≤ 8) (hdg : decode cc g.pc = .ok (.invokestatic index, 3)) (hf : cells + mc ≤ R.cells ∧ slots + ms ≤ R.slots) :
    va_Run p l e R s m args below meth c H locs cells slots mc ms g rest (Qc As.toArray) (free) := by
  obtain ⟨⟨hrc, hrs, hfr, hlo, hws, hcw⟩, hcode, hini, hy, hlen, hl, hstt⟩ := cw
  have hK : Back l R p e below s args y 3 8 (PreOf R mc ms Pc) (PostOf Qc mc ms free) := va_backW (hh := hh) (bytes := bytes) (maxL := maxL) (ret := ret) hM hp.1 hrc hrs hfr hlo hws hcw (fun a' U hW => word_at hW (Or.inl (by first | rfl | simp [Cond.onTables, Cond.keeps, Cond.steady])) hini)
  obtain ⟨hx, hb, hml, ho, -⟩ := S
  intro T hT X
  obtain ⟨v, vm₁, ⟨U', l2, c2, s2⟩, hW₁, X', ⟨g', mk, t, L, e1, e2, hq, h1, hL, h2, h3⟩, st⟩ := vx_callSW X hx (hh := hh) (bytes := bytes) (maxL := maxL) (ret := ret) ho hl hstt hini hcode hy hK hg (hsize.trans hml.symm) (argsL := As) (rest := rest) (fun sig h => hn.trans (hlen sig h)) hstack hW (by rw [hb]; exact hdg)
    (fun vm₁ hW₁ => ⟨hf.1, hf.2, hp.2 (T.setVm vm₁) hT hW₁⟩)
  dsimp only [Pt.U, Pt.locs, Pt.cells, Pt.slots] at X' e1 e2 h1 h2 h3 st
  subst h1; subst h2; subst h3
  exact ⟨v, (T.setVm vm₁).calling g' mk As.toArray, t, U', L, hT, X', hL, e1, e2, hq, st⟩
/-- not caught here, past rows that name other classes: it goes on to the caller -/
theorem vx_outP {p : Program} {l : Launch} {e : Env} {R : Room} {s : State} {m : MethodId} {args : Array Value} {below : List Frame} {meth : Method} {c : Code} {H : Heap} {locs : List Loc} {cells slots : Nat} {free : Addr → Prop} {ls : Array Slot} {rest : List Value} {Qc : Array Value → State → Outcome → State → Prop} {XC : String → State → State → Prop}
    {pc : Nat} {own E : String} {ce : Cell} {q : Addr} {mc ms : Nat} (hown : s.vm.findClass own = some m.cls) (hlocks : meth.locks = false)
    (hpass : ∀ z ∈ c.exceptionTable.toList, covers z pc = false ∨ (z.catchType ≠ 0 ∧ ∃ nm : String, (Cond.classLink own z.catchType nm).before args s = true ∧ va_Nc E nm s)) (hcell : H[q]? = some ce) (hv : ce.vm = .none) (hcl : s.vm.findClass E = some ce.cls)
    (hx : ∀ t : State, t.heap = H → s.vm.Alike t.vm → XC E s t) (hf : ∀ z ∈ locs, free z.base) (hc : cells ≤ mc) (hs : slots ≤ ms) :
    vx_W p l e R s m args below meth c H locs cells slots (vx_MQ below Qc XC args s mc ms free) (F0 m pc ls rest) q := by
  intro T hT X
  have hpl : e.platform.magicAccessors = ({} : Platform).magicAccessors := by rw [X.admits.platform]
  obtain ⟨vm', hW', X', st⟩ := X.outThrough hlocks q (g := F0 m pc ls rest) rfl rfl rfl (cell := ce) (by rw [hT]; exact hcell) (by rw [hv]; rfl)
    (by obtain ⟨k9, h9, -⟩ := Vm.findClass_spec hcl; exact ⟨k9, h9⟩) (fun z hz => by
      rcases hpass z hz with h | ⟨hz0, nm, hl1, hn1⟩
      · exact Or.inl h
      · obtain ⟨c6, hc6, hcl6⟩ := Cond.classLink_spec hown hl1 e.platform hpl
        obtain ⟨a8, b8, h1, h2, h3⟩ := hn1
        cases Option.some.inj (h1.symm.trans hcl)
        cases Option.some.inj (h2.symm.trans hc6)
        exact Or.inr ⟨hz0, _, hcl6, h3⟩)
  obtain ⟨g₀, hfr⟩ := X'.frames_eq
  have hcell9 : ((T.setVm vm').setFrames (.throwing q :: below)).heap[q]? = some ce := by
    show T.heap[q]? = some ce
    rw [hT]; exact hcell
  have hend : Ended ((T.setVm vm').setFrames (.throwing q :: below)) below (.threw q) := State.frames_setFrames _ (State.cur_lt_of_frames hfr)
  refine ⟨(T.setVm vm').setFrames (.throwing q :: below), ?_, .threw q, X'.here.running, hend, Or.inr ⟨q, rfl, E, ce, locs, hx _ hT (X'.ends _).1.alike, hcell9, hv, hcl, (X'.ends _).1, (X'.ends _).2.mono hc hs, hf⟩⟩
  rw [X.pushThrowing_eq]
  exact st
/-- a thing of a world lies in the heap -/
theorem vx_lt {D : va_G} {cl : List vw_C} {ws : va_W} {H1 : Heap} (h : va_P D cl ws H1) {k : Nat} {q : Nat × va_E} (hk : ws[k]? = some q) : q.1 < H1.size := (h k q hk).lt
end VXS
/-! ===== END ===== -/
/-! ===== BEGIN methods with a table of their own: called by a name, returning or throwing ===== -/
section VXH
/-! vx_backW, vx_callVX, vx_callSX, vx_callVW, vx_runVW, vx_runVX, vx_runSX, vx_ofWH follow the same proofs as their sisters above (Free/Laws.lean, Shelf42/LK1.lean); vx_outP calls Shelf42/NT130.lean (outThrough). -/
section
variable {l : Launch} {R : Room} {p : Program} {e : Env} {below : List Frame} {s : State} {sargs : Array Value} {y : MethodName} {len W9 : Nat}
theorem vx_backW {ws : List Cond} {rm : Room} {Pc : Array Value → State → Prop} {Qc : Array Value → State → Outcome → State → Prop} {XC : String → State → State → Prop} {mc ms : Nat} {free : Addr → Prop} {bytes : ByteArray} {maxL : Nat} {ret : Option FieldType} {hh : List (Nat × Nat × Nat × Nat)}
    (hM : vx_Met l y ws rm Pc Qc XC mc ms free) (hblind : FrameBlind Pc) (hrc : rm.cells = mc) (hrs : rm.slots = ms)
    (hframes : rm.frames + 1 ≤ R.frames) (hlocals : W9 + (maxL + 11) + rm.locals ≤ R.locals)
    (hws : ∀ w ∈ ws, ∀ a' U, s.WarmedH U.vm → w.before a' U = true) (hcode : Cond.codeWith y bytes maxL ret hh ∈ ws) (hinit : ∀ a' U, s.WarmedH U.vm → (Cond.initialized y.cls).before a' U = true) :
    vx_Back l R p e below s sargs y len W9 (PreOf R mc ms Pc) (PostOf Qc mc ms free) (vx_Post XC mc ms free) := by
  intro m meth c A g ig mk a X hg hsize hdg hW hn hp
  have h1 : (headSpec ws rm).pre.before a A.U = true := atoms_intro fun w hw => hws w hw _ _ X.warmed
  have h2 : (Cond.codeWith y bytes maxL ret hh).before a A.U = true := hws _ hcode _ _ X.warmed
  have h3 : (Cond.initialized y.cls).before a A.U = true := hinit _ _ X.warmed
  have h4 : A.cells + (headSpec ws rm).room.cells ≤ R.cells := by rw [show (headSpec ws rm).room.cells = mc from hrc]; exact hp.1
  have h5 : A.slots + (headSpec ws rm).room.slots ≤ R.slots := by rw [show (headSpec ws rm).room.slots = ms from hrs]; exact hp.2.1
  have hPc : Pc a (A.U.calling g mk a) := hblind _ _ _ _ hp.2.2
  obtain ⟨U, Ls, c0, s0⟩ := A
  dsimp only [Pt.U, Pt.locs, Pt.cells, Pt.slots] at h1 h2 h3 h4 h5 X hn hPc ⊢
  obtain ⟨m9, methY, cY, hn9, hmY, hcY, -, hlY, -⟩ := Cond.codeWith_spec h2
  cases Option.some.inj (hn9.symm.trans hn)
  obtain ⟨kY, hkY, -⟩ := className_of_methodNamed hn
  have hinitY : kY.init = .initialized := Cond.initialized_spec (findClass_of_methodNamed hn) hkY h3
  have h : At U g.method c below := by rw [hg]; exact X.here
  have hlocals9 : W9 + (maxL + 11) + (headSpec ws rm).room.locals ≤ R.locals := hlocals
  have happ : (headSpec ws rm).appliesLoose y e.platform (U.calling g mk a) = true :=
    Spec.appliesLoose_calling (g := g) h hdg hn hkY hinitY
      (X.room_calling (g := g) (R' := (headSpec ws rm).room) hsize hmY hcY hframes (by rw [hlY]; omega) h4 h5) h1
  obtain ⟨mid, hmid⟩ := h.above
  have hfr : (U.setTop g).frames = (.java g :: mid) ++ below := by rw [State.frames_setTop' g h.top, hmid]; rfl
  obtain ⟨o, s₂, hsteps, -, hend, hq⟩ := Steps.callFree hM p X.admits X.cas X.clock (acts := []) hfr happ hPc trivial
  have hq' : vx_Q Qc XC mc ms free a (U.calling g mk a) o s₂ := hq
  rw [State.frames_setTop' g h.top] at hend
  obtain ⟨g₀, hg0⟩ := Option.isSome_iff_exists.mp h.top
  obtain ⟨r, hr⟩ := State.topJava?_eq_some.mp hg0
  have hr' : (({ U with heap := s₂.heap, slotsUsed := s₂.slotsUsed } : State).setVm s₂.vm).frames = .java g₀ :: r := hr
  rcases hq' with ⟨hqc, L, hfe, hL⟩ | ⟨q, rfl, E, ce, L, hx, hce, hcv, hcl, hW₂, hsm, hL⟩
  · obtain ⟨⟨v, rfl⟩, hW₂, e2, q2, q3, q4, q5, q6⟩ := id hfe
    have e3 : s₂ = ({ (U.calling g mk a).setFrames s₂.frames with heap := s₂.heap, slotsUsed := s₂.slotsUsed } : State).setVm s₂.vm := by
      have : s₂ = ({ s₂ with vm := (U.calling g mk a).vm } : State).setVm s₂.vm := rfl
      rw [e2] at this
      exact this
    obtain ⟨c₂, i₂, len₂, hc₂, hd₂, hf₂⟩ := hend
    have hW' : U.WarmedH s₂.vm := hW₂
    have hcc : c₂ = c := by
      have h1 : s₂.code? g.method = U.code? g.method := by
        rw [State.code?_eq, State.code?_eq, hW'.alike.method?]
      exact Option.some.inj (hc₂.symm.trans (h1.trans h.code))
    subst hcc
    have hlen : len₂ = len := by rw [hdg] at hd₂; cases hd₂; rfl
    subst hlen
    have hs₂ : s₂ = (({ U with heap := s₂.heap, slotsUsed := s₂.slotsUsed } : State).setVm s₂.vm).setTop { g with pc := g.pc + len₂, stack := v.toList ++ g.stack } := by
      refine e3.trans ?_
      rw [hf₂, State.calling_eq h.top, State.setFrames_setFrames, State.setTop_of_frames _ hr', hr]
      rfl
    have hsame : U.sameButNew ({ U with heap := s₂.heap, slotsUsed := s₂.slotsUsed } : State) L mc ms := by
      refine ⟨?_, q2, q3, q4, q5, q6⟩
      obtain ⟨t, ht, -⟩ := State.frames_cons hr
      show ({ U with heap := s₂.heap, slotsUsed := s₂.slotsUsed } : State) = { U.setFrames U.frames with heap := s₂.heap, slotsUsed := s₂.slotsUsed }
      rw [State.setFrames_self ht]
    subst hg
    refine Or.inl ⟨v, ⟨(({ U with heap := s₂.heap, slotsUsed := s₂.slotsUsed } : State).setVm s₂.vm), Ls ++ L, c0 + mc, s0 + ms⟩,
      ⟨X.admits, X.cas, X.clock, X.frames, X.room, X.hears, X.method, X.code, (X.here.setHeapUsed s₂.heap s₂.slotsUsed).setVm hW'.alike, X.tail, State.WarmedH.trans X.warmed hW', X.limits, X.bytes, X.same.trans (hsame.setVm s.vm)⟩,
      ⟨g, mk, s₂, L, rfl, rfl, hqc, rfl, hL, rfl, rfl⟩, ?_⟩
    show Steps p.tables e below _ ((({ U with heap := s₂.heap, slotsUsed := s₂.slotsUsed } : State).setVm s₂.vm).setTop { g with pc := g.pc + len₂, stack := v.toList ++ g.stack })
    rw [← hs₂]
    exact hsteps
  · obtain ⟨e2, q2, q3, q4, q5, q6⟩ := id hsm
    have e3 : s₂ = ({ (U.calling g mk a).setFrames s₂.frames with heap := s₂.heap, slotsUsed := s₂.slotsUsed } : State).setVm s₂.vm := by
      have : s₂ = ({ s₂ with vm := (U.calling g mk a).vm } : State).setVm s₂.vm := rfl
      rw [e2] at this
      exact this
    have hf₂ : s₂.frames = .throwing q :: .java g :: U.frames.tail := hend
    have hW' : U.WarmedH s₂.vm := hW₂
    have hs₂ : s₂ = ((({ U with heap := s₂.heap, slotsUsed := s₂.slotsUsed } : State).setVm s₂.vm).setTop g).pushFrame (.throwing q) := by
      refine e3.trans ?_
      rw [hf₂, State.calling_eq h.top, State.setFrames_setFrames, State.pushFrame, State.frames_setTop _ hr', State.setTop_of_frames _ hr', State.setFrames_setFrames, hr]
      rfl
    have hsame : U.sameButNew ({ U with heap := s₂.heap, slotsUsed := s₂.slotsUsed } : State) L mc ms := by
      refine ⟨?_, q2, q3, q4, q5, q6⟩
      obtain ⟨t, ht, -⟩ := State.frames_cons hr
      show ({ U with heap := s₂.heap, slotsUsed := s₂.slotsUsed } : State) = { U.setFrames U.frames with heap := s₂.heap, slotsUsed := s₂.slotsUsed }
      rw [State.setFrames_self ht]
    subst hg
    refine Or.inr ⟨q, ⟨(({ U with heap := s₂.heap, slotsUsed := s₂.slotsUsed } : State).setVm s₂.vm), Ls ++ L, c0 + mc, s0 + ms⟩,
      ⟨X.admits, X.cas, X.clock, X.frames, X.room, X.hears, X.method, X.code, (X.here.setHeapUsed s₂.heap s₂.slotsUsed).setVm hW'.alike, X.tail, State.WarmedH.trans X.warmed hW', X.limits, X.bytes, X.same.trans (hsame.setVm s.vm)⟩,
      ⟨g, mk, s₂, L, E, ce, rfl, rfl, hx, hce, hcv, hcl, rfl, hL, rfl, rfl⟩, ?_⟩
    show Steps p.tables e below _ (((({ U with heap := s₂.heap, slotsUsed := s₂.slotsUsed } : State).setVm s₂.vm).setTop g).pushFrame (.throwing q))
    rw [← hs₂]
    exact hsteps
end
variable {p : Program} {l : Launch} {e : Env} {R : Room} {s : State} {m : MethodId} {args : Array Value} {below : List Frame} {meth : Method} {c : Code} {T : State} {H : Heap} {locs : List Loc} {cells slots : Nat}
theorem vx_callVX (X : Stand p l e R s m args below meth c T locs cells slots) (hexec : p.tables.exec = Jvm.exec) {own C : String} {index : Nat} {y : MethodName} {bytes : ByteArray} {maxL : Nat} {ret : Option FieldType} {hh : List (Nat × Nat × Nat × Nat)}
    (hown : s.vm.findClass own = some m.cls) (hlink : (Cond.methodLink own index y).before args s = true) (hinst : (Cond.instanceMethod y).before args s = true) (hsel : (Cond.selects C y y).before args s = true)
    (hcode : (Cond.codeWith y bytes maxL ret hh).before args s = true) (hy : y.cls ≠ "java/lang/invoke/MethodHandle" ∧ y.cls ≠ "java/lang/invoke/VarHandle")
    {W9 : Nat} {Pre : Pt → Array Value → Prop} {Post : Pt → Array Value → Option Value → Pt → Prop} {PostX : Pt → Array Value → Addr → Pt → Prop} (hK : vx_Back l R p e below s args y 3 W9 Pre Post PostX)
    {b : Addr} {cellB : Cell} (hcell : T.heap[b]? = some cellB) (hobj : cellB.vm.isStatics = false) (hcls : s.vm.findClass C = some cellB.cls)
    {g : JFrame} (hg : g.method = m) (hsize : g.locals.size = c.maxLocals) {argsL rest : List Value} (hlen : ∀ sig, parseMethodDescriptor y.desc = some sig → argsL.length = sig.parameters.length)
    (hstack : g.stack = argsL.reverse ++ .ref b :: rest) (hW : 2 * g.monitorRoom + (rest.map fun v => v.category).sum ≤ W9) (hdg : decode c.code g.pc = .ok (.invokevirtual index, 3))
    (hpre : ∀ vm₁, s.WarmedH vm₁ → Pre ⟨T.setVm vm₁, locs, cells, slots⟩ (Value.ref b :: argsL).toArray) :
    (∃ (v : Option Value) (vm₁ : Vm) (B : Pt), s.WarmedH vm₁ ∧ Stand p l e R s m args below meth c B.U B.locs B.cells B.slots ∧ Post ⟨T.setVm vm₁, locs, cells, slots⟩ (Value.ref b :: argsL).toArray v B ∧
      ∀ target, Steps p.tables e below (B.U.setTop { g with pc := g.pc + 3, stack := v.toList ++ rest }) target → Steps p.tables e below (T.setTop g) target) ∨
    (∃ (q : Addr) (vm₁ : Vm) (B : Pt), s.WarmedH vm₁ ∧ Stand p l e R s m args below meth c B.U B.locs B.cells B.slots ∧ PostX ⟨T.setVm vm₁, locs, cells, slots⟩ (Value.ref b :: argsL).toArray q B ∧
      Steps p.tables e below (T.setTop g) ((B.U.setTop { g with stack := rest }).pushFrame (.throwing q))) := by
  obtain ⟨mk, methM, hnamed, hmethM, hstM, habM⟩ := Cond.instanceMethod_spec hinst
  obtain ⟨m8, methM', cM, hn8, hmethM', -, -, -, -, -, -, hsigM⟩ := Cond.codeWith_spec hcode
  cases Option.some.inj (hn8.symm.trans hnamed)
  cases hmethM.symm.trans hmethM'
  obtain ⟨c2, r2, m2, q1, q2, q3, q4, kP, hkP, hkPi⟩ := Cond.selects_spec hsel
  cases hcls.symm.trans q1
  cases (State.methodFound?_of_named hnamed hy).symm.trans q2
  cases hnamed.symm.trans q3
  have hselP : selectMethod e.platform s.vm cellB.cls mk = .method mk := by rw [Launch.admits_selectMethod X.admits]; exact q4
  obtain ⟨vm₁, X₁, hstep₁⟩ := X.invokevirtual hexec hown hlink hnamed hmethM hstM hkP hkPi hy (a := b) (cell := cellB) hcell
    (fun z h => by rw [h] at hobj; cases hobj) hselP hmethM habM hkP hkPi (g := g) hg (argsL := argsL) (rest := rest) (hlen _ hsigM) hstack hdg
  rcases hK m meth c ⟨T.setVm vm₁, locs, cells, slots⟩ { g with stack := rest } (.invokevirtual index) mk (Value.ref b :: argsL).toArray X₁ hg hsize hdg hW (X₁.named hnamed) (hpre vm₁ X₁.warmed) with ⟨v, B, X', hpost, hsteps⟩ | ⟨q, B, X', hpost, hsteps⟩
  · exact Or.inl ⟨v, vm₁, B, X₁.warmed, X', hpost, fun target h => hstep₁ _ fun acts => by rw [doInvoke_state]; exact hsteps.trans h⟩
  · exact Or.inr ⟨q, vm₁, B, X₁.warmed, X', hpost, hstep₁ _ fun acts => by rw [doInvoke_state]; exact hsteps⟩
theorem vx_callSX (X : Stand p l e R s m args below meth c T locs cells slots) (hexec : p.tables.exec = Jvm.exec) {own : String} {index : Nat} {y : MethodName} {bytes : ByteArray} {maxL : Nat} {ret : Option FieldType} {hh : List (Nat × Nat × Nat × Nat)}
    (hown : s.vm.findClass own = some m.cls) (hlink : (Cond.methodLink own index y).before args s = true) (hstat : (Cond.static y).before args s = true) (hinit : (Cond.initialized y.cls).before args s = true)
    (hcode : (Cond.codeWith y bytes maxL ret hh).before args s = true) (hy : y.cls ≠ "java/lang/invoke/MethodHandle" ∧ y.cls ≠ "java/lang/invoke/VarHandle")
    {W9 : Nat} {Pre : Pt → Array Value → Prop} {Post : Pt → Array Value → Option Value → Pt → Prop} {PostX : Pt → Array Value → Addr → Pt → Prop} (hK : vx_Back l R p e below s args y 3 W9 Pre Post PostX)
    {g : JFrame} (hg : g.method = m) (hsize : g.locals.size = c.maxLocals) {argsL rest : List Value} (hlen : ∀ sig, parseMethodDescriptor y.desc = some sig → argsL.length = sig.parameters.length)
    (hstack : g.stack = argsL.reverse ++ rest) (hW : 2 * g.monitorRoom + (rest.map fun v => v.category).sum ≤ W9) (hdg : decode c.code g.pc = .ok (.invokestatic index, 3))
    (hpre : ∀ vm₁, s.WarmedH vm₁ → Pre ⟨T.setVm vm₁, locs, cells, slots⟩ argsL.toArray) :
    (∃ (v : Option Value) (vm₁ : Vm) (B : Pt), s.WarmedH vm₁ ∧ Stand p l e R s m args below meth c B.U B.locs B.cells B.slots ∧ Post ⟨T.setVm vm₁, locs, cells, slots⟩ argsL.toArray v B ∧
      ∀ target, Steps p.tables e below (B.U.setTop { g with pc := g.pc + 3, stack := v.toList ++ rest }) target → Steps p.tables e below (T.setTop g) target) ∨
    (∃ (q : Addr) (vm₁ : Vm) (B : Pt), s.WarmedH vm₁ ∧ Stand p l e R s m args below meth c B.U B.locs B.cells B.slots ∧ PostX ⟨T.setVm vm₁, locs, cells, slots⟩ argsL.toArray q B ∧
      Steps p.tables e below (T.setTop g) ((B.U.setTop { g with stack := rest }).pushFrame (.throwing q))) := by
  obtain ⟨mk, methM, cM, hnamed, hmethM, -, -, -, -, -, -, hsigM⟩ := Cond.codeWith_spec hcode
  have hstatic : methM.isStatic = true := Cond.static_spec hnamed hmethM hstat
  obtain ⟨kP, hkP, -⟩ := className_of_methodNamed hnamed
  have hinitP : kP.init = .initialized := Cond.initialized_spec (findClass_of_methodNamed hnamed) hkP hinit
  obtain ⟨vm₁, X₁, hstep₁⟩ := X.invokestatic hexec hown hlink hnamed hmethM hstatic hkP hinitP hy (g := g) hg (argsL := argsL) (rest := rest) (hlen _ hsigM) hstack hdg
  rcases hK m meth c ⟨T.setVm vm₁, locs, cells, slots⟩ { g with stack := rest } (.invokestatic index) mk argsL.toArray X₁ hg hsize hdg hW (X₁.named hnamed) (hpre vm₁ X₁.warmed) with ⟨v, B, X', hpost, hsteps⟩ | ⟨q, B, X', hpost, hsteps⟩
  · exact Or.inl ⟨v, vm₁, B, X₁.warmed, X', hpost, fun target h => hstep₁ _ fun acts => by rw [doInvoke_state]; exact hsteps.trans h⟩
  · exact Or.inr ⟨q, vm₁, B, X₁.warmed, X', hpost, hstep₁ _ fun acts => by rw [doInvoke_state]; exact hsteps⟩
theorem vx_callVW (X : Stand p l e R s m args below meth c T locs cells slots) (hexec : p.tables.exec = Jvm.exec) {own C : String} {index : Nat} {y : MethodName} {bytes : ByteArray} {maxL : Nat} {ret : Option FieldType} {hh : List (Nat × Nat × Nat × Nat)}
    (hown : s.vm.findClass own = some m.cls) (hlink : (Cond.methodLink own index y).before args s = true) (hinst : (Cond.instanceMethod y).before args s = true) (hsel : (Cond.selects C y y).before args s = true)
    (hcode : (Cond.codeWith y bytes maxL ret hh).before args s = true) (hy : y.cls ≠ "java/lang/invoke/MethodHandle" ∧ y.cls ≠ "java/lang/invoke/VarHandle")
    {W9 : Nat} {Pre : Pt → Array Value → Prop} {Post : Pt → Array Value → Option Value → Pt → Prop} (hK : Back l R p e below s args y 3 W9 Pre Post)
    {b : Addr} {cellB : Cell} (hcell : T.heap[b]? = some cellB) (hobj : cellB.vm.isStatics = false) (hcls : s.vm.findClass C = some cellB.cls)
    {g : JFrame} (hg : g.method = m) (hsize : g.locals.size = c.maxLocals) {argsL rest : List Value} (hlen : ∀ sig, parseMethodDescriptor y.desc = some sig → argsL.length = sig.parameters.length)
    (hstack : g.stack = argsL.reverse ++ .ref b :: rest) (hW : 2 * g.monitorRoom + (rest.map fun v => v.category).sum ≤ W9) (hdg : decode c.code g.pc = .ok (.invokevirtual index, 3))
    (hpre : ∀ vm₁, s.WarmedH vm₁ → Pre ⟨T.setVm vm₁, locs, cells, slots⟩ (Value.ref b :: argsL).toArray) :
    ∃ (v : Option Value) (vm₁ : Vm) (B : Pt), s.WarmedH vm₁ ∧ Stand p l e R s m args below meth c B.U B.locs B.cells B.slots ∧ Post ⟨T.setVm vm₁, locs, cells, slots⟩ (Value.ref b :: argsL).toArray v B ∧
      ∀ target, Steps p.tables e below (B.U.setTop { g with pc := g.pc + 3, stack := v.toList ++ rest }) target → Steps p.tables e below (T.setTop g) target := by
  obtain ⟨mk, methM, hnamed, hmethM, hstM, habM⟩ := Cond.instanceMethod_spec hinst
  obtain ⟨m8, methM', cM, hn8, hmethM', -, -, -, -, -, -, hsigM⟩ := Cond.codeWith_spec hcode
  cases Option.some.inj (hn8.symm.trans hnamed)
  cases hmethM.symm.trans hmethM'
  obtain ⟨c2, r2, m2, q1, q2, q3, q4, kP, hkP, hkPi⟩ := Cond.selects_spec hsel
  cases hcls.symm.trans q1
  cases (State.methodFound?_of_named hnamed hy).symm.trans q2
  cases hnamed.symm.trans q3
  have hselP : selectMethod e.platform s.vm cellB.cls mk = .method mk := by rw [Launch.admits_selectMethod X.admits]; exact q4
  obtain ⟨vm₁, X₁, hstep₁⟩ := X.invokevirtual hexec hown hlink hnamed hmethM hstM hkP hkPi hy (a := b) (cell := cellB) hcell
    (fun z h => by rw [h] at hobj; cases hobj) hselP hmethM habM hkP hkPi (g := g) hg (argsL := argsL) (rest := rest) (hlen _ hsigM) hstack hdg
  obtain ⟨v, B, X', hpost, hsteps⟩ := hK m meth c ⟨T.setVm vm₁, locs, cells, slots⟩ { g with stack := rest } (.invokevirtual index) mk (Value.ref b :: argsL).toArray X₁ hg hsize hdg hW (X₁.named hnamed) (hpre vm₁ X₁.warmed)
  exact ⟨v, vm₁, B, X₁.warmed, X', hpost, fun target h => hstep₁ _ fun acts => by rw [doInvoke_state]; exact hsteps.trans h⟩
abbrev vx_CVW (R : Room) (s : State) (args : Array Value) (own C : String) (index : Nat) (y : MethodName) (bytes : ByteArray) (maxL : Nat) (ret : Option FieldType) (hh : List (Nat × Nat × Nat × Nat)) (ws : List Cond) (rm : Room) (mc ms n : Nat) : Prop :=
  (rm.cells = mc ∧ rm.slots = ms ∧ rm.frames + 1 ≤ R.frames ∧ 8 + (maxL + 11) + rm.locals ≤ R.locals ∧ (∀ w ∈ ws, ∀ (a' : Array Value) (U : State), s.WarmedH U.vm → w.before a' U = true) ∧ Cond.codeWith y bytes maxL ret hh ∈ ws) ∧
  (Cond.codeWith y bytes maxL ret hh).before args s = true ∧ (Cond.initialized y.cls).before args s = true ∧ (y.cls ≠ "java/lang/invoke/MethodHandle" ∧ y.cls ≠ "java/lang/invoke/VarHandle") ∧
  (∀ sig, parseMethodDescriptor y.desc = some sig → n = sig.parameters.length) ∧ (Cond.methodLink own index y).before args s = true ∧ (Cond.instanceMethod y).before args s = true ∧ (Cond.selects C y y).before args s = true
theorem vx_cwVW {own C : String} {index maxL mc ms : Nat} {y : MethodName} {bytes : ByteArray} {ret : Option FieldType} {hh : List (Nat × Nat × Nat × Nat)} {Ts ws ws' : List Cond} {rm : Room} (n : Nat) (ht : ∀ w ∈ Ts, w.before args s = true) (hT : GoodIn Ts (wsV own index C y ws)) (hw : ws = Cond.codeWith y bytes maxL ret hh :: ws') (hrc : rm.cells = mc) (hrs : rm.slots = ms)
    (hd : y.cls = C ∧ y.cls ≠ "java/lang/invoke/MethodHandle" ∧ y.cls ≠ "java/lang/invoke/VarHandle" ∧ (parseMethodDescriptor y.desc).map (fun d => d.parameters.length) = some n) (hR : rm.frames + 1 ≤ R.frames ∧ 8 + (maxL + 11) + rm.locals ≤ R.locals) :
    vx_CVW R s args own C index y bytes maxL ret hh ws rm mc ms n := by
  obtain ⟨hC, hd⟩ := hd
  subst hC
  have ok : ∀ w ∈ wsV own index y.cls y ws, w.before args s = true := fun w h => ht w (hT w h).1
  have hG : GoodIn Ts ws := fun w h => hT w (by unfold wsV; exact List.mem_append_right _ h)
  have hc : Cond.codeWith y bytes maxL ret hh ∈ ws := by rw [hw]; exact List.mem_cons_self
  refine ⟨⟨hrc, hrs, hR.1, hR.2, pay_in ht hG, hc⟩, ht _ (hG _ hc).1, ok _ (by simp [wsV]), ⟨hd.1, hd.2.1⟩, fun sig h => ?_, ok _ (by simp [wsV]), ok _ (by simp [wsV]), ok _ (by simp [wsV])⟩
  have h2 := hd.2.2
  rw [h] at h2
  exact (Option.some.inj h2).symm
theorem vx_runVW {y : MethodName} {bytes cc : ByteArray} {maxL nL mc ms n index : Nat} {ret : Option FieldType} {hh : List (Nat × Nat × Nat × Nat)} {ws : List Cond} {rm : Room} {Pc : Array Value → State → Prop} {Qc : Array Value → State → Outcome → State → Prop} {free : Addr → Prop} {Ts : List Cond} {own C : String} {b : Addr} {As rest : List Value} {g : JFrame}
    (S : CallFix p m c cc nL s args Ts own) (hM : Met l y ws rm Pc Qc mc ms free) (cw : vx_CVW R s args own C index y bytes maxL ret hh ws rm mc ms n) (hp : PreV s H C b Pc As)
    (hg : g.method = m) (hn : As.length = n) (hsize : g.locals.size = nL) (hstack : g.stack = As.reverse ++ .ref b :: rest) (hW : 2 * g.monitorRoom + (rest.map fun v => v.category).sum ≤ 8) (hdg : decode cc g.pc = .ok (.invokevirtual index, 3)) (hf : cells + mc ≤ R.cells ∧ slots + ms ≤ R.slots) :
    va_Run p l e R s m args below meth c H locs cells slots mc ms g rest (Qc (Value.ref b :: As).toArray) free := by
  obtain ⟨⟨hrc, hrs, hfr, hlo, hws, hcw⟩, hcode, hini, hy, hlen, hl, hin, hse⟩ := cw
  have hK : Back l R p e below s args y 3 8 (PreOf R mc ms Pc) (PostOf Qc mc ms free) := va_backW (hh := hh) (bytes := bytes) (maxL := maxL) (ret := ret) hM hp.1 hrc hrs hfr hlo hws hcw (fun a' U hW => word_at hW (Or.inl (by first | rfl | simp [Cond.onTables, Cond.keeps, Cond.steady])) hini)
  obtain ⟨hx, hb, hml, ho, -⟩ := S
  obtain ⟨-, ⟨cellB, hcB, hoB, hclB⟩, hPc⟩ := hp
  intro T hT X
  obtain ⟨v, vm₁, ⟨U', l2, c2, s2⟩, hW₁, X', ⟨g', mk, t, L, e1, e2, hq, h1, hL, h2, h3⟩, st⟩ := vx_callVW X hx (C := C) (hh := hh) (bytes := bytes) (maxL := maxL) (ret := ret) ho hl hin hse hcode hy hK (by rw [hT]; exact hcB) hoB hclB hg (hsize.trans hml.symm) (argsL := As) (rest := rest) (fun sig h => hn.trans (hlen sig h)) hstack hW (by rw [hb]; exact hdg)
    (fun vm₁ hW₁ => ⟨hf.1, hf.2, hPc (T.setVm vm₁) hT hW₁⟩)
  dsimp only [Pt.U, Pt.locs, Pt.cells, Pt.slots] at X' e1 e2 h1 h2 h3 st
  subst h1; subst h2; subst h3
  exact ⟨v, (T.setVm vm₁).calling g' mk (Value.ref b :: As).toArray, t, U', L, hT, X', hL, e1, e2, hq, st⟩
section
variable {y : MethodName} {bytes cc : ByteArray} {maxL nL mc ms n index : Nat} {ret : Option FieldType} {ws : List Cond} {rm : Room} {Pc : Array Value → State → Prop} {Qc : Array Value → State → Outcome → State → Prop} {XC : String → State → State → Prop} {free : Addr → Prop} {Ts : List Cond} {own C : String} {b : Addr} {As rest : List Value} {g : JFrame}
theorem vx_runVX {hh : List (Nat × Nat × Nat × Nat)} (S : CallFix p m c cc nL s args Ts own) (hM : vx_Met l y ws rm Pc Qc XC mc ms free) (cw : vx_CVW R s args own C index y bytes maxL ret hh ws rm mc ms n) (hp : PreV s H C b Pc As)
    (hg : g.method = m) (hn : As.length = n) (hsize : g.locals.size = nL) (hstack : g.stack = As.reverse ++ .ref b :: rest) (hW : 2 * g.monitorRoom + (rest.map fun v => v.category).sum ≤ 8) (hdg : decode cc g.pc = .ok (.invokevirtual index, 3)) (hf : cells + mc ≤ R.cells ∧ slots + ms ≤ R.slots) :
    vx_Run p l e R s m args below meth c H locs cells slots mc ms g rest (Qc (Value.ref b :: As).toArray) XC free := by
  obtain ⟨⟨hrc, hrs, hfr, hlo, hws, hcw⟩, hcode, hini, hy, hlen, hl, hin, hse⟩ := cw
  have hK : vx_Back l R p e below s args y 3 8 (PreOf R mc ms Pc) (PostOf Qc mc ms free) (vx_Post XC mc ms free) := vx_backW (hh := hh) (bytes := bytes) (maxL := maxL) (ret := ret) hM hp.1 hrc hrs hfr hlo hws hcw (fun a' U hW => word_at hW (Or.inl (by first | rfl | simp [Cond.onTables, Cond.keeps, Cond.steady])) hini)
  obtain ⟨hx, hb, hml, ho, -⟩ := S
  obtain ⟨-, ⟨cellB, hcB, hoB, hclB⟩, hPc⟩ := hp
  intro T hT X
  rcases vx_callVX X hx (C := C) (hh := hh) (bytes := bytes) (maxL := maxL) (ret := ret) ho hl hin hse hcode hy hK (by rw [hT]; exact hcB) hoB hclB hg (hsize.trans hml.symm) (argsL := As) (rest := rest) (fun sig h => hn.trans (hlen sig h)) hstack hW (by rw [hb]; exact hdg)
    (fun vm₁ hW₁ => ⟨hf.1, hf.2, hPc (T.setVm vm₁) hT hW₁⟩) with ⟨v, vm₁, ⟨U', l2, c2, s2⟩, hW₁, X', ⟨g', mk, t, L, e1, e2, hq, h1, hL, h2, h3⟩, st⟩ | ⟨q, vm₁, ⟨U', l2, c2, s2⟩, hW₁, X', ⟨g', mk, t, L, E, ce, e1, e2, hq, hce, hcv, hcl, h1, hL, h2, h3⟩, st⟩
  · dsimp only [Pt.U, Pt.locs, Pt.cells, Pt.slots] at X' e1 e2 h1 h2 h3 st
    subst h1; subst h2; subst h3
    exact Or.inl ⟨v, (T.setVm vm₁).calling g' mk (Value.ref b :: As).toArray, t, U', L, hT, X', hL, e1, e2, hq, st⟩
  · dsimp only [Pt.U, Pt.locs, Pt.cells, Pt.slots] at X' e1 e2 h1 h2 h3 st hcl
    subst h1; subst h2; subst h3
    exact Or.inr ⟨q, (T.setVm vm₁).calling g' mk (Value.ref b :: As).toArray, t, U', L, E, ce, hT, X', hL, e1, e2, hq, hce, hcv, vx_cls hW₁ hcl, st⟩
theorem vx_runSX {hh : List (Nat × Nat × Nat × Nat)} (S : CallFix p m c cc nL s args Ts own) (hM : vx_Met l y ws rm Pc Qc XC mc ms free) (cw : vx_CSW R s args own index y bytes maxL ret hh ws rm mc ms n) (hp : PreS s H Pc As)
    (hg : g.method = m) (hn : As.length = n) (hsize : g.locals.size = nL) (hstack : g.stack = As.reverse ++ rest) (hW : 2 * g.monitorRoom + (rest.map fun v => v.category).sum ≤ 8) (hdg : decode cc g.pc = .ok (.invokestatic index, 3)) (hf : cells + mc ≤ R.cells ∧ slots + ms ≤ R.slots) :
    vx_Run p l e R s m args below meth c H locs cells slots mc ms g rest (Qc As.toArray) XC free := by
  obtain ⟨⟨hrc, hrs, hfr, hlo, hws, hcw⟩, hcode, hini, hy, hlen, hl, hstt⟩ := cw
  have hK : vx_Back l R p e below s args y 3 8 (PreOf R mc ms Pc) (PostOf Qc mc ms free) (vx_Post XC mc ms free) := vx_backW (hh := hh) (bytes := bytes) (maxL := maxL) (ret := ret) hM hp.1 hrc hrs hfr hlo hws hcw (fun a' U hW => word_at hW (Or.inl (by first | rfl | simp [Cond.onTables, Cond.keeps, Cond.steady])) hini)
  obtain ⟨hx, hb, hml, ho, -⟩ := S
  intro T hT X
  rcases vx_callSX X hx (hh := hh) (bytes := bytes) (maxL := maxL) (ret := ret) ho hl hstt hini hcode hy hK hg (hsize.trans hml.symm) (argsL := As) (rest := rest) (fun sig h => hn.trans (hlen sig h)) hstack hW (by rw [hb]; exact hdg)
    (fun vm₁ hW₁ => ⟨hf.1, hf.2, hp.2 (T.setVm vm₁) hT hW₁⟩) with ⟨v, vm₁, ⟨U', l2, c2, s2⟩, hW₁, X', ⟨g', mk, t, L, e1, e2, hq, h1, hL, h2, h3⟩, st⟩ | ⟨q, vm₁, ⟨U', l2, c2, s2⟩, hW₁, X', ⟨g', mk, t, L, E, ce, e1, e2, hq, hce, hcv, hcl, h1, hL, h2, h3⟩, st⟩
  · dsimp only [Pt.U, Pt.locs, Pt.cells, Pt.slots] at X' e1 e2 h1 h2 h3 st
    subst h1; subst h2; subst h3
    exact Or.inl ⟨v, (T.setVm vm₁).calling g' mk As.toArray, t, U', L, hT, X', hL, e1, e2, hq, st⟩
  · dsimp only [Pt.U, Pt.locs, Pt.cells, Pt.slots] at X' e1 e2 h1 h2 h3 st hcl
    subst h1; subst h2; subst h3
    exact Or.inr ⟨q, (T.setVm vm₁).calling g' mk As.toArray, t, U', L, E, ce, hT, X', hL, e1, e2, hq, hce, hcv, vx_cls hW₁ hcl, st⟩
end
end VXH
theorem vx_ofWH {l : Launch} {y : MethodName} {ws ws' : List Cond} {rm : Room} {Pc : Array Value → State → Prop} {Qc : Array Value → State → Outcome → State → Prop} {XC : String → State → State → Prop} {mc ms : Nat} {free : Addr → Prop} {cc : ByteArray} {maxL : Nat} {ret : Option FieldType} {hh : List (Nat × Nat × Nat × Nat)}
    (hy : plainName y.cls = true) (hw : ws = Cond.codeWith y cc maxL ret hh :: ws')
    (body : ∀ p e s m args below meth c s₁, BodyLoose p l y (headSpec ws rm) cc maxL ret e s m args below meth c s₁ → c.maxLocals = maxL → Pc args s →
      W p l e (headSpec ws rm).room s m args below meth c s.heap [] 0 0 (vx_MQ below Qc XC args s mc ms free) (entryFrame m args maxL)) : vx_Met l y ws rm Pc Qc XC mc ms free := by
  refine MetFree.of_bodyS (code := cc) (maxLocals := maxL) (ret := ret) hy ?_ ?_
  · intro args s m h hn
    obtain ⟨m9, meth, c, hn9, h1, h2, h3, h4, -, h5, h6, -⟩ := Cond.codeWith_spec (atoms_spec (ws := ws) h _ (by rw [hw]; exact List.mem_cons_self))
    cases hn.symm.trans hn9
    exact ⟨meth, c, h1, h2, h3, h4, h5, h6⟩
  · intro p e s m args below meth c s₁ B hml hP _
    have hh0 : s₁.heap = s.heap := by rw [B.state]; rfl
    obtain ⟨t, a1, o, b1, b2, b3⟩ := body p e s m args below meth c s₁ B hml hP s₁ hh0 (Stand.of_body B)
    exact ⟨t, o, a1, b1, b2, b3⟩
/-! ===== END ===== -/
end
section
def R_E : String := "StartTimes$Lesson"
def F_E : u_T := fun k => match k with
  | 0 => ("StartTimes$Lesson", "above", "J", false)
  | _ => ("StartTimes$Lesson", "below", "J", false)
def t_E : Nat → FieldType := fun k => match k with
  | 0 => .long
  | _ => .long
theorem n_E : ∀ a, a < 2 → ∀ b, b < 2 → a ≠ b → (F_E a).2.1 ≠ (F_E b).2.1 := by decide +kernel
theorem t_E_ok : ∀ k, k < 2 → parseFieldDescriptor (F_E k).2.2.1 = some (t_E k) := by decide +kernel
def R_Z : String := "StartTimes$Zone"
def F_Z : u_T := fun k => match k with
  | 0 => ("StartTimes$Zone", "holds", "I", true)
  | 1 => ("StartTimes$Zone", "leads", "I", true)
  | 2 => ("StartTimes$Zone", "firstWarmth", "I", false)
  | 3 => ("StartTimes$Zone", "power", "I", false)
  | 4 => ("StartTimes$Zone", "rank", "I", false)
  | 5 => ("StartTimes$Zone", "wantedMinute", "I", false)
  | 6 => ("StartTimes$Zone", "wantedWarmth", "I", false)
  | 7 => ("StartTimes$Zone", "lesson", "LStartTimes$Lesson;", true)
  | 8 => ("StartTimes$Zone", "start", "I", false)
  | _ => ("StartTimes$Zone", "warmths", "[I", true)
def t_Z : Nat → FieldType := fun k => match k with
  | 0 => .int
  | 1 => .int
  | 2 => .int
  | 3 => .int
  | 4 => .int
  | 5 => .int
  | 6 => .int
  | 7 => .object "StartTimes$Lesson"
  | 8 => .int
  | _ => .array .int
theorem n_Z : ∀ a, a < 10 → ∀ b, b < 10 → a ≠ b → (F_Z a).2.1 ≠ (F_Z b).2.1 := by decide +kernel
theorem t_Z_ok : ∀ k, k < 10 → parseFieldDescriptor (F_Z k).2.2.1 = some (t_Z k) := by decide +kernel
def R_C : String := "StartTimes"
def F_C : u_T := fun k => match k with
  | 0 => ("StartTimes", "zones", "[LStartTimes$Zone;", true)
  | 1 => ("StartTimes", "zoneCount", "I", false)
  | 2 => ("StartTimes", "outsideWarmths", "[I", true)
  | 3 => ("StartTimes", "outsideRows", "I", false)
  | 4 => ("StartTimes", "lastOutsideMinute", "I", false)
  | 5 => ("StartTimes", "machinePower", "I", false)
  | 6 => ("StartTimes", "given", "[I", true)
  | 7 => ("StartTimes", "planned", "Z", false)
  | 8 => ("StartTimes", "fadeAbove", "I", false)
  | 9 => ("StartTimes", "fadeBelow", "I", false)
  | 10 => ("StartTimes", "prices", "[I", true)
  | 11 => ("StartTimes", "setWarmths", "[I", true)
  | _ => ("StartTimes", "setCosts", "[J", true)
def t_C : Nat → FieldType := fun k => match k with
  | 0 => .array (.object "StartTimes$Zone")
  | 1 => .int
  | 2 => .array .int
  | 3 => .int
  | 4 => .int
  | 5 => .int
  | 6 => .array .int
  | 7 => .boolean
  | 8 => .int
  | 9 => .int
  | 10 => .array .int
  | 11 => .array .int
  | _ => .array .long
theorem n_C : ∀ a, a < 13 → ∀ b, b < 13 → a ≠ b → (F_C a).2.1 ≠ (F_C b).2.1 := by decide +kernel
theorem t_C_ok : ∀ k, k < 13 → parseFieldDescriptor (F_C k).2.2.1 = some (t_C k) := by decide +kernel
def R_M : String := "StartTimesModel"
def F_M : u_T := fun k => match k with
  | 0 => ("StartTimesModel", "thrown", "I", false)
  | 1 => ("StartTimesModel", "zones", "I", false)
  | 2 => ("StartTimesModel", "holds", "[I", true)
  | 3 => ("StartTimesModel", "leads", "[I", true)
  | 4 => ("StartTimesModel", "begins", "[I", true)
  | 5 => ("StartTimesModel", "powers", "[I", true)
  | 6 => ("StartTimesModel", "ranks", "[I", true)
  | 7 => ("StartTimesModel", "wantedAt", "[I", true)
  | 8 => ("StartTimesModel", "wanted", "[I", true)
  | 9 => ("StartTimesModel", "above", "[J", true)
  | 10 => ("StartTimesModel", "below", "[J", true)
  | 11 => ("StartTimesModel", "rows", "I", false)
  | 12 => ("StartTimesModel", "rowMinutes", "[I", true)
  | 13 => ("StartTimesModel", "rowWarmths", "[I", true)
  | 14 => ("StartTimesModel", "machine", "I", false)
  | 15 => ("StartTimesModel", "prices", "[I", true)
  | 16 => ("StartTimesModel", "fadeAbove", "I", false)
  | 17 => ("StartTimesModel", "fadeBelow", "I", false)
  | 18 => ("StartTimesModel", "known", "Z", false)
  | 19 => ("StartTimesModel", "outsides", "[I", true)
  | 20 => ("StartTimesModel", "left", "[I", true)
  | 21 => ("StartTimesModel", "starts", "[I", true)
  | 22 => ("StartTimesModel", "lates", "[Z", true)
  | 23 => ("StartTimesModel", "warmths", "[I", true)
  | _ => ("StartTimesModel", "done", "[Z", true)
def t_M : Nat → FieldType := fun k => match k with
  | 0 => .int
  | 1 => .int
  | 2 => .array .int
  | 3 => .array .int
  | 4 => .array .int
  | 5 => .array .int
  | 6 => .array .int
  | 7 => .array .int
  | 8 => .array .int
  | 9 => .array .long
  | 10 => .array .long
  | 11 => .int
  | 12 => .array .int
  | 13 => .array .int
  | 14 => .int
  | 15 => .array .int
  | 16 => .int
  | 17 => .int
  | 18 => .boolean
  | 19 => .array .int
  | 20 => .array .int
  | 21 => .array .int
  | 22 => .array .boolean
  | 23 => .array .int
  | _ => .array .boolean
theorem n_M : ∀ a, a < 25 → ∀ b, b < 25 → a ≠ b → (F_M a).2.1 ≠ (F_M b).2.1 := by decide +kernel
theorem t_M_ok : ∀ k, k < 25 → parseFieldDescriptor (F_M k).2.2.1 = some (t_M k) := by decide +kernel
def R_L : String := "StartTimesLaw"
abbrev vwCl : List vw_C := [(R_E, F_E, 2), (R_Z, F_Z, 10), (R_C, F_C, 13), (R_M, F_M, 25)]
/-- all good words of the tables: every method takes these -/
def GG : List Cond := lw_tbl.filter goodWord
theorem goodG {ws : List Cond} (h : ∀ w ∈ ws, w ∈ GG) : GoodIn GG ws := fun w hw => ⟨(h w hw), good_of_word (List.mem_filter.mp (h w hw)).2⟩
theorem tms {w : Cond} (h : w ∈ k2_sels lw_privs) (g : goodWord w = true) : w ∈ GG := List.mem_filter.mpr ⟨List.mem_append_left _ h, g⟩
theorem tn0 {w : Cond} (h : w ∈ tables_1_1) : w ∈ tables_1 := (List.mem_append_left _ h)
theorem tm0 {w : Cond} (h : w ∈ tables_1_1) (g : goodWord w = true) : w ∈ GG := List.mem_filter.mpr ⟨List.mem_append_right _ (tn0 h), g⟩
theorem tn1 {w : Cond} (h : w ∈ tables_1_2) : w ∈ tables_1 := (List.mem_append_right _ (List.mem_append_left _ h))
theorem tm1 {w : Cond} (h : w ∈ tables_1_2) (g : goodWord w = true) : w ∈ GG := List.mem_filter.mpr ⟨List.mem_append_right _ (tn1 h), g⟩
theorem tn2 {w : Cond} (h : w ∈ tables_1_3) : w ∈ tables_1 := (List.mem_append_right _ (List.mem_append_right _ h))
theorem tm2 {w : Cond} (h : w ∈ tables_1_3) (g : goodWord w = true) : w ∈ GG := List.mem_filter.mpr ⟨List.mem_append_right _ (tn2 h), g⟩
theorem i_E : ∀ w ∈ u_ws R_E F_E 2, w ∈ GG := by decide +kernel
theorem i_Z : ∀ w ∈ u_ws R_Z F_Z 10, w ∈ GG := by decide +kernel
theorem i_C : ∀ w ∈ u_ws R_C F_C 13, w ∈ GG := by decide +kernel
theorem i_M : ∀ w ∈ u_ws R_M F_M 25, w ∈ GG := by decide +kernel
abbrev b_C_init : ByteArray := prog_1_method_1_code
abbrev y_C_init : MethodName := ⟨"StartTimes", "<init>", "()V"⟩
abbrev w_C_init : List Cond := .code y_C_init b_C_init 1 none :: GG
abbrev b_C_zone : ByteArray := prog_1_method_2_code
abbrev y_C_zone : MethodName := ⟨"StartTimes", "zone", "(II)I"⟩
abbrev w_C_zone : List Cond := .code y_C_zone b_C_zone 4 (some .int) :: GG
abbrev b_C_set : ByteArray := prog_1_method_3_code
abbrev y_C_set : MethodName := ⟨"StartTimes", "set", "(III)I"⟩
abbrev w_C_set : List Cond := .code y_C_set b_C_set 6 (some .int) :: GG
abbrev b_C_want : ByteArray := prog_1_method_4_code
abbrev y_C_want : MethodName := ⟨"StartTimes", "want", "(III)V"⟩
abbrev w_C_want : List Cond := .code y_C_want b_C_want 5 none :: GG
abbrev b_C_outside : ByteArray := prog_1_method_5_code
abbrev y_C_outside : MethodName := ⟨"StartTimes", "outside", "(II)I"⟩
abbrev w_C_outside : List Cond := .code y_C_outside b_C_outside 4 (some .int) :: GG
abbrev b_C_machine : ByteArray := prog_1_method_6_code
abbrev y_C_machine : MethodName := ⟨"StartTimes", "machine", "(I)I"⟩
abbrev w_C_machine : List Cond := .code y_C_machine b_C_machine 3 (some .int) :: GG
abbrev b_C_start : ByteArray := prog_1_method_7_code
abbrev y_C_start : MethodName := ⟨"StartTimes", "start", "(I)I"⟩
abbrev w_C_start : List Cond := .code y_C_start b_C_start 2 (some .int) :: GG
abbrev b_C_late : ByteArray := prog_1_method_8_code
abbrev y_C_late : MethodName := ⟨"StartTimes", "late", "(I)Z"⟩
abbrev w_C_late : List Cond := .code y_C_late b_C_late 3 (some .boolean) :: GG
abbrev b_C_at : ByteArray := prog_1_method_9_code
abbrev y_C_at : MethodName := ⟨"StartTimes", "at", "(II)I"⟩
abbrev w_C_at : List Cond := .code y_C_at b_C_at 3 (some .int) :: GG
abbrev b_C_used : ByteArray := prog_1_method_10_code
abbrev y_C_used : MethodName := ⟨"StartTimes", "used", "(I)I"⟩
abbrev w_C_used : List Cond := .code y_C_used b_C_used 2 (some .int) :: GG
abbrev b_C_cold : ByteArray := prog_1_method_11_code
abbrev y_C_cold : MethodName := ⟨"StartTimes", "cold", "(I)I"⟩
abbrev w_C_cold : List Cond := .code y_C_cold b_C_cold 5 (some .int) :: GG
abbrev b_C_fade : ByteArray := prog_1_method_12_code
abbrev y_C_fade : MethodName := ⟨"StartTimes", "fade", "(II)V"⟩
abbrev w_C_fade : List Cond := .code y_C_fade b_C_fade 3 none :: GG
abbrev b_C_day : ByteArray := prog_1_method_13_code
abbrev y_C_day : MethodName := ⟨"StartTimes", "day", "(II)V"⟩
abbrev w_C_day : List Cond := .code y_C_day b_C_day 4 none :: GG
abbrev b_C_lesson : ByteArray := prog_1_method_14_code
abbrev y_C_lesson : MethodName := ⟨"StartTimes", "lesson", "(II)J"⟩
abbrev w_C_lesson : List Cond := .code y_C_lesson b_C_lesson 4 (some .long) :: GG
abbrev b_C_taught : ByteArray := prog_1_method_15_code
abbrev y_C_taught : MethodName := ⟨"StartTimes", "taught", "(I)I"⟩
abbrev w_C_taught : List Cond := .code y_C_taught b_C_taught 4 (some .int) :: GG
abbrev b_C_price : ByteArray := prog_1_method_16_code
abbrev y_C_price : MethodName := ⟨"StartTimes", "price", "(II)I"⟩
abbrev w_C_price : List Cond := .code y_C_price b_C_price 4 (some .int) :: GG
abbrev b_C_cheapest : ByteArray := prog_1_method_17_code
abbrev y_C_cheapest : MethodName := ⟨"StartTimes", "cheapest", "(III)I"⟩
abbrev w_C_cheapest : List Cond := .code y_C_cheapest b_C_cheapest 8 (some .int) :: GG
abbrev b_C_costs : ByteArray := prog_1_method_18_code
abbrev y_C_costs : MethodName := ⟨"StartTimes", "costs", "(IIII)J"⟩
abbrev w_C_costs : List Cond := .code y_C_costs b_C_costs 13 (some .long) :: GG
abbrev b_C_checkBounds : ByteArray := prog_1_method_19_code
abbrev y_C_checkBounds : MethodName := ⟨"StartTimes", "checkBounds", "(III)V"⟩
abbrev w_C_checkBounds : List Cond := .code y_C_checkBounds b_C_checkBounds 3 none :: GG
abbrev b_C_checkQuarters : ByteArray := prog_1_method_20_code
abbrev y_C_checkQuarters : MethodName := ⟨"StartTimes", "checkQuarters", "(II)V"⟩
abbrev w_C_checkQuarters : List Cond := .code y_C_checkQuarters b_C_checkQuarters 2 none :: GG
abbrev b_C_checkWants : ByteArray := prog_1_method_21_code
abbrev y_C_checkWants : MethodName := ⟨"StartTimes", "checkWants", "(LStartTimes$Zone;)V"⟩
abbrev w_C_checkWants : List Cond := .code y_C_checkWants b_C_checkWants 1 none :: GG
abbrev b_C_knownZone : ByteArray := prog_1_method_22_code
abbrev y_C_knownZone : MethodName := ⟨"StartTimes", "knownZone", "(I)LStartTimes$Zone;"⟩
abbrev w_C_knownZone : List Cond := .code y_C_knownZone b_C_knownZone 2 (some (.object "StartTimes$Zone")) :: GG
abbrev b_C_plannedZone : ByteArray := prog_1_method_23_code
abbrev y_C_plannedZone : MethodName := ⟨"StartTimes", "plannedZone", "(I)LStartTimes$Zone;"⟩
abbrev w_C_plannedZone : List Cond := .code y_C_plannedZone b_C_plannedZone 3 (some (.object "StartTimes$Zone")) :: GG
abbrev b_C_warmthAfter : ByteArray := prog_1_method_24_code
abbrev y_C_warmthAfter : MethodName := ⟨"StartTimes", "warmthAfter", "(LStartTimes$Zone;III)I"⟩
abbrev w_C_warmthAfter : List Cond := .code y_C_warmthAfter b_C_warmthAfter 5 (some .int) :: GG
abbrev b_C_warmthThrough : ByteArray := prog_1_method_25_code
abbrev y_C_warmthThrough : MethodName := ⟨"StartTimes", "warmthThrough", "(LStartTimes$Zone;IIII)I"⟩
abbrev w_C_warmthThrough : List Cond := .code y_C_warmthThrough b_C_warmthThrough 8 (some .int) :: GG
abbrev b_C_makePlan : ByteArray := prog_1_method_26_code
abbrev y_C_makePlan : MethodName := ⟨"StartTimes", "makePlan", "()V"⟩
abbrev w_C_makePlan : List Cond := .code y_C_makePlan b_C_makePlan 3 none :: GG
abbrev b_C_planZone : ByteArray := prog_1_method_27_code
abbrev y_C_planZone : MethodName := ⟨"StartTimes", "planZone", "(LStartTimes$Zone;)V"⟩
abbrev w_C_planZone : List Cond := .code y_C_planZone b_C_planZone 2 none :: GG
abbrev b_C_leaveUnheated : ByteArray := prog_1_method_28_code
abbrev y_C_leaveUnheated : MethodName := ⟨"StartTimes", "leaveUnheated", "(LStartTimes$Zone;I)V"⟩
abbrev w_C_leaveUnheated : List Cond := .code y_C_leaveUnheated b_C_leaveUnheated 4 none :: GG
abbrev b_C_latestStart : ByteArray := prog_1_method_29_code
abbrev y_C_latestStart : MethodName := ⟨"StartTimes", "latestStart", "(LStartTimes$Zone;)I"⟩
abbrev w_C_latestStart : List Cond := .code y_C_latestStart b_C_latestStart 5 (some .int) :: GG
abbrev b_C_warmthIfStarted : ByteArray := prog_1_method_30_code
abbrev y_C_warmthIfStarted : MethodName := ⟨"StartTimes", "warmthIfStarted", "(LStartTimes$Zone;I)I"⟩
abbrev w_C_warmthIfStarted : List Cond := .code y_C_warmthIfStarted b_C_warmthIfStarted 5 (some .int) :: GG
abbrev b_C_heatFromStart : ByteArray := prog_1_method_31_code
abbrev y_C_heatFromStart : MethodName := ⟨"StartTimes", "heatFromStart", "(LStartTimes$Zone;)V"⟩
abbrev w_C_heatFromStart : List Cond := .code y_C_heatFromStart b_C_heatFromStart 4 none :: GG
abbrev b_C_shareOf : ByteArray := prog_1_method_32_code
abbrev y_C_shareOf : MethodName := ⟨"StartTimes", "shareOf", "(LStartTimes$Zone;I)I"⟩
abbrev w_C_shareOf : List Cond := .code y_C_shareOf b_C_shareOf 4 (some .int) :: GG
abbrev b_C_quarterBegin : ByteArray := prog_1_method_33_code
abbrev y_C_quarterBegin : MethodName := ⟨"StartTimes", "quarterBegin", "(LStartTimes$Zone;II)I"⟩
abbrev w_C_quarterBegin : List Cond := .code y_C_quarterBegin b_C_quarterBegin 3 (some .int) :: GG
abbrev b_C_costOfMinutes : ByteArray := prog_1_method_34_code
abbrev y_C_costOfMinutes : MethodName := ⟨"StartTimes", "costOfMinutes", "(LStartTimes$Zone;II)J"⟩
abbrev w_C_costOfMinutes : List Cond := .code y_C_costOfMinutes b_C_costOfMinutes 7 (some .long) :: GG
abbrev b_C_weighSets : ByteArray := prog_1_method_35_code
abbrev y_C_weighSets : MethodName := ⟨"StartTimes", "weighSets", "(LStartTimes$Zone;II)V"⟩
abbrev w_C_weighSets : List Cond := .code y_C_weighSets b_C_weighSets 12 none :: GG
abbrev b_M_init : ByteArray := prog_5_method_1_code
abbrev y_M_init : MethodName := ⟨"StartTimesModel", "<init>", "()V"⟩
abbrev w_M_init : List Cond := .code y_M_init b_M_init 1 none :: GG
abbrev b_M_thrown : ByteArray := prog_5_method_2_code
abbrev y_M_thrown : MethodName := ⟨"StartTimesModel", "thrown", "()I"⟩
abbrev w_M_thrown : List Cond := .code y_M_thrown b_M_thrown 1 (some .int) :: GG
abbrev b_M_fails : ByteArray := prog_5_method_3_code
abbrev y_M_fails : MethodName := ⟨"StartTimesModel", "fails", "(ZI)Z"⟩
abbrev w_M_fails : List Cond := .code y_M_fails b_M_fails 3 (some .boolean) :: GG
abbrev b_M_within : ByteArray := prog_5_method_4_code
abbrev y_M_within : MethodName := ⟨"StartTimesModel", "within", "(III)Z"⟩
abbrev w_M_within : List Cond := .code y_M_within b_M_within 3 (some .boolean) :: GG
abbrev b_M_isZone : ByteArray := prog_5_method_5_code
abbrev y_M_isZone : MethodName := ⟨"StartTimesModel", "isZone", "(I)Z"⟩
abbrev w_M_isZone : List Cond := .code y_M_isZone b_M_isZone 2 (some .boolean) :: GG
abbrev b_M_zone : ByteArray := prog_5_method_6_code
abbrev y_M_zone : MethodName := ⟨"StartTimesModel", "zone", "(II)I"⟩
abbrev w_M_zone : List Cond := .code y_M_zone b_M_zone 3 (some .int) :: GG
abbrev b_M_set : ByteArray := prog_5_method_7_code
abbrev y_M_set : MethodName := ⟨"StartTimesModel", "set", "(III)I"⟩
abbrev w_M_set : List Cond := .code y_M_set b_M_set 6 (some .int) :: GG
abbrev b_M_want : ByteArray := prog_5_method_8_code
abbrev y_M_want : MethodName := ⟨"StartTimesModel", "want", "(III)V"⟩
abbrev w_M_want : List Cond := .code y_M_want b_M_want 4 none :: GG
abbrev b_M_outside : ByteArray := prog_5_method_9_code
abbrev y_M_outside : MethodName := ⟨"StartTimesModel", "outside", "(II)I"⟩
abbrev w_M_outside : List Cond := .code y_M_outside b_M_outside 3 (some .int) :: GG
abbrev b_M_machine : ByteArray := prog_5_method_10_code
abbrev y_M_machine : MethodName := ⟨"StartTimesModel", "machine", "(I)I"⟩
abbrev w_M_machine : List Cond := .code y_M_machine b_M_machine 3 (some .int) :: GG
abbrev b_M_stepped : ByteArray := prog_5_method_11_code
abbrev y_M_stepped : MethodName := ⟨"StartTimesModel", "stepped", "(IIII)I"⟩
abbrev w_M_stepped : List Cond := .code y_M_stepped b_M_stepped 5 (some .int) :: GG
abbrev b_M_heatIn : ByteArray := prog_5_method_12_code
abbrev y_M_heatIn : MethodName := ⟨"StartTimesModel", "heatIn", "(II)I"⟩
abbrev w_M_heatIn : List Cond := .code y_M_heatIn b_M_heatIn 3 (some .int) :: GG
abbrev b_M_findOutsides : ByteArray := prog_5_method_13_code
abbrev y_M_findOutsides : MethodName := ⟨"StartTimesModel", "findOutsides", "()V"⟩
abbrev w_M_findOutsides : List Cond := .code y_M_findOutsides b_M_findOutsides 4 none :: GG
abbrev b_M_isWarm : ByteArray := prog_5_method_14_code
abbrev y_M_isWarm : MethodName := ⟨"StartTimesModel", "isWarm", "(III)Z"⟩
abbrev w_M_isWarm : List Cond := .code y_M_isWarm b_M_isWarm 6 (some .boolean) :: GG
abbrev b_M_planZone : ByteArray := prog_5_method_15_code
abbrev y_M_planZone : MethodName := ⟨"StartTimesModel", "planZone", "(I)V"⟩
abbrev w_M_planZone : List Cond := .code y_M_planZone b_M_planZone 6 none :: GG
abbrev b_M_plan : ByteArray := prog_5_method_16_code
abbrev y_M_plan : MethodName := ⟨"StartTimesModel", "plan", "()V"⟩
abbrev w_M_plan : List Cond := .code y_M_plan b_M_plan 4 none :: GG
abbrev b_M_start : ByteArray := prog_5_method_17_code
abbrev y_M_start : MethodName := ⟨"StartTimesModel", "start", "(I)I"⟩
abbrev w_M_start : List Cond := .code y_M_start b_M_start 2 (some .int) :: GG
abbrev b_M_late : ByteArray := prog_5_method_18_code
abbrev y_M_late : MethodName := ⟨"StartTimesModel", "late", "(I)Z"⟩
abbrev w_M_late : List Cond := .code y_M_late b_M_late 2 (some .boolean) :: GG
abbrev b_M_at : ByteArray := prog_5_method_19_code
abbrev y_M_at : MethodName := ⟨"StartTimesModel", "at", "(II)I"⟩
abbrev w_M_at : List Cond := .code y_M_at b_M_at 3 (some .int) :: GG
abbrev b_M_used : ByteArray := prog_5_method_20_code
abbrev y_M_used : MethodName := ⟨"StartTimesModel", "used", "(I)I"⟩
abbrev w_M_used : List Cond := .code y_M_used b_M_used 2 (some .int) :: GG
abbrev b_M_cold : ByteArray := prog_5_method_21_code
abbrev y_M_cold : MethodName := ⟨"StartTimesModel", "cold", "(I)I"⟩
abbrev w_M_cold : List Cond := .code y_M_cold b_M_cold 4 (some .int) :: GG
abbrev b_M_fade : ByteArray := prog_5_method_22_code
abbrev y_M_fade : MethodName := ⟨"StartTimesModel", "fade", "(II)V"⟩
abbrev w_M_fade : List Cond := .code y_M_fade b_M_fade 3 none :: GG
abbrev b_M_divisor : ByteArray := prog_5_method_23_code
abbrev y_M_divisor : MethodName := ⟨"StartTimesModel", "divisor", "(JJ)J"⟩
abbrev w_M_divisor : List Cond := .code y_M_divisor b_M_divisor 10 (some .long) :: GG
abbrev b_M_day : ByteArray := prog_5_method_24_code
abbrev y_M_day : MethodName := ⟨"StartTimesModel", "day", "(II)V"⟩
abbrev w_M_day : List Cond := .code y_M_day b_M_day 9 none :: GG
abbrev b_M_lesson : ByteArray := prog_5_method_25_code
abbrev y_M_lesson : MethodName := ⟨"StartTimesModel", "lesson", "(II)J"⟩
abbrev w_M_lesson : List Cond := .code y_M_lesson b_M_lesson 3 (some .long) :: GG
abbrev b_M_taught : ByteArray := prog_5_method_26_code
abbrev y_M_taught : MethodName := ⟨"StartTimesModel", "taught", "(I)I"⟩
abbrev w_M_taught : List Cond := .code y_M_taught b_M_taught 4 (some .int) :: GG
abbrev b_M_price : ByteArray := prog_5_method_27_code
abbrev y_M_price : MethodName := ⟨"StartTimesModel", "price", "(II)I"⟩
abbrev w_M_price : List Cond := .code y_M_price b_M_price 4 (some .int) :: GG
abbrev b_M_areQuarters : ByteArray := prog_5_method_28_code
abbrev y_M_areQuarters : MethodName := ⟨"StartTimesModel", "areQuarters", "(III)Z"⟩
abbrev w_M_areQuarters : List Cond := .code y_M_areQuarters b_M_areQuarters 4 (some .boolean) :: GG
abbrev b_M_reckoned : ByteArray := prog_5_method_29_code
abbrev y_M_reckoned : MethodName := ⟨"StartTimesModel", "reckoned", "(IIII)J"⟩
abbrev w_M_reckoned : List Cond := .code y_M_reckoned b_M_reckoned 11 (some .long) :: GG
abbrev b_M_cheapest : ByteArray := prog_5_method_30_code
abbrev y_M_cheapest : MethodName := ⟨"StartTimesModel", "cheapest", "(III)I"⟩
abbrev w_M_cheapest : List Cond := .code y_M_cheapest b_M_cheapest 10 (some .int) :: GG
abbrev b_M_costs : ByteArray := prog_5_method_31_code
abbrev y_M_costs : MethodName := ⟨"StartTimesModel", "costs", "(IIII)J"⟩
abbrev w_M_costs : List Cond := .code y_M_costs b_M_costs 5 (some .long) :: GG
abbrev b_E_init : ByteArray := prog_2_method_1_code
abbrev y_E_init : MethodName := ⟨"StartTimes$Lesson", "<init>", "()V"⟩
abbrev w_E_init : List Cond := .code y_E_init b_E_init 1 none :: GG
abbrev b_E_learn : ByteArray := prog_2_method_2_code
abbrev y_E_learn : MethodName := ⟨"StartTimes$Lesson", "learn", "(III)V"⟩
abbrev w_E_learn : List Cond := .code y_E_learn b_E_learn 8 none :: GG
abbrev b_E_millionths : ByteArray := prog_2_method_3_code
abbrev y_E_millionths : MethodName := ⟨"StartTimes$Lesson", "millionths", "()J"⟩
abbrev w_E_millionths : List Cond := .code y_E_millionths b_E_millionths 1 (some .long) :: GG
abbrev b_E_keepInLowestTerms : ByteArray := prog_2_method_4_code
abbrev y_E_keepInLowestTerms : MethodName := ⟨"StartTimes$Lesson", "keepInLowestTerms", "(JJ)V"⟩
abbrev w_E_keepInLowestTerms : List Cond := .code y_E_keepInLowestTerms b_E_keepInLowestTerms 7 none :: GG
abbrev b_E_commonDivisor : ByteArray := prog_2_method_5_code
abbrev y_E_commonDivisor : MethodName := ⟨"StartTimes$Lesson", "commonDivisor", "(JJ)J"⟩
abbrev w_E_commonDivisor : List Cond := .code y_E_commonDivisor b_E_commonDivisor 11 (some .long) :: GG
abbrev b_E_wholeMinutes : ByteArray := prog_2_method_6_code
abbrev y_E_wholeMinutes : MethodName := ⟨"StartTimes$Lesson", "wholeMinutes", "()I"⟩
abbrev w_E_wholeMinutes : List Cond := .code y_E_wholeMinutes b_E_wholeMinutes 1 (some .int) :: GG
abbrev b_Z_init : ByteArray := prog_3_method_1_code
abbrev y_Z_init : MethodName := ⟨"StartTimes$Zone", "<init>", "(II)V"⟩
abbrev w_Z_init : List Cond := .code y_Z_init b_Z_init 3 none :: GG
abbrev b_Z_wantsWarmth : ByteArray := prog_3_method_2_code
abbrev y_Z_wantsWarmth : MethodName := ⟨"StartTimes$Zone", "wantsWarmth", "()Z"⟩
abbrev w_Z_wantsWarmth : List Cond := .code y_Z_wantsWarmth b_Z_wantsWarmth 1 (some .boolean) :: GG
abbrev b_L_zone : ByteArray := method_3_code
abbrev y_L_zone : MethodName := ⟨"StartTimesLaw", "zone", "(LStartTimes;II[J)I"⟩
abbrev w_L_zone : List Cond := .codeWith y_L_zone b_L_zone 5 (some .int) [((0), (10), (13), (13)), ((0), (10), (17), (15))] :: GG
abbrev b_L_set : ByteArray := method_4_code
abbrev y_L_set : MethodName := ⟨"StartTimesLaw", "set", "(LStartTimes;III[J)I"⟩
abbrev w_L_set : List Cond := .codeWith y_L_set b_L_set 6 (some .int) [((0), (12), (15), (13))] :: GG
abbrev b_L_want : ByteArray := method_5_code
abbrev y_L_want : MethodName := ⟨"StartTimesLaw", "want", "(LStartTimes;III)I"⟩
abbrev w_L_want : List Cond := .codeWith y_L_want b_L_want 5 (some .int) [((0), (7), (10), (13))] :: GG
abbrev b_L_outside : ByteArray := method_6_code
abbrev y_L_outside : MethodName := ⟨"StartTimesLaw", "outside", "(LStartTimes;II[J)I"⟩
abbrev w_L_outside : List Cond := .codeWith y_L_outside b_L_outside 5 (some .int) [((0), (10), (13), (13)), ((0), (10), (17), (15))] :: GG
abbrev b_L_machine : ByteArray := method_7_code
abbrev y_L_machine : MethodName := ⟨"StartTimesLaw", "machine", "(LStartTimes;I[J)I"⟩
abbrev w_L_machine : List Cond := .codeWith y_L_machine b_L_machine 4 (some .int) [((0), (9), (12), (13))] :: GG
abbrev b_L_start : ByteArray := method_8_code
abbrev y_L_start : MethodName := ⟨"StartTimesLaw", "start", "(LStartTimes;I[J)I"⟩
abbrev w_L_start : List Cond := .codeWith y_L_start b_L_start 4 (some .int) [((0), (9), (12), (13))] :: GG
abbrev b_L_late : ByteArray := method_9_code
abbrev y_L_late : MethodName := ⟨"StartTimesLaw", "late", "(LStartTimes;I[J)I"⟩
abbrev w_L_late : List Cond := .codeWith y_L_late b_L_late 4 (some .int) [((0), (16), (19), (13))] :: GG
abbrev b_L_at : ByteArray := method_10_code
abbrev y_L_at : MethodName := ⟨"StartTimesLaw", "at", "(LStartTimes;II[J)I"⟩
abbrev w_L_at : List Cond := .codeWith y_L_at b_L_at 5 (some .int) [((0), (10), (13), (13))] :: GG
abbrev b_L_used : ByteArray := method_11_code
abbrev y_L_used : MethodName := ⟨"StartTimesLaw", "used", "(LStartTimes;I[J)I"⟩
abbrev w_L_used : List Cond := .codeWith y_L_used b_L_used 4 (some .int) [((0), (9), (12), (13))] :: GG
abbrev b_L_cold : ByteArray := method_12_code
abbrev y_L_cold : MethodName := ⟨"StartTimesLaw", "cold", "(LStartTimes;I[J)I"⟩
abbrev w_L_cold : List Cond := .codeWith y_L_cold b_L_cold 4 (some .int) [((0), (9), (12), (13))] :: GG
abbrev b_L_fade : ByteArray := method_13_code
abbrev y_L_fade : MethodName := ⟨"StartTimesLaw", "fade", "(LStartTimes;II)I"⟩
abbrev w_L_fade : List Cond := .codeWith y_L_fade b_L_fade 4 (some .int) [((0), (6), (9), (13))] :: GG
abbrev b_L_day : ByteArray := method_14_code
abbrev y_L_day : MethodName := ⟨"StartTimesLaw", "day", "(LStartTimes;II)I"⟩
abbrev w_L_day : List Cond := .codeWith y_L_day b_L_day 4 (some .int) [((0), (6), (9), (13))] :: GG
abbrev b_L_lesson : ByteArray := method_15_code
abbrev y_L_lesson : MethodName := ⟨"StartTimesLaw", "lesson", "(LStartTimes;II[J)I"⟩
abbrev w_L_lesson : List Cond := .codeWith y_L_lesson b_L_lesson 5 (some .int) [((0), (9), (12), (13))] :: GG
abbrev b_L_taught : ByteArray := method_16_code
abbrev y_L_taught : MethodName := ⟨"StartTimesLaw", "taught", "(LStartTimes;I[J)I"⟩
abbrev w_L_taught : List Cond := .codeWith y_L_taught b_L_taught 4 (some .int) [((0), (9), (12), (13))] :: GG
abbrev b_L_price : ByteArray := method_17_code
abbrev y_L_price : MethodName := ⟨"StartTimesLaw", "price", "(LStartTimes;II[J)I"⟩
abbrev w_L_price : List Cond := .codeWith y_L_price b_L_price 5 (some .int) [((0), (10), (13), (13))] :: GG
abbrev b_L_cheapest : ByteArray := method_18_code
abbrev y_L_cheapest : MethodName := ⟨"StartTimesLaw", "cheapest", "(LStartTimes;III[J)I"⟩
abbrev w_L_cheapest : List Cond := .codeWith y_L_cheapest b_L_cheapest 6 (some .int) [((0), (12), (15), (13)), ((0), (12), (19), (15))] :: GG
abbrev b_L_costs : ByteArray := method_19_code
abbrev y_L_costs : MethodName := ⟨"StartTimesLaw", "costs", "(LStartTimes;IIII[J)I"⟩
abbrev w_L_costs : List Cond := .codeWith y_L_costs b_L_costs 7 (some .int) [((0), (13), (16), (13)), ((0), (13), (20), (15))] :: GG
theorem k_0 : ((.initialized "StartTimesLaw") : Cond) ∈ GG := tm0 (List.mem_of_getElem? (i := 0) rfl) rfl
theorem k_1 : ((.initialized "StartTimes") : Cond) ∈ GG := tm0 (List.mem_of_getElem? (i := 1) rfl) rfl
theorem k_2 : ((.initialized "StartTimesModel") : Cond) ∈ GG := tm0 (List.mem_of_getElem? (i := 2) rfl) rfl
theorem k_3 : ((.initialized "java/lang/Throwable") : Cond) ∈ GG := tm0 (List.mem_of_getElem? (i := 3) rfl) rfl
theorem k_4 : ((.initialized "java/lang/Exception") : Cond) ∈ GG := tm0 (List.mem_of_getElem? (i := 4) rfl) rfl
theorem k_5 : ((.initialized "java/lang/RuntimeException") : Cond) ∈ GG := tm0 (List.mem_of_getElem? (i := 5) rfl) rfl
theorem k_6 : ((.initialized "java/lang/IllegalArgumentException") : Cond) ∈ GG := tm0 (List.mem_of_getElem? (i := 6) rfl) rfl
theorem k_7 : ((.initialized "java/lang/IllegalStateException") : Cond) ∈ GG := tm0 (List.mem_of_getElem? (i := 7) rfl) rfl
theorem k_8 : ((.initialized "StartTimes$Zone") : Cond) ∈ GG := tm0 (List.mem_of_getElem? (i := 8) rfl) rfl
theorem k_9 : ((.initialized "StartTimes$Lesson") : Cond) ∈ GG := tm0 (List.mem_of_getElem? (i := 9) rfl) rfl
theorem k_10 : ((.initialized "java/lang/Math") : Cond) ∈ GG := tm0 (List.mem_of_getElem? (i := 10) rfl) rfl
theorem k_11 : ((.classLink "StartTimesLaw" (8 : Nat) "StartTimes") : Cond) ∈ GG := tm0 (List.mem_of_getElem? (i := 11) rfl) rfl
theorem k_12 : ((.instantiable "StartTimes" (13 : Nat)) : Cond) ∈ GG := tm0 (List.mem_of_getElem? (i := 12) rfl) rfl
theorem k_13 : ((.methodLink "StartTimesLaw" (72 : Nat) ⟨"StartTimes", "<init>", "()V"⟩) : Cond) ∈ GG := tm0 (List.mem_of_getElem? (i := 13) rfl) rfl
theorem k_14 : ((.instanceMethod ⟨"StartTimes", "<init>", "()V"⟩) : Cond) ∈ GG := tm0 (List.mem_of_getElem? (i := 14) rfl) rfl
theorem k_15 : ((.code ⟨"StartTimes", "<init>", "()V"⟩ prog_1_method_1_code (1 : Nat) (Option.none : Option Jvm.ClassFile.FieldType)) : Cond) ∈ GG := tm0 (List.mem_of_getElem? (i := 15) rfl) rfl
theorem k_16 : ((.methodLink "StartTimes" (3 : Nat) ⟨"java/lang/Object", "<init>", "()V"⟩) : Cond) ∈ GG := tm0 (List.mem_of_getElem? (i := 16) rfl) rfl
theorem k_17 : ((.instanceMethod ⟨"java/lang/Object", "<init>", "()V"⟩) : Cond) ∈ GG := tm0 (List.mem_of_getElem? (i := 17) rfl) rfl
theorem k_18 : ((.code ⟨"java/lang/Object", "<init>", "()V"⟩ object_method_1_code (1 : Nat) (Option.none : Option Jvm.ClassFile.FieldType)) : Cond) ∈ GG := tm0 (List.mem_of_getElem? (i := 18) rfl) rfl
theorem k_19 : ((.classLink "StartTimes" (9 : Nat) "StartTimes$Zone") : Cond) ∈ GG := tm0 (List.mem_of_getElem? (i := 19) rfl) rfl
theorem k_21 : ((.constant "StartTimes" (29 : Nat) (100000 : Int32)) : Cond) ∈ GG := tm0 (List.mem_of_getElem? (i := 21) rfl) rfl
theorem k_22 : ((.fieldLink "StartTimes" (11 : Nat) "StartTimes" "zones" "[LStartTimes$Zone;") : Cond) ∈ GG := tm0 (List.mem_of_getElem? (i := 22) rfl) rfl
theorem k_23 : ((.fieldLink "StartTimes" (15 : Nat) "StartTimes" "zoneCount" "I") : Cond) ∈ GG := tm0 (List.mem_of_getElem? (i := 23) rfl) rfl
theorem k_24 : ((.fieldLink "StartTimes" (19 : Nat) "StartTimes" "outsideWarmths" "[I") : Cond) ∈ GG := tm0 (List.mem_of_getElem? (i := 24) rfl) rfl
theorem k_25 : ((.fieldLink "StartTimes" (23 : Nat) "StartTimes" "outsideRows" "I") : Cond) ∈ GG := tm0 (List.mem_of_getElem? (i := 25) rfl) rfl
theorem k_26 : ((.fieldLink "StartTimes" (26 : Nat) "StartTimes" "lastOutsideMinute" "I") : Cond) ∈ GG := tm0 (List.mem_of_getElem? (i := 26) rfl) rfl
theorem k_27 : ((.fieldLink "StartTimes" (30 : Nat) "StartTimes" "machinePower" "I") : Cond) ∈ GG := tm0 (List.mem_of_getElem? (i := 27) rfl) rfl
theorem k_28 : ((.fieldLink "StartTimes" (33 : Nat) "StartTimes" "given" "[I") : Cond) ∈ GG := tm0 (List.mem_of_getElem? (i := 28) rfl) rfl
theorem k_29 : ((.fieldLink "StartTimes" (36 : Nat) "StartTimes" "planned" "Z") : Cond) ∈ GG := tm0 (List.mem_of_getElem? (i := 29) rfl) rfl
theorem k_30 : ((.fieldLink "StartTimes" (40 : Nat) "StartTimes" "fadeAbove" "I") : Cond) ∈ GG := tm0 (List.mem_of_getElem? (i := 30) rfl) rfl
theorem k_31 : ((.fieldLink "StartTimes" (43 : Nat) "StartTimes" "fadeBelow" "I") : Cond) ∈ GG := tm0 (List.mem_of_getElem? (i := 31) rfl) rfl
theorem k_32 : ((.fieldLink "StartTimes" (46 : Nat) "StartTimes" "prices" "[I") : Cond) ∈ GG := tm0 (List.mem_of_getElem? (i := 32) rfl) rfl
theorem k_33 : ((.fieldLink "StartTimes" (49 : Nat) "StartTimes" "setWarmths" "[I") : Cond) ∈ GG := tm0 (List.mem_of_getElem? (i := 33) rfl) rfl
theorem k_34 : ((.fieldLink "StartTimes" (52 : Nat) "StartTimes" "setCosts" "[J") : Cond) ∈ GG := tm0 (List.mem_of_getElem? (i := 34) rfl) rfl
theorem k_62 : ((.arrayClass Jvm.ClassFile.FieldType.int) : Cond) ∈ GG := tm0 (List.mem_of_getElem? (i := 62) rfl) rfl
theorem k_63 : ((.arrayClass Jvm.ClassFile.FieldType.long) : Cond) ∈ GG := tm0 (List.mem_of_getElem? (i := 63) rfl) rfl
theorem k_64 : ((.methodLink "StartTimesLaw" (76 : Nat) ⟨"StartTimesLaw", "zone", "(LStartTimes;II[J)I"⟩) : Cond) ∈ GG := tm0 (List.mem_of_getElem? (i := 64) rfl) rfl
theorem k_65 : ((.static ⟨"StartTimesLaw", "zone", "(LStartTimes;II[J)I"⟩) : Cond) ∈ GG := tm0 (List.mem_of_getElem? (i := 65) rfl) rfl
theorem k_66 : ((.codeWith ⟨"StartTimesLaw", "zone", "(LStartTimes;II[J)I"⟩ method_3_code (5 : Nat) (Option.some Jvm.ClassFile.FieldType.int) [((0 : Nat), (10 : Nat), (13 : Nat), (13 : Nat)), ((0 : Nat), (10 : Nat), (17 : Nat), (15 : Nat))]) : Cond) ∈ GG := tm0 (List.mem_of_getElem? (i := 66) rfl) rfl
theorem k_67 : ((.classLink "StartTimesLaw" (13 : Nat) "java/lang/IllegalArgumentException") : Cond) ∈ GG := tm0 (List.mem_of_getElem? (i := 67) rfl) rfl
theorem k_68 : ((.classLink "StartTimesLaw" (15 : Nat) "java/lang/IllegalStateException") : Cond) ∈ GG := tm0 (List.mem_of_getElem? (i := 68) rfl) rfl
theorem k_69 : ((.methodLink "StartTimesLaw" (7 : Nat) ⟨"StartTimes", "zone", "(II)I"⟩) : Cond) ∈ GG := tm0 (List.mem_of_getElem? (i := 69) rfl) rfl
theorem k_70 : ((.instanceMethod ⟨"StartTimes", "zone", "(II)I"⟩) : Cond) ∈ GG := tm0 (List.mem_of_getElem? (i := 70) rfl) rfl
theorem k_71 : ((.selects "StartTimes" ⟨"StartTimes", "zone", "(II)I"⟩ ⟨"StartTimes", "zone", "(II)I"⟩) : Cond) ∈ GG := tm0 (List.mem_of_getElem? (i := 71) rfl) rfl
theorem k_72 : ((.code ⟨"StartTimes", "zone", "(II)I"⟩ prog_1_method_2_code (4 : Nat) (Option.some Jvm.ClassFile.FieldType.int)) : Cond) ∈ GG := tm0 (List.mem_of_getElem? (i := 72) rfl) rfl
theorem k_73 : ((.methodLink "StartTimes" (56 : Nat) ⟨"StartTimes", "checkBounds", "(III)V"⟩) : Cond) ∈ GG := tm0 (List.mem_of_getElem? (i := 73) rfl) rfl
theorem k_74 : ((.static ⟨"StartTimes", "checkBounds", "(III)V"⟩) : Cond) ∈ GG := tm0 (List.mem_of_getElem? (i := 74) rfl) rfl
theorem k_75 : ((.code ⟨"StartTimes", "checkBounds", "(III)V"⟩ prog_1_method_19_code (3 : Nat) (Option.none : Option Jvm.ClassFile.FieldType)) : Cond) ∈ GG := tm0 (List.mem_of_getElem? (i := 75) rfl) rfl
theorem k_76 : ((.classLink "StartTimes" (164 : Nat) "java/lang/IllegalArgumentException") : Cond) ∈ GG := tm0 (List.mem_of_getElem? (i := 76) rfl) rfl
theorem k_77 : ((.instantiable "java/lang/IllegalArgumentException" (6 : Nat)) : Cond) ∈ GG := tm0 (List.mem_of_getElem? (i := 77) rfl) rfl
theorem k_78 : ((.castable "java/lang/IllegalArgumentException" "java/lang/IllegalArgumentException") : Cond) ∈ tables_1 := tn0 (List.mem_of_getElem? (i := 78) rfl)
theorem k_85 : ((.selects "java/lang/IllegalArgumentException" ⟨"java/lang/Throwable", "fillInStackTrace", "(I)Ljava/lang/Throwable;"⟩ ⟨"java/lang/Throwable", "fillInStackTrace", "(I)Ljava/lang/Throwable;"⟩) : Cond) ∈ GG := tm0 (List.mem_of_getElem? (i := 85) rfl) rfl
theorem k_86 : ((.selects "java/lang/IllegalArgumentException" ⟨"java/lang/Throwable", "fillInStackTrace", "()Ljava/lang/Throwable;"⟩ ⟨"java/lang/Throwable", "fillInStackTrace", "()Ljava/lang/Throwable;"⟩) : Cond) ∈ GG := tm0 (List.mem_of_getElem? (i := 86) rfl) rfl
theorem k_97 : ((.fieldLink "java/lang/Throwable" (198 : Nat) "java/lang/Throwable" "backtrace" "Ljava/lang/Object;") : Cond) ∈ GG := tm0 (List.mem_of_getElem? (i := 97) rfl) rfl
theorem k_99 : ((.instanceMethod ⟨"java/lang/Throwable", "<init>", "()V"⟩) : Cond) ∈ GG := tm0 (List.mem_of_getElem? (i := 99) rfl) rfl
theorem k_100 : ((.code ⟨"java/lang/Throwable", "<init>", "()V"⟩ prog_12_method_1_code (1 : Nat) (Option.none : Option Jvm.ClassFile.FieldType)) : Cond) ∈ GG := tm0 (List.mem_of_getElem? (i := 100) rfl) rfl
theorem k_101 : ((.methodLink "java/lang/Throwable" (1 : Nat) ⟨"java/lang/Object", "<init>", "()V"⟩) : Cond) ∈ GG := tm0 (List.mem_of_getElem? (i := 101) rfl) rfl
theorem k_102 : ((.fieldLink "java/lang/Throwable" (13 : Nat) "java/lang/Throwable" "UNASSIGNED_STACK" "[Ljava/lang/StackTraceElement;") : Cond) ∈ GG := tm0 (List.mem_of_getElem? (i := 102) rfl) rfl
theorem k_104 : ((.fieldLink "java/lang/Throwable" (20 : Nat) "java/lang/Throwable" "SUPPRESSED_SENTINEL" "Ljava/util/List;") : Cond) ∈ GG := tm0 (List.mem_of_getElem? (i := 104) rfl) rfl
theorem k_106 : ((.methodLink "java/lang/Throwable" (27 : Nat) ⟨"java/lang/Throwable", "fillInStackTrace", "()Ljava/lang/Throwable;"⟩) : Cond) ∈ GG := tm0 (List.mem_of_getElem? (i := 106) rfl) rfl
theorem k_107 : ((.instanceMethod ⟨"java/lang/Throwable", "fillInStackTrace", "()Ljava/lang/Throwable;"⟩) : Cond) ∈ GG := tm0 (List.mem_of_getElem? (i := 107) rfl) rfl
theorem k_109 : ((.selects "java/lang/IllegalStateException" ⟨"java/lang/Throwable", "fillInStackTrace", "()Ljava/lang/Throwable;"⟩ ⟨"java/lang/Throwable", "fillInStackTrace", "()Ljava/lang/Throwable;"⟩) : Cond) ∈ GG := tm0 (List.mem_of_getElem? (i := 109) rfl) rfl
theorem k_111 : ((.methodLink "java/lang/Throwable" (202 : Nat) ⟨"java/lang/Throwable", "fillInStackTrace", "(I)Ljava/lang/Throwable;"⟩) : Cond) ∈ GG := tm0 (List.mem_of_getElem? (i := 111) rfl) rfl
theorem k_113 : ((.instanceMethod ⟨"java/lang/Throwable", "fillInStackTrace", "(I)Ljava/lang/Throwable;"⟩) : Cond) ∈ GG := tm0 (List.mem_of_getElem? (i := 113) rfl) rfl
theorem k_114 : ((.instantiable "java/lang/Throwable" (6 : Nat)) : Cond) ∈ GG := tm0 (List.mem_of_getElem? (i := 114) rfl) rfl
theorem k_117 : ((.methodLink "StartTimes" (168 : Nat) ⟨"java/lang/IllegalArgumentException", "<init>", "(Ljava/lang/String;)V"⟩) : Cond) ∈ GG := tm0 (List.mem_of_getElem? (i := 117) rfl) rfl
theorem k_118 : ((.instanceMethod ⟨"java/lang/IllegalArgumentException", "<init>", "(Ljava/lang/String;)V"⟩) : Cond) ∈ GG := tm0 (List.mem_of_getElem? (i := 118) rfl) rfl
theorem k_119 : ((.code ⟨"java/lang/IllegalArgumentException", "<init>", "(Ljava/lang/String;)V"⟩ prog_7_method_2_code (2 : Nat) (Option.none : Option Jvm.ClassFile.FieldType)) : Cond) ∈ GG := tm0 (List.mem_of_getElem? (i := 119) rfl) rfl
theorem k_120 : ((.methodLink "java/lang/IllegalArgumentException" (7 : Nat) ⟨"java/lang/RuntimeException", "<init>", "(Ljava/lang/String;)V"⟩) : Cond) ∈ GG := tm0 (List.mem_of_getElem? (i := 120) rfl) rfl
theorem k_121 : ((.instanceMethod ⟨"java/lang/RuntimeException", "<init>", "(Ljava/lang/String;)V"⟩) : Cond) ∈ GG := tm0 (List.mem_of_getElem? (i := 121) rfl) rfl
theorem k_122 : ((.code ⟨"java/lang/RuntimeException", "<init>", "(Ljava/lang/String;)V"⟩ prog_10_method_2_code (2 : Nat) (Option.none : Option Jvm.ClassFile.FieldType)) : Cond) ∈ GG := tm0 (List.mem_of_getElem? (i := 122) rfl) rfl
theorem k_123 : ((.methodLink "java/lang/RuntimeException" (7 : Nat) ⟨"java/lang/Exception", "<init>", "(Ljava/lang/String;)V"⟩) : Cond) ∈ GG := tm0 (List.mem_of_getElem? (i := 123) rfl) rfl
theorem k_124 : ((.instanceMethod ⟨"java/lang/Exception", "<init>", "(Ljava/lang/String;)V"⟩) : Cond) ∈ GG := tm0 (List.mem_of_getElem? (i := 124) rfl) rfl
theorem k_125 : ((.code ⟨"java/lang/Exception", "<init>", "(Ljava/lang/String;)V"⟩ prog_6_method_2_code (2 : Nat) (Option.none : Option Jvm.ClassFile.FieldType)) : Cond) ∈ GG := tm0 (List.mem_of_getElem? (i := 125) rfl) rfl
theorem k_126 : ((.methodLink "java/lang/Exception" (7 : Nat) ⟨"java/lang/Throwable", "<init>", "(Ljava/lang/String;)V"⟩) : Cond) ∈ GG := tm0 (List.mem_of_getElem? (i := 126) rfl) rfl
theorem k_127 : ((.instanceMethod ⟨"java/lang/Throwable", "<init>", "(Ljava/lang/String;)V"⟩) : Cond) ∈ GG := tm0 (List.mem_of_getElem? (i := 127) rfl) rfl
theorem k_128 : ((.code ⟨"java/lang/Throwable", "<init>", "(Ljava/lang/String;)V"⟩ prog_12_method_2_code (2 : Nat) (Option.none : Option Jvm.ClassFile.FieldType)) : Cond) ∈ GG := tm0 (List.mem_of_getElem? (i := 128) rfl) rfl
theorem k_129 : ((.fieldLink "java/lang/Throwable" (198 : Nat) "java/lang/Throwable" "backtrace" "Ljava/lang/Object;") : Cond) ∈ GG := tm0 (List.mem_of_getElem? (i := 129) rfl) rfl
theorem k_130 : ((.fieldLink "java/lang/Throwable" (31 : Nat) "java/lang/Throwable" "detailMessage" "Ljava/lang/String;") : Cond) ∈ GG := tm0 (List.mem_of_getElem? (i := 130) rfl) rfl
theorem k_131 : ((.fieldLink "java/lang/Throwable" (7 : Nat) "java/lang/Throwable" "cause" "Ljava/lang/Throwable;") : Cond) ∈ GG := tm0 (List.mem_of_getElem? (i := 131) rfl) rfl
theorem k_132 : ((.fieldLink "java/lang/Throwable" (17 : Nat) "java/lang/Throwable" "stackTrace" "[Ljava/lang/StackTraceElement;") : Cond) ∈ GG := tm0 (List.mem_of_getElem? (i := 132) rfl) rfl
theorem k_133 : ((.fieldLink "java/lang/Throwable" (24 : Nat) "java/lang/Throwable" "suppressedExceptions" "Ljava/util/List;") : Cond) ∈ GG := tm0 (List.mem_of_getElem? (i := 133) rfl) rfl
theorem k_142 : ((.arrayClass Jvm.ClassFile.FieldType.byte) : Cond) ∈ GG := tm0 (List.mem_of_getElem? (i := 142) rfl) rfl
theorem k_143 : ((.classLink "StartTimes" (60 : Nat) "java/lang/IllegalStateException") : Cond) ∈ GG := tm0 (List.mem_of_getElem? (i := 143) rfl) rfl
theorem k_144 : ((.instantiable "java/lang/IllegalStateException" (6 : Nat)) : Cond) ∈ GG := tm0 (List.mem_of_getElem? (i := 144) rfl) rfl
theorem k_145 : ((.castable "java/lang/IllegalStateException" "java/lang/IllegalStateException") : Cond) ∈ tables_1 := tn0 (List.mem_of_getElem? (i := 145) rfl)
theorem k_146 : ((.selects "java/lang/IllegalStateException" ⟨"java/lang/Throwable", "fillInStackTrace", "(I)Ljava/lang/Throwable;"⟩ ⟨"java/lang/Throwable", "fillInStackTrace", "(I)Ljava/lang/Throwable;"⟩) : Cond) ∈ GG := tm0 (List.mem_of_getElem? (i := 146) rfl) rfl
theorem k_153 : ((.methodLink "StartTimes" (64 : Nat) ⟨"java/lang/IllegalStateException", "<init>", "(Ljava/lang/String;)V"⟩) : Cond) ∈ GG := tm0 (List.mem_of_getElem? (i := 153) rfl) rfl
theorem k_154 : ((.instanceMethod ⟨"java/lang/IllegalStateException", "<init>", "(Ljava/lang/String;)V"⟩) : Cond) ∈ GG := tm0 (List.mem_of_getElem? (i := 154) rfl) rfl
theorem k_155 : ((.code ⟨"java/lang/IllegalStateException", "<init>", "(Ljava/lang/String;)V"⟩ prog_8_method_2_code (2 : Nat) (Option.none : Option Jvm.ClassFile.FieldType)) : Cond) ∈ GG := tm0 (List.mem_of_getElem? (i := 155) rfl) rfl
theorem k_156 : ((.methodLink "java/lang/IllegalStateException" (7 : Nat) ⟨"java/lang/RuntimeException", "<init>", "(Ljava/lang/String;)V"⟩) : Cond) ∈ GG := tm0 (List.mem_of_getElem? (i := 156) rfl) rfl
theorem k_159 : ((.instantiable "StartTimes$Zone" (10 : Nat)) : Cond) ∈ GG := tm0 (List.mem_of_getElem? (i := 159) rfl) rfl
theorem k_160 : ((.methodLinkNest "StartTimes" (67 : Nat) ⟨"StartTimes$Zone", "<init>", "(II)V"⟩ "StartTimes") : Cond) ∈ tables_1 := tn0 (List.mem_of_getElem? (i := 160) rfl)
theorem k_161 : ((.instanceMethod ⟨"StartTimes$Zone", "<init>", "(II)V"⟩) : Cond) ∈ GG := tm0 (List.mem_of_getElem? (i := 161) rfl) rfl
theorem k_162 : ((.code ⟨"StartTimes$Zone", "<init>", "(II)V"⟩ prog_3_method_1_code (3 : Nat) (Option.none : Option Jvm.ClassFile.FieldType)) : Cond) ∈ GG := tm0 (List.mem_of_getElem? (i := 162) rfl) rfl
theorem k_163 : ((.methodLink "StartTimes$Zone" (3 : Nat) ⟨"java/lang/Object", "<init>", "()V"⟩) : Cond) ∈ GG := tm0 (List.mem_of_getElem? (i := 163) rfl) rfl
theorem k_164 : ((.classLink "StartTimes$Zone" (27 : Nat) "StartTimes$Lesson") : Cond) ∈ GG := tm0 (List.mem_of_getElem? (i := 164) rfl) rfl
theorem k_165 : ((.instantiable "StartTimes$Lesson" (2 : Nat)) : Cond) ∈ GG := tm0 (List.mem_of_getElem? (i := 165) rfl) rfl
theorem k_166 : ((.methodLinkNest "StartTimes$Zone" (29 : Nat) ⟨"StartTimes$Lesson", "<init>", "()V"⟩ "StartTimes") : Cond) ∈ tables_1 := tn0 (List.mem_of_getElem? (i := 166) rfl)
theorem k_167 : ((.instanceMethod ⟨"StartTimes$Lesson", "<init>", "()V"⟩) : Cond) ∈ GG := tm0 (List.mem_of_getElem? (i := 167) rfl) rfl
theorem k_168 : ((.code ⟨"StartTimes$Lesson", "<init>", "()V"⟩ prog_2_method_1_code (1 : Nat) (Option.none : Option Jvm.ClassFile.FieldType)) : Cond) ∈ GG := tm0 (List.mem_of_getElem? (i := 168) rfl) rfl
theorem k_169 : ((.methodLink "StartTimes$Lesson" (1 : Nat) ⟨"java/lang/Object", "<init>", "()V"⟩) : Cond) ∈ GG := tm0 (List.mem_of_getElem? (i := 169) rfl) rfl
theorem k_170 : ((.fieldLink "StartTimes$Lesson" (7 : Nat) "StartTimes$Lesson" "above" "J") : Cond) ∈ GG := tm0 (List.mem_of_getElem? (i := 170) rfl) rfl
theorem k_171 : ((.fieldLinkNest "StartTimes" (119 : Nat) "StartTimes$Lesson" "above" "J" "StartTimes") : Cond) ∈ tables_1 := tn0 (List.mem_of_getElem? (i := 171) rfl)
theorem k_172 : ((.fieldLink "StartTimes$Lesson" (13 : Nat) "StartTimes$Lesson" "below" "J") : Cond) ∈ GG := tm0 (List.mem_of_getElem? (i := 172) rfl) rfl
theorem k_173 : ((.fieldLinkNest "StartTimes" (123 : Nat) "StartTimes$Lesson" "below" "J" "StartTimes") : Cond) ∈ tables_1 := tn0 (List.mem_of_getElem? (i := 173) rfl)
theorem k_179 : ((.fieldLink "StartTimes$Zone" (41 : Nat) "StartTimes$Zone" "holds" "I") : Cond) ∈ GG := tm0 (List.mem_of_getElem? (i := 179) rfl) rfl
theorem k_180 : ((.fieldLinkNest "StartTimes" (176 : Nat) "StartTimes$Zone" "holds" "I" "StartTimes") : Cond) ∈ tables_1 := tn0 (List.mem_of_getElem? (i := 180) rfl)
theorem k_181 : ((.fieldLink "StartTimes$Zone" (44 : Nat) "StartTimes$Zone" "leads" "I") : Cond) ∈ GG := tm0 (List.mem_of_getElem? (i := 181) rfl) rfl
theorem k_182 : ((.fieldLinkNest "StartTimes" (173 : Nat) "StartTimes$Zone" "leads" "I" "StartTimes") : Cond) ∈ tables_1 := tn0 (List.mem_of_getElem? (i := 182) rfl)
theorem k_183 : ((.fieldLink "StartTimes$Zone" (9 : Nat) "StartTimes$Zone" "firstWarmth" "I") : Cond) ∈ GG := tm0 (List.mem_of_getElem? (i := 183) rfl) rfl
theorem k_184 : ((.fieldLinkNest "StartTimes" (74 : Nat) "StartTimes$Zone" "firstWarmth" "I" "StartTimes") : Cond) ∈ tables_1 := tn0 (List.mem_of_getElem? (i := 184) rfl)
theorem k_185 : ((.fieldLink "StartTimes$Zone" (15 : Nat) "StartTimes$Zone" "power" "I") : Cond) ∈ GG := tm0 (List.mem_of_getElem? (i := 185) rfl) rfl
theorem k_186 : ((.fieldLinkNest "StartTimes" (77 : Nat) "StartTimes$Zone" "power" "I" "StartTimes") : Cond) ∈ tables_1 := tn0 (List.mem_of_getElem? (i := 186) rfl)
theorem k_187 : ((.fieldLink "StartTimes$Zone" (18 : Nat) "StartTimes$Zone" "rank" "I") : Cond) ∈ GG := tm0 (List.mem_of_getElem? (i := 187) rfl) rfl
theorem k_188 : ((.fieldLinkNest "StartTimes" (80 : Nat) "StartTimes$Zone" "rank" "I" "StartTimes") : Cond) ∈ tables_1 := tn0 (List.mem_of_getElem? (i := 188) rfl)
theorem k_189 : ((.fieldLink "StartTimes$Zone" (21 : Nat) "StartTimes$Zone" "wantedMinute" "I") : Cond) ∈ GG := tm0 (List.mem_of_getElem? (i := 189) rfl) rfl
theorem k_190 : ((.fieldLinkNest "StartTimes" (83 : Nat) "StartTimes$Zone" "wantedMinute" "I" "StartTimes") : Cond) ∈ tables_1 := tn0 (List.mem_of_getElem? (i := 190) rfl)
theorem k_191 : ((.fieldLink "StartTimes$Zone" (24 : Nat) "StartTimes$Zone" "wantedWarmth" "I") : Cond) ∈ GG := tm0 (List.mem_of_getElem? (i := 191) rfl) rfl
theorem k_192 : ((.fieldLinkNest "StartTimes" (86 : Nat) "StartTimes$Zone" "wantedWarmth" "I" "StartTimes") : Cond) ∈ tables_1 := tn0 (List.mem_of_getElem? (i := 192) rfl)
theorem k_193 : ((.fieldLink "StartTimes$Zone" (30 : Nat) "StartTimes$Zone" "lesson" "LStartTimes$Lesson;") : Cond) ∈ GG := tm0 (List.mem_of_getElem? (i := 193) rfl) rfl
theorem k_194 : ((.fieldLinkNest "StartTimes" (110 : Nat) "StartTimes$Zone" "lesson" "LStartTimes$Lesson;" "StartTimes") : Cond) ∈ tables_1 := tn0 (List.mem_of_getElem? (i := 194) rfl)
theorem k_195 : ((.fieldLink "StartTimes$Zone" (34 : Nat) "StartTimes$Zone" "start" "I") : Cond) ∈ GG := tm0 (List.mem_of_getElem? (i := 195) rfl) rfl
theorem k_196 : ((.fieldLinkNest "StartTimes" (97 : Nat) "StartTimes$Zone" "start" "I" "StartTimes") : Cond) ∈ tables_1 := tn0 (List.mem_of_getElem? (i := 196) rfl)
theorem k_197 : ((.fieldLink "StartTimes$Zone" (37 : Nat) "StartTimes$Zone" "warmths" "[I") : Cond) ∈ GG := tm0 (List.mem_of_getElem? (i := 197) rfl) rfl
theorem k_198 : ((.fieldLinkNest "StartTimes" (104 : Nat) "StartTimes$Zone" "warmths" "[I" "StartTimes") : Cond) ∈ tables_1 := tn0 (List.mem_of_getElem? (i := 198) rfl)
theorem k_220 : ((.methodLink "StartTimesLaw" (86 : Nat) ⟨"StartTimesLaw", "set", "(LStartTimes;III[J)I"⟩) : Cond) ∈ GG := tm0 (List.mem_of_getElem? (i := 220) rfl) rfl
theorem k_221 : ((.static ⟨"StartTimesLaw", "set", "(LStartTimes;III[J)I"⟩) : Cond) ∈ GG := tm0 (List.mem_of_getElem? (i := 221) rfl) rfl
theorem k_222 : ((.codeWith ⟨"StartTimesLaw", "set", "(LStartTimes;III[J)I"⟩ method_4_code (6 : Nat) (Option.some Jvm.ClassFile.FieldType.int) [((0 : Nat), (12 : Nat), (15 : Nat), (13 : Nat))]) : Cond) ∈ GG := tm0 (List.mem_of_getElem? (i := 222) rfl) rfl
theorem k_223 : ((.methodLink "StartTimesLaw" (17 : Nat) ⟨"StartTimes", "set", "(III)I"⟩) : Cond) ∈ GG := tm0 (List.mem_of_getElem? (i := 223) rfl) rfl
theorem k_224 : ((.instanceMethod ⟨"StartTimes", "set", "(III)I"⟩) : Cond) ∈ GG := tm0 (List.mem_of_getElem? (i := 224) rfl) rfl
theorem k_225 : ((.selects "StartTimes" ⟨"StartTimes", "set", "(III)I"⟩ ⟨"StartTimes", "set", "(III)I"⟩) : Cond) ∈ GG := tm0 (List.mem_of_getElem? (i := 225) rfl) rfl
theorem k_226 : ((.code ⟨"StartTimes", "set", "(III)I"⟩ prog_1_method_3_code (6 : Nat) (Option.some Jvm.ClassFile.FieldType.int)) : Cond) ∈ GG := tm0 (List.mem_of_getElem? (i := 226) rfl) rfl
theorem k_227 : ((.methodLink "StartTimes" (70 : Nat) ⟨"StartTimes", "knownZone", "(I)LStartTimes$Zone;"⟩) : Cond) ∈ GG := tm0 (List.mem_of_getElem? (i := 227) rfl) rfl
theorem k_229 : ((.instanceMethod ⟨"StartTimes", "knownZone", "(I)LStartTimes$Zone;"⟩) : Cond) ∈ GG := tm0 (List.mem_of_getElem? (i := 229) rfl) rfl
theorem k_230 : ((.code ⟨"StartTimes", "knownZone", "(I)LStartTimes$Zone;"⟩ prog_1_method_22_code (2 : Nat) (Option.some (Jvm.ClassFile.FieldType.object "StartTimes$Zone"))) : Cond) ∈ GG := tm0 (List.mem_of_getElem? (i := 230) rfl) rfl
theorem k_232 : ((.methodLink "StartTimesLaw" (90 : Nat) ⟨"StartTimesLaw", "want", "(LStartTimes;III)I"⟩) : Cond) ∈ GG := tm0 (List.mem_of_getElem? (i := 232) rfl) rfl
theorem k_233 : ((.static ⟨"StartTimesLaw", "want", "(LStartTimes;III)I"⟩) : Cond) ∈ GG := tm0 (List.mem_of_getElem? (i := 233) rfl) rfl
theorem k_234 : ((.codeWith ⟨"StartTimesLaw", "want", "(LStartTimes;III)I"⟩ method_5_code (5 : Nat) (Option.some Jvm.ClassFile.FieldType.int) [((0 : Nat), (7 : Nat), (10 : Nat), (13 : Nat))]) : Cond) ∈ GG := tm0 (List.mem_of_getElem? (i := 234) rfl) rfl
theorem k_235 : ((.methodLink "StartTimesLaw" (21 : Nat) ⟨"StartTimes", "want", "(III)V"⟩) : Cond) ∈ GG := tm0 (List.mem_of_getElem? (i := 235) rfl) rfl
theorem k_236 : ((.instanceMethod ⟨"StartTimes", "want", "(III)V"⟩) : Cond) ∈ GG := tm0 (List.mem_of_getElem? (i := 236) rfl) rfl
theorem k_237 : ((.selects "StartTimes" ⟨"StartTimes", "want", "(III)V"⟩ ⟨"StartTimes", "want", "(III)V"⟩) : Cond) ∈ GG := tm0 (List.mem_of_getElem? (i := 237) rfl) rfl
theorem k_238 : ((.code ⟨"StartTimes", "want", "(III)V"⟩ prog_1_method_4_code (5 : Nat) (Option.none : Option Jvm.ClassFile.FieldType)) : Cond) ∈ GG := tm0 (List.mem_of_getElem? (i := 238) rfl) rfl
theorem k_239 : ((.methodLink "StartTimesLaw" (94 : Nat) ⟨"StartTimesLaw", "outside", "(LStartTimes;II[J)I"⟩) : Cond) ∈ GG := tm0 (List.mem_of_getElem? (i := 239) rfl) rfl
theorem k_240 : ((.static ⟨"StartTimesLaw", "outside", "(LStartTimes;II[J)I"⟩) : Cond) ∈ GG := tm1 (List.mem_of_getElem? (i := 0) rfl) rfl
theorem k_241 : ((.codeWith ⟨"StartTimesLaw", "outside", "(LStartTimes;II[J)I"⟩ method_6_code (5 : Nat) (Option.some Jvm.ClassFile.FieldType.int) [((0 : Nat), (10 : Nat), (13 : Nat), (13 : Nat)), ((0 : Nat), (10 : Nat), (17 : Nat), (15 : Nat))]) : Cond) ∈ GG := tm1 (List.mem_of_getElem? (i := 1) rfl) rfl
theorem k_242 : ((.methodLink "StartTimesLaw" (25 : Nat) ⟨"StartTimes", "outside", "(II)I"⟩) : Cond) ∈ GG := tm1 (List.mem_of_getElem? (i := 2) rfl) rfl
theorem k_243 : ((.instanceMethod ⟨"StartTimes", "outside", "(II)I"⟩) : Cond) ∈ GG := tm1 (List.mem_of_getElem? (i := 3) rfl) rfl
theorem k_244 : ((.selects "StartTimes" ⟨"StartTimes", "outside", "(II)I"⟩ ⟨"StartTimes", "outside", "(II)I"⟩) : Cond) ∈ GG := tm1 (List.mem_of_getElem? (i := 4) rfl) rfl
theorem k_245 : ((.code ⟨"StartTimes", "outside", "(II)I"⟩ prog_1_method_5_code (4 : Nat) (Option.some Jvm.ClassFile.FieldType.int)) : Cond) ∈ GG := tm1 (List.mem_of_getElem? (i := 5) rfl) rfl
theorem k_248 : ((.methodLink "StartTimesLaw" (97 : Nat) ⟨"StartTimesLaw", "machine", "(LStartTimes;I[J)I"⟩) : Cond) ∈ GG := tm1 (List.mem_of_getElem? (i := 8) rfl) rfl
theorem k_249 : ((.static ⟨"StartTimesLaw", "machine", "(LStartTimes;I[J)I"⟩) : Cond) ∈ GG := tm1 (List.mem_of_getElem? (i := 9) rfl) rfl
theorem k_250 : ((.codeWith ⟨"StartTimesLaw", "machine", "(LStartTimes;I[J)I"⟩ method_7_code (4 : Nat) (Option.some Jvm.ClassFile.FieldType.int) [((0 : Nat), (9 : Nat), (12 : Nat), (13 : Nat))]) : Cond) ∈ GG := tm1 (List.mem_of_getElem? (i := 10) rfl) rfl
theorem k_251 : ((.methodLink "StartTimesLaw" (28 : Nat) ⟨"StartTimes", "machine", "(I)I"⟩) : Cond) ∈ GG := tm1 (List.mem_of_getElem? (i := 11) rfl) rfl
theorem k_252 : ((.instanceMethod ⟨"StartTimes", "machine", "(I)I"⟩) : Cond) ∈ GG := tm1 (List.mem_of_getElem? (i := 12) rfl) rfl
theorem k_253 : ((.selects "StartTimes" ⟨"StartTimes", "machine", "(I)I"⟩ ⟨"StartTimes", "machine", "(I)I"⟩) : Cond) ∈ GG := tm1 (List.mem_of_getElem? (i := 13) rfl) rfl
theorem k_254 : ((.code ⟨"StartTimes", "machine", "(I)I"⟩ prog_1_method_6_code (3 : Nat) (Option.some Jvm.ClassFile.FieldType.int)) : Cond) ∈ GG := tm1 (List.mem_of_getElem? (i := 14) rfl) rfl
theorem k_255 : ((.constant "StartTimes" (93 : Nat) (1000000 : Int32)) : Cond) ∈ GG := tm1 (List.mem_of_getElem? (i := 15) rfl) rfl
theorem k_256 : ((.methodLink "StartTimesLaw" (101 : Nat) ⟨"StartTimesLaw", "start", "(LStartTimes;I[J)I"⟩) : Cond) ∈ GG := tm1 (List.mem_of_getElem? (i := 16) rfl) rfl
theorem k_257 : ((.static ⟨"StartTimesLaw", "start", "(LStartTimes;I[J)I"⟩) : Cond) ∈ GG := tm1 (List.mem_of_getElem? (i := 17) rfl) rfl
theorem k_258 : ((.codeWith ⟨"StartTimesLaw", "start", "(LStartTimes;I[J)I"⟩ method_8_code (4 : Nat) (Option.some Jvm.ClassFile.FieldType.int) [((0 : Nat), (9 : Nat), (12 : Nat), (13 : Nat))]) : Cond) ∈ GG := tm1 (List.mem_of_getElem? (i := 18) rfl) rfl
theorem k_259 : ((.methodLink "StartTimesLaw" (32 : Nat) ⟨"StartTimes", "start", "(I)I"⟩) : Cond) ∈ GG := tm1 (List.mem_of_getElem? (i := 19) rfl) rfl
theorem k_260 : ((.instanceMethod ⟨"StartTimes", "start", "(I)I"⟩) : Cond) ∈ GG := tm1 (List.mem_of_getElem? (i := 20) rfl) rfl
theorem k_261 : ((.selects "StartTimes" ⟨"StartTimes", "start", "(I)I"⟩ ⟨"StartTimes", "start", "(I)I"⟩) : Cond) ∈ GG := tm1 (List.mem_of_getElem? (i := 21) rfl) rfl
theorem k_262 : ((.code ⟨"StartTimes", "start", "(I)I"⟩ prog_1_method_7_code (2 : Nat) (Option.some Jvm.ClassFile.FieldType.int)) : Cond) ∈ GG := tm1 (List.mem_of_getElem? (i := 22) rfl) rfl
theorem k_263 : ((.methodLink "StartTimes" (94 : Nat) ⟨"StartTimes", "plannedZone", "(I)LStartTimes$Zone;"⟩) : Cond) ∈ GG := tm1 (List.mem_of_getElem? (i := 23) rfl) rfl
theorem k_265 : ((.instanceMethod ⟨"StartTimes", "plannedZone", "(I)LStartTimes$Zone;"⟩) : Cond) ∈ GG := tm1 (List.mem_of_getElem? (i := 25) rfl) rfl
theorem k_266 : ((.code ⟨"StartTimes", "plannedZone", "(I)LStartTimes$Zone;"⟩ prog_1_method_23_code (3 : Nat) (Option.some (Jvm.ClassFile.FieldType.object "StartTimes$Zone"))) : Cond) ∈ GG := tm1 (List.mem_of_getElem? (i := 26) rfl) rfl
theorem k_267 : ((.methodLink "StartTimes" (107 : Nat) ⟨"StartTimes", "makePlan", "()V"⟩) : Cond) ∈ GG := tm1 (List.mem_of_getElem? (i := 27) rfl) rfl
theorem k_269 : ((.instanceMethod ⟨"StartTimes", "makePlan", "()V"⟩) : Cond) ∈ GG := tm1 (List.mem_of_getElem? (i := 29) rfl) rfl
theorem k_270 : ((.code ⟨"StartTimes", "makePlan", "()V"⟩ prog_1_method_26_code (3 : Nat) (Option.none : Option Jvm.ClassFile.FieldType)) : Cond) ∈ GG := tm1 (List.mem_of_getElem? (i := 30) rfl) rfl
theorem k_271 : ((.methodLink "StartTimes" (183 : Nat) ⟨"StartTimes", "planZone", "(LStartTimes$Zone;)V"⟩) : Cond) ∈ GG := tm1 (List.mem_of_getElem? (i := 31) rfl) rfl
theorem k_273 : ((.instanceMethod ⟨"StartTimes", "planZone", "(LStartTimes$Zone;)V"⟩) : Cond) ∈ GG := tm1 (List.mem_of_getElem? (i := 33) rfl) rfl
theorem k_274 : ((.code ⟨"StartTimes", "planZone", "(LStartTimes$Zone;)V"⟩ prog_1_method_27_code (2 : Nat) (Option.none : Option Jvm.ClassFile.FieldType)) : Cond) ∈ GG := tm1 (List.mem_of_getElem? (i := 34) rfl) rfl
theorem k_275 : ((.methodLink "StartTimes" (186 : Nat) ⟨"StartTimes", "leaveUnheated", "(LStartTimes$Zone;I)V"⟩) : Cond) ∈ GG := tm1 (List.mem_of_getElem? (i := 35) rfl) rfl
theorem k_277 : ((.instanceMethod ⟨"StartTimes", "leaveUnheated", "(LStartTimes$Zone;I)V"⟩) : Cond) ∈ GG := tm1 (List.mem_of_getElem? (i := 37) rfl) rfl
theorem k_278 : ((.code ⟨"StartTimes", "leaveUnheated", "(LStartTimes$Zone;I)V"⟩ prog_1_method_28_code (4 : Nat) (Option.none : Option Jvm.ClassFile.FieldType)) : Cond) ∈ GG := tm1 (List.mem_of_getElem? (i := 38) rfl) rfl
theorem k_279 : ((.methodLink "StartTimes" (179 : Nat) ⟨"StartTimes", "warmthAfter", "(LStartTimes$Zone;III)I"⟩) : Cond) ∈ GG := tm1 (List.mem_of_getElem? (i := 39) rfl) rfl
theorem k_281 : ((.instanceMethod ⟨"StartTimes", "warmthAfter", "(LStartTimes$Zone;III)I"⟩) : Cond) ∈ GG := tm1 (List.mem_of_getElem? (i := 41) rfl) rfl
theorem k_282 : ((.code ⟨"StartTimes", "warmthAfter", "(LStartTimes$Zone;III)I"⟩ prog_1_method_24_code (5 : Nat) (Option.some Jvm.ClassFile.FieldType.int)) : Cond) ∈ GG := tm1 (List.mem_of_getElem? (i := 42) rfl) rfl
theorem k_283 : ((.methodLinkNest "StartTimes" (100 : Nat) ⟨"StartTimes$Zone", "wantsWarmth", "()Z"⟩ "StartTimes") : Cond) ∈ tables_1 := tn1 (List.mem_of_getElem? (i := 43) rfl)
theorem k_285 : ((.instanceMethod ⟨"StartTimes$Zone", "wantsWarmth", "()Z"⟩) : Cond) ∈ GG := tm1 (List.mem_of_getElem? (i := 45) rfl) rfl
theorem k_286 : ((.code ⟨"StartTimes$Zone", "wantsWarmth", "()Z"⟩ prog_3_method_2_code (1 : Nat) (Option.some Jvm.ClassFile.FieldType.boolean)) : Cond) ∈ GG := tm1 (List.mem_of_getElem? (i := 46) rfl) rfl
theorem k_287 : ((.methodLink "StartTimes" (190 : Nat) ⟨"StartTimes", "latestStart", "(LStartTimes$Zone;)I"⟩) : Cond) ∈ GG := tm1 (List.mem_of_getElem? (i := 47) rfl) rfl
theorem k_289 : ((.instanceMethod ⟨"StartTimes", "latestStart", "(LStartTimes$Zone;)I"⟩) : Cond) ∈ GG := tm1 (List.mem_of_getElem? (i := 49) rfl) rfl
theorem k_290 : ((.code ⟨"StartTimes", "latestStart", "(LStartTimes$Zone;)I"⟩ prog_1_method_29_code (5 : Nat) (Option.some Jvm.ClassFile.FieldType.int)) : Cond) ∈ GG := tm1 (List.mem_of_getElem? (i := 50) rfl) rfl
theorem k_291 : ((.methodLink "StartTimes" (197 : Nat) ⟨"StartTimes", "warmthIfStarted", "(LStartTimes$Zone;I)I"⟩) : Cond) ∈ GG := tm1 (List.mem_of_getElem? (i := 51) rfl) rfl
theorem k_293 : ((.instanceMethod ⟨"StartTimes", "warmthIfStarted", "(LStartTimes$Zone;I)I"⟩) : Cond) ∈ GG := tm1 (List.mem_of_getElem? (i := 53) rfl) rfl
theorem k_294 : ((.code ⟨"StartTimes", "warmthIfStarted", "(LStartTimes$Zone;I)I"⟩ prog_1_method_30_code (5 : Nat) (Option.some Jvm.ClassFile.FieldType.int)) : Cond) ∈ GG := tm1 (List.mem_of_getElem? (i := 54) rfl) rfl
theorem k_295 : ((.methodLink "StartTimes" (201 : Nat) ⟨"StartTimes", "shareOf", "(LStartTimes$Zone;I)I"⟩) : Cond) ∈ GG := tm1 (List.mem_of_getElem? (i := 55) rfl) rfl
theorem k_297 : ((.instanceMethod ⟨"StartTimes", "shareOf", "(LStartTimes$Zone;I)I"⟩) : Cond) ∈ GG := tm1 (List.mem_of_getElem? (i := 57) rfl) rfl
theorem k_298 : ((.code ⟨"StartTimes", "shareOf", "(LStartTimes$Zone;I)I"⟩ prog_1_method_32_code (4 : Nat) (Option.some Jvm.ClassFile.FieldType.int)) : Cond) ∈ GG := tm1 (List.mem_of_getElem? (i := 58) rfl) rfl
theorem k_299 : ((.methodLink "StartTimes" (194 : Nat) ⟨"StartTimes", "heatFromStart", "(LStartTimes$Zone;)V"⟩) : Cond) ∈ GG := tm1 (List.mem_of_getElem? (i := 59) rfl) rfl
theorem k_301 : ((.instanceMethod ⟨"StartTimes", "heatFromStart", "(LStartTimes$Zone;)V"⟩) : Cond) ∈ GG := tm1 (List.mem_of_getElem? (i := 61) rfl) rfl
theorem k_302 : ((.code ⟨"StartTimes", "heatFromStart", "(LStartTimes$Zone;)V"⟩ prog_1_method_31_code (4 : Nat) (Option.none : Option Jvm.ClassFile.FieldType)) : Cond) ∈ GG := tm1 (List.mem_of_getElem? (i := 62) rfl) rfl
theorem k_303 : ((.methodLink "StartTimesLaw" (104 : Nat) ⟨"StartTimesLaw", "late", "(LStartTimes;I[J)I"⟩) : Cond) ∈ GG := tm1 (List.mem_of_getElem? (i := 63) rfl) rfl
theorem k_304 : ((.static ⟨"StartTimesLaw", "late", "(LStartTimes;I[J)I"⟩) : Cond) ∈ GG := tm1 (List.mem_of_getElem? (i := 64) rfl) rfl
theorem k_305 : ((.codeWith ⟨"StartTimesLaw", "late", "(LStartTimes;I[J)I"⟩ method_9_code (4 : Nat) (Option.some Jvm.ClassFile.FieldType.int) [((0 : Nat), (16 : Nat), (19 : Nat), (13 : Nat))]) : Cond) ∈ GG := tm1 (List.mem_of_getElem? (i := 65) rfl) rfl
theorem k_306 : ((.methodLink "StartTimesLaw" (35 : Nat) ⟨"StartTimes", "late", "(I)Z"⟩) : Cond) ∈ GG := tm1 (List.mem_of_getElem? (i := 66) rfl) rfl
theorem k_307 : ((.instanceMethod ⟨"StartTimes", "late", "(I)Z"⟩) : Cond) ∈ GG := tm1 (List.mem_of_getElem? (i := 67) rfl) rfl
theorem k_308 : ((.selects "StartTimes" ⟨"StartTimes", "late", "(I)Z"⟩ ⟨"StartTimes", "late", "(I)Z"⟩) : Cond) ∈ GG := tm1 (List.mem_of_getElem? (i := 68) rfl) rfl
theorem k_309 : ((.code ⟨"StartTimes", "late", "(I)Z"⟩ prog_1_method_8_code (3 : Nat) (Option.some Jvm.ClassFile.FieldType.boolean)) : Cond) ∈ GG := tm1 (List.mem_of_getElem? (i := 69) rfl) rfl
theorem k_310 : ((.methodLink "StartTimesLaw" (107 : Nat) ⟨"StartTimesLaw", "at", "(LStartTimes;II[J)I"⟩) : Cond) ∈ GG := tm1 (List.mem_of_getElem? (i := 70) rfl) rfl
theorem k_311 : ((.static ⟨"StartTimesLaw", "at", "(LStartTimes;II[J)I"⟩) : Cond) ∈ GG := tm1 (List.mem_of_getElem? (i := 71) rfl) rfl
theorem k_312 : ((.codeWith ⟨"StartTimesLaw", "at", "(LStartTimes;II[J)I"⟩ method_10_code (5 : Nat) (Option.some Jvm.ClassFile.FieldType.int) [((0 : Nat), (10 : Nat), (13 : Nat), (13 : Nat))]) : Cond) ∈ GG := tm1 (List.mem_of_getElem? (i := 72) rfl) rfl
theorem k_313 : ((.methodLink "StartTimesLaw" (39 : Nat) ⟨"StartTimes", "at", "(II)I"⟩) : Cond) ∈ GG := tm1 (List.mem_of_getElem? (i := 73) rfl) rfl
theorem k_314 : ((.instanceMethod ⟨"StartTimes", "at", "(II)I"⟩) : Cond) ∈ GG := tm1 (List.mem_of_getElem? (i := 74) rfl) rfl
theorem k_315 : ((.selects "StartTimes" ⟨"StartTimes", "at", "(II)I"⟩ ⟨"StartTimes", "at", "(II)I"⟩) : Cond) ∈ GG := tm1 (List.mem_of_getElem? (i := 75) rfl) rfl
theorem k_316 : ((.code ⟨"StartTimes", "at", "(II)I"⟩ prog_1_method_9_code (3 : Nat) (Option.some Jvm.ClassFile.FieldType.int)) : Cond) ∈ GG := tm1 (List.mem_of_getElem? (i := 76) rfl) rfl
theorem k_317 : ((.methodLink "StartTimesLaw" (110 : Nat) ⟨"StartTimesLaw", "used", "(LStartTimes;I[J)I"⟩) : Cond) ∈ GG := tm1 (List.mem_of_getElem? (i := 77) rfl) rfl
theorem k_318 : ((.static ⟨"StartTimesLaw", "used", "(LStartTimes;I[J)I"⟩) : Cond) ∈ GG := tm1 (List.mem_of_getElem? (i := 78) rfl) rfl
theorem k_319 : ((.codeWith ⟨"StartTimesLaw", "used", "(LStartTimes;I[J)I"⟩ method_11_code (4 : Nat) (Option.some Jvm.ClassFile.FieldType.int) [((0 : Nat), (9 : Nat), (12 : Nat), (13 : Nat))]) : Cond) ∈ GG := tm1 (List.mem_of_getElem? (i := 79) rfl) rfl
theorem k_320 : ((.methodLink "StartTimesLaw" (42 : Nat) ⟨"StartTimes", "used", "(I)I"⟩) : Cond) ∈ GG := tm1 (List.mem_of_getElem? (i := 80) rfl) rfl
theorem k_321 : ((.instanceMethod ⟨"StartTimes", "used", "(I)I"⟩) : Cond) ∈ GG := tm1 (List.mem_of_getElem? (i := 81) rfl) rfl
theorem k_322 : ((.selects "StartTimes" ⟨"StartTimes", "used", "(I)I"⟩ ⟨"StartTimes", "used", "(I)I"⟩) : Cond) ∈ GG := tm1 (List.mem_of_getElem? (i := 82) rfl) rfl
theorem k_323 : ((.code ⟨"StartTimes", "used", "(I)I"⟩ prog_1_method_10_code (2 : Nat) (Option.some Jvm.ClassFile.FieldType.int)) : Cond) ∈ GG := tm1 (List.mem_of_getElem? (i := 83) rfl) rfl
theorem k_324 : ((.methodLink "StartTimesLaw" (113 : Nat) ⟨"StartTimesLaw", "cold", "(LStartTimes;I[J)I"⟩) : Cond) ∈ GG := tm1 (List.mem_of_getElem? (i := 84) rfl) rfl
theorem k_325 : ((.static ⟨"StartTimesLaw", "cold", "(LStartTimes;I[J)I"⟩) : Cond) ∈ GG := tm1 (List.mem_of_getElem? (i := 85) rfl) rfl
theorem k_326 : ((.codeWith ⟨"StartTimesLaw", "cold", "(LStartTimes;I[J)I"⟩ method_12_code (4 : Nat) (Option.some Jvm.ClassFile.FieldType.int) [((0 : Nat), (9 : Nat), (12 : Nat), (13 : Nat))]) : Cond) ∈ GG := tm1 (List.mem_of_getElem? (i := 86) rfl) rfl
theorem k_327 : ((.methodLink "StartTimesLaw" (45 : Nat) ⟨"StartTimes", "cold", "(I)I"⟩) : Cond) ∈ GG := tm1 (List.mem_of_getElem? (i := 87) rfl) rfl
theorem k_328 : ((.instanceMethod ⟨"StartTimes", "cold", "(I)I"⟩) : Cond) ∈ GG := tm1 (List.mem_of_getElem? (i := 88) rfl) rfl
theorem k_329 : ((.selects "StartTimes" ⟨"StartTimes", "cold", "(I)I"⟩ ⟨"StartTimes", "cold", "(I)I"⟩) : Cond) ∈ GG := tm1 (List.mem_of_getElem? (i := 89) rfl) rfl
theorem k_330 : ((.code ⟨"StartTimes", "cold", "(I)I"⟩ prog_1_method_11_code (5 : Nat) (Option.some Jvm.ClassFile.FieldType.int)) : Cond) ∈ GG := tm1 (List.mem_of_getElem? (i := 90) rfl) rfl
theorem k_331 : ((.methodLink "StartTimesLaw" (116 : Nat) ⟨"StartTimesLaw", "fade", "(LStartTimes;II)I"⟩) : Cond) ∈ GG := tm1 (List.mem_of_getElem? (i := 91) rfl) rfl
theorem k_332 : ((.static ⟨"StartTimesLaw", "fade", "(LStartTimes;II)I"⟩) : Cond) ∈ GG := tm1 (List.mem_of_getElem? (i := 92) rfl) rfl
theorem k_333 : ((.codeWith ⟨"StartTimesLaw", "fade", "(LStartTimes;II)I"⟩ method_13_code (4 : Nat) (Option.some Jvm.ClassFile.FieldType.int) [((0 : Nat), (6 : Nat), (9 : Nat), (13 : Nat))]) : Cond) ∈ GG := tm1 (List.mem_of_getElem? (i := 93) rfl) rfl
theorem k_334 : ((.methodLink "StartTimesLaw" (48 : Nat) ⟨"StartTimes", "fade", "(II)V"⟩) : Cond) ∈ GG := tm1 (List.mem_of_getElem? (i := 94) rfl) rfl
theorem k_335 : ((.instanceMethod ⟨"StartTimes", "fade", "(II)V"⟩) : Cond) ∈ GG := tm1 (List.mem_of_getElem? (i := 95) rfl) rfl
theorem k_336 : ((.selects "StartTimes" ⟨"StartTimes", "fade", "(II)V"⟩ ⟨"StartTimes", "fade", "(II)V"⟩) : Cond) ∈ GG := tm1 (List.mem_of_getElem? (i := 96) rfl) rfl
theorem k_337 : ((.code ⟨"StartTimes", "fade", "(II)V"⟩ prog_1_method_12_code (3 : Nat) (Option.none : Option Jvm.ClassFile.FieldType)) : Cond) ∈ GG := tm1 (List.mem_of_getElem? (i := 97) rfl) rfl
theorem k_338 : ((.methodLink "StartTimesLaw" (120 : Nat) ⟨"StartTimesLaw", "day", "(LStartTimes;II)I"⟩) : Cond) ∈ GG := tm1 (List.mem_of_getElem? (i := 98) rfl) rfl
theorem k_339 : ((.static ⟨"StartTimesLaw", "day", "(LStartTimes;II)I"⟩) : Cond) ∈ GG := tm1 (List.mem_of_getElem? (i := 99) rfl) rfl
theorem k_340 : ((.codeWith ⟨"StartTimesLaw", "day", "(LStartTimes;II)I"⟩ method_14_code (4 : Nat) (Option.some Jvm.ClassFile.FieldType.int) [((0 : Nat), (6 : Nat), (9 : Nat), (13 : Nat))]) : Cond) ∈ GG := tm1 (List.mem_of_getElem? (i := 100) rfl) rfl
theorem k_341 : ((.methodLink "StartTimesLaw" (52 : Nat) ⟨"StartTimes", "day", "(II)V"⟩) : Cond) ∈ GG := tm1 (List.mem_of_getElem? (i := 101) rfl) rfl
theorem k_342 : ((.instanceMethod ⟨"StartTimes", "day", "(II)V"⟩) : Cond) ∈ GG := tm1 (List.mem_of_getElem? (i := 102) rfl) rfl
theorem k_343 : ((.selects "StartTimes" ⟨"StartTimes", "day", "(II)V"⟩ ⟨"StartTimes", "day", "(II)V"⟩) : Cond) ∈ GG := tm1 (List.mem_of_getElem? (i := 103) rfl) rfl
theorem k_344 : ((.code ⟨"StartTimes", "day", "(II)V"⟩ prog_1_method_13_code (4 : Nat) (Option.none : Option Jvm.ClassFile.FieldType)) : Cond) ∈ GG := tm1 (List.mem_of_getElem? (i := 104) rfl) rfl
theorem k_345 : ((.methodLinkNest "StartTimes" (114 : Nat) ⟨"StartTimes$Lesson", "learn", "(III)V"⟩ "StartTimes") : Cond) ∈ tables_1 := tn1 (List.mem_of_getElem? (i := 105) rfl)
theorem k_347 : ((.instanceMethod ⟨"StartTimes$Lesson", "learn", "(III)V"⟩) : Cond) ∈ GG := tm1 (List.mem_of_getElem? (i := 107) rfl) rfl
theorem k_348 : ((.code ⟨"StartTimes$Lesson", "learn", "(III)V"⟩ prog_2_method_2_code (8 : Nat) (Option.none : Option Jvm.ClassFile.FieldType)) : Cond) ∈ GG := tm1 (List.mem_of_getElem? (i := 108) rfl) rfl
theorem k_349 : ((.methodLink "StartTimes$Lesson" (16 : Nat) ⟨"StartTimes$Lesson", "keepInLowestTerms", "(JJ)V"⟩) : Cond) ∈ GG := tm1 (List.mem_of_getElem? (i := 109) rfl) rfl
theorem k_351 : ((.instanceMethod ⟨"StartTimes$Lesson", "keepInLowestTerms", "(JJ)V"⟩) : Cond) ∈ GG := tm1 (List.mem_of_getElem? (i := 111) rfl) rfl
theorem k_352 : ((.code ⟨"StartTimes$Lesson", "keepInLowestTerms", "(JJ)V"⟩ prog_2_method_4_code (7 : Nat) (Option.none : Option Jvm.ClassFile.FieldType)) : Cond) ∈ GG := tm1 (List.mem_of_getElem? (i := 112) rfl) rfl
theorem k_353 : ((.methodLink "StartTimes$Lesson" (28 : Nat) ⟨"java/lang/Math", "abs", "(J)J"⟩) : Cond) ∈ GG := tm1 (List.mem_of_getElem? (i := 113) rfl) rfl
theorem k_354 : ((.static ⟨"java/lang/Math", "abs", "(J)J"⟩) : Cond) ∈ GG := tm1 (List.mem_of_getElem? (i := 114) rfl) rfl
theorem k_355 : ((.code ⟨"java/lang/Math", "abs", "(J)J"⟩ prog_9_method_61_code (2 : Nat) (Option.some Jvm.ClassFile.FieldType.long)) : Cond) ∈ GG := tm1 (List.mem_of_getElem? (i := 115) rfl) rfl
theorem k_356 : ((.methodLink "StartTimes$Lesson" (34 : Nat) ⟨"StartTimes$Lesson", "commonDivisor", "(JJ)J"⟩) : Cond) ∈ GG := tm1 (List.mem_of_getElem? (i := 116) rfl) rfl
theorem k_357 : ((.static ⟨"StartTimes$Lesson", "commonDivisor", "(JJ)J"⟩) : Cond) ∈ GG := tm1 (List.mem_of_getElem? (i := 117) rfl) rfl
theorem k_358 : ((.code ⟨"StartTimes$Lesson", "commonDivisor", "(JJ)J"⟩ prog_2_method_5_code (11 : Nat) (Option.some Jvm.ClassFile.FieldType.long)) : Cond) ∈ GG := tm1 (List.mem_of_getElem? (i := 118) rfl) rfl
theorem k_359 : ((.constantLong "StartTimes$Lesson" (20 : Nat) (1000000000 : Int64)) : Cond) ∈ GG := tm1 (List.mem_of_getElem? (i := 119) rfl) rfl
theorem k_360 : ((.methodLink "StartTimes$Lesson" (22 : Nat) ⟨"StartTimes$Lesson", "millionths", "()J"⟩) : Cond) ∈ GG := tm1 (List.mem_of_getElem? (i := 120) rfl) rfl
theorem k_362 : ((.instanceMethod ⟨"StartTimes$Lesson", "millionths", "()J"⟩) : Cond) ∈ GG := tm1 (List.mem_of_getElem? (i := 122) rfl) rfl
theorem k_363 : ((.code ⟨"StartTimes$Lesson", "millionths", "()J"⟩ prog_2_method_3_code (1 : Nat) (Option.some Jvm.ClassFile.FieldType.long)) : Cond) ∈ GG := tm1 (List.mem_of_getElem? (i := 123) rfl) rfl
theorem k_364 : ((.constantLong "StartTimes$Lesson" (26 : Nat) (1000000 : Int64)) : Cond) ∈ GG := tm1 (List.mem_of_getElem? (i := 124) rfl) rfl
theorem k_365 : ((.methodLink "StartTimesLaw" (123 : Nat) ⟨"StartTimesLaw", "lesson", "(LStartTimes;II[J)I"⟩) : Cond) ∈ GG := tm1 (List.mem_of_getElem? (i := 125) rfl) rfl
theorem k_366 : ((.static ⟨"StartTimesLaw", "lesson", "(LStartTimes;II[J)I"⟩) : Cond) ∈ GG := tm1 (List.mem_of_getElem? (i := 126) rfl) rfl
theorem k_367 : ((.codeWith ⟨"StartTimesLaw", "lesson", "(LStartTimes;II[J)I"⟩ method_15_code (5 : Nat) (Option.some Jvm.ClassFile.FieldType.int) [((0 : Nat), (9 : Nat), (12 : Nat), (13 : Nat))]) : Cond) ∈ GG := tm1 (List.mem_of_getElem? (i := 127) rfl) rfl
theorem k_368 : ((.methodLink "StartTimesLaw" (55 : Nat) ⟨"StartTimes", "lesson", "(II)J"⟩) : Cond) ∈ GG := tm1 (List.mem_of_getElem? (i := 128) rfl) rfl
theorem k_369 : ((.instanceMethod ⟨"StartTimes", "lesson", "(II)J"⟩) : Cond) ∈ GG := tm1 (List.mem_of_getElem? (i := 129) rfl) rfl
theorem k_370 : ((.selects "StartTimes" ⟨"StartTimes", "lesson", "(II)J"⟩ ⟨"StartTimes", "lesson", "(II)J"⟩) : Cond) ∈ GG := tm1 (List.mem_of_getElem? (i := 130) rfl) rfl
theorem k_371 : ((.code ⟨"StartTimes", "lesson", "(II)J"⟩ prog_1_method_14_code (4 : Nat) (Option.some Jvm.ClassFile.FieldType.long)) : Cond) ∈ GG := tm1 (List.mem_of_getElem? (i := 131) rfl) rfl
theorem k_372 : ((.methodLink "StartTimesLaw" (126 : Nat) ⟨"StartTimesLaw", "taught", "(LStartTimes;I[J)I"⟩) : Cond) ∈ GG := tm1 (List.mem_of_getElem? (i := 132) rfl) rfl
theorem k_373 : ((.static ⟨"StartTimesLaw", "taught", "(LStartTimes;I[J)I"⟩) : Cond) ∈ GG := tm1 (List.mem_of_getElem? (i := 133) rfl) rfl
theorem k_374 : ((.codeWith ⟨"StartTimesLaw", "taught", "(LStartTimes;I[J)I"⟩ method_16_code (4 : Nat) (Option.some Jvm.ClassFile.FieldType.int) [((0 : Nat), (9 : Nat), (12 : Nat), (13 : Nat))]) : Cond) ∈ GG := tm1 (List.mem_of_getElem? (i := 134) rfl) rfl
theorem k_375 : ((.methodLink "StartTimesLaw" (59 : Nat) ⟨"StartTimes", "taught", "(I)I"⟩) : Cond) ∈ GG := tm1 (List.mem_of_getElem? (i := 135) rfl) rfl
theorem k_376 : ((.instanceMethod ⟨"StartTimes", "taught", "(I)I"⟩) : Cond) ∈ GG := tm1 (List.mem_of_getElem? (i := 136) rfl) rfl
theorem k_377 : ((.selects "StartTimes" ⟨"StartTimes", "taught", "(I)I"⟩ ⟨"StartTimes", "taught", "(I)I"⟩) : Cond) ∈ GG := tm1 (List.mem_of_getElem? (i := 137) rfl) rfl
theorem k_378 : ((.code ⟨"StartTimes", "taught", "(I)I"⟩ prog_1_method_15_code (4 : Nat) (Option.some Jvm.ClassFile.FieldType.int)) : Cond) ∈ GG := tm1 (List.mem_of_getElem? (i := 138) rfl) rfl
theorem k_379 : ((.methodLinkNest "StartTimes" (126 : Nat) ⟨"StartTimes$Lesson", "wholeMinutes", "()I"⟩ "StartTimes") : Cond) ∈ tables_1 := tn1 (List.mem_of_getElem? (i := 139) rfl)
theorem k_381 : ((.instanceMethod ⟨"StartTimes$Lesson", "wholeMinutes", "()I"⟩) : Cond) ∈ GG := tm1 (List.mem_of_getElem? (i := 141) rfl) rfl
theorem k_382 : ((.code ⟨"StartTimes$Lesson", "wholeMinutes", "()I"⟩ prog_2_method_6_code (1 : Nat) (Option.some Jvm.ClassFile.FieldType.int)) : Cond) ∈ GG := tm1 (List.mem_of_getElem? (i := 142) rfl) rfl
theorem k_383 : ((.methodLink "StartTimes" (130 : Nat) ⟨"java/lang/Math", "min", "(II)I"⟩) : Cond) ∈ GG := tm1 (List.mem_of_getElem? (i := 143) rfl) rfl
theorem k_384 : ((.static ⟨"java/lang/Math", "min", "(II)I"⟩) : Cond) ∈ GG := tm1 (List.mem_of_getElem? (i := 144) rfl) rfl
theorem k_385 : ((.code ⟨"java/lang/Math", "min", "(II)I"⟩ prog_9_method_69_code (2 : Nat) (Option.some Jvm.ClassFile.FieldType.int)) : Cond) ∈ GG := tm1 (List.mem_of_getElem? (i := 145) rfl) rfl
theorem k_386 : ((.methodLink "StartTimes" (136 : Nat) ⟨"java/lang/Math", "max", "(II)I"⟩) : Cond) ∈ GG := tm1 (List.mem_of_getElem? (i := 146) rfl) rfl
theorem k_387 : ((.static ⟨"java/lang/Math", "max", "(II)I"⟩) : Cond) ∈ GG := tm1 (List.mem_of_getElem? (i := 147) rfl) rfl
theorem k_388 : ((.code ⟨"java/lang/Math", "max", "(II)I"⟩ prog_9_method_65_code (2 : Nat) (Option.some Jvm.ClassFile.FieldType.int)) : Cond) ∈ GG := tm1 (List.mem_of_getElem? (i := 148) rfl) rfl
theorem k_389 : ((.methodLink "StartTimesLaw" (129 : Nat) ⟨"StartTimesLaw", "price", "(LStartTimes;II[J)I"⟩) : Cond) ∈ GG := tm1 (List.mem_of_getElem? (i := 149) rfl) rfl
theorem k_390 : ((.static ⟨"StartTimesLaw", "price", "(LStartTimes;II[J)I"⟩) : Cond) ∈ GG := tm1 (List.mem_of_getElem? (i := 150) rfl) rfl
theorem k_391 : ((.codeWith ⟨"StartTimesLaw", "price", "(LStartTimes;II[J)I"⟩ method_17_code (5 : Nat) (Option.some Jvm.ClassFile.FieldType.int) [((0 : Nat), (10 : Nat), (13 : Nat), (13 : Nat))]) : Cond) ∈ GG := tm1 (List.mem_of_getElem? (i := 151) rfl) rfl
theorem k_392 : ((.methodLink "StartTimesLaw" (62 : Nat) ⟨"StartTimes", "price", "(II)I"⟩) : Cond) ∈ GG := tm1 (List.mem_of_getElem? (i := 152) rfl) rfl
theorem k_393 : ((.instanceMethod ⟨"StartTimes", "price", "(II)I"⟩) : Cond) ∈ GG := tm1 (List.mem_of_getElem? (i := 153) rfl) rfl
theorem k_394 : ((.selects "StartTimes" ⟨"StartTimes", "price", "(II)I"⟩ ⟨"StartTimes", "price", "(II)I"⟩) : Cond) ∈ GG := tm1 (List.mem_of_getElem? (i := 154) rfl) rfl
theorem k_395 : ((.code ⟨"StartTimes", "price", "(II)I"⟩ prog_1_method_16_code (4 : Nat) (Option.some Jvm.ClassFile.FieldType.int)) : Cond) ∈ GG := tm1 (List.mem_of_getElem? (i := 155) rfl) rfl
theorem k_396 : ((.methodLink "StartTimesLaw" (132 : Nat) ⟨"StartTimesLaw", "cheapest", "(LStartTimes;III[J)I"⟩) : Cond) ∈ GG := tm1 (List.mem_of_getElem? (i := 156) rfl) rfl
theorem k_397 : ((.static ⟨"StartTimesLaw", "cheapest", "(LStartTimes;III[J)I"⟩) : Cond) ∈ GG := tm1 (List.mem_of_getElem? (i := 157) rfl) rfl
theorem k_398 : ((.codeWith ⟨"StartTimesLaw", "cheapest", "(LStartTimes;III[J)I"⟩ method_18_code (6 : Nat) (Option.some Jvm.ClassFile.FieldType.int) [((0 : Nat), (12 : Nat), (15 : Nat), (13 : Nat)), ((0 : Nat), (12 : Nat), (19 : Nat), (15 : Nat))]) : Cond) ∈ GG := tm1 (List.mem_of_getElem? (i := 158) rfl) rfl
theorem k_399 : ((.methodLink "StartTimesLaw" (65 : Nat) ⟨"StartTimes", "cheapest", "(III)I"⟩) : Cond) ∈ GG := tm1 (List.mem_of_getElem? (i := 159) rfl) rfl
theorem k_400 : ((.instanceMethod ⟨"StartTimes", "cheapest", "(III)I"⟩) : Cond) ∈ GG := tm1 (List.mem_of_getElem? (i := 160) rfl) rfl
theorem k_401 : ((.selects "StartTimes" ⟨"StartTimes", "cheapest", "(III)I"⟩ ⟨"StartTimes", "cheapest", "(III)I"⟩) : Cond) ∈ GG := tm1 (List.mem_of_getElem? (i := 161) rfl) rfl
theorem k_402 : ((.code ⟨"StartTimes", "cheapest", "(III)I"⟩ prog_1_method_17_code (8 : Nat) (Option.some Jvm.ClassFile.FieldType.int)) : Cond) ∈ GG := tm1 (List.mem_of_getElem? (i := 162) rfl) rfl
theorem k_403 : ((.methodLink "StartTimes" (139 : Nat) ⟨"StartTimes", "checkQuarters", "(II)V"⟩) : Cond) ∈ GG := tm1 (List.mem_of_getElem? (i := 163) rfl) rfl
theorem k_404 : ((.static ⟨"StartTimes", "checkQuarters", "(II)V"⟩) : Cond) ∈ GG := tm1 (List.mem_of_getElem? (i := 164) rfl) rfl
theorem k_405 : ((.code ⟨"StartTimes", "checkQuarters", "(II)V"⟩ prog_1_method_20_code (2 : Nat) (Option.none : Option Jvm.ClassFile.FieldType)) : Cond) ∈ GG := tm1 (List.mem_of_getElem? (i := 165) rfl) rfl
theorem k_406 : ((.methodLink "StartTimes" (142 : Nat) ⟨"StartTimes", "checkWants", "(LStartTimes$Zone;)V"⟩) : Cond) ∈ GG := tm1 (List.mem_of_getElem? (i := 166) rfl) rfl
theorem k_407 : ((.static ⟨"StartTimes", "checkWants", "(LStartTimes$Zone;)V"⟩) : Cond) ∈ GG := tm1 (List.mem_of_getElem? (i := 167) rfl) rfl
theorem k_408 : ((.code ⟨"StartTimes", "checkWants", "(LStartTimes$Zone;)V"⟩ prog_1_method_21_code (1 : Nat) (Option.none : Option Jvm.ClassFile.FieldType)) : Cond) ∈ GG := tm1 (List.mem_of_getElem? (i := 168) rfl) rfl
theorem k_410 : ((.methodLink "StartTimes" (146 : Nat) ⟨"StartTimes", "weighSets", "(LStartTimes$Zone;II)V"⟩) : Cond) ∈ GG := tm1 (List.mem_of_getElem? (i := 170) rfl) rfl
theorem k_412 : ((.instanceMethod ⟨"StartTimes", "weighSets", "(LStartTimes$Zone;II)V"⟩) : Cond) ∈ GG := tm1 (List.mem_of_getElem? (i := 172) rfl) rfl
theorem k_413 : ((.code ⟨"StartTimes", "weighSets", "(LStartTimes$Zone;II)V"⟩ prog_1_method_35_code (12 : Nat) (Option.none : Option Jvm.ClassFile.FieldType)) : Cond) ∈ GG := tm1 (List.mem_of_getElem? (i := 173) rfl) rfl
theorem k_414 : ((.methodLink "StartTimes" (150 : Nat) ⟨"StartTimes", "quarterBegin", "(LStartTimes$Zone;II)I"⟩) : Cond) ∈ GG := tm1 (List.mem_of_getElem? (i := 174) rfl) rfl
theorem k_415 : ((.static ⟨"StartTimes", "quarterBegin", "(LStartTimes$Zone;II)I"⟩) : Cond) ∈ GG := tm1 (List.mem_of_getElem? (i := 175) rfl) rfl
theorem k_416 : ((.code ⟨"StartTimes", "quarterBegin", "(LStartTimes$Zone;II)I"⟩ prog_1_method_33_code (3 : Nat) (Option.some Jvm.ClassFile.FieldType.int)) : Cond) ∈ GG := tm1 (List.mem_of_getElem? (i := 176) rfl) rfl
theorem k_417 : ((.methodLink "StartTimes" (154 : Nat) ⟨"StartTimes", "warmthThrough", "(LStartTimes$Zone;IIII)I"⟩) : Cond) ∈ GG := tm1 (List.mem_of_getElem? (i := 177) rfl) rfl
theorem k_419 : ((.instanceMethod ⟨"StartTimes", "warmthThrough", "(LStartTimes$Zone;IIII)I"⟩) : Cond) ∈ GG := tm1 (List.mem_of_getElem? (i := 179) rfl) rfl
theorem k_420 : ((.code ⟨"StartTimes", "warmthThrough", "(LStartTimes$Zone;IIII)I"⟩ prog_1_method_25_code (8 : Nat) (Option.some Jvm.ClassFile.FieldType.int)) : Cond) ∈ GG := tm1 (List.mem_of_getElem? (i := 180) rfl) rfl
theorem k_421 : ((.methodLink "StartTimes" (158 : Nat) ⟨"StartTimes", "costOfMinutes", "(LStartTimes$Zone;II)J"⟩) : Cond) ∈ GG := tm1 (List.mem_of_getElem? (i := 181) rfl) rfl
theorem k_423 : ((.instanceMethod ⟨"StartTimes", "costOfMinutes", "(LStartTimes$Zone;II)J"⟩) : Cond) ∈ GG := tm1 (List.mem_of_getElem? (i := 183) rfl) rfl
theorem k_424 : ((.code ⟨"StartTimes", "costOfMinutes", "(LStartTimes$Zone;II)J"⟩ prog_1_method_34_code (7 : Nat) (Option.some Jvm.ClassFile.FieldType.long)) : Cond) ∈ GG := tm1 (List.mem_of_getElem? (i := 184) rfl) rfl
theorem k_425 : ((.methodLink "StartTimesLaw" (135 : Nat) ⟨"StartTimesLaw", "costs", "(LStartTimes;IIII[J)I"⟩) : Cond) ∈ GG := tm1 (List.mem_of_getElem? (i := 185) rfl) rfl
theorem k_426 : ((.static ⟨"StartTimesLaw", "costs", "(LStartTimes;IIII[J)I"⟩) : Cond) ∈ GG := tm1 (List.mem_of_getElem? (i := 186) rfl) rfl
theorem k_427 : ((.codeWith ⟨"StartTimesLaw", "costs", "(LStartTimes;IIII[J)I"⟩ method_19_code (7 : Nat) (Option.some Jvm.ClassFile.FieldType.int) [((0 : Nat), (13 : Nat), (16 : Nat), (13 : Nat)), ((0 : Nat), (13 : Nat), (20 : Nat), (15 : Nat))]) : Cond) ∈ GG := tm1 (List.mem_of_getElem? (i := 187) rfl) rfl
theorem k_428 : ((.methodLink "StartTimesLaw" (68 : Nat) ⟨"StartTimes", "costs", "(IIII)J"⟩) : Cond) ∈ GG := tm1 (List.mem_of_getElem? (i := 188) rfl) rfl
theorem k_429 : ((.instanceMethod ⟨"StartTimes", "costs", "(IIII)J"⟩) : Cond) ∈ GG := tm1 (List.mem_of_getElem? (i := 189) rfl) rfl
theorem k_430 : ((.selects "StartTimes" ⟨"StartTimes", "costs", "(IIII)J"⟩ ⟨"StartTimes", "costs", "(IIII)J"⟩) : Cond) ∈ GG := tm1 (List.mem_of_getElem? (i := 190) rfl) rfl
theorem k_431 : ((.code ⟨"StartTimes", "costs", "(IIII)J"⟩ prog_1_method_18_code (13 : Nat) (Option.some Jvm.ClassFile.FieldType.long)) : Cond) ∈ GG := tm1 (List.mem_of_getElem? (i := 191) rfl) rfl
theorem k_432 : ((.constantLong "StartTimes" (162 : Nat) (-1 : Int64)) : Cond) ∈ GG := tm1 (List.mem_of_getElem? (i := 192) rfl) rfl
theorem k_433 : ((.classLink "StartTimesLaw" (73 : Nat) "StartTimesModel") : Cond) ∈ GG := tm1 (List.mem_of_getElem? (i := 193) rfl) rfl
theorem k_434 : ((.instantiable "StartTimesModel" (25 : Nat)) : Cond) ∈ GG := tm1 (List.mem_of_getElem? (i := 194) rfl) rfl
theorem k_435 : ((.methodLink "StartTimesLaw" (75 : Nat) ⟨"StartTimesModel", "<init>", "()V"⟩) : Cond) ∈ GG := tm1 (List.mem_of_getElem? (i := 195) rfl) rfl
theorem k_436 : ((.instanceMethod ⟨"StartTimesModel", "<init>", "()V"⟩) : Cond) ∈ GG := tm1 (List.mem_of_getElem? (i := 196) rfl) rfl
theorem k_437 : ((.code ⟨"StartTimesModel", "<init>", "()V"⟩ prog_5_method_1_code (1 : Nat) (Option.none : Option Jvm.ClassFile.FieldType)) : Cond) ∈ GG := tm1 (List.mem_of_getElem? (i := 197) rfl) rfl
theorem k_438 : ((.methodLink "StartTimesModel" (1 : Nat) ⟨"java/lang/Object", "<init>", "()V"⟩) : Cond) ∈ GG := tm1 (List.mem_of_getElem? (i := 198) rfl) rfl
theorem k_439 : ((.constant "StartTimesModel" (44 : Nat) (100000 : Int32)) : Cond) ∈ GG := tm1 (List.mem_of_getElem? (i := 199) rfl) rfl
theorem k_440 : ((.fieldLink "StartTimesModel" (77 : Nat) "StartTimesModel" "thrown" "I") : Cond) ∈ GG := tm1 (List.mem_of_getElem? (i := 200) rfl) rfl
theorem k_441 : ((.fieldLink "StartTimesModel" (80 : Nat) "StartTimesModel" "zones" "I") : Cond) ∈ GG := tm1 (List.mem_of_getElem? (i := 201) rfl) rfl
theorem k_442 : ((.fieldLink "StartTimesModel" (7 : Nat) "StartTimesModel" "holds" "[I") : Cond) ∈ GG := tm1 (List.mem_of_getElem? (i := 202) rfl) rfl
theorem k_443 : ((.fieldLink "StartTimesModel" (13 : Nat) "StartTimesModel" "leads" "[I") : Cond) ∈ GG := tm1 (List.mem_of_getElem? (i := 203) rfl) rfl
theorem k_444 : ((.fieldLink "StartTimesModel" (16 : Nat) "StartTimesModel" "begins" "[I") : Cond) ∈ GG := tm1 (List.mem_of_getElem? (i := 204) rfl) rfl
theorem k_445 : ((.fieldLink "StartTimesModel" (19 : Nat) "StartTimesModel" "powers" "[I") : Cond) ∈ GG := tm1 (List.mem_of_getElem? (i := 205) rfl) rfl
theorem k_446 : ((.fieldLink "StartTimesModel" (22 : Nat) "StartTimesModel" "ranks" "[I") : Cond) ∈ GG := tm1 (List.mem_of_getElem? (i := 206) rfl) rfl
theorem k_447 : ((.fieldLink "StartTimesModel" (25 : Nat) "StartTimesModel" "wantedAt" "[I") : Cond) ∈ GG := tm1 (List.mem_of_getElem? (i := 207) rfl) rfl
theorem k_448 : ((.fieldLink "StartTimesModel" (28 : Nat) "StartTimesModel" "wanted" "[I") : Cond) ∈ GG := tm1 (List.mem_of_getElem? (i := 208) rfl) rfl
theorem k_449 : ((.fieldLink "StartTimesModel" (31 : Nat) "StartTimesModel" "above" "[J") : Cond) ∈ GG := tm1 (List.mem_of_getElem? (i := 209) rfl) rfl
theorem k_450 : ((.fieldLink "StartTimesModel" (35 : Nat) "StartTimesModel" "below" "[J") : Cond) ∈ GG := tm1 (List.mem_of_getElem? (i := 210) rfl) rfl
theorem k_451 : ((.fieldLink "StartTimesModel" (99 : Nat) "StartTimesModel" "rows" "I") : Cond) ∈ GG := tm1 (List.mem_of_getElem? (i := 211) rfl) rfl
theorem k_452 : ((.fieldLink "StartTimesModel" (38 : Nat) "StartTimesModel" "rowMinutes" "[I") : Cond) ∈ GG := tm1 (List.mem_of_getElem? (i := 212) rfl) rfl
theorem k_453 : ((.fieldLink "StartTimesModel" (41 : Nat) "StartTimesModel" "rowWarmths" "[I") : Cond) ∈ GG := tm1 (List.mem_of_getElem? (i := 213) rfl) rfl
theorem k_454 : ((.fieldLink "StartTimesModel" (45 : Nat) "StartTimesModel" "machine" "I") : Cond) ∈ GG := tm1 (List.mem_of_getElem? (i := 214) rfl) rfl
theorem k_455 : ((.fieldLink "StartTimesModel" (49 : Nat) "StartTimesModel" "prices" "[I") : Cond) ∈ GG := tm1 (List.mem_of_getElem? (i := 215) rfl) rfl
theorem k_456 : ((.fieldLink "StartTimesModel" (52 : Nat) "StartTimesModel" "fadeAbove" "I") : Cond) ∈ GG := tm1 (List.mem_of_getElem? (i := 216) rfl) rfl
theorem k_457 : ((.fieldLink "StartTimesModel" (55 : Nat) "StartTimesModel" "fadeBelow" "I") : Cond) ∈ GG := tm1 (List.mem_of_getElem? (i := 217) rfl) rfl
theorem k_458 : ((.fieldLink "StartTimesModel" (91 : Nat) "StartTimesModel" "known" "Z") : Cond) ∈ GG := tm1 (List.mem_of_getElem? (i := 218) rfl) rfl
theorem k_459 : ((.fieldLink "StartTimesModel" (58 : Nat) "StartTimesModel" "outsides" "[I") : Cond) ∈ GG := tm1 (List.mem_of_getElem? (i := 219) rfl) rfl
theorem k_460 : ((.fieldLink "StartTimesModel" (61 : Nat) "StartTimesModel" "left" "[I") : Cond) ∈ GG := tm1 (List.mem_of_getElem? (i := 220) rfl) rfl
theorem k_461 : ((.fieldLink "StartTimesModel" (64 : Nat) "StartTimesModel" "starts" "[I") : Cond) ∈ GG := tm1 (List.mem_of_getElem? (i := 221) rfl) rfl
theorem k_462 : ((.fieldLink "StartTimesModel" (67 : Nat) "StartTimesModel" "lates" "[Z") : Cond) ∈ GG := tm1 (List.mem_of_getElem? (i := 222) rfl) rfl
theorem k_463 : ((.fieldLink "StartTimesModel" (71 : Nat) "StartTimesModel" "warmths" "[I") : Cond) ∈ GG := tm1 (List.mem_of_getElem? (i := 223) rfl) rfl
theorem k_464 : ((.fieldLink "StartTimesModel" (74 : Nat) "StartTimesModel" "done" "[Z") : Cond) ∈ GG := tm1 (List.mem_of_getElem? (i := 224) rfl) rfl
theorem k_516 : ((.arrayClass Jvm.ClassFile.FieldType.boolean) : Cond) ∈ GG := tm2 (List.mem_of_getElem? (i := 36) rfl) rfl
theorem k_517 : ((.methodLink "StartTimesLaw" (82 : Nat) ⟨"StartTimesModel", "thrown", "()I"⟩) : Cond) ∈ GG := tm2 (List.mem_of_getElem? (i := 37) rfl) rfl
theorem k_518 : ((.instanceMethod ⟨"StartTimesModel", "thrown", "()I"⟩) : Cond) ∈ GG := tm2 (List.mem_of_getElem? (i := 38) rfl) rfl
theorem k_519 : ((.selects "StartTimesModel" ⟨"StartTimesModel", "thrown", "()I"⟩ ⟨"StartTimesModel", "thrown", "()I"⟩) : Cond) ∈ GG := tm2 (List.mem_of_getElem? (i := 39) rfl) rfl
theorem k_520 : ((.code ⟨"StartTimesModel", "thrown", "()I"⟩ prog_5_method_2_code (1 : Nat) (Option.some Jvm.ClassFile.FieldType.int)) : Cond) ∈ GG := tm2 (List.mem_of_getElem? (i := 40) rfl) rfl
theorem k_521 : ((.methodLink "StartTimesLaw" (81 : Nat) ⟨"StartTimesModel", "zone", "(II)I"⟩) : Cond) ∈ GG := tm2 (List.mem_of_getElem? (i := 41) rfl) rfl
theorem k_522 : ((.instanceMethod ⟨"StartTimesModel", "zone", "(II)I"⟩) : Cond) ∈ GG := tm2 (List.mem_of_getElem? (i := 42) rfl) rfl
theorem k_523 : ((.selects "StartTimesModel" ⟨"StartTimesModel", "zone", "(II)I"⟩ ⟨"StartTimesModel", "zone", "(II)I"⟩) : Cond) ∈ GG := tm2 (List.mem_of_getElem? (i := 43) rfl) rfl
theorem k_524 : ((.code ⟨"StartTimesModel", "zone", "(II)I"⟩ prog_5_method_6_code (3 : Nat) (Option.some Jvm.ClassFile.FieldType.int)) : Cond) ∈ GG := tm2 (List.mem_of_getElem? (i := 44) rfl) rfl
theorem k_525 : ((.methodLink "StartTimesModel" (83 : Nat) ⟨"StartTimesModel", "within", "(III)Z"⟩) : Cond) ∈ GG := tm2 (List.mem_of_getElem? (i := 45) rfl) rfl
theorem k_526 : ((.static ⟨"StartTimesModel", "within", "(III)Z"⟩) : Cond) ∈ GG := tm2 (List.mem_of_getElem? (i := 46) rfl) rfl
theorem k_527 : ((.code ⟨"StartTimesModel", "within", "(III)Z"⟩ prog_5_method_4_code (3 : Nat) (Option.some Jvm.ClassFile.FieldType.boolean)) : Cond) ∈ GG := tm2 (List.mem_of_getElem? (i := 47) rfl) rfl
theorem k_528 : ((.methodLink "StartTimesModel" (87 : Nat) ⟨"StartTimesModel", "fails", "(ZI)Z"⟩) : Cond) ∈ GG := tm2 (List.mem_of_getElem? (i := 48) rfl) rfl
theorem k_530 : ((.instanceMethod ⟨"StartTimesModel", "fails", "(ZI)Z"⟩) : Cond) ∈ GG := tm2 (List.mem_of_getElem? (i := 50) rfl) rfl
theorem k_531 : ((.code ⟨"StartTimesModel", "fails", "(ZI)Z"⟩ prog_5_method_3_code (3 : Nat) (Option.some Jvm.ClassFile.FieldType.boolean)) : Cond) ∈ GG := tm2 (List.mem_of_getElem? (i := 51) rfl) rfl
theorem k_532 : ((.methodLink "StartTimesLaw" (89 : Nat) ⟨"StartTimesModel", "set", "(III)I"⟩) : Cond) ∈ GG := tm2 (List.mem_of_getElem? (i := 52) rfl) rfl
theorem k_533 : ((.instanceMethod ⟨"StartTimesModel", "set", "(III)I"⟩) : Cond) ∈ GG := tm2 (List.mem_of_getElem? (i := 53) rfl) rfl
theorem k_534 : ((.selects "StartTimesModel" ⟨"StartTimesModel", "set", "(III)I"⟩ ⟨"StartTimesModel", "set", "(III)I"⟩) : Cond) ∈ GG := tm2 (List.mem_of_getElem? (i := 54) rfl) rfl
theorem k_535 : ((.code ⟨"StartTimesModel", "set", "(III)I"⟩ prog_5_method_7_code (6 : Nat) (Option.some Jvm.ClassFile.FieldType.int)) : Cond) ∈ GG := tm2 (List.mem_of_getElem? (i := 55) rfl) rfl
theorem k_536 : ((.methodLink "StartTimesModel" (95 : Nat) ⟨"StartTimesModel", "isZone", "(I)Z"⟩) : Cond) ∈ GG := tm2 (List.mem_of_getElem? (i := 56) rfl) rfl
theorem k_538 : ((.instanceMethod ⟨"StartTimesModel", "isZone", "(I)Z"⟩) : Cond) ∈ GG := tm2 (List.mem_of_getElem? (i := 58) rfl) rfl
theorem k_539 : ((.code ⟨"StartTimesModel", "isZone", "(I)Z"⟩ prog_5_method_5_code (2 : Nat) (Option.some Jvm.ClassFile.FieldType.boolean)) : Cond) ∈ GG := tm2 (List.mem_of_getElem? (i := 59) rfl) rfl
theorem k_540 : ((.methodLink "StartTimesLaw" (93 : Nat) ⟨"StartTimesModel", "want", "(III)V"⟩) : Cond) ∈ GG := tm2 (List.mem_of_getElem? (i := 60) rfl) rfl
theorem k_541 : ((.instanceMethod ⟨"StartTimesModel", "want", "(III)V"⟩) : Cond) ∈ GG := tm2 (List.mem_of_getElem? (i := 61) rfl) rfl
theorem k_542 : ((.selects "StartTimesModel" ⟨"StartTimesModel", "want", "(III)V"⟩ ⟨"StartTimesModel", "want", "(III)V"⟩) : Cond) ∈ GG := tm2 (List.mem_of_getElem? (i := 62) rfl) rfl
theorem k_543 : ((.code ⟨"StartTimesModel", "want", "(III)V"⟩ prog_5_method_8_code (4 : Nat) (Option.none : Option Jvm.ClassFile.FieldType)) : Cond) ∈ GG := tm2 (List.mem_of_getElem? (i := 63) rfl) rfl
theorem k_544 : ((.methodLink "StartTimesLaw" (96 : Nat) ⟨"StartTimesModel", "outside", "(II)I"⟩) : Cond) ∈ GG := tm2 (List.mem_of_getElem? (i := 64) rfl) rfl
theorem k_545 : ((.instanceMethod ⟨"StartTimesModel", "outside", "(II)I"⟩) : Cond) ∈ GG := tm2 (List.mem_of_getElem? (i := 65) rfl) rfl
theorem k_546 : ((.selects "StartTimesModel" ⟨"StartTimesModel", "outside", "(II)I"⟩ ⟨"StartTimesModel", "outside", "(II)I"⟩) : Cond) ∈ GG := tm2 (List.mem_of_getElem? (i := 66) rfl) rfl
theorem k_547 : ((.code ⟨"StartTimesModel", "outside", "(II)I"⟩ prog_5_method_9_code (3 : Nat) (Option.some Jvm.ClassFile.FieldType.int)) : Cond) ∈ GG := tm2 (List.mem_of_getElem? (i := 67) rfl) rfl
theorem k_548 : ((.methodLink "StartTimesLaw" (100 : Nat) ⟨"StartTimesModel", "machine", "(I)I"⟩) : Cond) ∈ GG := tm2 (List.mem_of_getElem? (i := 68) rfl) rfl
theorem k_549 : ((.instanceMethod ⟨"StartTimesModel", "machine", "(I)I"⟩) : Cond) ∈ GG := tm2 (List.mem_of_getElem? (i := 69) rfl) rfl
theorem k_550 : ((.selects "StartTimesModel" ⟨"StartTimesModel", "machine", "(I)I"⟩ ⟨"StartTimesModel", "machine", "(I)I"⟩) : Cond) ∈ GG := tm2 (List.mem_of_getElem? (i := 70) rfl) rfl
theorem k_551 : ((.code ⟨"StartTimesModel", "machine", "(I)I"⟩ prog_5_method_10_code (3 : Nat) (Option.some Jvm.ClassFile.FieldType.int)) : Cond) ∈ GG := tm2 (List.mem_of_getElem? (i := 71) rfl) rfl
theorem k_552 : ((.constant "StartTimesModel" (102 : Nat) (1000000 : Int32)) : Cond) ∈ GG := tm2 (List.mem_of_getElem? (i := 72) rfl) rfl
theorem k_553 : ((.methodLink "StartTimesLaw" (103 : Nat) ⟨"StartTimesModel", "start", "(I)I"⟩) : Cond) ∈ GG := tm2 (List.mem_of_getElem? (i := 73) rfl) rfl
theorem k_554 : ((.instanceMethod ⟨"StartTimesModel", "start", "(I)I"⟩) : Cond) ∈ GG := tm2 (List.mem_of_getElem? (i := 74) rfl) rfl
theorem k_555 : ((.selects "StartTimesModel" ⟨"StartTimesModel", "start", "(I)I"⟩ ⟨"StartTimesModel", "start", "(I)I"⟩) : Cond) ∈ GG := tm2 (List.mem_of_getElem? (i := 75) rfl) rfl
theorem k_556 : ((.code ⟨"StartTimesModel", "start", "(I)I"⟩ prog_5_method_17_code (2 : Nat) (Option.some Jvm.ClassFile.FieldType.int)) : Cond) ∈ GG := tm2 (List.mem_of_getElem? (i := 76) rfl) rfl
theorem k_557 : ((.methodLink "StartTimesModel" (121 : Nat) ⟨"StartTimesModel", "plan", "()V"⟩) : Cond) ∈ GG := tm2 (List.mem_of_getElem? (i := 77) rfl) rfl
theorem k_559 : ((.instanceMethod ⟨"StartTimesModel", "plan", "()V"⟩) : Cond) ∈ GG := tm2 (List.mem_of_getElem? (i := 79) rfl) rfl
theorem k_560 : ((.code ⟨"StartTimesModel", "plan", "()V"⟩ prog_5_method_16_code (4 : Nat) (Option.none : Option Jvm.ClassFile.FieldType)) : Cond) ∈ GG := tm2 (List.mem_of_getElem? (i := 80) rfl) rfl
theorem k_561 : ((.methodLink "StartTimesModel" (114 : Nat) ⟨"StartTimesModel", "findOutsides", "()V"⟩) : Cond) ∈ GG := tm2 (List.mem_of_getElem? (i := 81) rfl) rfl
theorem k_563 : ((.instanceMethod ⟨"StartTimesModel", "findOutsides", "()V"⟩) : Cond) ∈ GG := tm2 (List.mem_of_getElem? (i := 83) rfl) rfl
theorem k_564 : ((.code ⟨"StartTimesModel", "findOutsides", "()V"⟩ prog_5_method_13_code (4 : Nat) (Option.none : Option Jvm.ClassFile.FieldType)) : Cond) ∈ GG := tm2 (List.mem_of_getElem? (i := 84) rfl) rfl
theorem k_565 : ((.methodLink "StartTimesModel" (117 : Nat) ⟨"StartTimesModel", "planZone", "(I)V"⟩) : Cond) ∈ GG := tm2 (List.mem_of_getElem? (i := 85) rfl) rfl
theorem k_567 : ((.instanceMethod ⟨"StartTimesModel", "planZone", "(I)V"⟩) : Cond) ∈ GG := tm2 (List.mem_of_getElem? (i := 87) rfl) rfl
theorem k_568 : ((.code ⟨"StartTimesModel", "planZone", "(I)V"⟩ prog_5_method_15_code (6 : Nat) (Option.none : Option Jvm.ClassFile.FieldType)) : Cond) ∈ GG := tm2 (List.mem_of_getElem? (i := 88) rfl) rfl
theorem k_569 : ((.methodLink "StartTimesModel" (107 : Nat) ⟨"StartTimesModel", "stepped", "(IIII)I"⟩) : Cond) ∈ GG := tm2 (List.mem_of_getElem? (i := 89) rfl) rfl
theorem k_571 : ((.instanceMethod ⟨"StartTimesModel", "stepped", "(IIII)I"⟩) : Cond) ∈ GG := tm2 (List.mem_of_getElem? (i := 91) rfl) rfl
theorem k_572 : ((.code ⟨"StartTimesModel", "stepped", "(IIII)I"⟩ prog_5_method_11_code (5 : Nat) (Option.some Jvm.ClassFile.FieldType.int)) : Cond) ∈ GG := tm2 (List.mem_of_getElem? (i := 92) rfl) rfl
theorem k_573 : ((.methodLink "StartTimesModel" (111 : Nat) ⟨"StartTimesModel", "isWarm", "(III)Z"⟩) : Cond) ∈ GG := tm2 (List.mem_of_getElem? (i := 93) rfl) rfl
theorem k_575 : ((.instanceMethod ⟨"StartTimesModel", "isWarm", "(III)Z"⟩) : Cond) ∈ GG := tm2 (List.mem_of_getElem? (i := 95) rfl) rfl
theorem k_576 : ((.code ⟨"StartTimesModel", "isWarm", "(III)Z"⟩ prog_5_method_14_code (6 : Nat) (Option.some Jvm.ClassFile.FieldType.boolean)) : Cond) ∈ GG := tm2 (List.mem_of_getElem? (i := 96) rfl) rfl
theorem k_577 : ((.methodLink "StartTimesModel" (103 : Nat) ⟨"StartTimesModel", "heatIn", "(II)I"⟩) : Cond) ∈ GG := tm2 (List.mem_of_getElem? (i := 97) rfl) rfl
theorem k_579 : ((.instanceMethod ⟨"StartTimesModel", "heatIn", "(II)I"⟩) : Cond) ∈ GG := tm2 (List.mem_of_getElem? (i := 99) rfl) rfl
theorem k_580 : ((.code ⟨"StartTimesModel", "heatIn", "(II)I"⟩ prog_5_method_12_code (3 : Nat) (Option.some Jvm.ClassFile.FieldType.int)) : Cond) ∈ GG := tm2 (List.mem_of_getElem? (i := 100) rfl) rfl
theorem k_581 : ((.methodLink "StartTimesLaw" (106 : Nat) ⟨"StartTimesModel", "late", "(I)Z"⟩) : Cond) ∈ GG := tm2 (List.mem_of_getElem? (i := 101) rfl) rfl
theorem k_582 : ((.instanceMethod ⟨"StartTimesModel", "late", "(I)Z"⟩) : Cond) ∈ GG := tm2 (List.mem_of_getElem? (i := 102) rfl) rfl
theorem k_583 : ((.selects "StartTimesModel" ⟨"StartTimesModel", "late", "(I)Z"⟩ ⟨"StartTimesModel", "late", "(I)Z"⟩) : Cond) ∈ GG := tm2 (List.mem_of_getElem? (i := 103) rfl) rfl
theorem k_584 : ((.code ⟨"StartTimesModel", "late", "(I)Z"⟩ prog_5_method_18_code (2 : Nat) (Option.some Jvm.ClassFile.FieldType.boolean)) : Cond) ∈ GG := tm2 (List.mem_of_getElem? (i := 104) rfl) rfl
theorem k_585 : ((.methodLink "StartTimesLaw" (109 : Nat) ⟨"StartTimesModel", "at", "(II)I"⟩) : Cond) ∈ GG := tm2 (List.mem_of_getElem? (i := 105) rfl) rfl
theorem k_586 : ((.instanceMethod ⟨"StartTimesModel", "at", "(II)I"⟩) : Cond) ∈ GG := tm2 (List.mem_of_getElem? (i := 106) rfl) rfl
theorem k_587 : ((.selects "StartTimesModel" ⟨"StartTimesModel", "at", "(II)I"⟩ ⟨"StartTimesModel", "at", "(II)I"⟩) : Cond) ∈ GG := tm2 (List.mem_of_getElem? (i := 107) rfl) rfl
theorem k_588 : ((.code ⟨"StartTimesModel", "at", "(II)I"⟩ prog_5_method_19_code (3 : Nat) (Option.some Jvm.ClassFile.FieldType.int)) : Cond) ∈ GG := tm2 (List.mem_of_getElem? (i := 108) rfl) rfl
theorem k_589 : ((.methodLink "StartTimesLaw" (112 : Nat) ⟨"StartTimesModel", "used", "(I)I"⟩) : Cond) ∈ GG := tm2 (List.mem_of_getElem? (i := 109) rfl) rfl
theorem k_590 : ((.instanceMethod ⟨"StartTimesModel", "used", "(I)I"⟩) : Cond) ∈ GG := tm2 (List.mem_of_getElem? (i := 110) rfl) rfl
theorem k_591 : ((.selects "StartTimesModel" ⟨"StartTimesModel", "used", "(I)I"⟩ ⟨"StartTimesModel", "used", "(I)I"⟩) : Cond) ∈ GG := tm2 (List.mem_of_getElem? (i := 111) rfl) rfl
theorem k_592 : ((.code ⟨"StartTimesModel", "used", "(I)I"⟩ prog_5_method_20_code (2 : Nat) (Option.some Jvm.ClassFile.FieldType.int)) : Cond) ∈ GG := tm2 (List.mem_of_getElem? (i := 112) rfl) rfl
theorem k_593 : ((.methodLink "StartTimesLaw" (115 : Nat) ⟨"StartTimesModel", "cold", "(I)I"⟩) : Cond) ∈ GG := tm2 (List.mem_of_getElem? (i := 113) rfl) rfl
theorem k_594 : ((.instanceMethod ⟨"StartTimesModel", "cold", "(I)I"⟩) : Cond) ∈ GG := tm2 (List.mem_of_getElem? (i := 114) rfl) rfl
theorem k_595 : ((.selects "StartTimesModel" ⟨"StartTimesModel", "cold", "(I)I"⟩ ⟨"StartTimesModel", "cold", "(I)I"⟩) : Cond) ∈ GG := tm2 (List.mem_of_getElem? (i := 115) rfl) rfl
theorem k_596 : ((.code ⟨"StartTimesModel", "cold", "(I)I"⟩ prog_5_method_21_code (4 : Nat) (Option.some Jvm.ClassFile.FieldType.int)) : Cond) ∈ GG := tm2 (List.mem_of_getElem? (i := 116) rfl) rfl
theorem k_597 : ((.methodLink "StartTimesLaw" (119 : Nat) ⟨"StartTimesModel", "fade", "(II)V"⟩) : Cond) ∈ GG := tm2 (List.mem_of_getElem? (i := 117) rfl) rfl
theorem k_598 : ((.instanceMethod ⟨"StartTimesModel", "fade", "(II)V"⟩) : Cond) ∈ GG := tm2 (List.mem_of_getElem? (i := 118) rfl) rfl
theorem k_599 : ((.selects "StartTimesModel" ⟨"StartTimesModel", "fade", "(II)V"⟩ ⟨"StartTimesModel", "fade", "(II)V"⟩) : Cond) ∈ GG := tm2 (List.mem_of_getElem? (i := 119) rfl) rfl
theorem k_600 : ((.code ⟨"StartTimesModel", "fade", "(II)V"⟩ prog_5_method_22_code (3 : Nat) (Option.none : Option Jvm.ClassFile.FieldType)) : Cond) ∈ GG := tm2 (List.mem_of_getElem? (i := 120) rfl) rfl
theorem k_601 : ((.methodLink "StartTimesLaw" (122 : Nat) ⟨"StartTimesModel", "day", "(II)V"⟩) : Cond) ∈ GG := tm2 (List.mem_of_getElem? (i := 121) rfl) rfl
theorem k_602 : ((.instanceMethod ⟨"StartTimesModel", "day", "(II)V"⟩) : Cond) ∈ GG := tm2 (List.mem_of_getElem? (i := 122) rfl) rfl
theorem k_603 : ((.selects "StartTimesModel" ⟨"StartTimesModel", "day", "(II)V"⟩ ⟨"StartTimesModel", "day", "(II)V"⟩) : Cond) ∈ GG := tm2 (List.mem_of_getElem? (i := 123) rfl) rfl
theorem k_604 : ((.code ⟨"StartTimesModel", "day", "(II)V"⟩ prog_5_method_24_code (9 : Nat) (Option.none : Option Jvm.ClassFile.FieldType)) : Cond) ∈ GG := tm2 (List.mem_of_getElem? (i := 124) rfl) rfl
theorem k_605 : ((.methodLink "StartTimesModel" (124 : Nat) ⟨"StartTimesModel", "divisor", "(JJ)J"⟩) : Cond) ∈ GG := tm2 (List.mem_of_getElem? (i := 125) rfl) rfl
theorem k_606 : ((.static ⟨"StartTimesModel", "divisor", "(JJ)J"⟩) : Cond) ∈ GG := tm2 (List.mem_of_getElem? (i := 126) rfl) rfl
theorem k_607 : ((.code ⟨"StartTimesModel", "divisor", "(JJ)J"⟩ prog_5_method_23_code (10 : Nat) (Option.some Jvm.ClassFile.FieldType.long)) : Cond) ∈ GG := tm2 (List.mem_of_getElem? (i := 127) rfl) rfl
theorem k_608 : ((.constantLong "StartTimesModel" (128 : Nat) (1000000000 : Int64)) : Cond) ∈ GG := tm2 (List.mem_of_getElem? (i := 128) rfl) rfl
theorem k_609 : ((.constantLong "StartTimesModel" (130 : Nat) (1000000 : Int64)) : Cond) ∈ GG := tm2 (List.mem_of_getElem? (i := 129) rfl) rfl
theorem k_610 : ((.methodLink "StartTimesLaw" (125 : Nat) ⟨"StartTimesModel", "lesson", "(II)J"⟩) : Cond) ∈ GG := tm2 (List.mem_of_getElem? (i := 130) rfl) rfl
theorem k_611 : ((.instanceMethod ⟨"StartTimesModel", "lesson", "(II)J"⟩) : Cond) ∈ GG := tm2 (List.mem_of_getElem? (i := 131) rfl) rfl
theorem k_612 : ((.selects "StartTimesModel" ⟨"StartTimesModel", "lesson", "(II)J"⟩ ⟨"StartTimesModel", "lesson", "(II)J"⟩) : Cond) ∈ GG := tm2 (List.mem_of_getElem? (i := 132) rfl) rfl
theorem k_613 : ((.code ⟨"StartTimesModel", "lesson", "(II)J"⟩ prog_5_method_25_code (3 : Nat) (Option.some Jvm.ClassFile.FieldType.long)) : Cond) ∈ GG := tm2 (List.mem_of_getElem? (i := 133) rfl) rfl
theorem k_614 : ((.methodLink "StartTimesLaw" (128 : Nat) ⟨"StartTimesModel", "taught", "(I)I"⟩) : Cond) ∈ GG := tm2 (List.mem_of_getElem? (i := 134) rfl) rfl
theorem k_615 : ((.instanceMethod ⟨"StartTimesModel", "taught", "(I)I"⟩) : Cond) ∈ GG := tm2 (List.mem_of_getElem? (i := 135) rfl) rfl
theorem k_616 : ((.selects "StartTimesModel" ⟨"StartTimesModel", "taught", "(I)I"⟩ ⟨"StartTimesModel", "taught", "(I)I"⟩) : Cond) ∈ GG := tm2 (List.mem_of_getElem? (i := 136) rfl) rfl
theorem k_617 : ((.code ⟨"StartTimesModel", "taught", "(I)I"⟩ prog_5_method_26_code (4 : Nat) (Option.some Jvm.ClassFile.FieldType.int)) : Cond) ∈ GG := tm2 (List.mem_of_getElem? (i := 137) rfl) rfl
theorem k_618 : ((.constantLong "StartTimesModel" (132 : Nat) (1439 : Int64)) : Cond) ∈ GG := tm2 (List.mem_of_getElem? (i := 138) rfl) rfl
theorem k_619 : ((.methodLink "StartTimesLaw" (131 : Nat) ⟨"StartTimesModel", "price", "(II)I"⟩) : Cond) ∈ GG := tm2 (List.mem_of_getElem? (i := 139) rfl) rfl
theorem k_620 : ((.instanceMethod ⟨"StartTimesModel", "price", "(II)I"⟩) : Cond) ∈ GG := tm2 (List.mem_of_getElem? (i := 140) rfl) rfl
theorem k_621 : ((.selects "StartTimesModel" ⟨"StartTimesModel", "price", "(II)I"⟩ ⟨"StartTimesModel", "price", "(II)I"⟩) : Cond) ∈ GG := tm2 (List.mem_of_getElem? (i := 141) rfl) rfl
theorem k_622 : ((.code ⟨"StartTimesModel", "price", "(II)I"⟩ prog_5_method_27_code (4 : Nat) (Option.some Jvm.ClassFile.FieldType.int)) : Cond) ∈ GG := tm2 (List.mem_of_getElem? (i := 142) rfl) rfl
theorem k_623 : ((.methodLink "StartTimesLaw" (134 : Nat) ⟨"StartTimesModel", "cheapest", "(III)I"⟩) : Cond) ∈ GG := tm2 (List.mem_of_getElem? (i := 143) rfl) rfl
theorem k_624 : ((.instanceMethod ⟨"StartTimesModel", "cheapest", "(III)I"⟩) : Cond) ∈ GG := tm2 (List.mem_of_getElem? (i := 144) rfl) rfl
theorem k_625 : ((.selects "StartTimesModel" ⟨"StartTimesModel", "cheapest", "(III)I"⟩ ⟨"StartTimesModel", "cheapest", "(III)I"⟩) : Cond) ∈ GG := tm2 (List.mem_of_getElem? (i := 145) rfl) rfl
theorem k_626 : ((.code ⟨"StartTimesModel", "cheapest", "(III)I"⟩ prog_5_method_30_code (10 : Nat) (Option.some Jvm.ClassFile.FieldType.int)) : Cond) ∈ GG := tm2 (List.mem_of_getElem? (i := 146) rfl) rfl
theorem k_627 : ((.methodLink "StartTimesModel" (136 : Nat) ⟨"StartTimesModel", "areQuarters", "(III)Z"⟩) : Cond) ∈ GG := tm2 (List.mem_of_getElem? (i := 147) rfl) rfl
theorem k_629 : ((.instanceMethod ⟨"StartTimesModel", "areQuarters", "(III)Z"⟩) : Cond) ∈ GG := tm2 (List.mem_of_getElem? (i := 149) rfl) rfl
theorem k_630 : ((.code ⟨"StartTimesModel", "areQuarters", "(III)Z"⟩ prog_5_method_28_code (4 : Nat) (Option.some Jvm.ClassFile.FieldType.boolean)) : Cond) ∈ GG := tm2 (List.mem_of_getElem? (i := 150) rfl) rfl
theorem k_631 : ((.methodLink "StartTimesModel" (139 : Nat) ⟨"StartTimesModel", "reckoned", "(IIII)J"⟩) : Cond) ∈ GG := tm2 (List.mem_of_getElem? (i := 151) rfl) rfl
theorem k_633 : ((.instanceMethod ⟨"StartTimesModel", "reckoned", "(IIII)J"⟩) : Cond) ∈ GG := tm2 (List.mem_of_getElem? (i := 153) rfl) rfl
theorem k_634 : ((.code ⟨"StartTimesModel", "reckoned", "(IIII)J"⟩ prog_5_method_29_code (11 : Nat) (Option.some Jvm.ClassFile.FieldType.long)) : Cond) ∈ GG := tm2 (List.mem_of_getElem? (i := 154) rfl) rfl
theorem k_635 : ((.constantLong "StartTimesModel" (134 : Nat) (-1 : Int64)) : Cond) ∈ GG := tm2 (List.mem_of_getElem? (i := 155) rfl) rfl
theorem k_636 : ((.methodLink "StartTimesLaw" (138 : Nat) ⟨"StartTimesModel", "costs", "(IIII)J"⟩) : Cond) ∈ GG := tm2 (List.mem_of_getElem? (i := 156) rfl) rfl
theorem k_637 : ((.instanceMethod ⟨"StartTimesModel", "costs", "(IIII)J"⟩) : Cond) ∈ GG := tm2 (List.mem_of_getElem? (i := 157) rfl) rfl
theorem k_638 : ((.selects "StartTimesModel" ⟨"StartTimesModel", "costs", "(IIII)J"⟩ ⟨"StartTimesModel", "costs", "(IIII)J"⟩) : Cond) ∈ GG := tm2 (List.mem_of_getElem? (i := 158) rfl) rfl
theorem k_639 : ((.code ⟨"StartTimesModel", "costs", "(IIII)J"⟩ prog_5_method_31_code (5 : Nat) (Option.some Jvm.ClassFile.FieldType.long)) : Cond) ∈ GG := tm2 (List.mem_of_getElem? (i := 159) rfl) rfl
theorem ks_0 : (.selects "java/lang/Throwable" ⟨"java/lang/Throwable", "fillInStackTrace", "(I)Ljava/lang/Throwable;"⟩ ⟨"java/lang/Throwable", "fillInStackTrace", "(I)Ljava/lang/Throwable;"⟩ : Cond) ∈ GG := tms (List.mem_of_getElem? (i := 0) rfl) rfl
theorem ks_1 : (.selects "StartTimes" ⟨"StartTimes", "knownZone", "(I)LStartTimes$Zone;"⟩ ⟨"StartTimes", "knownZone", "(I)LStartTimes$Zone;"⟩ : Cond) ∈ GG := tms (List.mem_of_getElem? (i := 1) rfl) rfl
theorem ks_2 : (.selects "StartTimes" ⟨"StartTimes", "plannedZone", "(I)LStartTimes$Zone;"⟩ ⟨"StartTimes", "plannedZone", "(I)LStartTimes$Zone;"⟩ : Cond) ∈ GG := tms (List.mem_of_getElem? (i := 2) rfl) rfl
theorem ks_3 : (.selects "StartTimes" ⟨"StartTimes", "makePlan", "()V"⟩ ⟨"StartTimes", "makePlan", "()V"⟩ : Cond) ∈ GG := tms (List.mem_of_getElem? (i := 3) rfl) rfl
theorem ks_4 : (.selects "StartTimes" ⟨"StartTimes", "planZone", "(LStartTimes$Zone;)V"⟩ ⟨"StartTimes", "planZone", "(LStartTimes$Zone;)V"⟩ : Cond) ∈ GG := tms (List.mem_of_getElem? (i := 4) rfl) rfl
theorem ks_5 : (.selects "StartTimes" ⟨"StartTimes", "leaveUnheated", "(LStartTimes$Zone;I)V"⟩ ⟨"StartTimes", "leaveUnheated", "(LStartTimes$Zone;I)V"⟩ : Cond) ∈ GG := tms (List.mem_of_getElem? (i := 5) rfl) rfl
theorem ks_6 : (.selects "StartTimes" ⟨"StartTimes", "warmthAfter", "(LStartTimes$Zone;III)I"⟩ ⟨"StartTimes", "warmthAfter", "(LStartTimes$Zone;III)I"⟩ : Cond) ∈ GG := tms (List.mem_of_getElem? (i := 6) rfl) rfl
theorem ks_7 : (.selects "StartTimes$Zone" ⟨"StartTimes$Zone", "wantsWarmth", "()Z"⟩ ⟨"StartTimes$Zone", "wantsWarmth", "()Z"⟩ : Cond) ∈ GG := tms (List.mem_of_getElem? (i := 7) rfl) rfl
theorem ks_8 : (.selects "StartTimes" ⟨"StartTimes", "latestStart", "(LStartTimes$Zone;)I"⟩ ⟨"StartTimes", "latestStart", "(LStartTimes$Zone;)I"⟩ : Cond) ∈ GG := tms (List.mem_of_getElem? (i := 8) rfl) rfl
theorem ks_9 : (.selects "StartTimes" ⟨"StartTimes", "warmthIfStarted", "(LStartTimes$Zone;I)I"⟩ ⟨"StartTimes", "warmthIfStarted", "(LStartTimes$Zone;I)I"⟩ : Cond) ∈ GG := tms (List.mem_of_getElem? (i := 9) rfl) rfl
theorem ks_10 : (.selects "StartTimes" ⟨"StartTimes", "shareOf", "(LStartTimes$Zone;I)I"⟩ ⟨"StartTimes", "shareOf", "(LStartTimes$Zone;I)I"⟩ : Cond) ∈ GG := tms (List.mem_of_getElem? (i := 10) rfl) rfl
theorem ks_11 : (.selects "StartTimes" ⟨"StartTimes", "heatFromStart", "(LStartTimes$Zone;)V"⟩ ⟨"StartTimes", "heatFromStart", "(LStartTimes$Zone;)V"⟩ : Cond) ∈ GG := tms (List.mem_of_getElem? (i := 11) rfl) rfl
theorem ks_12 : (.selects "StartTimes$Lesson" ⟨"StartTimes$Lesson", "learn", "(III)V"⟩ ⟨"StartTimes$Lesson", "learn", "(III)V"⟩ : Cond) ∈ GG := tms (List.mem_of_getElem? (i := 12) rfl) rfl
theorem ks_13 : (.selects "StartTimes$Lesson" ⟨"StartTimes$Lesson", "keepInLowestTerms", "(JJ)V"⟩ ⟨"StartTimes$Lesson", "keepInLowestTerms", "(JJ)V"⟩ : Cond) ∈ GG := tms (List.mem_of_getElem? (i := 13) rfl) rfl
theorem ks_14 : (.selects "StartTimes$Lesson" ⟨"StartTimes$Lesson", "millionths", "()J"⟩ ⟨"StartTimes$Lesson", "millionths", "()J"⟩ : Cond) ∈ GG := tms (List.mem_of_getElem? (i := 14) rfl) rfl
theorem ks_15 : (.selects "StartTimes$Lesson" ⟨"StartTimes$Lesson", "wholeMinutes", "()I"⟩ ⟨"StartTimes$Lesson", "wholeMinutes", "()I"⟩ : Cond) ∈ GG := tms (List.mem_of_getElem? (i := 15) rfl) rfl
theorem ks_16 : (.selects "StartTimes" ⟨"StartTimes", "weighSets", "(LStartTimes$Zone;II)V"⟩ ⟨"StartTimes", "weighSets", "(LStartTimes$Zone;II)V"⟩ : Cond) ∈ GG := tms (List.mem_of_getElem? (i := 16) rfl) rfl
theorem ks_17 : (.selects "StartTimes" ⟨"StartTimes", "warmthThrough", "(LStartTimes$Zone;IIII)I"⟩ ⟨"StartTimes", "warmthThrough", "(LStartTimes$Zone;IIII)I"⟩ : Cond) ∈ GG := tms (List.mem_of_getElem? (i := 17) rfl) rfl
theorem ks_18 : (.selects "StartTimes" ⟨"StartTimes", "costOfMinutes", "(LStartTimes$Zone;II)J"⟩ ⟨"StartTimes", "costOfMinutes", "(LStartTimes$Zone;II)J"⟩ : Cond) ∈ GG := tms (List.mem_of_getElem? (i := 18) rfl) rfl
theorem ks_19 : (.selects "StartTimesModel" ⟨"StartTimesModel", "fails", "(ZI)Z"⟩ ⟨"StartTimesModel", "fails", "(ZI)Z"⟩ : Cond) ∈ GG := tms (List.mem_of_getElem? (i := 19) rfl) rfl
theorem ks_20 : (.selects "StartTimesModel" ⟨"StartTimesModel", "isZone", "(I)Z"⟩ ⟨"StartTimesModel", "isZone", "(I)Z"⟩ : Cond) ∈ GG := tms (List.mem_of_getElem? (i := 20) rfl) rfl
theorem ks_21 : (.selects "StartTimesModel" ⟨"StartTimesModel", "plan", "()V"⟩ ⟨"StartTimesModel", "plan", "()V"⟩ : Cond) ∈ GG := tms (List.mem_of_getElem? (i := 21) rfl) rfl
theorem ks_22 : (.selects "StartTimesModel" ⟨"StartTimesModel", "findOutsides", "()V"⟩ ⟨"StartTimesModel", "findOutsides", "()V"⟩ : Cond) ∈ GG := tms (List.mem_of_getElem? (i := 22) rfl) rfl
theorem ks_23 : (.selects "StartTimesModel" ⟨"StartTimesModel", "planZone", "(I)V"⟩ ⟨"StartTimesModel", "planZone", "(I)V"⟩ : Cond) ∈ GG := tms (List.mem_of_getElem? (i := 23) rfl) rfl
theorem ks_24 : (.selects "StartTimesModel" ⟨"StartTimesModel", "stepped", "(IIII)I"⟩ ⟨"StartTimesModel", "stepped", "(IIII)I"⟩ : Cond) ∈ GG := tms (List.mem_of_getElem? (i := 24) rfl) rfl
theorem ks_25 : (.selects "StartTimesModel" ⟨"StartTimesModel", "isWarm", "(III)Z"⟩ ⟨"StartTimesModel", "isWarm", "(III)Z"⟩ : Cond) ∈ GG := tms (List.mem_of_getElem? (i := 25) rfl) rfl
theorem ks_26 : (.selects "StartTimesModel" ⟨"StartTimesModel", "heatIn", "(II)I"⟩ ⟨"StartTimesModel", "heatIn", "(II)I"⟩ : Cond) ∈ GG := tms (List.mem_of_getElem? (i := 26) rfl) rfl
theorem ks_27 : (.selects "StartTimesModel" ⟨"StartTimesModel", "areQuarters", "(III)Z"⟩ ⟨"StartTimesModel", "areQuarters", "(III)Z"⟩ : Cond) ∈ GG := tms (List.mem_of_getElem? (i := 27) rfl) rfl
theorem ks_28 : (.selects "StartTimesModel" ⟨"StartTimesModel", "reckoned", "(IIII)J"⟩ ⟨"StartTimesModel", "reckoned", "(IIII)J"⟩ : Cond) ∈ GG := tms (List.mem_of_getElem? (i := 28) rfl) rfl
end
section
theorem d_C_init_0 : decode b_C_init 0 = .ok (.aload_n 0, 1) := by decide +kernel
theorem d_C_init_1 : decode b_C_init 1 = .ok (.invokespecial 3, 3) := by decide +kernel
theorem d_C_init_4 : decode b_C_init 4 = .ok (.aload_n 0, 1) := by decide +kernel
theorem d_C_init_5 : decode b_C_init 5 = .ok (.bipush 6, 2) := by decide +kernel
theorem d_C_init_7 : decode b_C_init 7 = .ok (.anewarray 9, 3) := by decide +kernel
theorem d_C_init_10 : decode b_C_init 10 = .ok (.putfield 11, 3) := by decide +kernel
theorem d_C_init_13 : decode b_C_init 13 = .ok (.aload_n 0, 1) := by decide +kernel
theorem d_C_init_14 : decode b_C_init 14 = .ok (.iconst 0, 1) := by decide +kernel
theorem d_C_init_15 : decode b_C_init 15 = .ok (.putfield 15, 3) := by decide +kernel
theorem d_C_init_18 : decode b_C_init 18 = .ok (.aload_n 0, 1) := by decide +kernel
theorem d_C_init_19 : decode b_C_init 19 = .ok (.sipush 1440, 3) := by decide +kernel
theorem d_C_init_22 : decode b_C_init 22 = .ok (.newarray .int, 2) := by decide +kernel
theorem d_C_init_24 : decode b_C_init 24 = .ok (.putfield 19, 3) := by decide +kernel
theorem d_C_init_27 : decode b_C_init 27 = .ok (.aload_n 0, 1) := by decide +kernel
theorem d_C_init_28 : decode b_C_init 28 = .ok (.iconst 0, 1) := by decide +kernel
theorem d_C_init_29 : decode b_C_init 29 = .ok (.putfield 23, 3) := by decide +kernel
theorem d_C_init_32 : decode b_C_init 32 = .ok (.aload_n 0, 1) := by decide +kernel
theorem d_C_init_33 : decode b_C_init 33 = .ok (.iconst (-1), 1) := by decide +kernel
theorem d_C_init_34 : decode b_C_init 34 = .ok (.putfield 26, 3) := by decide +kernel
theorem d_C_init_37 : decode b_C_init 37 = .ok (.aload_n 0, 1) := by decide +kernel
theorem d_C_init_38 : decode b_C_init 38 = .ok (.ldc 29, 2) := by decide +kernel
theorem d_C_init_40 : decode b_C_init 40 = .ok (.putfield 30, 3) := by decide +kernel
theorem d_C_init_43 : decode b_C_init 43 = .ok (.aload_n 0, 1) := by decide +kernel
theorem d_C_init_44 : decode b_C_init 44 = .ok (.sipush 1440, 3) := by decide +kernel
theorem d_C_init_47 : decode b_C_init 47 = .ok (.newarray .int, 2) := by decide +kernel
theorem d_C_init_49 : decode b_C_init 49 = .ok (.putfield 33, 3) := by decide +kernel
theorem d_C_init_52 : decode b_C_init 52 = .ok (.aload_n 0, 1) := by decide +kernel
theorem d_C_init_53 : decode b_C_init 53 = .ok (.iconst 0, 1) := by decide +kernel
theorem d_C_init_54 : decode b_C_init 54 = .ok (.putfield 36, 3) := by decide +kernel
theorem d_C_init_57 : decode b_C_init 57 = .ok (.aload_n 0, 1) := by decide +kernel
theorem d_C_init_58 : decode b_C_init 58 = .ok (.iconst 1, 1) := by decide +kernel
theorem d_C_init_59 : decode b_C_init 59 = .ok (.putfield 40, 3) := by decide +kernel
theorem d_C_init_62 : decode b_C_init 62 = .ok (.aload_n 0, 1) := by decide +kernel
theorem d_C_init_63 : decode b_C_init 63 = .ok (.iconst 2, 1) := by decide +kernel
theorem d_C_init_64 : decode b_C_init 64 = .ok (.putfield 43, 3) := by decide +kernel
theorem d_C_init_67 : decode b_C_init 67 = .ok (.aload_n 0, 1) := by decide +kernel
theorem d_C_init_68 : decode b_C_init 68 = .ok (.bipush 24, 2) := by decide +kernel
theorem d_C_init_70 : decode b_C_init 70 = .ok (.newarray .int, 2) := by decide +kernel
theorem d_C_init_72 : decode b_C_init 72 = .ok (.putfield 46, 3) := by decide +kernel
theorem d_C_init_75 : decode b_C_init 75 = .ok (.aload_n 0, 1) := by decide +kernel
theorem d_C_init_76 : decode b_C_init 76 = .ok (.sipush 1024, 3) := by decide +kernel
theorem d_C_init_79 : decode b_C_init 79 = .ok (.newarray .int, 2) := by decide +kernel
theorem d_C_init_81 : decode b_C_init 81 = .ok (.putfield 49, 3) := by decide +kernel
theorem d_C_init_84 : decode b_C_init 84 = .ok (.aload_n 0, 1) := by decide +kernel
theorem d_C_init_85 : decode b_C_init 85 = .ok (.sipush 1024, 3) := by decide +kernel
theorem d_C_init_88 : decode b_C_init 88 = .ok (.newarray .long, 2) := by decide +kernel
theorem d_C_init_90 : decode b_C_init 90 = .ok (.putfield 52, 3) := by decide +kernel
theorem d_C_init_93 : decode b_C_init 93 = .ok (.return_, 1) := by decide +kernel
theorem d_C_zone_0 : decode b_C_zone 0 = .ok (.iload_n 1, 1) := by decide +kernel
theorem d_C_zone_1 : decode b_C_zone 1 = .ok (.iconst 1, 1) := by decide +kernel
theorem d_C_zone_2 : decode b_C_zone 2 = .ok (.sipush 1000, 3) := by decide +kernel
theorem d_C_zone_5 : decode b_C_zone 5 = .ok (.invokestatic 56, 3) := by decide +kernel
theorem d_C_zone_8 : decode b_C_zone 8 = .ok (.iload_n 2, 1) := by decide +kernel
theorem d_C_zone_9 : decode b_C_zone 9 = .ok (.iconst 1, 1) := by decide +kernel
theorem d_C_zone_10 : decode b_C_zone 10 = .ok (.sipush 1000, 3) := by decide +kernel
theorem d_C_zone_13 : decode b_C_zone 13 = .ok (.invokestatic 56, 3) := by decide +kernel
theorem d_C_zone_16 : decode b_C_zone 16 = .ok (.aload_n 0, 1) := by decide +kernel
theorem d_C_zone_17 : decode b_C_zone 17 = .ok (.getfield 15, 3) := by decide +kernel
theorem d_C_zone_20 : decode b_C_zone 20 = .ok (.bipush 6, 2) := by decide +kernel
theorem d_C_zone_22 : decode b_C_zone 22 = .ok (.if_icmp .lt 13, 3) := by decide +kernel
theorem d_C_zone_25 : decode b_C_zone 25 = .ok (.new 60, 3) := by decide +kernel
theorem d_C_zone_28 : decode b_C_zone 28 = .ok (.dup, 1) := by decide +kernel
theorem d_C_zone_29 : decode b_C_zone 29 = .ok (.ldc 62, 2) := by decide +kernel
theorem d_C_zone_31 : decode b_C_zone 31 = .ok (.invokespecial 64, 3) := by decide +kernel
theorem d_C_zone_34 : decode b_C_zone 34 = .ok (.athrow, 1) := by decide +kernel
theorem d_C_zone_35 : decode b_C_zone 35 = .ok (.aload_n 0, 1) := by decide +kernel
theorem d_C_zone_36 : decode b_C_zone 36 = .ok (.getfield 15, 3) := by decide +kernel
theorem d_C_zone_39 : decode b_C_zone 39 = .ok (.istore_n 3, 1) := by decide +kernel
theorem d_C_zone_40 : decode b_C_zone 40 = .ok (.aload_n 0, 1) := by decide +kernel
theorem d_C_zone_41 : decode b_C_zone 41 = .ok (.getfield 11, 3) := by decide +kernel
theorem d_C_zone_44 : decode b_C_zone 44 = .ok (.iload_n 3, 1) := by decide +kernel
theorem d_C_zone_45 : decode b_C_zone 45 = .ok (.new 9, 3) := by decide +kernel
theorem d_C_zone_48 : decode b_C_zone 48 = .ok (.dup, 1) := by decide +kernel
theorem d_C_zone_49 : decode b_C_zone 49 = .ok (.iload_n 1, 1) := by decide +kernel
theorem d_C_zone_50 : decode b_C_zone 50 = .ok (.iload_n 2, 1) := by decide +kernel
theorem d_C_zone_51 : decode b_C_zone 51 = .ok (.invokespecial 67, 3) := by decide +kernel
theorem d_C_zone_54 : decode b_C_zone 54 = .ok (.aastore, 1) := by decide +kernel
theorem d_C_zone_55 : decode b_C_zone 55 = .ok (.aload_n 0, 1) := by decide +kernel
theorem d_C_zone_56 : decode b_C_zone 56 = .ok (.dup, 1) := by decide +kernel
theorem d_C_zone_57 : decode b_C_zone 57 = .ok (.getfield 15, 3) := by decide +kernel
theorem d_C_zone_60 : decode b_C_zone 60 = .ok (.iconst 1, 1) := by decide +kernel
theorem d_C_zone_61 : decode b_C_zone 61 = .ok (.iadd, 1) := by decide +kernel
theorem d_C_zone_62 : decode b_C_zone 62 = .ok (.putfield 15, 3) := by decide +kernel
theorem d_C_zone_65 : decode b_C_zone 65 = .ok (.aload_n 0, 1) := by decide +kernel
theorem d_C_zone_66 : decode b_C_zone 66 = .ok (.iconst 0, 1) := by decide +kernel
theorem d_C_zone_67 : decode b_C_zone 67 = .ok (.putfield 36, 3) := by decide +kernel
theorem d_C_zone_70 : decode b_C_zone 70 = .ok (.iload_n 3, 1) := by decide +kernel
theorem d_C_zone_71 : decode b_C_zone 71 = .ok (.ireturn, 1) := by decide +kernel
theorem d_C_set_0 : decode b_C_set 0 = .ok (.aload_n 0, 1) := by decide +kernel
theorem d_C_set_1 : decode b_C_set 1 = .ok (.iload_n 1, 1) := by decide +kernel
theorem d_C_set_2 : decode b_C_set 2 = .ok (.invokevirtual 70, 3) := by decide +kernel
theorem d_C_set_5 : decode b_C_set 5 = .ok (.astore 4, 2) := by decide +kernel
theorem d_C_set_7 : decode b_C_set 7 = .ok (.iload_n 2, 1) := by decide +kernel
theorem d_C_set_8 : decode b_C_set 8 = .ok (.iconst 0, 1) := by decide +kernel
theorem d_C_set_9 : decode b_C_set 9 = .ok (.iconst 2, 1) := by decide +kernel
theorem d_C_set_10 : decode b_C_set 10 = .ok (.invokestatic 56, 3) := by decide +kernel
theorem d_C_set_13 : decode b_C_set 13 = .ok (.iload_n 2, 1) := by decide +kernel
theorem d_C_set_14 : decode b_C_set 14 = .ok (.ifCond .ne 29, 3) := by decide +kernel
theorem d_C_set_17 : decode b_C_set 17 = .ok (.iload_n 3, 1) := by decide +kernel
theorem d_C_set_18 : decode b_C_set 18 = .ok (.sipush (-10000), 3) := by decide +kernel
theorem d_C_set_21 : decode b_C_set 21 = .ok (.sipush 10000, 3) := by decide +kernel
theorem d_C_set_24 : decode b_C_set 24 = .ok (.invokestatic 56, 3) := by decide +kernel
theorem d_C_set_27 : decode b_C_set 27 = .ok (.aload 4, 2) := by decide +kernel
theorem d_C_set_29 : decode b_C_set 29 = .ok (.getfield 74, 3) := by decide +kernel
theorem d_C_set_32 : decode b_C_set 32 = .ok (.istore 5, 2) := by decide +kernel
theorem d_C_set_34 : decode b_C_set 34 = .ok (.aload 4, 2) := by decide +kernel
theorem d_C_set_36 : decode b_C_set 36 = .ok (.iload_n 3, 1) := by decide +kernel
theorem d_C_set_37 : decode b_C_set 37 = .ok (.putfield 74, 3) := by decide +kernel
theorem d_C_set_40 : decode b_C_set 40 = .ok (.goto 51, 3) := by decide +kernel
theorem d_C_set_43 : decode b_C_set 43 = .ok (.iload_n 2, 1) := by decide +kernel
theorem d_C_set_44 : decode b_C_set 44 = .ok (.iconst 1, 1) := by decide +kernel
theorem d_C_set_45 : decode b_C_set 45 = .ok (.if_icmp .ne 26, 3) := by decide +kernel
theorem d_C_set_48 : decode b_C_set 48 = .ok (.iload_n 3, 1) := by decide +kernel
theorem d_C_set_49 : decode b_C_set 49 = .ok (.iconst 0, 1) := by decide +kernel
theorem d_C_set_50 : decode b_C_set 50 = .ok (.ldc 29, 2) := by decide +kernel
theorem d_C_set_52 : decode b_C_set 52 = .ok (.invokestatic 56, 3) := by decide +kernel
theorem d_C_set_55 : decode b_C_set 55 = .ok (.aload 4, 2) := by decide +kernel
theorem d_C_set_57 : decode b_C_set 57 = .ok (.getfield 77, 3) := by decide +kernel
theorem d_C_set_60 : decode b_C_set 60 = .ok (.istore 5, 2) := by decide +kernel
theorem d_C_set_62 : decode b_C_set 62 = .ok (.aload 4, 2) := by decide +kernel
theorem d_C_set_64 : decode b_C_set 64 = .ok (.iload_n 3, 1) := by decide +kernel
theorem d_C_set_65 : decode b_C_set 65 = .ok (.putfield 77, 3) := by decide +kernel
theorem d_C_set_68 : decode b_C_set 68 = .ok (.goto 23, 3) := by decide +kernel
theorem d_C_set_71 : decode b_C_set 71 = .ok (.iload_n 3, 1) := by decide +kernel
theorem d_C_set_72 : decode b_C_set 72 = .ok (.iconst 0, 1) := by decide +kernel
theorem d_C_set_73 : decode b_C_set 73 = .ok (.bipush 9, 2) := by decide +kernel
theorem d_C_set_75 : decode b_C_set 75 = .ok (.invokestatic 56, 3) := by decide +kernel
theorem d_C_set_78 : decode b_C_set 78 = .ok (.aload 4, 2) := by decide +kernel
theorem d_C_set_80 : decode b_C_set 80 = .ok (.getfield 80, 3) := by decide +kernel
theorem d_C_set_83 : decode b_C_set 83 = .ok (.istore 5, 2) := by decide +kernel
theorem d_C_set_85 : decode b_C_set 85 = .ok (.aload 4, 2) := by decide +kernel
theorem d_C_set_87 : decode b_C_set 87 = .ok (.iload_n 3, 1) := by decide +kernel
theorem d_C_set_88 : decode b_C_set 88 = .ok (.putfield 80, 3) := by decide +kernel
theorem d_C_set_91 : decode b_C_set 91 = .ok (.aload_n 0, 1) := by decide +kernel
theorem d_C_set_92 : decode b_C_set 92 = .ok (.iconst 0, 1) := by decide +kernel
theorem d_C_set_93 : decode b_C_set 93 = .ok (.putfield 36, 3) := by decide +kernel
theorem d_C_set_96 : decode b_C_set 96 = .ok (.iload 5, 2) := by decide +kernel
theorem d_C_set_98 : decode b_C_set 98 = .ok (.ireturn, 1) := by decide +kernel
theorem d_C_want_0 : decode b_C_want 0 = .ok (.aload_n 0, 1) := by decide +kernel
theorem d_C_want_1 : decode b_C_want 1 = .ok (.iload_n 1, 1) := by decide +kernel
theorem d_C_want_2 : decode b_C_want 2 = .ok (.invokevirtual 70, 3) := by decide +kernel
theorem d_C_want_5 : decode b_C_want 5 = .ok (.astore 4, 2) := by decide +kernel
theorem d_C_want_7 : decode b_C_want 7 = .ok (.iload_n 2, 1) := by decide +kernel
theorem d_C_want_8 : decode b_C_want 8 = .ok (.iconst (-1), 1) := by decide +kernel
theorem d_C_want_9 : decode b_C_want 9 = .ok (.sipush 1439, 3) := by decide +kernel
theorem d_C_want_12 : decode b_C_want 12 = .ok (.invokestatic 56, 3) := by decide +kernel
theorem d_C_want_15 : decode b_C_want 15 = .ok (.iload_n 3, 1) := by decide +kernel
theorem d_C_want_16 : decode b_C_want 16 = .ok (.sipush (-10000), 3) := by decide +kernel
theorem d_C_want_19 : decode b_C_want 19 = .ok (.sipush 10000, 3) := by decide +kernel
theorem d_C_want_22 : decode b_C_want 22 = .ok (.invokestatic 56, 3) := by decide +kernel
theorem d_C_want_25 : decode b_C_want 25 = .ok (.aload 4, 2) := by decide +kernel
theorem d_C_want_27 : decode b_C_want 27 = .ok (.iload_n 2, 1) := by decide +kernel
theorem d_C_want_28 : decode b_C_want 28 = .ok (.putfield 83, 3) := by decide +kernel
theorem d_C_want_31 : decode b_C_want 31 = .ok (.aload 4, 2) := by decide +kernel
theorem d_C_want_33 : decode b_C_want 33 = .ok (.iload_n 3, 1) := by decide +kernel
theorem d_C_want_34 : decode b_C_want 34 = .ok (.putfield 86, 3) := by decide +kernel
theorem d_C_want_37 : decode b_C_want 37 = .ok (.aload_n 0, 1) := by decide +kernel
theorem d_C_want_38 : decode b_C_want 38 = .ok (.iconst 0, 1) := by decide +kernel
theorem d_C_want_39 : decode b_C_want 39 = .ok (.putfield 36, 3) := by decide +kernel
theorem d_C_want_42 : decode b_C_want 42 = .ok (.return_, 1) := by decide +kernel
theorem d_C_outside_0 : decode b_C_outside 0 = .ok (.iload_n 1, 1) := by decide +kernel
theorem d_C_outside_1 : decode b_C_outside 1 = .ok (.iconst 0, 1) := by decide +kernel
theorem d_C_outside_2 : decode b_C_outside 2 = .ok (.sipush 1439, 3) := by decide +kernel
theorem d_C_outside_5 : decode b_C_outside 5 = .ok (.invokestatic 56, 3) := by decide +kernel
theorem d_C_outside_8 : decode b_C_outside 8 = .ok (.iload_n 2, 1) := by decide +kernel
theorem d_C_outside_9 : decode b_C_outside 9 = .ok (.sipush (-10000), 3) := by decide +kernel
theorem d_C_outside_12 : decode b_C_outside 12 = .ok (.sipush 10000, 3) := by decide +kernel
theorem d_C_outside_15 : decode b_C_outside 15 = .ok (.invokestatic 56, 3) := by decide +kernel
theorem d_C_outside_18 : decode b_C_outside 18 = .ok (.aload_n 0, 1) := by decide +kernel
theorem d_C_outside_19 : decode b_C_outside 19 = .ok (.getfield 23, 3) := by decide +kernel
theorem d_C_outside_22 : decode b_C_outside 22 = .ok (.bipush 24, 2) := by decide +kernel
theorem d_C_outside_24 : decode b_C_outside 24 = .ok (.if_icmp .lt 13, 3) := by decide +kernel
theorem d_C_outside_27 : decode b_C_outside 27 = .ok (.new 60, 3) := by decide +kernel
theorem d_C_outside_30 : decode b_C_outside 30 = .ok (.dup, 1) := by decide +kernel
theorem d_C_outside_31 : decode b_C_outside 31 = .ok (.ldc 89, 2) := by decide +kernel
theorem d_C_outside_33 : decode b_C_outside 33 = .ok (.invokespecial 64, 3) := by decide +kernel
theorem d_C_outside_36 : decode b_C_outside 36 = .ok (.athrow, 1) := by decide +kernel
theorem d_C_outside_37 : decode b_C_outside 37 = .ok (.iload_n 1, 1) := by decide +kernel
theorem d_C_outside_38 : decode b_C_outside 38 = .ok (.aload_n 0, 1) := by decide +kernel
theorem d_C_outside_39 : decode b_C_outside 39 = .ok (.getfield 26, 3) := by decide +kernel
theorem d_C_outside_42 : decode b_C_outside 42 = .ok (.if_icmp .gt 13, 3) := by decide +kernel
theorem d_C_outside_45 : decode b_C_outside 45 = .ok (.new 60, 3) := by decide +kernel
theorem d_C_outside_48 : decode b_C_outside 48 = .ok (.dup, 1) := by decide +kernel
theorem d_C_outside_49 : decode b_C_outside 49 = .ok (.ldc 91, 2) := by decide +kernel
theorem d_C_outside_51 : decode b_C_outside 51 = .ok (.invokespecial 64, 3) := by decide +kernel
theorem d_C_outside_54 : decode b_C_outside 54 = .ok (.athrow, 1) := by decide +kernel
theorem d_C_outside_55 : decode b_C_outside 55 = .ok (.iload_n 1, 1) := by decide +kernel
theorem d_C_outside_56 : decode b_C_outside 56 = .ok (.istore_n 3, 1) := by decide +kernel
theorem d_C_outside_57 : decode b_C_outside 57 = .ok (.iload_n 3, 1) := by decide +kernel
theorem d_C_outside_58 : decode b_C_outside 58 = .ok (.sipush 1440, 3) := by decide +kernel
theorem d_C_outside_61 : decode b_C_outside 61 = .ok (.if_icmp .ge 16, 3) := by decide +kernel
theorem d_C_outside_64 : decode b_C_outside 64 = .ok (.aload_n 0, 1) := by decide +kernel
theorem d_C_outside_65 : decode b_C_outside 65 = .ok (.getfield 19, 3) := by decide +kernel
theorem d_C_outside_68 : decode b_C_outside 68 = .ok (.iload_n 3, 1) := by decide +kernel
theorem d_C_outside_69 : decode b_C_outside 69 = .ok (.iload_n 2, 1) := by decide +kernel
theorem d_C_outside_70 : decode b_C_outside 70 = .ok (.iastore, 1) := by decide +kernel
theorem d_C_outside_71 : decode b_C_outside 71 = .ok (.iinc 3 1, 3) := by decide +kernel
theorem d_C_outside_74 : decode b_C_outside 74 = .ok (.goto (-17), 3) := by decide +kernel
theorem d_C_outside_77 : decode b_C_outside 77 = .ok (.aload_n 0, 1) := by decide +kernel
theorem d_C_outside_78 : decode b_C_outside 78 = .ok (.iload_n 1, 1) := by decide +kernel
theorem d_C_outside_79 : decode b_C_outside 79 = .ok (.putfield 26, 3) := by decide +kernel
theorem d_C_outside_82 : decode b_C_outside 82 = .ok (.aload_n 0, 1) := by decide +kernel
theorem d_C_outside_83 : decode b_C_outside 83 = .ok (.dup, 1) := by decide +kernel
theorem d_C_outside_84 : decode b_C_outside 84 = .ok (.getfield 23, 3) := by decide +kernel
theorem d_C_outside_87 : decode b_C_outside 87 = .ok (.iconst 1, 1) := by decide +kernel
theorem d_C_outside_88 : decode b_C_outside 88 = .ok (.iadd, 1) := by decide +kernel
theorem d_C_outside_89 : decode b_C_outside 89 = .ok (.putfield 23, 3) := by decide +kernel
theorem d_C_outside_92 : decode b_C_outside 92 = .ok (.aload_n 0, 1) := by decide +kernel
theorem d_C_outside_93 : decode b_C_outside 93 = .ok (.iconst 0, 1) := by decide +kernel
theorem d_C_outside_94 : decode b_C_outside 94 = .ok (.putfield 36, 3) := by decide +kernel
theorem d_C_outside_97 : decode b_C_outside 97 = .ok (.aload_n 0, 1) := by decide +kernel
theorem d_C_outside_98 : decode b_C_outside 98 = .ok (.getfield 23, 3) := by decide +kernel
theorem d_C_outside_101 : decode b_C_outside 101 = .ok (.ireturn, 1) := by decide +kernel
theorem d_C_machine_0 : decode b_C_machine 0 = .ok (.iload_n 1, 1) := by decide +kernel
theorem d_C_machine_1 : decode b_C_machine 1 = .ok (.iconst 0, 1) := by decide +kernel
theorem d_C_machine_2 : decode b_C_machine 2 = .ok (.ldc 93, 2) := by decide +kernel
theorem d_C_machine_4 : decode b_C_machine 4 = .ok (.invokestatic 56, 3) := by decide +kernel
theorem d_C_machine_7 : decode b_C_machine 7 = .ok (.aload_n 0, 1) := by decide +kernel
theorem d_C_machine_8 : decode b_C_machine 8 = .ok (.getfield 30, 3) := by decide +kernel
theorem d_C_machine_11 : decode b_C_machine 11 = .ok (.istore_n 2, 1) := by decide +kernel
theorem d_C_machine_12 : decode b_C_machine 12 = .ok (.aload_n 0, 1) := by decide +kernel
theorem d_C_machine_13 : decode b_C_machine 13 = .ok (.iload_n 1, 1) := by decide +kernel
theorem d_C_machine_14 : decode b_C_machine 14 = .ok (.putfield 30, 3) := by decide +kernel
theorem d_C_machine_17 : decode b_C_machine 17 = .ok (.aload_n 0, 1) := by decide +kernel
theorem d_C_machine_18 : decode b_C_machine 18 = .ok (.iconst 0, 1) := by decide +kernel
theorem d_C_machine_19 : decode b_C_machine 19 = .ok (.putfield 36, 3) := by decide +kernel
theorem d_C_machine_22 : decode b_C_machine 22 = .ok (.iload_n 2, 1) := by decide +kernel
theorem d_C_machine_23 : decode b_C_machine 23 = .ok (.ireturn, 1) := by decide +kernel
theorem d_C_start_0 : decode b_C_start 0 = .ok (.aload_n 0, 1) := by decide +kernel
theorem d_C_start_1 : decode b_C_start 1 = .ok (.iload_n 1, 1) := by decide +kernel
theorem d_C_start_2 : decode b_C_start 2 = .ok (.invokevirtual 94, 3) := by decide +kernel
theorem d_C_start_5 : decode b_C_start 5 = .ok (.getfield 97, 3) := by decide +kernel
theorem d_C_start_8 : decode b_C_start 8 = .ok (.ireturn, 1) := by decide +kernel
theorem d_C_late_0 : decode b_C_late 0 = .ok (.aload_n 0, 1) := by decide +kernel
theorem d_C_late_1 : decode b_C_late 1 = .ok (.iload_n 1, 1) := by decide +kernel
theorem d_C_late_2 : decode b_C_late 2 = .ok (.invokevirtual 94, 3) := by decide +kernel
theorem d_C_late_5 : decode b_C_late 5 = .ok (.astore_n 2, 1) := by decide +kernel
theorem d_C_late_6 : decode b_C_late 6 = .ok (.aload_n 2, 1) := by decide +kernel
theorem d_C_late_7 : decode b_C_late 7 = .ok (.invokevirtual 100, 3) := by decide +kernel
theorem d_C_late_10 : decode b_C_late 10 = .ok (.ifCond .eq 23, 3) := by decide +kernel
theorem d_C_late_13 : decode b_C_late 13 = .ok (.aload_n 2, 1) := by decide +kernel
theorem d_C_late_14 : decode b_C_late 14 = .ok (.getfield 104, 3) := by decide +kernel
theorem d_C_late_17 : decode b_C_late 17 = .ok (.aload_n 2, 1) := by decide +kernel
theorem d_C_late_18 : decode b_C_late 18 = .ok (.getfield 83, 3) := by decide +kernel
theorem d_C_late_21 : decode b_C_late 21 = .ok (.iaload, 1) := by decide +kernel
theorem d_C_late_22 : decode b_C_late 22 = .ok (.aload_n 2, 1) := by decide +kernel
theorem d_C_late_23 : decode b_C_late 23 = .ok (.getfield 86, 3) := by decide +kernel
theorem d_C_late_26 : decode b_C_late 26 = .ok (.if_icmp .ge 7, 3) := by decide +kernel
theorem d_C_late_29 : decode b_C_late 29 = .ok (.iconst 1, 1) := by decide +kernel
theorem d_C_late_30 : decode b_C_late 30 = .ok (.goto 4, 3) := by decide +kernel
theorem d_C_late_33 : decode b_C_late 33 = .ok (.iconst 0, 1) := by decide +kernel
theorem d_C_late_34 : decode b_C_late 34 = .ok (.ireturn, 1) := by decide +kernel
theorem d_C_at_0 : decode b_C_at 0 = .ok (.iload_n 2, 1) := by decide +kernel
theorem d_C_at_1 : decode b_C_at 1 = .ok (.iconst 0, 1) := by decide +kernel
theorem d_C_at_2 : decode b_C_at 2 = .ok (.sipush 1440, 3) := by decide +kernel
theorem d_C_at_5 : decode b_C_at 5 = .ok (.invokestatic 56, 3) := by decide +kernel
theorem d_C_at_8 : decode b_C_at 8 = .ok (.aload_n 0, 1) := by decide +kernel
theorem d_C_at_9 : decode b_C_at 9 = .ok (.iload_n 1, 1) := by decide +kernel
theorem d_C_at_10 : decode b_C_at 10 = .ok (.invokevirtual 94, 3) := by decide +kernel
theorem d_C_at_13 : decode b_C_at 13 = .ok (.getfield 104, 3) := by decide +kernel
theorem d_C_at_16 : decode b_C_at 16 = .ok (.iload_n 2, 1) := by decide +kernel
theorem d_C_at_17 : decode b_C_at 17 = .ok (.iaload, 1) := by decide +kernel
theorem d_C_at_18 : decode b_C_at 18 = .ok (.ireturn, 1) := by decide +kernel
theorem d_C_used_0 : decode b_C_used 0 = .ok (.iload_n 1, 1) := by decide +kernel
theorem d_C_used_1 : decode b_C_used 1 = .ok (.iconst 0, 1) := by decide +kernel
theorem d_C_used_2 : decode b_C_used 2 = .ok (.sipush 1439, 3) := by decide +kernel
theorem d_C_used_5 : decode b_C_used 5 = .ok (.invokestatic 56, 3) := by decide +kernel
theorem d_C_used_8 : decode b_C_used 8 = .ok (.aload_n 0, 1) := by decide +kernel
theorem d_C_used_9 : decode b_C_used 9 = .ok (.invokevirtual 107, 3) := by decide +kernel
theorem d_C_used_12 : decode b_C_used 12 = .ok (.aload_n 0, 1) := by decide +kernel
theorem d_C_used_13 : decode b_C_used 13 = .ok (.getfield 33, 3) := by decide +kernel
theorem d_C_used_16 : decode b_C_used 16 = .ok (.iload_n 1, 1) := by decide +kernel
theorem d_C_used_17 : decode b_C_used 17 = .ok (.iaload, 1) := by decide +kernel
theorem d_C_used_18 : decode b_C_used 18 = .ok (.ireturn, 1) := by decide +kernel
theorem d_C_cold_0 : decode b_C_cold 0 = .ok (.aload_n 0, 1) := by decide +kernel
theorem d_C_cold_1 : decode b_C_cold 1 = .ok (.iload_n 1, 1) := by decide +kernel
theorem d_C_cold_2 : decode b_C_cold 2 = .ok (.invokevirtual 94, 3) := by decide +kernel
theorem d_C_cold_5 : decode b_C_cold 5 = .ok (.astore_n 2, 1) := by decide +kernel
theorem d_C_cold_6 : decode b_C_cold 6 = .ok (.aload_n 2, 1) := by decide +kernel
theorem d_C_cold_7 : decode b_C_cold 7 = .ok (.invokevirtual 100, 3) := by decide +kernel
theorem d_C_cold_10 : decode b_C_cold 10 = .ok (.ifCond .ne 5, 3) := by decide +kernel
theorem d_C_cold_13 : decode b_C_cold 13 = .ok (.iconst 0, 1) := by decide +kernel
theorem d_C_cold_14 : decode b_C_cold 14 = .ok (.ireturn, 1) := by decide +kernel
theorem d_C_cold_15 : decode b_C_cold 15 = .ok (.iconst 0, 1) := by decide +kernel
theorem d_C_cold_16 : decode b_C_cold 16 = .ok (.istore_n 3, 1) := by decide +kernel
theorem d_C_cold_17 : decode b_C_cold 17 = .ok (.aload_n 2, 1) := by decide +kernel
theorem d_C_cold_18 : decode b_C_cold 18 = .ok (.getfield 83, 3) := by decide +kernel
theorem d_C_cold_21 : decode b_C_cold 21 = .ok (.istore 4, 2) := by decide +kernel
theorem d_C_cold_23 : decode b_C_cold 23 = .ok (.iload 4, 2) := by decide +kernel
theorem d_C_cold_25 : decode b_C_cold 25 = .ok (.sipush 1440, 3) := by decide +kernel
theorem d_C_cold_28 : decode b_C_cold 28 = .ok (.if_icmp .ge 26, 3) := by decide +kernel
theorem d_C_cold_31 : decode b_C_cold 31 = .ok (.aload_n 2, 1) := by decide +kernel
theorem d_C_cold_32 : decode b_C_cold 32 = .ok (.getfield 104, 3) := by decide +kernel
theorem d_C_cold_35 : decode b_C_cold 35 = .ok (.iload 4, 2) := by decide +kernel
theorem d_C_cold_37 : decode b_C_cold 37 = .ok (.iaload, 1) := by decide +kernel
theorem d_C_cold_38 : decode b_C_cold 38 = .ok (.aload_n 2, 1) := by decide +kernel
theorem d_C_cold_39 : decode b_C_cold 39 = .ok (.getfield 86, 3) := by decide +kernel
theorem d_C_cold_42 : decode b_C_cold 42 = .ok (.if_icmp .ge 6, 3) := by decide +kernel
theorem d_C_cold_45 : decode b_C_cold 45 = .ok (.iinc 3 1, 3) := by decide +kernel
theorem d_C_cold_48 : decode b_C_cold 48 = .ok (.iinc 4 1, 3) := by decide +kernel
theorem d_C_cold_51 : decode b_C_cold 51 = .ok (.goto (-28), 3) := by decide +kernel
theorem d_C_cold_54 : decode b_C_cold 54 = .ok (.iload_n 3, 1) := by decide +kernel
theorem d_C_cold_55 : decode b_C_cold 55 = .ok (.ireturn, 1) := by decide +kernel
theorem d_C_fade_0 : decode b_C_fade 0 = .ok (.iload_n 2, 1) := by decide +kernel
theorem d_C_fade_1 : decode b_C_fade 1 = .ok (.iconst 1, 1) := by decide +kernel
theorem d_C_fade_2 : decode b_C_fade 2 = .ok (.bipush 100, 2) := by decide +kernel
theorem d_C_fade_4 : decode b_C_fade 4 = .ok (.invokestatic 56, 3) := by decide +kernel
theorem d_C_fade_7 : decode b_C_fade 7 = .ok (.iload_n 1, 1) := by decide +kernel
theorem d_C_fade_8 : decode b_C_fade 8 = .ok (.iconst 0, 1) := by decide +kernel
theorem d_C_fade_9 : decode b_C_fade 9 = .ok (.iload_n 2, 1) := by decide +kernel
theorem d_C_fade_10 : decode b_C_fade 10 = .ok (.invokestatic 56, 3) := by decide +kernel
theorem d_C_fade_13 : decode b_C_fade 13 = .ok (.aload_n 0, 1) := by decide +kernel
theorem d_C_fade_14 : decode b_C_fade 14 = .ok (.iload_n 1, 1) := by decide +kernel
theorem d_C_fade_15 : decode b_C_fade 15 = .ok (.putfield 40, 3) := by decide +kernel
theorem d_C_fade_18 : decode b_C_fade 18 = .ok (.aload_n 0, 1) := by decide +kernel
theorem d_C_fade_19 : decode b_C_fade 19 = .ok (.iload_n 2, 1) := by decide +kernel
theorem d_C_fade_20 : decode b_C_fade 20 = .ok (.putfield 43, 3) := by decide +kernel
theorem d_C_fade_23 : decode b_C_fade 23 = .ok (.return_, 1) := by decide +kernel
theorem d_C_day_0 : decode b_C_day 0 = .ok (.aload_n 0, 1) := by decide +kernel
theorem d_C_day_1 : decode b_C_day 1 = .ok (.iload_n 1, 1) := by decide +kernel
theorem d_C_day_2 : decode b_C_day 2 = .ok (.invokevirtual 70, 3) := by decide +kernel
theorem d_C_day_5 : decode b_C_day 5 = .ok (.astore_n 3, 1) := by decide +kernel
theorem d_C_day_6 : decode b_C_day 6 = .ok (.iload_n 2, 1) := by decide +kernel
theorem d_C_day_7 : decode b_C_day 7 = .ok (.sipush (-1440), 3) := by decide +kernel
theorem d_C_day_10 : decode b_C_day 10 = .ok (.sipush 1440, 3) := by decide +kernel
theorem d_C_day_13 : decode b_C_day 13 = .ok (.invokestatic 56, 3) := by decide +kernel
theorem d_C_day_16 : decode b_C_day 16 = .ok (.aload_n 3, 1) := by decide +kernel
theorem d_C_day_17 : decode b_C_day 17 = .ok (.getfield 110, 3) := by decide +kernel
theorem d_C_day_20 : decode b_C_day 20 = .ok (.iload_n 2, 1) := by decide +kernel
theorem d_C_day_21 : decode b_C_day 21 = .ok (.aload_n 0, 1) := by decide +kernel
theorem d_C_day_22 : decode b_C_day 22 = .ok (.getfield 40, 3) := by decide +kernel
theorem d_C_day_25 : decode b_C_day 25 = .ok (.aload_n 0, 1) := by decide +kernel
theorem d_C_day_26 : decode b_C_day 26 = .ok (.getfield 43, 3) := by decide +kernel
theorem d_C_day_29 : decode b_C_day 29 = .ok (.invokevirtual 114, 3) := by decide +kernel
theorem d_C_day_32 : decode b_C_day 32 = .ok (.return_, 1) := by decide +kernel
theorem d_C_lesson_0 : decode b_C_lesson 0 = .ok (.aload_n 0, 1) := by decide +kernel
theorem d_C_lesson_1 : decode b_C_lesson 1 = .ok (.iload_n 1, 1) := by decide +kernel
theorem d_C_lesson_2 : decode b_C_lesson 2 = .ok (.invokevirtual 70, 3) := by decide +kernel
theorem d_C_lesson_5 : decode b_C_lesson 5 = .ok (.astore_n 3, 1) := by decide +kernel
theorem d_C_lesson_6 : decode b_C_lesson 6 = .ok (.iload_n 2, 1) := by decide +kernel
theorem d_C_lesson_7 : decode b_C_lesson 7 = .ok (.iconst 0, 1) := by decide +kernel
theorem d_C_lesson_8 : decode b_C_lesson 8 = .ok (.iconst 1, 1) := by decide +kernel
theorem d_C_lesson_9 : decode b_C_lesson 9 = .ok (.invokestatic 56, 3) := by decide +kernel
theorem d_C_lesson_12 : decode b_C_lesson 12 = .ok (.iload_n 2, 1) := by decide +kernel
theorem d_C_lesson_13 : decode b_C_lesson 13 = .ok (.ifCond .ne 13, 3) := by decide +kernel
theorem d_C_lesson_16 : decode b_C_lesson 16 = .ok (.aload_n 3, 1) := by decide +kernel
theorem d_C_lesson_17 : decode b_C_lesson 17 = .ok (.getfield 110, 3) := by decide +kernel
theorem d_C_lesson_20 : decode b_C_lesson 20 = .ok (.getfield 119, 3) := by decide +kernel
theorem d_C_lesson_23 : decode b_C_lesson 23 = .ok (.goto 10, 3) := by decide +kernel
theorem d_C_lesson_26 : decode b_C_lesson 26 = .ok (.aload_n 3, 1) := by decide +kernel
theorem d_C_lesson_27 : decode b_C_lesson 27 = .ok (.getfield 110, 3) := by decide +kernel
theorem d_C_lesson_30 : decode b_C_lesson 30 = .ok (.getfield 123, 3) := by decide +kernel
theorem d_C_lesson_33 : decode b_C_lesson 33 = .ok (.lreturn, 1) := by decide +kernel
theorem d_C_taught_0 : decode b_C_taught 0 = .ok (.aload_n 0, 1) := by decide +kernel
theorem d_C_taught_1 : decode b_C_taught 1 = .ok (.iload_n 1, 1) := by decide +kernel
theorem d_C_taught_2 : decode b_C_taught 2 = .ok (.invokevirtual 94, 3) := by decide +kernel
theorem d_C_taught_5 : decode b_C_taught 5 = .ok (.astore_n 2, 1) := by decide +kernel
theorem d_C_taught_6 : decode b_C_taught 6 = .ok (.aload_n 2, 1) := by decide +kernel
theorem d_C_taught_7 : decode b_C_taught 7 = .ok (.invokevirtual 100, 3) := by decide +kernel
theorem d_C_taught_10 : decode b_C_taught 10 = .ok (.ifCond .ne 5, 3) := by decide +kernel
theorem d_C_taught_13 : decode b_C_taught 13 = .ok (.iconst (-1), 1) := by decide +kernel
theorem d_C_taught_14 : decode b_C_taught 14 = .ok (.ireturn, 1) := by decide +kernel
theorem d_C_taught_15 : decode b_C_taught 15 = .ok (.aload_n 2, 1) := by decide +kernel
theorem d_C_taught_16 : decode b_C_taught 16 = .ok (.getfield 97, 3) := by decide +kernel
theorem d_C_taught_19 : decode b_C_taught 19 = .ok (.aload_n 2, 1) := by decide +kernel
theorem d_C_taught_20 : decode b_C_taught 20 = .ok (.getfield 110, 3) := by decide +kernel
theorem d_C_taught_23 : decode b_C_taught 23 = .ok (.invokevirtual 126, 3) := by decide +kernel
theorem d_C_taught_26 : decode b_C_taught 26 = .ok (.isub, 1) := by decide +kernel
theorem d_C_taught_27 : decode b_C_taught 27 = .ok (.istore_n 3, 1) := by decide +kernel
theorem d_C_taught_28 : decode b_C_taught 28 = .ok (.iconst 0, 1) := by decide +kernel
theorem d_C_taught_29 : decode b_C_taught 29 = .ok (.iload_n 3, 1) := by decide +kernel
theorem d_C_taught_30 : decode b_C_taught 30 = .ok (.sipush 1439, 3) := by decide +kernel
theorem d_C_taught_33 : decode b_C_taught 33 = .ok (.invokestatic 130, 3) := by decide +kernel
theorem d_C_taught_36 : decode b_C_taught 36 = .ok (.invokestatic 136, 3) := by decide +kernel
theorem d_C_taught_39 : decode b_C_taught 39 = .ok (.ireturn, 1) := by decide +kernel
theorem d_C_price_0 : decode b_C_price 0 = .ok (.iload_n 1, 1) := by decide +kernel
theorem d_C_price_1 : decode b_C_price 1 = .ok (.iconst 0, 1) := by decide +kernel
theorem d_C_price_2 : decode b_C_price 2 = .ok (.bipush 23, 2) := by decide +kernel
theorem d_C_price_4 : decode b_C_price 4 = .ok (.invokestatic 56, 3) := by decide +kernel
theorem d_C_price_7 : decode b_C_price 7 = .ok (.iload_n 2, 1) := by decide +kernel
theorem d_C_price_8 : decode b_C_price 8 = .ok (.iconst 0, 1) := by decide +kernel
theorem d_C_price_9 : decode b_C_price 9 = .ok (.sipush 1000, 3) := by decide +kernel
theorem d_C_price_12 : decode b_C_price 12 = .ok (.invokestatic 56, 3) := by decide +kernel
theorem d_C_price_15 : decode b_C_price 15 = .ok (.aload_n 0, 1) := by decide +kernel
theorem d_C_price_16 : decode b_C_price 16 = .ok (.getfield 46, 3) := by decide +kernel
theorem d_C_price_19 : decode b_C_price 19 = .ok (.iload_n 1, 1) := by decide +kernel
theorem d_C_price_20 : decode b_C_price 20 = .ok (.iaload, 1) := by decide +kernel
theorem d_C_price_21 : decode b_C_price 21 = .ok (.istore_n 3, 1) := by decide +kernel
theorem d_C_price_22 : decode b_C_price 22 = .ok (.aload_n 0, 1) := by decide +kernel
theorem d_C_price_23 : decode b_C_price 23 = .ok (.getfield 46, 3) := by decide +kernel
theorem d_C_price_26 : decode b_C_price 26 = .ok (.iload_n 1, 1) := by decide +kernel
theorem d_C_price_27 : decode b_C_price 27 = .ok (.iload_n 2, 1) := by decide +kernel
theorem d_C_price_28 : decode b_C_price 28 = .ok (.iastore, 1) := by decide +kernel
theorem d_C_price_29 : decode b_C_price 29 = .ok (.iload_n 3, 1) := by decide +kernel
theorem d_C_price_30 : decode b_C_price 30 = .ok (.ireturn, 1) := by decide +kernel
theorem d_C_cheapest_0 : decode b_C_cheapest 0 = .ok (.aload_n 0, 1) := by decide +kernel
theorem d_C_cheapest_1 : decode b_C_cheapest 1 = .ok (.iload_n 1, 1) := by decide +kernel
theorem d_C_cheapest_2 : decode b_C_cheapest 2 = .ok (.invokevirtual 70, 3) := by decide +kernel
theorem d_C_cheapest_5 : decode b_C_cheapest 5 = .ok (.astore 4, 2) := by decide +kernel
theorem d_C_cheapest_7 : decode b_C_cheapest 7 = .ok (.iload_n 2, 1) := by decide +kernel
theorem d_C_cheapest_8 : decode b_C_cheapest 8 = .ok (.iload_n 3, 1) := by decide +kernel
theorem d_C_cheapest_9 : decode b_C_cheapest 9 = .ok (.invokestatic 139, 3) := by decide +kernel
theorem d_C_cheapest_12 : decode b_C_cheapest 12 = .ok (.aload 4, 2) := by decide +kernel
theorem d_C_cheapest_14 : decode b_C_cheapest 14 = .ok (.invokestatic 142, 3) := by decide +kernel
theorem d_C_cheapest_17 : decode b_C_cheapest 17 = .ok (.aload_n 0, 1) := by decide +kernel
theorem d_C_cheapest_18 : decode b_C_cheapest 18 = .ok (.aload 4, 2) := by decide +kernel
theorem d_C_cheapest_20 : decode b_C_cheapest 20 = .ok (.iload_n 2, 1) := by decide +kernel
theorem d_C_cheapest_21 : decode b_C_cheapest 21 = .ok (.iload_n 3, 1) := by decide +kernel
theorem d_C_cheapest_22 : decode b_C_cheapest 22 = .ok (.invokevirtual 146, 3) := by decide +kernel
theorem d_C_cheapest_25 : decode b_C_cheapest 25 = .ok (.iconst (-1), 1) := by decide +kernel
theorem d_C_cheapest_26 : decode b_C_cheapest 26 = .ok (.istore 5, 2) := by decide +kernel
theorem d_C_cheapest_28 : decode b_C_cheapest 28 = .ok (.iconst 0, 1) := by decide +kernel
theorem d_C_cheapest_29 : decode b_C_cheapest 29 = .ok (.istore 6, 2) := by decide +kernel
theorem d_C_cheapest_31 : decode b_C_cheapest 31 = .ok (.iload 6, 2) := by decide +kernel
theorem d_C_cheapest_33 : decode b_C_cheapest 33 = .ok (.iconst 1, 1) := by decide +kernel
theorem d_C_cheapest_34 : decode b_C_cheapest 34 = .ok (.iload_n 2, 1) := by decide +kernel
theorem d_C_cheapest_35 : decode b_C_cheapest 35 = .ok (.ishl, 1) := by decide +kernel
theorem d_C_cheapest_36 : decode b_C_cheapest 36 = .ok (.if_icmp .ge 64, 3) := by decide +kernel
theorem d_C_cheapest_39 : decode b_C_cheapest 39 = .ok (.aload_n 0, 1) := by decide +kernel
theorem d_C_cheapest_40 : decode b_C_cheapest 40 = .ok (.getfield 49, 3) := by decide +kernel
theorem d_C_cheapest_43 : decode b_C_cheapest 43 = .ok (.iload 6, 2) := by decide +kernel
theorem d_C_cheapest_45 : decode b_C_cheapest 45 = .ok (.iaload, 1) := by decide +kernel
theorem d_C_cheapest_46 : decode b_C_cheapest 46 = .ok (.aload 4, 2) := by decide +kernel
theorem d_C_cheapest_48 : decode b_C_cheapest 48 = .ok (.getfield 86, 3) := by decide +kernel
theorem d_C_cheapest_51 : decode b_C_cheapest 51 = .ok (.if_icmp .lt 7, 3) := by decide +kernel
theorem d_C_cheapest_54 : decode b_C_cheapest 54 = .ok (.iconst 1, 1) := by decide +kernel
theorem d_C_cheapest_55 : decode b_C_cheapest 55 = .ok (.goto 4, 3) := by decide +kernel
theorem d_C_cheapest_58 : decode b_C_cheapest 58 = .ok (.iconst 0, 1) := by decide +kernel
theorem d_C_cheapest_59 : decode b_C_cheapest 59 = .ok (.istore 7, 2) := by decide +kernel
theorem d_C_cheapest_61 : decode b_C_cheapest 61 = .ok (.iload 7, 2) := by decide +kernel
theorem d_C_cheapest_63 : decode b_C_cheapest 63 = .ok (.ifCond .eq 31, 3) := by decide +kernel
theorem d_C_cheapest_66 : decode b_C_cheapest 66 = .ok (.iload 5, 2) := by decide +kernel
theorem d_C_cheapest_68 : decode b_C_cheapest 68 = .ok (.iconst (-1), 1) := by decide +kernel
theorem d_C_cheapest_69 : decode b_C_cheapest 69 = .ok (.if_icmp .eq 21, 3) := by decide +kernel
theorem d_C_cheapest_72 : decode b_C_cheapest 72 = .ok (.aload_n 0, 1) := by decide +kernel
theorem d_C_cheapest_73 : decode b_C_cheapest 73 = .ok (.getfield 52, 3) := by decide +kernel
theorem d_C_cheapest_76 : decode b_C_cheapest 76 = .ok (.iload 6, 2) := by decide +kernel
theorem d_C_cheapest_78 : decode b_C_cheapest 78 = .ok (.laload, 1) := by decide +kernel
theorem d_C_cheapest_79 : decode b_C_cheapest 79 = .ok (.aload_n 0, 1) := by decide +kernel
theorem d_C_cheapest_80 : decode b_C_cheapest 80 = .ok (.getfield 52, 3) := by decide +kernel
theorem d_C_cheapest_83 : decode b_C_cheapest 83 = .ok (.iload 5, 2) := by decide +kernel
theorem d_C_cheapest_85 : decode b_C_cheapest 85 = .ok (.laload, 1) := by decide +kernel
theorem d_C_cheapest_86 : decode b_C_cheapest 86 = .ok (.lcmp, 1) := by decide +kernel
theorem d_C_cheapest_87 : decode b_C_cheapest 87 = .ok (.ifCond .ge 7, 3) := by decide +kernel
theorem d_C_cheapest_90 : decode b_C_cheapest 90 = .ok (.iload 6, 2) := by decide +kernel
theorem d_C_cheapest_92 : decode b_C_cheapest 92 = .ok (.istore 5, 2) := by decide +kernel
theorem d_C_cheapest_94 : decode b_C_cheapest 94 = .ok (.iinc 6 1, 3) := by decide +kernel
theorem d_C_cheapest_97 : decode b_C_cheapest 97 = .ok (.goto (-66), 3) := by decide +kernel
theorem d_C_cheapest_100 : decode b_C_cheapest 100 = .ok (.iload 5, 2) := by decide +kernel
theorem d_C_cheapest_102 : decode b_C_cheapest 102 = .ok (.ireturn, 1) := by decide +kernel
theorem d_C_costs_0 : decode b_C_costs 0 = .ok (.aload_n 0, 1) := by decide +kernel
theorem d_C_costs_1 : decode b_C_costs 1 = .ok (.iload_n 1, 1) := by decide +kernel
theorem d_C_costs_2 : decode b_C_costs 2 = .ok (.invokevirtual 70, 3) := by decide +kernel
theorem d_C_costs_5 : decode b_C_costs 5 = .ok (.astore 5, 2) := by decide +kernel
theorem d_C_costs_7 : decode b_C_costs 7 = .ok (.iload_n 2, 1) := by decide +kernel
theorem d_C_costs_8 : decode b_C_costs 8 = .ok (.iload_n 3, 1) := by decide +kernel
theorem d_C_costs_9 : decode b_C_costs 9 = .ok (.invokestatic 139, 3) := by decide +kernel
theorem d_C_costs_12 : decode b_C_costs 12 = .ok (.iload 4, 2) := by decide +kernel
theorem d_C_costs_14 : decode b_C_costs 14 = .ok (.iconst 0, 1) := by decide +kernel
theorem d_C_costs_15 : decode b_C_costs 15 = .ok (.iconst 1, 1) := by decide +kernel
theorem d_C_costs_16 : decode b_C_costs 16 = .ok (.iload_n 2, 1) := by decide +kernel
theorem d_C_costs_17 : decode b_C_costs 17 = .ok (.ishl, 1) := by decide +kernel
theorem d_C_costs_18 : decode b_C_costs 18 = .ok (.iconst 1, 1) := by decide +kernel
theorem d_C_costs_19 : decode b_C_costs 19 = .ok (.isub, 1) := by decide +kernel
theorem d_C_costs_20 : decode b_C_costs 20 = .ok (.invokestatic 56, 3) := by decide +kernel
theorem d_C_costs_23 : decode b_C_costs 23 = .ok (.aload 5, 2) := by decide +kernel
theorem d_C_costs_25 : decode b_C_costs 25 = .ok (.invokestatic 142, 3) := by decide +kernel
theorem d_C_costs_28 : decode b_C_costs 28 = .ok (.aload_n 0, 1) := by decide +kernel
theorem d_C_costs_29 : decode b_C_costs 29 = .ok (.aload 5, 2) := by decide +kernel
theorem d_C_costs_31 : decode b_C_costs 31 = .ok (.aload 5, 2) := by decide +kernel
theorem d_C_costs_33 : decode b_C_costs 33 = .ok (.getfield 74, 3) := by decide +kernel
theorem d_C_costs_36 : decode b_C_costs 36 = .ok (.iconst 0, 1) := by decide +kernel
theorem d_C_costs_37 : decode b_C_costs 37 = .ok (.aload 5, 2) := by decide +kernel
theorem d_C_costs_39 : decode b_C_costs 39 = .ok (.iload_n 2, 1) := by decide +kernel
theorem d_C_costs_40 : decode b_C_costs 40 = .ok (.iload_n 3, 1) := by decide +kernel
theorem d_C_costs_41 : decode b_C_costs 41 = .ok (.invokestatic 150, 3) := by decide +kernel
theorem d_C_costs_44 : decode b_C_costs 44 = .ok (.iconst 0, 1) := by decide +kernel
theorem d_C_costs_45 : decode b_C_costs 45 = .ok (.invokevirtual 154, 3) := by decide +kernel
theorem d_C_costs_48 : decode b_C_costs 48 = .ok (.istore 6, 2) := by decide +kernel
theorem d_C_costs_50 : decode b_C_costs 50 = .ok (.lconst 0, 1) := by decide +kernel
theorem d_C_costs_51 : decode b_C_costs 51 = .ok (.lstore 7, 2) := by decide +kernel
theorem d_C_costs_53 : decode b_C_costs 53 = .ok (.iconst 0, 1) := by decide +kernel
theorem d_C_costs_54 : decode b_C_costs 54 = .ok (.istore 9, 2) := by decide +kernel
theorem d_C_costs_56 : decode b_C_costs 56 = .ok (.iload 9, 2) := by decide +kernel
theorem d_C_costs_58 : decode b_C_costs 58 = .ok (.iload_n 2, 1) := by decide +kernel
theorem d_C_costs_59 : decode b_C_costs 59 = .ok (.if_icmp .ge 105, 3) := by decide +kernel
theorem d_C_costs_62 : decode b_C_costs 62 = .ok (.aload 5, 2) := by decide +kernel
theorem d_C_costs_64 : decode b_C_costs 64 = .ok (.iload_n 2, 1) := by decide +kernel
theorem d_C_costs_65 : decode b_C_costs 65 = .ok (.iload 9, 2) := by decide +kernel
theorem d_C_costs_67 : decode b_C_costs 67 = .ok (.isub, 1) := by decide +kernel
theorem d_C_costs_68 : decode b_C_costs 68 = .ok (.iload_n 3, 1) := by decide +kernel
theorem d_C_costs_69 : decode b_C_costs 69 = .ok (.invokestatic 150, 3) := by decide +kernel
theorem d_C_costs_72 : decode b_C_costs 72 = .ok (.istore 10, 2) := by decide +kernel
theorem d_C_costs_74 : decode b_C_costs 74 = .ok (.aload 5, 2) := by decide +kernel
theorem d_C_costs_76 : decode b_C_costs 76 = .ok (.iload_n 2, 1) := by decide +kernel
theorem d_C_costs_77 : decode b_C_costs 77 = .ok (.iload 9, 2) := by decide +kernel
theorem d_C_costs_79 : decode b_C_costs 79 = .ok (.isub, 1) := by decide +kernel
theorem d_C_costs_80 : decode b_C_costs 80 = .ok (.iconst 1, 1) := by decide +kernel
theorem d_C_costs_81 : decode b_C_costs 81 = .ok (.isub, 1) := by decide +kernel
theorem d_C_costs_82 : decode b_C_costs 82 = .ok (.iload_n 3, 1) := by decide +kernel
theorem d_C_costs_83 : decode b_C_costs 83 = .ok (.invokestatic 150, 3) := by decide +kernel
theorem d_C_costs_86 : decode b_C_costs 86 = .ok (.istore 11, 2) := by decide +kernel
theorem d_C_costs_88 : decode b_C_costs 88 = .ok (.iload 4, 2) := by decide +kernel
theorem d_C_costs_90 : decode b_C_costs 90 = .ok (.iload 9, 2) := by decide +kernel
theorem d_C_costs_92 : decode b_C_costs 92 = .ok (.ishr, 1) := by decide +kernel
theorem d_C_costs_93 : decode b_C_costs 93 = .ok (.iconst 1, 1) := by decide +kernel
theorem d_C_costs_94 : decode b_C_costs 94 = .ok (.iand, 1) := by decide +kernel
theorem d_C_costs_95 : decode b_C_costs 95 = .ok (.iconst 1, 1) := by decide +kernel
theorem d_C_costs_96 : decode b_C_costs 96 = .ok (.if_icmp .ne 7, 3) := by decide +kernel
theorem d_C_costs_99 : decode b_C_costs 99 = .ok (.iconst 1, 1) := by decide +kernel
theorem d_C_costs_100 : decode b_C_costs 100 = .ok (.goto 4, 3) := by decide +kernel
theorem d_C_costs_103 : decode b_C_costs 103 = .ok (.iconst 0, 1) := by decide +kernel
theorem d_C_costs_104 : decode b_C_costs 104 = .ok (.istore 12, 2) := by decide +kernel
theorem d_C_costs_106 : decode b_C_costs 106 = .ok (.aload_n 0, 1) := by decide +kernel
theorem d_C_costs_107 : decode b_C_costs 107 = .ok (.aload 5, 2) := by decide +kernel
theorem d_C_costs_109 : decode b_C_costs 109 = .ok (.iload 6, 2) := by decide +kernel
theorem d_C_costs_111 : decode b_C_costs 111 = .ok (.iload 10, 2) := by decide +kernel
theorem d_C_costs_113 : decode b_C_costs 113 = .ok (.iload 11, 2) := by decide +kernel
theorem d_C_costs_115 : decode b_C_costs 115 = .ok (.iload 12, 2) := by decide +kernel
theorem d_C_costs_117 : decode b_C_costs 117 = .ok (.ifCond .eq 11, 3) := by decide +kernel
theorem d_C_costs_120 : decode b_C_costs 120 = .ok (.aload 5, 2) := by decide +kernel
theorem d_C_costs_122 : decode b_C_costs 122 = .ok (.getfield 77, 3) := by decide +kernel
theorem d_C_costs_125 : decode b_C_costs 125 = .ok (.goto 4, 3) := by decide +kernel
theorem d_C_costs_128 : decode b_C_costs 128 = .ok (.iconst 0, 1) := by decide +kernel
theorem d_C_costs_129 : decode b_C_costs 129 = .ok (.invokevirtual 154, 3) := by decide +kernel
theorem d_C_costs_132 : decode b_C_costs 132 = .ok (.istore 6, 2) := by decide +kernel
theorem d_C_costs_134 : decode b_C_costs 134 = .ok (.lload 7, 2) := by decide +kernel
theorem d_C_costs_136 : decode b_C_costs 136 = .ok (.iload 12, 2) := by decide +kernel
theorem d_C_costs_138 : decode b_C_costs 138 = .ok (.ifCond .eq 16, 3) := by decide +kernel
theorem d_C_costs_141 : decode b_C_costs 141 = .ok (.aload_n 0, 1) := by decide +kernel
theorem d_C_costs_142 : decode b_C_costs 142 = .ok (.aload 5, 2) := by decide +kernel
theorem d_C_costs_144 : decode b_C_costs 144 = .ok (.iload 10, 2) := by decide +kernel
theorem d_C_costs_146 : decode b_C_costs 146 = .ok (.iload 11, 2) := by decide +kernel
theorem d_C_costs_148 : decode b_C_costs 148 = .ok (.invokevirtual 158, 3) := by decide +kernel
theorem d_C_costs_151 : decode b_C_costs 151 = .ok (.goto 4, 3) := by decide +kernel
theorem d_C_costs_154 : decode b_C_costs 154 = .ok (.lconst 0, 1) := by decide +kernel
theorem d_C_costs_155 : decode b_C_costs 155 = .ok (.ladd, 1) := by decide +kernel
theorem d_C_costs_156 : decode b_C_costs 156 = .ok (.lstore 7, 2) := by decide +kernel
theorem d_C_costs_158 : decode b_C_costs 158 = .ok (.iinc 9 1, 3) := by decide +kernel
theorem d_C_costs_161 : decode b_C_costs 161 = .ok (.goto (-105), 3) := by decide +kernel
theorem d_C_costs_164 : decode b_C_costs 164 = .ok (.iload 6, 2) := by decide +kernel
theorem d_C_costs_166 : decode b_C_costs 166 = .ok (.aload 5, 2) := by decide +kernel
theorem d_C_costs_168 : decode b_C_costs 168 = .ok (.getfield 86, 3) := by decide +kernel
theorem d_C_costs_171 : decode b_C_costs 171 = .ok (.if_icmp .lt 8, 3) := by decide +kernel
theorem d_C_costs_174 : decode b_C_costs 174 = .ok (.lload 7, 2) := by decide +kernel
theorem d_C_costs_176 : decode b_C_costs 176 = .ok (.goto 6, 3) := by decide +kernel
theorem d_C_costs_179 : decode b_C_costs 179 = .ok (.ldc2_w 162, 3) := by decide +kernel
theorem d_C_costs_182 : decode b_C_costs 182 = .ok (.lreturn, 1) := by decide +kernel
theorem d_C_checkBounds_0 : decode b_C_checkBounds 0 = .ok (.iload_n 0, 1) := by decide +kernel
theorem d_C_checkBounds_1 : decode b_C_checkBounds 1 = .ok (.iload_n 1, 1) := by decide +kernel
theorem d_C_checkBounds_2 : decode b_C_checkBounds 2 = .ok (.if_icmp .lt 8, 3) := by decide +kernel
theorem d_C_checkBounds_5 : decode b_C_checkBounds 5 = .ok (.iload_n 0, 1) := by decide +kernel
theorem d_C_checkBounds_6 : decode b_C_checkBounds 6 = .ok (.iload_n 2, 1) := by decide +kernel
theorem d_C_checkBounds_7 : decode b_C_checkBounds 7 = .ok (.if_icmp .le 13, 3) := by decide +kernel
theorem d_C_checkBounds_10 : decode b_C_checkBounds 10 = .ok (.new 164, 3) := by decide +kernel
theorem d_C_checkBounds_13 : decode b_C_checkBounds 13 = .ok (.dup, 1) := by decide +kernel
theorem d_C_checkBounds_14 : decode b_C_checkBounds 14 = .ok (.ldc 166, 2) := by decide +kernel
theorem d_C_checkBounds_16 : decode b_C_checkBounds 16 = .ok (.invokespecial 168, 3) := by decide +kernel
theorem d_C_checkBounds_19 : decode b_C_checkBounds 19 = .ok (.athrow, 1) := by decide +kernel
theorem d_C_checkBounds_20 : decode b_C_checkBounds 20 = .ok (.return_, 1) := by decide +kernel
theorem d_C_checkQuarters_0 : decode b_C_checkQuarters 0 = .ok (.iload_n 0, 1) := by decide +kernel
theorem d_C_checkQuarters_1 : decode b_C_checkQuarters 1 = .ok (.iconst 1, 1) := by decide +kernel
theorem d_C_checkQuarters_2 : decode b_C_checkQuarters 2 = .ok (.bipush 10, 2) := by decide +kernel
theorem d_C_checkQuarters_4 : decode b_C_checkQuarters 4 = .ok (.invokestatic 56, 3) := by decide +kernel
theorem d_C_checkQuarters_7 : decode b_C_checkQuarters 7 = .ok (.iload_n 1, 1) := by decide +kernel
theorem d_C_checkQuarters_8 : decode b_C_checkQuarters 8 = .ok (.iconst 1, 1) := by decide +kernel
theorem d_C_checkQuarters_9 : decode b_C_checkQuarters 9 = .ok (.bipush 30, 2) := by decide +kernel
theorem d_C_checkQuarters_11 : decode b_C_checkQuarters 11 = .ok (.invokestatic 56, 3) := by decide +kernel
theorem d_C_checkQuarters_14 : decode b_C_checkQuarters 14 = .ok (.return_, 1) := by decide +kernel
theorem d_C_checkWants_0 : decode b_C_checkWants 0 = .ok (.aload_n 0, 1) := by decide +kernel
theorem d_C_checkWants_1 : decode b_C_checkWants 1 = .ok (.invokevirtual 100, 3) := by decide +kernel
theorem d_C_checkWants_4 : decode b_C_checkWants 4 = .ok (.ifCond .ne 13, 3) := by decide +kernel
theorem d_C_checkWants_7 : decode b_C_checkWants 7 = .ok (.new 60, 3) := by decide +kernel
theorem d_C_checkWants_10 : decode b_C_checkWants 10 = .ok (.dup, 1) := by decide +kernel
theorem d_C_checkWants_11 : decode b_C_checkWants 11 = .ok (.ldc 169, 2) := by decide +kernel
theorem d_C_checkWants_13 : decode b_C_checkWants 13 = .ok (.invokespecial 64, 3) := by decide +kernel
theorem d_C_checkWants_16 : decode b_C_checkWants 16 = .ok (.athrow, 1) := by decide +kernel
theorem d_C_checkWants_17 : decode b_C_checkWants 17 = .ok (.return_, 1) := by decide +kernel
theorem d_C_knownZone_0 : decode b_C_knownZone 0 = .ok (.iload_n 1, 1) := by decide +kernel
theorem d_C_knownZone_1 : decode b_C_knownZone 1 = .ok (.ifCond .lt 11, 3) := by decide +kernel
theorem d_C_knownZone_4 : decode b_C_knownZone 4 = .ok (.iload_n 1, 1) := by decide +kernel
theorem d_C_knownZone_5 : decode b_C_knownZone 5 = .ok (.aload_n 0, 1) := by decide +kernel
theorem d_C_knownZone_6 : decode b_C_knownZone 6 = .ok (.getfield 15, 3) := by decide +kernel
theorem d_C_knownZone_9 : decode b_C_knownZone 9 = .ok (.if_icmp .lt 13, 3) := by decide +kernel
theorem d_C_knownZone_12 : decode b_C_knownZone 12 = .ok (.new 164, 3) := by decide +kernel
theorem d_C_knownZone_15 : decode b_C_knownZone 15 = .ok (.dup, 1) := by decide +kernel
theorem d_C_knownZone_16 : decode b_C_knownZone 16 = .ok (.ldc 171, 2) := by decide +kernel
theorem d_C_knownZone_18 : decode b_C_knownZone 18 = .ok (.invokespecial 168, 3) := by decide +kernel
theorem d_C_knownZone_21 : decode b_C_knownZone 21 = .ok (.athrow, 1) := by decide +kernel
theorem d_C_knownZone_22 : decode b_C_knownZone 22 = .ok (.aload_n 0, 1) := by decide +kernel
theorem d_C_knownZone_23 : decode b_C_knownZone 23 = .ok (.getfield 11, 3) := by decide +kernel
theorem d_C_knownZone_26 : decode b_C_knownZone 26 = .ok (.iload_n 1, 1) := by decide +kernel
theorem d_C_knownZone_27 : decode b_C_knownZone 27 = .ok (.aaload, 1) := by decide +kernel
theorem d_C_knownZone_28 : decode b_C_knownZone 28 = .ok (.areturn, 1) := by decide +kernel
theorem d_C_plannedZone_0 : decode b_C_plannedZone 0 = .ok (.aload_n 0, 1) := by decide +kernel
theorem d_C_plannedZone_1 : decode b_C_plannedZone 1 = .ok (.iload_n 1, 1) := by decide +kernel
theorem d_C_plannedZone_2 : decode b_C_plannedZone 2 = .ok (.invokevirtual 70, 3) := by decide +kernel
theorem d_C_plannedZone_5 : decode b_C_plannedZone 5 = .ok (.astore_n 2, 1) := by decide +kernel
theorem d_C_plannedZone_6 : decode b_C_plannedZone 6 = .ok (.aload_n 0, 1) := by decide +kernel
theorem d_C_plannedZone_7 : decode b_C_plannedZone 7 = .ok (.invokevirtual 107, 3) := by decide +kernel
theorem d_C_plannedZone_10 : decode b_C_plannedZone 10 = .ok (.aload_n 2, 1) := by decide +kernel
theorem d_C_plannedZone_11 : decode b_C_plannedZone 11 = .ok (.areturn, 1) := by decide +kernel
theorem d_C_warmthAfter_0 : decode b_C_warmthAfter 0 = .ok (.iload_n 2, 1) := by decide +kernel
theorem d_C_warmthAfter_1 : decode b_C_warmthAfter 1 = .ok (.aload_n 0, 1) := by decide +kernel
theorem d_C_warmthAfter_2 : decode b_C_warmthAfter 2 = .ok (.getfield 19, 3) := by decide +kernel
theorem d_C_warmthAfter_5 : decode b_C_warmthAfter 5 = .ok (.iload_n 3, 1) := by decide +kernel
theorem d_C_warmthAfter_6 : decode b_C_warmthAfter 6 = .ok (.iaload, 1) := by decide +kernel
theorem d_C_warmthAfter_7 : decode b_C_warmthAfter 7 = .ok (.iload_n 2, 1) := by decide +kernel
theorem d_C_warmthAfter_8 : decode b_C_warmthAfter 8 = .ok (.isub, 1) := by decide +kernel
theorem d_C_warmthAfter_9 : decode b_C_warmthAfter 9 = .ok (.aload_n 1, 1) := by decide +kernel
theorem d_C_warmthAfter_10 : decode b_C_warmthAfter 10 = .ok (.getfield 173, 3) := by decide +kernel
theorem d_C_warmthAfter_13 : decode b_C_warmthAfter 13 = .ok (.idiv, 1) := by decide +kernel
theorem d_C_warmthAfter_14 : decode b_C_warmthAfter 14 = .ok (.iadd, 1) := by decide +kernel
theorem d_C_warmthAfter_15 : decode b_C_warmthAfter 15 = .ok (.iload 4, 2) := by decide +kernel
theorem d_C_warmthAfter_17 : decode b_C_warmthAfter 17 = .ok (.aload_n 1, 1) := by decide +kernel
theorem d_C_warmthAfter_18 : decode b_C_warmthAfter 18 = .ok (.getfield 176, 3) := by decide +kernel
theorem d_C_warmthAfter_21 : decode b_C_warmthAfter 21 = .ok (.idiv, 1) := by decide +kernel
theorem d_C_warmthAfter_22 : decode b_C_warmthAfter 22 = .ok (.iadd, 1) := by decide +kernel
theorem d_C_warmthAfter_23 : decode b_C_warmthAfter 23 = .ok (.ireturn, 1) := by decide +kernel
theorem d_C_warmthThrough_0 : decode b_C_warmthThrough 0 = .ok (.iload_n 2, 1) := by decide +kernel
theorem d_C_warmthThrough_1 : decode b_C_warmthThrough 1 = .ok (.istore 6, 2) := by decide +kernel
theorem d_C_warmthThrough_3 : decode b_C_warmthThrough 3 = .ok (.iload_n 3, 1) := by decide +kernel
theorem d_C_warmthThrough_4 : decode b_C_warmthThrough 4 = .ok (.istore 7, 2) := by decide +kernel
theorem d_C_warmthThrough_6 : decode b_C_warmthThrough 6 = .ok (.iload 7, 2) := by decide +kernel
theorem d_C_warmthThrough_8 : decode b_C_warmthThrough 8 = .ok (.iload 4, 2) := by decide +kernel
theorem d_C_warmthThrough_10 : decode b_C_warmthThrough 10 = .ok (.if_icmp .ge 22, 3) := by decide +kernel
theorem d_C_warmthThrough_13 : decode b_C_warmthThrough 13 = .ok (.aload_n 0, 1) := by decide +kernel
theorem d_C_warmthThrough_14 : decode b_C_warmthThrough 14 = .ok (.aload_n 1, 1) := by decide +kernel
theorem d_C_warmthThrough_15 : decode b_C_warmthThrough 15 = .ok (.iload 6, 2) := by decide +kernel
theorem d_C_warmthThrough_17 : decode b_C_warmthThrough 17 = .ok (.iload 7, 2) := by decide +kernel
theorem d_C_warmthThrough_19 : decode b_C_warmthThrough 19 = .ok (.iload 5, 2) := by decide +kernel
theorem d_C_warmthThrough_21 : decode b_C_warmthThrough 21 = .ok (.invokevirtual 179, 3) := by decide +kernel
theorem d_C_warmthThrough_24 : decode b_C_warmthThrough 24 = .ok (.istore 6, 2) := by decide +kernel
theorem d_C_warmthThrough_26 : decode b_C_warmthThrough 26 = .ok (.iinc 7 1, 3) := by decide +kernel
theorem d_C_warmthThrough_29 : decode b_C_warmthThrough 29 = .ok (.goto (-23), 3) := by decide +kernel
theorem d_C_warmthThrough_32 : decode b_C_warmthThrough 32 = .ok (.iload 6, 2) := by decide +kernel
theorem d_C_warmthThrough_34 : decode b_C_warmthThrough 34 = .ok (.ireturn, 1) := by decide +kernel
theorem d_C_makePlan_0 : decode b_C_makePlan 0 = .ok (.aload_n 0, 1) := by decide +kernel
theorem d_C_makePlan_1 : decode b_C_makePlan 1 = .ok (.getfield 36, 3) := by decide +kernel
theorem d_C_makePlan_4 : decode b_C_makePlan 4 = .ok (.ifCond .eq 4, 3) := by decide +kernel
theorem d_C_makePlan_7 : decode b_C_makePlan 7 = .ok (.return_, 1) := by decide +kernel
theorem d_C_makePlan_8 : decode b_C_makePlan 8 = .ok (.iconst 0, 1) := by decide +kernel
theorem d_C_makePlan_9 : decode b_C_makePlan 9 = .ok (.istore_n 1, 1) := by decide +kernel
theorem d_C_makePlan_10 : decode b_C_makePlan 10 = .ok (.iload_n 1, 1) := by decide +kernel
theorem d_C_makePlan_11 : decode b_C_makePlan 11 = .ok (.sipush 1440, 3) := by decide +kernel
theorem d_C_makePlan_14 : decode b_C_makePlan 14 = .ok (.if_icmp .ge 16, 3) := by decide +kernel
theorem d_C_makePlan_17 : decode b_C_makePlan 17 = .ok (.aload_n 0, 1) := by decide +kernel
theorem d_C_makePlan_18 : decode b_C_makePlan 18 = .ok (.getfield 33, 3) := by decide +kernel
theorem d_C_makePlan_21 : decode b_C_makePlan 21 = .ok (.iload_n 1, 1) := by decide +kernel
theorem d_C_makePlan_22 : decode b_C_makePlan 22 = .ok (.iconst 0, 1) := by decide +kernel
theorem d_C_makePlan_23 : decode b_C_makePlan 23 = .ok (.iastore, 1) := by decide +kernel
theorem d_C_makePlan_24 : decode b_C_makePlan 24 = .ok (.iinc 1 1, 3) := by decide +kernel
theorem d_C_makePlan_27 : decode b_C_makePlan 27 = .ok (.goto (-17), 3) := by decide +kernel
theorem d_C_makePlan_30 : decode b_C_makePlan 30 = .ok (.iconst 0, 1) := by decide +kernel
theorem d_C_makePlan_31 : decode b_C_makePlan 31 = .ok (.istore_n 1, 1) := by decide +kernel
theorem d_C_makePlan_32 : decode b_C_makePlan 32 = .ok (.iload_n 1, 1) := by decide +kernel
theorem d_C_makePlan_33 : decode b_C_makePlan 33 = .ok (.bipush 9, 2) := by decide +kernel
theorem d_C_makePlan_35 : decode b_C_makePlan 35 = .ok (.if_icmp .gt 48, 3) := by decide +kernel
theorem d_C_makePlan_38 : decode b_C_makePlan 38 = .ok (.iconst 0, 1) := by decide +kernel
theorem d_C_makePlan_39 : decode b_C_makePlan 39 = .ok (.istore_n 2, 1) := by decide +kernel
theorem d_C_makePlan_40 : decode b_C_makePlan 40 = .ok (.iload_n 2, 1) := by decide +kernel
theorem d_C_makePlan_41 : decode b_C_makePlan 41 = .ok (.aload_n 0, 1) := by decide +kernel
theorem d_C_makePlan_42 : decode b_C_makePlan 42 = .ok (.getfield 15, 3) := by decide +kernel
theorem d_C_makePlan_45 : decode b_C_makePlan 45 = .ok (.if_icmp .ge 32, 3) := by decide +kernel
theorem d_C_makePlan_48 : decode b_C_makePlan 48 = .ok (.aload_n 0, 1) := by decide +kernel
theorem d_C_makePlan_49 : decode b_C_makePlan 49 = .ok (.getfield 11, 3) := by decide +kernel
theorem d_C_makePlan_52 : decode b_C_makePlan 52 = .ok (.iload_n 2, 1) := by decide +kernel
theorem d_C_makePlan_53 : decode b_C_makePlan 53 = .ok (.aaload, 1) := by decide +kernel
theorem d_C_makePlan_54 : decode b_C_makePlan 54 = .ok (.getfield 80, 3) := by decide +kernel
theorem d_C_makePlan_57 : decode b_C_makePlan 57 = .ok (.iload_n 1, 1) := by decide +kernel
theorem d_C_makePlan_58 : decode b_C_makePlan 58 = .ok (.if_icmp .ne 13, 3) := by decide +kernel
theorem d_C_makePlan_61 : decode b_C_makePlan 61 = .ok (.aload_n 0, 1) := by decide +kernel
theorem d_C_makePlan_62 : decode b_C_makePlan 62 = .ok (.aload_n 0, 1) := by decide +kernel
theorem d_C_makePlan_63 : decode b_C_makePlan 63 = .ok (.getfield 11, 3) := by decide +kernel
theorem d_C_makePlan_66 : decode b_C_makePlan 66 = .ok (.iload_n 2, 1) := by decide +kernel
theorem d_C_makePlan_67 : decode b_C_makePlan 67 = .ok (.aaload, 1) := by decide +kernel
theorem d_C_makePlan_68 : decode b_C_makePlan 68 = .ok (.invokevirtual 183, 3) := by decide +kernel
theorem d_C_makePlan_71 : decode b_C_makePlan 71 = .ok (.iinc 2 1, 3) := by decide +kernel
theorem d_C_makePlan_74 : decode b_C_makePlan 74 = .ok (.goto (-34), 3) := by decide +kernel
theorem d_C_makePlan_77 : decode b_C_makePlan 77 = .ok (.iinc 1 1, 3) := by decide +kernel
theorem d_C_makePlan_80 : decode b_C_makePlan 80 = .ok (.goto (-48), 3) := by decide +kernel
theorem d_C_makePlan_83 : decode b_C_makePlan 83 = .ok (.aload_n 0, 1) := by decide +kernel
theorem d_C_makePlan_84 : decode b_C_makePlan 84 = .ok (.iconst 1, 1) := by decide +kernel
theorem d_C_makePlan_85 : decode b_C_makePlan 85 = .ok (.putfield 36, 3) := by decide +kernel
theorem d_C_makePlan_88 : decode b_C_makePlan 88 = .ok (.return_, 1) := by decide +kernel
theorem d_C_planZone_0 : decode b_C_planZone 0 = .ok (.aload_n 1, 1) := by decide +kernel
theorem d_C_planZone_1 : decode b_C_planZone 1 = .ok (.getfield 104, 3) := by decide +kernel
theorem d_C_planZone_4 : decode b_C_planZone 4 = .ok (.iconst 0, 1) := by decide +kernel
theorem d_C_planZone_5 : decode b_C_planZone 5 = .ok (.aload_n 1, 1) := by decide +kernel
theorem d_C_planZone_6 : decode b_C_planZone 6 = .ok (.getfield 74, 3) := by decide +kernel
theorem d_C_planZone_9 : decode b_C_planZone 9 = .ok (.iastore, 1) := by decide +kernel
theorem d_C_planZone_10 : decode b_C_planZone 10 = .ok (.aload_n 0, 1) := by decide +kernel
theorem d_C_planZone_11 : decode b_C_planZone 11 = .ok (.aload_n 1, 1) := by decide +kernel
theorem d_C_planZone_12 : decode b_C_planZone 12 = .ok (.iconst 0, 1) := by decide +kernel
theorem d_C_planZone_13 : decode b_C_planZone 13 = .ok (.invokevirtual 186, 3) := by decide +kernel
theorem d_C_planZone_16 : decode b_C_planZone 16 = .ok (.aload_n 1, 1) := by decide +kernel
theorem d_C_planZone_17 : decode b_C_planZone 17 = .ok (.iconst (-1), 1) := by decide +kernel
theorem d_C_planZone_18 : decode b_C_planZone 18 = .ok (.putfield 97, 3) := by decide +kernel
theorem d_C_planZone_21 : decode b_C_planZone 21 = .ok (.aload_n 1, 1) := by decide +kernel
theorem d_C_planZone_22 : decode b_C_planZone 22 = .ok (.invokevirtual 100, 3) := by decide +kernel
theorem d_C_planZone_25 : decode b_C_planZone 25 = .ok (.ifCond .eq 26, 3) := by decide +kernel
theorem d_C_planZone_28 : decode b_C_planZone 28 = .ok (.aload_n 1, 1) := by decide +kernel
theorem d_C_planZone_29 : decode b_C_planZone 29 = .ok (.aload_n 0, 1) := by decide +kernel
theorem d_C_planZone_30 : decode b_C_planZone 30 = .ok (.aload_n 1, 1) := by decide +kernel
theorem d_C_planZone_31 : decode b_C_planZone 31 = .ok (.invokevirtual 190, 3) := by decide +kernel
theorem d_C_planZone_34 : decode b_C_planZone 34 = .ok (.putfield 97, 3) := by decide +kernel
theorem d_C_planZone_37 : decode b_C_planZone 37 = .ok (.aload_n 0, 1) := by decide +kernel
theorem d_C_planZone_38 : decode b_C_planZone 38 = .ok (.aload_n 1, 1) := by decide +kernel
theorem d_C_planZone_39 : decode b_C_planZone 39 = .ok (.invokevirtual 194, 3) := by decide +kernel
theorem d_C_planZone_42 : decode b_C_planZone 42 = .ok (.aload_n 0, 1) := by decide +kernel
theorem d_C_planZone_43 : decode b_C_planZone 43 = .ok (.aload_n 1, 1) := by decide +kernel
theorem d_C_planZone_44 : decode b_C_planZone 44 = .ok (.aload_n 1, 1) := by decide +kernel
theorem d_C_planZone_45 : decode b_C_planZone 45 = .ok (.getfield 83, 3) := by decide +kernel
theorem d_C_planZone_48 : decode b_C_planZone 48 = .ok (.invokevirtual 186, 3) := by decide +kernel
theorem d_C_planZone_51 : decode b_C_planZone 51 = .ok (.return_, 1) := by decide +kernel
theorem d_C_leaveUnheated_0 : decode b_C_leaveUnheated 0 = .ok (.iload_n 2, 1) := by decide +kernel
theorem d_C_leaveUnheated_1 : decode b_C_leaveUnheated 1 = .ok (.istore_n 3, 1) := by decide +kernel
theorem d_C_leaveUnheated_2 : decode b_C_leaveUnheated 2 = .ok (.iload_n 3, 1) := by decide +kernel
theorem d_C_leaveUnheated_3 : decode b_C_leaveUnheated 3 = .ok (.sipush 1440, 3) := by decide +kernel
theorem d_C_leaveUnheated_6 : decode b_C_leaveUnheated 6 = .ok (.if_icmp .ge 30, 3) := by decide +kernel
theorem d_C_leaveUnheated_9 : decode b_C_leaveUnheated 9 = .ok (.aload_n 1, 1) := by decide +kernel
theorem d_C_leaveUnheated_10 : decode b_C_leaveUnheated 10 = .ok (.getfield 104, 3) := by decide +kernel
theorem d_C_leaveUnheated_13 : decode b_C_leaveUnheated 13 = .ok (.iload_n 3, 1) := by decide +kernel
theorem d_C_leaveUnheated_14 : decode b_C_leaveUnheated 14 = .ok (.iconst 1, 1) := by decide +kernel
theorem d_C_leaveUnheated_15 : decode b_C_leaveUnheated 15 = .ok (.iadd, 1) := by decide +kernel
theorem d_C_leaveUnheated_16 : decode b_C_leaveUnheated 16 = .ok (.aload_n 0, 1) := by decide +kernel
theorem d_C_leaveUnheated_17 : decode b_C_leaveUnheated 17 = .ok (.aload_n 1, 1) := by decide +kernel
theorem d_C_leaveUnheated_18 : decode b_C_leaveUnheated 18 = .ok (.aload_n 1, 1) := by decide +kernel
theorem d_C_leaveUnheated_19 : decode b_C_leaveUnheated 19 = .ok (.getfield 104, 3) := by decide +kernel
theorem d_C_leaveUnheated_22 : decode b_C_leaveUnheated 22 = .ok (.iload_n 3, 1) := by decide +kernel
theorem d_C_leaveUnheated_23 : decode b_C_leaveUnheated 23 = .ok (.iaload, 1) := by decide +kernel
theorem d_C_leaveUnheated_24 : decode b_C_leaveUnheated 24 = .ok (.iload_n 3, 1) := by decide +kernel
theorem d_C_leaveUnheated_25 : decode b_C_leaveUnheated 25 = .ok (.iconst 0, 1) := by decide +kernel
theorem d_C_leaveUnheated_26 : decode b_C_leaveUnheated 26 = .ok (.invokevirtual 179, 3) := by decide +kernel
theorem d_C_leaveUnheated_29 : decode b_C_leaveUnheated 29 = .ok (.iastore, 1) := by decide +kernel
theorem d_C_leaveUnheated_30 : decode b_C_leaveUnheated 30 = .ok (.iinc 3 1, 3) := by decide +kernel
theorem d_C_leaveUnheated_33 : decode b_C_leaveUnheated 33 = .ok (.goto (-31), 3) := by decide +kernel
theorem d_C_leaveUnheated_36 : decode b_C_leaveUnheated 36 = .ok (.return_, 1) := by decide +kernel
theorem d_C_latestStart_0 : decode b_C_latestStart 0 = .ok (.iconst 0, 1) := by decide +kernel
theorem d_C_latestStart_1 : decode b_C_latestStart 1 = .ok (.istore_n 2, 1) := by decide +kernel
theorem d_C_latestStart_2 : decode b_C_latestStart 2 = .ok (.sipush 1024, 3) := by decide +kernel
theorem d_C_latestStart_5 : decode b_C_latestStart 5 = .ok (.istore_n 3, 1) := by decide +kernel
theorem d_C_latestStart_6 : decode b_C_latestStart 6 = .ok (.iload_n 3, 1) := by decide +kernel
theorem d_C_latestStart_7 : decode b_C_latestStart 7 = .ok (.ifCond .le 41, 3) := by decide +kernel
theorem d_C_latestStart_10 : decode b_C_latestStart 10 = .ok (.iload_n 2, 1) := by decide +kernel
theorem d_C_latestStart_11 : decode b_C_latestStart 11 = .ok (.iload_n 3, 1) := by decide +kernel
theorem d_C_latestStart_12 : decode b_C_latestStart 12 = .ok (.iadd, 1) := by decide +kernel
theorem d_C_latestStart_13 : decode b_C_latestStart 13 = .ok (.istore 4, 2) := by decide +kernel
theorem d_C_latestStart_15 : decode b_C_latestStart 15 = .ok (.iload 4, 2) := by decide +kernel
theorem d_C_latestStart_17 : decode b_C_latestStart 17 = .ok (.aload_n 1, 1) := by decide +kernel
theorem d_C_latestStart_18 : decode b_C_latestStart 18 = .ok (.getfield 83, 3) := by decide +kernel
theorem d_C_latestStart_21 : decode b_C_latestStart 21 = .ok (.if_icmp .gt 20, 3) := by decide +kernel
theorem d_C_latestStart_24 : decode b_C_latestStart 24 = .ok (.aload_n 0, 1) := by decide +kernel
theorem d_C_latestStart_25 : decode b_C_latestStart 25 = .ok (.aload_n 1, 1) := by decide +kernel
theorem d_C_latestStart_26 : decode b_C_latestStart 26 = .ok (.iload 4, 2) := by decide +kernel
theorem d_C_latestStart_28 : decode b_C_latestStart 28 = .ok (.invokevirtual 197, 3) := by decide +kernel
theorem d_C_latestStart_31 : decode b_C_latestStart 31 = .ok (.aload_n 1, 1) := by decide +kernel
theorem d_C_latestStart_32 : decode b_C_latestStart 32 = .ok (.getfield 86, 3) := by decide +kernel
theorem d_C_latestStart_35 : decode b_C_latestStart 35 = .ok (.if_icmp .lt 6, 3) := by decide +kernel
theorem d_C_latestStart_38 : decode b_C_latestStart 38 = .ok (.iload 4, 2) := by decide +kernel
theorem d_C_latestStart_40 : decode b_C_latestStart 40 = .ok (.istore_n 2, 1) := by decide +kernel
theorem d_C_latestStart_41 : decode b_C_latestStart 41 = .ok (.iload_n 3, 1) := by decide +kernel
theorem d_C_latestStart_42 : decode b_C_latestStart 42 = .ok (.iconst 2, 1) := by decide +kernel
theorem d_C_latestStart_43 : decode b_C_latestStart 43 = .ok (.idiv, 1) := by decide +kernel
theorem d_C_latestStart_44 : decode b_C_latestStart 44 = .ok (.istore_n 3, 1) := by decide +kernel
theorem d_C_latestStart_45 : decode b_C_latestStart 45 = .ok (.goto (-39), 3) := by decide +kernel
theorem d_C_latestStart_48 : decode b_C_latestStart 48 = .ok (.iload_n 2, 1) := by decide +kernel
theorem d_C_latestStart_49 : decode b_C_latestStart 49 = .ok (.ireturn, 1) := by decide +kernel
theorem d_C_warmthIfStarted_0 : decode b_C_warmthIfStarted 0 = .ok (.aload_n 1, 1) := by decide +kernel
theorem d_C_warmthIfStarted_1 : decode b_C_warmthIfStarted 1 = .ok (.getfield 104, 3) := by decide +kernel
theorem d_C_warmthIfStarted_4 : decode b_C_warmthIfStarted 4 = .ok (.iload_n 2, 1) := by decide +kernel
theorem d_C_warmthIfStarted_5 : decode b_C_warmthIfStarted 5 = .ok (.iaload, 1) := by decide +kernel
theorem d_C_warmthIfStarted_6 : decode b_C_warmthIfStarted 6 = .ok (.istore_n 3, 1) := by decide +kernel
theorem d_C_warmthIfStarted_7 : decode b_C_warmthIfStarted 7 = .ok (.iload_n 2, 1) := by decide +kernel
theorem d_C_warmthIfStarted_8 : decode b_C_warmthIfStarted 8 = .ok (.istore 4, 2) := by decide +kernel
theorem d_C_warmthIfStarted_10 : decode b_C_warmthIfStarted 10 = .ok (.iload 4, 2) := by decide +kernel
theorem d_C_warmthIfStarted_12 : decode b_C_warmthIfStarted 12 = .ok (.aload_n 1, 1) := by decide +kernel
theorem d_C_warmthIfStarted_13 : decode b_C_warmthIfStarted 13 = .ok (.getfield 83, 3) := by decide +kernel
theorem d_C_warmthIfStarted_16 : decode b_C_warmthIfStarted 16 = .ok (.if_icmp .ge 25, 3) := by decide +kernel
theorem d_C_warmthIfStarted_19 : decode b_C_warmthIfStarted 19 = .ok (.aload_n 0, 1) := by decide +kernel
theorem d_C_warmthIfStarted_20 : decode b_C_warmthIfStarted 20 = .ok (.aload_n 1, 1) := by decide +kernel
theorem d_C_warmthIfStarted_21 : decode b_C_warmthIfStarted 21 = .ok (.iload_n 3, 1) := by decide +kernel
theorem d_C_warmthIfStarted_22 : decode b_C_warmthIfStarted 22 = .ok (.iload 4, 2) := by decide +kernel
theorem d_C_warmthIfStarted_24 : decode b_C_warmthIfStarted 24 = .ok (.aload_n 0, 1) := by decide +kernel
theorem d_C_warmthIfStarted_25 : decode b_C_warmthIfStarted 25 = .ok (.aload_n 1, 1) := by decide +kernel
theorem d_C_warmthIfStarted_26 : decode b_C_warmthIfStarted 26 = .ok (.iload 4, 2) := by decide +kernel
theorem d_C_warmthIfStarted_28 : decode b_C_warmthIfStarted 28 = .ok (.invokevirtual 201, 3) := by decide +kernel
theorem d_C_warmthIfStarted_31 : decode b_C_warmthIfStarted 31 = .ok (.invokevirtual 179, 3) := by decide +kernel
theorem d_C_warmthIfStarted_34 : decode b_C_warmthIfStarted 34 = .ok (.istore_n 3, 1) := by decide +kernel
theorem d_C_warmthIfStarted_35 : decode b_C_warmthIfStarted 35 = .ok (.iinc 4 1, 3) := by decide +kernel
theorem d_C_warmthIfStarted_38 : decode b_C_warmthIfStarted 38 = .ok (.goto (-28), 3) := by decide +kernel
theorem d_C_warmthIfStarted_41 : decode b_C_warmthIfStarted 41 = .ok (.iload_n 3, 1) := by decide +kernel
theorem d_C_warmthIfStarted_42 : decode b_C_warmthIfStarted 42 = .ok (.ireturn, 1) := by decide +kernel
theorem d_C_heatFromStart_0 : decode b_C_heatFromStart 0 = .ok (.aload_n 1, 1) := by decide +kernel
theorem d_C_heatFromStart_1 : decode b_C_heatFromStart 1 = .ok (.getfield 97, 3) := by decide +kernel
theorem d_C_heatFromStart_4 : decode b_C_heatFromStart 4 = .ok (.istore_n 2, 1) := by decide +kernel
theorem d_C_heatFromStart_5 : decode b_C_heatFromStart 5 = .ok (.iload_n 2, 1) := by decide +kernel
theorem d_C_heatFromStart_6 : decode b_C_heatFromStart 6 = .ok (.aload_n 1, 1) := by decide +kernel
theorem d_C_heatFromStart_7 : decode b_C_heatFromStart 7 = .ok (.getfield 83, 3) := by decide +kernel
theorem d_C_heatFromStart_10 : decode b_C_heatFromStart 10 = .ok (.if_icmp .ge 47, 3) := by decide +kernel
theorem d_C_heatFromStart_13 : decode b_C_heatFromStart 13 = .ok (.aload_n 0, 1) := by decide +kernel
theorem d_C_heatFromStart_14 : decode b_C_heatFromStart 14 = .ok (.aload_n 1, 1) := by decide +kernel
theorem d_C_heatFromStart_15 : decode b_C_heatFromStart 15 = .ok (.iload_n 2, 1) := by decide +kernel
theorem d_C_heatFromStart_16 : decode b_C_heatFromStart 16 = .ok (.invokevirtual 201, 3) := by decide +kernel
theorem d_C_heatFromStart_19 : decode b_C_heatFromStart 19 = .ok (.istore_n 3, 1) := by decide +kernel
theorem d_C_heatFromStart_20 : decode b_C_heatFromStart 20 = .ok (.aload_n 1, 1) := by decide +kernel
theorem d_C_heatFromStart_21 : decode b_C_heatFromStart 21 = .ok (.getfield 104, 3) := by decide +kernel
theorem d_C_heatFromStart_24 : decode b_C_heatFromStart 24 = .ok (.iload_n 2, 1) := by decide +kernel
theorem d_C_heatFromStart_25 : decode b_C_heatFromStart 25 = .ok (.iconst 1, 1) := by decide +kernel
theorem d_C_heatFromStart_26 : decode b_C_heatFromStart 26 = .ok (.iadd, 1) := by decide +kernel
theorem d_C_heatFromStart_27 : decode b_C_heatFromStart 27 = .ok (.aload_n 0, 1) := by decide +kernel
theorem d_C_heatFromStart_28 : decode b_C_heatFromStart 28 = .ok (.aload_n 1, 1) := by decide +kernel
theorem d_C_heatFromStart_29 : decode b_C_heatFromStart 29 = .ok (.aload_n 1, 1) := by decide +kernel
theorem d_C_heatFromStart_30 : decode b_C_heatFromStart 30 = .ok (.getfield 104, 3) := by decide +kernel
theorem d_C_heatFromStart_33 : decode b_C_heatFromStart 33 = .ok (.iload_n 2, 1) := by decide +kernel
theorem d_C_heatFromStart_34 : decode b_C_heatFromStart 34 = .ok (.iaload, 1) := by decide +kernel
theorem d_C_heatFromStart_35 : decode b_C_heatFromStart 35 = .ok (.iload_n 2, 1) := by decide +kernel
theorem d_C_heatFromStart_36 : decode b_C_heatFromStart 36 = .ok (.iload_n 3, 1) := by decide +kernel
theorem d_C_heatFromStart_37 : decode b_C_heatFromStart 37 = .ok (.invokevirtual 179, 3) := by decide +kernel
theorem d_C_heatFromStart_40 : decode b_C_heatFromStart 40 = .ok (.iastore, 1) := by decide +kernel
theorem d_C_heatFromStart_41 : decode b_C_heatFromStart 41 = .ok (.aload_n 0, 1) := by decide +kernel
theorem d_C_heatFromStart_42 : decode b_C_heatFromStart 42 = .ok (.getfield 33, 3) := by decide +kernel
theorem d_C_heatFromStart_45 : decode b_C_heatFromStart 45 = .ok (.iload_n 2, 1) := by decide +kernel
theorem d_C_heatFromStart_46 : decode b_C_heatFromStart 46 = .ok (.dup2, 1) := by decide +kernel
theorem d_C_heatFromStart_47 : decode b_C_heatFromStart 47 = .ok (.iaload, 1) := by decide +kernel
theorem d_C_heatFromStart_48 : decode b_C_heatFromStart 48 = .ok (.iload_n 3, 1) := by decide +kernel
theorem d_C_heatFromStart_49 : decode b_C_heatFromStart 49 = .ok (.iadd, 1) := by decide +kernel
theorem d_C_heatFromStart_50 : decode b_C_heatFromStart 50 = .ok (.iastore, 1) := by decide +kernel
theorem d_C_heatFromStart_51 : decode b_C_heatFromStart 51 = .ok (.iinc 2 1, 3) := by decide +kernel
theorem d_C_heatFromStart_54 : decode b_C_heatFromStart 54 = .ok (.goto (-49), 3) := by decide +kernel
theorem d_C_heatFromStart_57 : decode b_C_heatFromStart 57 = .ok (.return_, 1) := by decide +kernel
theorem d_C_shareOf_0 : decode b_C_shareOf 0 = .ok (.aload_n 0, 1) := by decide +kernel
theorem d_C_shareOf_1 : decode b_C_shareOf 1 = .ok (.getfield 30, 3) := by decide +kernel
theorem d_C_shareOf_4 : decode b_C_shareOf 4 = .ok (.aload_n 0, 1) := by decide +kernel
theorem d_C_shareOf_5 : decode b_C_shareOf 5 = .ok (.getfield 33, 3) := by decide +kernel
theorem d_C_shareOf_8 : decode b_C_shareOf 8 = .ok (.iload_n 2, 1) := by decide +kernel
theorem d_C_shareOf_9 : decode b_C_shareOf 9 = .ok (.iaload, 1) := by decide +kernel
theorem d_C_shareOf_10 : decode b_C_shareOf 10 = .ok (.isub, 1) := by decide +kernel
theorem d_C_shareOf_11 : decode b_C_shareOf 11 = .ok (.istore_n 3, 1) := by decide +kernel
theorem d_C_shareOf_12 : decode b_C_shareOf 12 = .ok (.aload_n 1, 1) := by decide +kernel
theorem d_C_shareOf_13 : decode b_C_shareOf 13 = .ok (.getfield 77, 3) := by decide +kernel
theorem d_C_shareOf_16 : decode b_C_shareOf 16 = .ok (.iload_n 3, 1) := by decide +kernel
theorem d_C_shareOf_17 : decode b_C_shareOf 17 = .ok (.if_icmp .ge 10, 3) := by decide +kernel
theorem d_C_shareOf_20 : decode b_C_shareOf 20 = .ok (.aload_n 1, 1) := by decide +kernel
theorem d_C_shareOf_21 : decode b_C_shareOf 21 = .ok (.getfield 77, 3) := by decide +kernel
theorem d_C_shareOf_24 : decode b_C_shareOf 24 = .ok (.goto 4, 3) := by decide +kernel
theorem d_C_shareOf_27 : decode b_C_shareOf 27 = .ok (.iload_n 3, 1) := by decide +kernel
theorem d_C_shareOf_28 : decode b_C_shareOf 28 = .ok (.ireturn, 1) := by decide +kernel
theorem d_C_quarterBegin_0 : decode b_C_quarterBegin 0 = .ok (.iconst 0, 1) := by decide +kernel
theorem d_C_quarterBegin_1 : decode b_C_quarterBegin 1 = .ok (.aload_n 0, 1) := by decide +kernel
theorem d_C_quarterBegin_2 : decode b_C_quarterBegin 2 = .ok (.getfield 83, 3) := by decide +kernel
theorem d_C_quarterBegin_5 : decode b_C_quarterBegin 5 = .ok (.iload_n 1, 1) := by decide +kernel
theorem d_C_quarterBegin_6 : decode b_C_quarterBegin 6 = .ok (.iload_n 2, 1) := by decide +kernel
theorem d_C_quarterBegin_7 : decode b_C_quarterBegin 7 = .ok (.imul, 1) := by decide +kernel
theorem d_C_quarterBegin_8 : decode b_C_quarterBegin 8 = .ok (.isub, 1) := by decide +kernel
theorem d_C_quarterBegin_9 : decode b_C_quarterBegin 9 = .ok (.invokestatic 136, 3) := by decide +kernel
theorem d_C_quarterBegin_12 : decode b_C_quarterBegin 12 = .ok (.ireturn, 1) := by decide +kernel
theorem d_C_costOfMinutes_0 : decode b_C_costOfMinutes 0 = .ok (.lconst 0, 1) := by decide +kernel
theorem d_C_costOfMinutes_1 : decode b_C_costOfMinutes 1 = .ok (.lstore 4, 2) := by decide +kernel
theorem d_C_costOfMinutes_3 : decode b_C_costOfMinutes 3 = .ok (.iload_n 2, 1) := by decide +kernel
theorem d_C_costOfMinutes_4 : decode b_C_costOfMinutes 4 = .ok (.istore 6, 2) := by decide +kernel
theorem d_C_costOfMinutes_6 : decode b_C_costOfMinutes 6 = .ok (.iload 6, 2) := by decide +kernel
theorem d_C_costOfMinutes_8 : decode b_C_costOfMinutes 8 = .ok (.iload_n 3, 1) := by decide +kernel
theorem d_C_costOfMinutes_9 : decode b_C_costOfMinutes 9 = .ok (.if_icmp .ge 31, 3) := by decide +kernel
theorem d_C_costOfMinutes_12 : decode b_C_costOfMinutes 12 = .ok (.lload 4, 2) := by decide +kernel
theorem d_C_costOfMinutes_14 : decode b_C_costOfMinutes 14 = .ok (.aload_n 1, 1) := by decide +kernel
theorem d_C_costOfMinutes_15 : decode b_C_costOfMinutes 15 = .ok (.getfield 77, 3) := by decide +kernel
theorem d_C_costOfMinutes_18 : decode b_C_costOfMinutes 18 = .ok (.i2l, 1) := by decide +kernel
theorem d_C_costOfMinutes_19 : decode b_C_costOfMinutes 19 = .ok (.aload_n 0, 1) := by decide +kernel
theorem d_C_costOfMinutes_20 : decode b_C_costOfMinutes 20 = .ok (.getfield 46, 3) := by decide +kernel
theorem d_C_costOfMinutes_23 : decode b_C_costOfMinutes 23 = .ok (.iload 6, 2) := by decide +kernel
theorem d_C_costOfMinutes_25 : decode b_C_costOfMinutes 25 = .ok (.bipush 60, 2) := by decide +kernel
theorem d_C_costOfMinutes_27 : decode b_C_costOfMinutes 27 = .ok (.idiv, 1) := by decide +kernel
theorem d_C_costOfMinutes_28 : decode b_C_costOfMinutes 28 = .ok (.iaload, 1) := by decide +kernel
theorem d_C_costOfMinutes_29 : decode b_C_costOfMinutes 29 = .ok (.i2l, 1) := by decide +kernel
theorem d_C_costOfMinutes_30 : decode b_C_costOfMinutes 30 = .ok (.lmul, 1) := by decide +kernel
theorem d_C_costOfMinutes_31 : decode b_C_costOfMinutes 31 = .ok (.ladd, 1) := by decide +kernel
theorem d_C_costOfMinutes_32 : decode b_C_costOfMinutes 32 = .ok (.lstore 4, 2) := by decide +kernel
theorem d_C_costOfMinutes_34 : decode b_C_costOfMinutes 34 = .ok (.iinc 6 1, 3) := by decide +kernel
theorem d_C_costOfMinutes_37 : decode b_C_costOfMinutes 37 = .ok (.goto (-31), 3) := by decide +kernel
theorem d_C_costOfMinutes_40 : decode b_C_costOfMinutes 40 = .ok (.lload 4, 2) := by decide +kernel
theorem d_C_costOfMinutes_42 : decode b_C_costOfMinutes 42 = .ok (.lreturn, 1) := by decide +kernel
theorem d_C_weighSets_0 : decode b_C_weighSets 0 = .ok (.aload_n 0, 1) := by decide +kernel
theorem d_C_weighSets_1 : decode b_C_weighSets 1 = .ok (.getfield 49, 3) := by decide +kernel
theorem d_C_weighSets_4 : decode b_C_weighSets 4 = .ok (.iconst 0, 1) := by decide +kernel
theorem d_C_weighSets_5 : decode b_C_weighSets 5 = .ok (.aload_n 0, 1) := by decide +kernel
theorem d_C_weighSets_6 : decode b_C_weighSets 6 = .ok (.aload_n 1, 1) := by decide +kernel
theorem d_C_weighSets_7 : decode b_C_weighSets 7 = .ok (.aload_n 1, 1) := by decide +kernel
theorem d_C_weighSets_8 : decode b_C_weighSets 8 = .ok (.getfield 74, 3) := by decide +kernel
theorem d_C_weighSets_11 : decode b_C_weighSets 11 = .ok (.iconst 0, 1) := by decide +kernel
theorem d_C_weighSets_12 : decode b_C_weighSets 12 = .ok (.aload_n 1, 1) := by decide +kernel
theorem d_C_weighSets_13 : decode b_C_weighSets 13 = .ok (.iload_n 2, 1) := by decide +kernel
theorem d_C_weighSets_14 : decode b_C_weighSets 14 = .ok (.iload_n 3, 1) := by decide +kernel
theorem d_C_weighSets_15 : decode b_C_weighSets 15 = .ok (.invokestatic 150, 3) := by decide +kernel
theorem d_C_weighSets_18 : decode b_C_weighSets 18 = .ok (.iconst 0, 1) := by decide +kernel
theorem d_C_weighSets_19 : decode b_C_weighSets 19 = .ok (.invokevirtual 154, 3) := by decide +kernel
theorem d_C_weighSets_22 : decode b_C_weighSets 22 = .ok (.iastore, 1) := by decide +kernel
theorem d_C_weighSets_23 : decode b_C_weighSets 23 = .ok (.aload_n 0, 1) := by decide +kernel
theorem d_C_weighSets_24 : decode b_C_weighSets 24 = .ok (.getfield 52, 3) := by decide +kernel
theorem d_C_weighSets_27 : decode b_C_weighSets 27 = .ok (.iconst 0, 1) := by decide +kernel
theorem d_C_weighSets_28 : decode b_C_weighSets 28 = .ok (.lconst 0, 1) := by decide +kernel
theorem d_C_weighSets_29 : decode b_C_weighSets 29 = .ok (.lastore, 1) := by decide +kernel
theorem d_C_weighSets_30 : decode b_C_weighSets 30 = .ok (.iconst 0, 1) := by decide +kernel
theorem d_C_weighSets_31 : decode b_C_weighSets 31 = .ok (.istore 4, 2) := by decide +kernel
theorem d_C_weighSets_33 : decode b_C_weighSets 33 = .ok (.iload 4, 2) := by decide +kernel
theorem d_C_weighSets_35 : decode b_C_weighSets 35 = .ok (.iload_n 2, 1) := by decide +kernel
theorem d_C_weighSets_36 : decode b_C_weighSets 36 = .ok (.if_icmp .ge 139, 3) := by decide +kernel
theorem d_C_weighSets_39 : decode b_C_weighSets 39 = .ok (.aload_n 1, 1) := by decide +kernel
theorem d_C_weighSets_40 : decode b_C_weighSets 40 = .ok (.iload_n 2, 1) := by decide +kernel
theorem d_C_weighSets_41 : decode b_C_weighSets 41 = .ok (.iload 4, 2) := by decide +kernel
theorem d_C_weighSets_43 : decode b_C_weighSets 43 = .ok (.isub, 1) := by decide +kernel
theorem d_C_weighSets_44 : decode b_C_weighSets 44 = .ok (.iload_n 3, 1) := by decide +kernel
theorem d_C_weighSets_45 : decode b_C_weighSets 45 = .ok (.invokestatic 150, 3) := by decide +kernel
theorem d_C_weighSets_48 : decode b_C_weighSets 48 = .ok (.istore 5, 2) := by decide +kernel
theorem d_C_weighSets_50 : decode b_C_weighSets 50 = .ok (.aload_n 1, 1) := by decide +kernel
theorem d_C_weighSets_51 : decode b_C_weighSets 51 = .ok (.iload_n 2, 1) := by decide +kernel
theorem d_C_weighSets_52 : decode b_C_weighSets 52 = .ok (.iload 4, 2) := by decide +kernel
theorem d_C_weighSets_54 : decode b_C_weighSets 54 = .ok (.isub, 1) := by decide +kernel
theorem d_C_weighSets_55 : decode b_C_weighSets 55 = .ok (.iconst 1, 1) := by decide +kernel
theorem d_C_weighSets_56 : decode b_C_weighSets 56 = .ok (.isub, 1) := by decide +kernel
theorem d_C_weighSets_57 : decode b_C_weighSets 57 = .ok (.iload_n 3, 1) := by decide +kernel
theorem d_C_weighSets_58 : decode b_C_weighSets 58 = .ok (.invokestatic 150, 3) := by decide +kernel
theorem d_C_weighSets_61 : decode b_C_weighSets 61 = .ok (.istore 6, 2) := by decide +kernel
theorem d_C_weighSets_63 : decode b_C_weighSets 63 = .ok (.aload_n 0, 1) := by decide +kernel
theorem d_C_weighSets_64 : decode b_C_weighSets 64 = .ok (.aload_n 1, 1) := by decide +kernel
theorem d_C_weighSets_65 : decode b_C_weighSets 65 = .ok (.iload 5, 2) := by decide +kernel
theorem d_C_weighSets_67 : decode b_C_weighSets 67 = .ok (.iload 6, 2) := by decide +kernel
theorem d_C_weighSets_69 : decode b_C_weighSets 69 = .ok (.invokevirtual 158, 3) := by decide +kernel
theorem d_C_weighSets_72 : decode b_C_weighSets 72 = .ok (.lstore 7, 2) := by decide +kernel
theorem d_C_weighSets_74 : decode b_C_weighSets 74 = .ok (.iconst 1, 1) := by decide +kernel
theorem d_C_weighSets_75 : decode b_C_weighSets 75 = .ok (.iload 4, 2) := by decide +kernel
theorem d_C_weighSets_77 : decode b_C_weighSets 77 = .ok (.ishl, 1) := by decide +kernel
theorem d_C_weighSets_78 : decode b_C_weighSets 78 = .ok (.istore 9, 2) := by decide +kernel
theorem d_C_weighSets_80 : decode b_C_weighSets 80 = .ok (.iconst 0, 1) := by decide +kernel
theorem d_C_weighSets_81 : decode b_C_weighSets 81 = .ok (.istore 10, 2) := by decide +kernel
theorem d_C_weighSets_83 : decode b_C_weighSets 83 = .ok (.iload 10, 2) := by decide +kernel
theorem d_C_weighSets_85 : decode b_C_weighSets 85 = .ok (.iload 9, 2) := by decide +kernel
theorem d_C_weighSets_87 : decode b_C_weighSets 87 = .ok (.if_icmp .ge 82, 3) := by decide +kernel
theorem d_C_weighSets_90 : decode b_C_weighSets 90 = .ok (.aload_n 0, 1) := by decide +kernel
theorem d_C_weighSets_91 : decode b_C_weighSets 91 = .ok (.getfield 49, 3) := by decide +kernel
theorem d_C_weighSets_94 : decode b_C_weighSets 94 = .ok (.iload 10, 2) := by decide +kernel
theorem d_C_weighSets_96 : decode b_C_weighSets 96 = .ok (.iaload, 1) := by decide +kernel
theorem d_C_weighSets_97 : decode b_C_weighSets 97 = .ok (.istore 11, 2) := by decide +kernel
theorem d_C_weighSets_99 : decode b_C_weighSets 99 = .ok (.aload_n 0, 1) := by decide +kernel
theorem d_C_weighSets_100 : decode b_C_weighSets 100 = .ok (.getfield 49, 3) := by decide +kernel
theorem d_C_weighSets_103 : decode b_C_weighSets 103 = .ok (.iload 10, 2) := by decide +kernel
theorem d_C_weighSets_105 : decode b_C_weighSets 105 = .ok (.iload 9, 2) := by decide +kernel
theorem d_C_weighSets_107 : decode b_C_weighSets 107 = .ok (.iadd, 1) := by decide +kernel
theorem d_C_weighSets_108 : decode b_C_weighSets 108 = .ok (.aload_n 0, 1) := by decide +kernel
theorem d_C_weighSets_109 : decode b_C_weighSets 109 = .ok (.aload_n 1, 1) := by decide +kernel
theorem d_C_weighSets_110 : decode b_C_weighSets 110 = .ok (.iload 11, 2) := by decide +kernel
theorem d_C_weighSets_112 : decode b_C_weighSets 112 = .ok (.iload 5, 2) := by decide +kernel
theorem d_C_weighSets_114 : decode b_C_weighSets 114 = .ok (.iload 6, 2) := by decide +kernel
theorem d_C_weighSets_116 : decode b_C_weighSets 116 = .ok (.aload_n 1, 1) := by decide +kernel
theorem d_C_weighSets_117 : decode b_C_weighSets 117 = .ok (.getfield 77, 3) := by decide +kernel
theorem d_C_weighSets_120 : decode b_C_weighSets 120 = .ok (.invokevirtual 154, 3) := by decide +kernel
theorem d_C_weighSets_123 : decode b_C_weighSets 123 = .ok (.iastore, 1) := by decide +kernel
theorem d_C_weighSets_124 : decode b_C_weighSets 124 = .ok (.aload_n 0, 1) := by decide +kernel
theorem d_C_weighSets_125 : decode b_C_weighSets 125 = .ok (.getfield 52, 3) := by decide +kernel
theorem d_C_weighSets_128 : decode b_C_weighSets 128 = .ok (.iload 10, 2) := by decide +kernel
theorem d_C_weighSets_130 : decode b_C_weighSets 130 = .ok (.iload 9, 2) := by decide +kernel
theorem d_C_weighSets_132 : decode b_C_weighSets 132 = .ok (.iadd, 1) := by decide +kernel
theorem d_C_weighSets_133 : decode b_C_weighSets 133 = .ok (.aload_n 0, 1) := by decide +kernel
theorem d_C_weighSets_134 : decode b_C_weighSets 134 = .ok (.getfield 52, 3) := by decide +kernel
theorem d_C_weighSets_137 : decode b_C_weighSets 137 = .ok (.iload 10, 2) := by decide +kernel
theorem d_C_weighSets_139 : decode b_C_weighSets 139 = .ok (.laload, 1) := by decide +kernel
theorem d_C_weighSets_140 : decode b_C_weighSets 140 = .ok (.lload 7, 2) := by decide +kernel
theorem d_C_weighSets_142 : decode b_C_weighSets 142 = .ok (.ladd, 1) := by decide +kernel
theorem d_C_weighSets_143 : decode b_C_weighSets 143 = .ok (.lastore, 1) := by decide +kernel
theorem d_C_weighSets_144 : decode b_C_weighSets 144 = .ok (.aload_n 0, 1) := by decide +kernel
theorem d_C_weighSets_145 : decode b_C_weighSets 145 = .ok (.getfield 49, 3) := by decide +kernel
theorem d_C_weighSets_148 : decode b_C_weighSets 148 = .ok (.iload 10, 2) := by decide +kernel
theorem d_C_weighSets_150 : decode b_C_weighSets 150 = .ok (.aload_n 0, 1) := by decide +kernel
theorem d_C_weighSets_151 : decode b_C_weighSets 151 = .ok (.aload_n 1, 1) := by decide +kernel
theorem d_C_weighSets_152 : decode b_C_weighSets 152 = .ok (.iload 11, 2) := by decide +kernel
theorem d_C_weighSets_154 : decode b_C_weighSets 154 = .ok (.iload 5, 2) := by decide +kernel
theorem d_C_weighSets_156 : decode b_C_weighSets 156 = .ok (.iload 6, 2) := by decide +kernel
theorem d_C_weighSets_158 : decode b_C_weighSets 158 = .ok (.iconst 0, 1) := by decide +kernel
theorem d_C_weighSets_159 : decode b_C_weighSets 159 = .ok (.invokevirtual 154, 3) := by decide +kernel
theorem d_C_weighSets_162 : decode b_C_weighSets 162 = .ok (.iastore, 1) := by decide +kernel
theorem d_C_weighSets_163 : decode b_C_weighSets 163 = .ok (.iinc 10 1, 3) := by decide +kernel
theorem d_C_weighSets_166 : decode b_C_weighSets 166 = .ok (.goto (-83), 3) := by decide +kernel
theorem d_C_weighSets_169 : decode b_C_weighSets 169 = .ok (.iinc 4 1, 3) := by decide +kernel
theorem d_C_weighSets_172 : decode b_C_weighSets 172 = .ok (.goto (-139), 3) := by decide +kernel
theorem d_C_weighSets_175 : decode b_C_weighSets 175 = .ok (.return_, 1) := by decide +kernel
theorem d_M_init_0 : decode b_M_init 0 = .ok (.aload_n 0, 1) := by decide +kernel
theorem d_M_init_1 : decode b_M_init 1 = .ok (.invokespecial 1, 3) := by decide +kernel
theorem d_M_init_4 : decode b_M_init 4 = .ok (.aload_n 0, 1) := by decide +kernel
theorem d_M_init_5 : decode b_M_init 5 = .ok (.bipush 6, 2) := by decide +kernel
theorem d_M_init_7 : decode b_M_init 7 = .ok (.newarray .int, 2) := by decide +kernel
theorem d_M_init_9 : decode b_M_init 9 = .ok (.putfield 7, 3) := by decide +kernel
theorem d_M_init_12 : decode b_M_init 12 = .ok (.aload_n 0, 1) := by decide +kernel
theorem d_M_init_13 : decode b_M_init 13 = .ok (.bipush 6, 2) := by decide +kernel
theorem d_M_init_15 : decode b_M_init 15 = .ok (.newarray .int, 2) := by decide +kernel
theorem d_M_init_17 : decode b_M_init 17 = .ok (.putfield 13, 3) := by decide +kernel
theorem d_M_init_20 : decode b_M_init 20 = .ok (.aload_n 0, 1) := by decide +kernel
theorem d_M_init_21 : decode b_M_init 21 = .ok (.bipush 6, 2) := by decide +kernel
theorem d_M_init_23 : decode b_M_init 23 = .ok (.newarray .int, 2) := by decide +kernel
theorem d_M_init_25 : decode b_M_init 25 = .ok (.putfield 16, 3) := by decide +kernel
theorem d_M_init_28 : decode b_M_init 28 = .ok (.aload_n 0, 1) := by decide +kernel
theorem d_M_init_29 : decode b_M_init 29 = .ok (.bipush 6, 2) := by decide +kernel
theorem d_M_init_31 : decode b_M_init 31 = .ok (.newarray .int, 2) := by decide +kernel
theorem d_M_init_33 : decode b_M_init 33 = .ok (.putfield 19, 3) := by decide +kernel
theorem d_M_init_36 : decode b_M_init 36 = .ok (.aload_n 0, 1) := by decide +kernel
theorem d_M_init_37 : decode b_M_init 37 = .ok (.bipush 6, 2) := by decide +kernel
theorem d_M_init_39 : decode b_M_init 39 = .ok (.newarray .int, 2) := by decide +kernel
theorem d_M_init_41 : decode b_M_init 41 = .ok (.putfield 22, 3) := by decide +kernel
theorem d_M_init_44 : decode b_M_init 44 = .ok (.aload_n 0, 1) := by decide +kernel
theorem d_M_init_45 : decode b_M_init 45 = .ok (.bipush 6, 2) := by decide +kernel
theorem d_M_init_47 : decode b_M_init 47 = .ok (.newarray .int, 2) := by decide +kernel
theorem d_M_init_49 : decode b_M_init 49 = .ok (.putfield 25, 3) := by decide +kernel
theorem d_M_init_52 : decode b_M_init 52 = .ok (.aload_n 0, 1) := by decide +kernel
theorem d_M_init_53 : decode b_M_init 53 = .ok (.bipush 6, 2) := by decide +kernel
theorem d_M_init_55 : decode b_M_init 55 = .ok (.newarray .int, 2) := by decide +kernel
theorem d_M_init_57 : decode b_M_init 57 = .ok (.putfield 28, 3) := by decide +kernel
theorem d_M_init_60 : decode b_M_init 60 = .ok (.aload_n 0, 1) := by decide +kernel
theorem d_M_init_61 : decode b_M_init 61 = .ok (.bipush 6, 2) := by decide +kernel
theorem d_M_init_63 : decode b_M_init 63 = .ok (.newarray .long, 2) := by decide +kernel
theorem d_M_init_65 : decode b_M_init 65 = .ok (.putfield 31, 3) := by decide +kernel
theorem d_M_init_68 : decode b_M_init 68 = .ok (.aload_n 0, 1) := by decide +kernel
theorem d_M_init_69 : decode b_M_init 69 = .ok (.bipush 6, 2) := by decide +kernel
theorem d_M_init_71 : decode b_M_init 71 = .ok (.newarray .long, 2) := by decide +kernel
theorem d_M_init_73 : decode b_M_init 73 = .ok (.putfield 35, 3) := by decide +kernel
theorem d_M_init_76 : decode b_M_init 76 = .ok (.aload_n 0, 1) := by decide +kernel
theorem d_M_init_77 : decode b_M_init 77 = .ok (.bipush 24, 2) := by decide +kernel
theorem d_M_init_79 : decode b_M_init 79 = .ok (.newarray .int, 2) := by decide +kernel
theorem d_M_init_81 : decode b_M_init 81 = .ok (.putfield 38, 3) := by decide +kernel
theorem d_M_init_84 : decode b_M_init 84 = .ok (.aload_n 0, 1) := by decide +kernel
theorem d_M_init_85 : decode b_M_init 85 = .ok (.bipush 24, 2) := by decide +kernel
theorem d_M_init_87 : decode b_M_init 87 = .ok (.newarray .int, 2) := by decide +kernel
theorem d_M_init_89 : decode b_M_init 89 = .ok (.putfield 41, 3) := by decide +kernel
theorem d_M_init_92 : decode b_M_init 92 = .ok (.aload_n 0, 1) := by decide +kernel
theorem d_M_init_93 : decode b_M_init 93 = .ok (.ldc 44, 2) := by decide +kernel
theorem d_M_init_95 : decode b_M_init 95 = .ok (.putfield 45, 3) := by decide +kernel
theorem d_M_init_98 : decode b_M_init 98 = .ok (.aload_n 0, 1) := by decide +kernel
theorem d_M_init_99 : decode b_M_init 99 = .ok (.bipush 24, 2) := by decide +kernel
theorem d_M_init_101 : decode b_M_init 101 = .ok (.newarray .int, 2) := by decide +kernel
theorem d_M_init_103 : decode b_M_init 103 = .ok (.putfield 49, 3) := by decide +kernel
theorem d_M_init_106 : decode b_M_init 106 = .ok (.aload_n 0, 1) := by decide +kernel
theorem d_M_init_107 : decode b_M_init 107 = .ok (.iconst 1, 1) := by decide +kernel
theorem d_M_init_108 : decode b_M_init 108 = .ok (.putfield 52, 3) := by decide +kernel
theorem d_M_init_111 : decode b_M_init 111 = .ok (.aload_n 0, 1) := by decide +kernel
theorem d_M_init_112 : decode b_M_init 112 = .ok (.iconst 2, 1) := by decide +kernel
theorem d_M_init_113 : decode b_M_init 113 = .ok (.putfield 55, 3) := by decide +kernel
theorem d_M_init_116 : decode b_M_init 116 = .ok (.aload_n 0, 1) := by decide +kernel
theorem d_M_init_117 : decode b_M_init 117 = .ok (.sipush 1440, 3) := by decide +kernel
theorem d_M_init_120 : decode b_M_init 120 = .ok (.newarray .int, 2) := by decide +kernel
theorem d_M_init_122 : decode b_M_init 122 = .ok (.putfield 58, 3) := by decide +kernel
theorem d_M_init_125 : decode b_M_init 125 = .ok (.aload_n 0, 1) := by decide +kernel
theorem d_M_init_126 : decode b_M_init 126 = .ok (.sipush 1440, 3) := by decide +kernel
theorem d_M_init_129 : decode b_M_init 129 = .ok (.newarray .int, 2) := by decide +kernel
theorem d_M_init_131 : decode b_M_init 131 = .ok (.putfield 61, 3) := by decide +kernel
theorem d_M_init_134 : decode b_M_init 134 = .ok (.aload_n 0, 1) := by decide +kernel
theorem d_M_init_135 : decode b_M_init 135 = .ok (.bipush 6, 2) := by decide +kernel
theorem d_M_init_137 : decode b_M_init 137 = .ok (.newarray .int, 2) := by decide +kernel
theorem d_M_init_139 : decode b_M_init 139 = .ok (.putfield 64, 3) := by decide +kernel
theorem d_M_init_142 : decode b_M_init 142 = .ok (.aload_n 0, 1) := by decide +kernel
theorem d_M_init_143 : decode b_M_init 143 = .ok (.bipush 6, 2) := by decide +kernel
theorem d_M_init_145 : decode b_M_init 145 = .ok (.newarray .boolean, 2) := by decide +kernel
theorem d_M_init_147 : decode b_M_init 147 = .ok (.putfield 67, 3) := by decide +kernel
theorem d_M_init_150 : decode b_M_init 150 = .ok (.aload_n 0, 1) := by decide +kernel
theorem d_M_init_151 : decode b_M_init 151 = .ok (.sipush 8700, 3) := by decide +kernel
theorem d_M_init_154 : decode b_M_init 154 = .ok (.newarray .int, 2) := by decide +kernel
theorem d_M_init_156 : decode b_M_init 156 = .ok (.putfield 71, 3) := by decide +kernel
theorem d_M_init_159 : decode b_M_init 159 = .ok (.aload_n 0, 1) := by decide +kernel
theorem d_M_init_160 : decode b_M_init 160 = .ok (.bipush 6, 2) := by decide +kernel
theorem d_M_init_162 : decode b_M_init 162 = .ok (.newarray .boolean, 2) := by decide +kernel
theorem d_M_init_164 : decode b_M_init 164 = .ok (.putfield 74, 3) := by decide +kernel
theorem d_M_init_167 : decode b_M_init 167 = .ok (.return_, 1) := by decide +kernel
theorem d_M_thrown_0 : decode b_M_thrown 0 = .ok (.aload_n 0, 1) := by decide +kernel
theorem d_M_thrown_1 : decode b_M_thrown 1 = .ok (.getfield 77, 3) := by decide +kernel
theorem d_M_thrown_4 : decode b_M_thrown 4 = .ok (.ireturn, 1) := by decide +kernel
theorem d_M_fails_0 : decode b_M_fails 0 = .ok (.aload_n 0, 1) := by decide +kernel
theorem d_M_fails_1 : decode b_M_fails 1 = .ok (.getfield 77, 3) := by decide +kernel
theorem d_M_fails_4 : decode b_M_fails 4 = .ok (.ifCond .ne 12, 3) := by decide +kernel
theorem d_M_fails_7 : decode b_M_fails 7 = .ok (.iload_n 1, 1) := by decide +kernel
theorem d_M_fails_8 : decode b_M_fails 8 = .ok (.ifCond .eq 8, 3) := by decide +kernel
theorem d_M_fails_11 : decode b_M_fails 11 = .ok (.aload_n 0, 1) := by decide +kernel
theorem d_M_fails_12 : decode b_M_fails 12 = .ok (.iload_n 2, 1) := by decide +kernel
theorem d_M_fails_13 : decode b_M_fails 13 = .ok (.putfield 77, 3) := by decide +kernel
theorem d_M_fails_16 : decode b_M_fails 16 = .ok (.aload_n 0, 1) := by decide +kernel
theorem d_M_fails_17 : decode b_M_fails 17 = .ok (.getfield 77, 3) := by decide +kernel
theorem d_M_fails_20 : decode b_M_fails 20 = .ok (.ifCond .le 7, 3) := by decide +kernel
theorem d_M_fails_23 : decode b_M_fails 23 = .ok (.iconst 1, 1) := by decide +kernel
theorem d_M_fails_24 : decode b_M_fails 24 = .ok (.goto 4, 3) := by decide +kernel
theorem d_M_fails_27 : decode b_M_fails 27 = .ok (.iconst 0, 1) := by decide +kernel
theorem d_M_fails_28 : decode b_M_fails 28 = .ok (.ireturn, 1) := by decide +kernel
theorem d_M_within_0 : decode b_M_within 0 = .ok (.iload_n 0, 1) := by decide +kernel
theorem d_M_within_1 : decode b_M_within 1 = .ok (.iload_n 1, 1) := by decide +kernel
theorem d_M_within_2 : decode b_M_within 2 = .ok (.if_icmp .lt 12, 3) := by decide +kernel
theorem d_M_within_5 : decode b_M_within 5 = .ok (.iload_n 0, 1) := by decide +kernel
theorem d_M_within_6 : decode b_M_within 6 = .ok (.iload_n 2, 1) := by decide +kernel
theorem d_M_within_7 : decode b_M_within 7 = .ok (.if_icmp .gt 7, 3) := by decide +kernel
theorem d_M_within_10 : decode b_M_within 10 = .ok (.iconst 1, 1) := by decide +kernel
theorem d_M_within_11 : decode b_M_within 11 = .ok (.goto 4, 3) := by decide +kernel
theorem d_M_within_14 : decode b_M_within 14 = .ok (.iconst 0, 1) := by decide +kernel
theorem d_M_within_15 : decode b_M_within 15 = .ok (.ireturn, 1) := by decide +kernel
theorem d_M_isZone_0 : decode b_M_isZone 0 = .ok (.iload_n 1, 1) := by decide +kernel
theorem d_M_isZone_1 : decode b_M_isZone 1 = .ok (.ifCond .lt 15, 3) := by decide +kernel
theorem d_M_isZone_4 : decode b_M_isZone 4 = .ok (.iload_n 1, 1) := by decide +kernel
theorem d_M_isZone_5 : decode b_M_isZone 5 = .ok (.aload_n 0, 1) := by decide +kernel
theorem d_M_isZone_6 : decode b_M_isZone 6 = .ok (.getfield 80, 3) := by decide +kernel
theorem d_M_isZone_9 : decode b_M_isZone 9 = .ok (.if_icmp .ge 7, 3) := by decide +kernel
theorem d_M_isZone_12 : decode b_M_isZone 12 = .ok (.iconst 1, 1) := by decide +kernel
theorem d_M_isZone_13 : decode b_M_isZone 13 = .ok (.goto 4, 3) := by decide +kernel
theorem d_M_isZone_16 : decode b_M_isZone 16 = .ok (.iconst 0, 1) := by decide +kernel
theorem d_M_isZone_17 : decode b_M_isZone 17 = .ok (.ireturn, 1) := by decide +kernel
theorem d_M_zone_0 : decode b_M_zone 0 = .ok (.aload_n 0, 1) := by decide +kernel
theorem d_M_zone_1 : decode b_M_zone 1 = .ok (.iconst 0, 1) := by decide +kernel
theorem d_M_zone_2 : decode b_M_zone 2 = .ok (.putfield 77, 3) := by decide +kernel
theorem d_M_zone_5 : decode b_M_zone 5 = .ok (.aload_n 0, 1) := by decide +kernel
theorem d_M_zone_6 : decode b_M_zone 6 = .ok (.iload_n 1, 1) := by decide +kernel
theorem d_M_zone_7 : decode b_M_zone 7 = .ok (.iconst 1, 1) := by decide +kernel
theorem d_M_zone_8 : decode b_M_zone 8 = .ok (.sipush 1000, 3) := by decide +kernel
theorem d_M_zone_11 : decode b_M_zone 11 = .ok (.invokestatic 83, 3) := by decide +kernel
theorem d_M_zone_14 : decode b_M_zone 14 = .ok (.ifCond .eq 14, 3) := by decide +kernel
theorem d_M_zone_17 : decode b_M_zone 17 = .ok (.iload_n 2, 1) := by decide +kernel
theorem d_M_zone_18 : decode b_M_zone 18 = .ok (.iconst 1, 1) := by decide +kernel
theorem d_M_zone_19 : decode b_M_zone 19 = .ok (.sipush 1000, 3) := by decide +kernel
theorem d_M_zone_22 : decode b_M_zone 22 = .ok (.invokestatic 83, 3) := by decide +kernel
theorem d_M_zone_25 : decode b_M_zone 25 = .ok (.ifCond .ne 7, 3) := by decide +kernel
theorem d_M_zone_28 : decode b_M_zone 28 = .ok (.iconst 1, 1) := by decide +kernel
theorem d_M_zone_29 : decode b_M_zone 29 = .ok (.goto 4, 3) := by decide +kernel
theorem d_M_zone_32 : decode b_M_zone 32 = .ok (.iconst 0, 1) := by decide +kernel
theorem d_M_zone_33 : decode b_M_zone 33 = .ok (.iconst 1, 1) := by decide +kernel
theorem d_M_zone_34 : decode b_M_zone 34 = .ok (.invokevirtual 87, 3) := by decide +kernel
theorem d_M_zone_37 : decode b_M_zone 37 = .ok (.pop, 1) := by decide +kernel
theorem d_M_zone_38 : decode b_M_zone 38 = .ok (.aload_n 0, 1) := by decide +kernel
theorem d_M_zone_39 : decode b_M_zone 39 = .ok (.aload_n 0, 1) := by decide +kernel
theorem d_M_zone_40 : decode b_M_zone 40 = .ok (.getfield 80, 3) := by decide +kernel
theorem d_M_zone_43 : decode b_M_zone 43 = .ok (.bipush 6, 2) := by decide +kernel
theorem d_M_zone_45 : decode b_M_zone 45 = .ok (.if_icmp .ne 7, 3) := by decide +kernel
theorem d_M_zone_48 : decode b_M_zone 48 = .ok (.iconst 1, 1) := by decide +kernel
theorem d_M_zone_49 : decode b_M_zone 49 = .ok (.goto 4, 3) := by decide +kernel
theorem d_M_zone_52 : decode b_M_zone 52 = .ok (.iconst 0, 1) := by decide +kernel
theorem d_M_zone_53 : decode b_M_zone 53 = .ok (.iconst 2, 1) := by decide +kernel
theorem d_M_zone_54 : decode b_M_zone 54 = .ok (.invokevirtual 87, 3) := by decide +kernel
theorem d_M_zone_57 : decode b_M_zone 57 = .ok (.ifCond .eq 5, 3) := by decide +kernel
theorem d_M_zone_60 : decode b_M_zone 60 = .ok (.iconst 0, 1) := by decide +kernel
theorem d_M_zone_61 : decode b_M_zone 61 = .ok (.ireturn, 1) := by decide +kernel
theorem d_M_zone_62 : decode b_M_zone 62 = .ok (.aload_n 0, 1) := by decide +kernel
theorem d_M_zone_63 : decode b_M_zone 63 = .ok (.getfield 7, 3) := by decide +kernel
theorem d_M_zone_66 : decode b_M_zone 66 = .ok (.aload_n 0, 1) := by decide +kernel
theorem d_M_zone_67 : decode b_M_zone 67 = .ok (.getfield 80, 3) := by decide +kernel
theorem d_M_zone_70 : decode b_M_zone 70 = .ok (.iload_n 1, 1) := by decide +kernel
theorem d_M_zone_71 : decode b_M_zone 71 = .ok (.iastore, 1) := by decide +kernel
theorem d_M_zone_72 : decode b_M_zone 72 = .ok (.aload_n 0, 1) := by decide +kernel
theorem d_M_zone_73 : decode b_M_zone 73 = .ok (.getfield 13, 3) := by decide +kernel
theorem d_M_zone_76 : decode b_M_zone 76 = .ok (.aload_n 0, 1) := by decide +kernel
theorem d_M_zone_77 : decode b_M_zone 77 = .ok (.getfield 80, 3) := by decide +kernel
theorem d_M_zone_80 : decode b_M_zone 80 = .ok (.iload_n 2, 1) := by decide +kernel
theorem d_M_zone_81 : decode b_M_zone 81 = .ok (.iastore, 1) := by decide +kernel
theorem d_M_zone_82 : decode b_M_zone 82 = .ok (.aload_n 0, 1) := by decide +kernel
theorem d_M_zone_83 : decode b_M_zone 83 = .ok (.getfield 19, 3) := by decide +kernel
theorem d_M_zone_86 : decode b_M_zone 86 = .ok (.aload_n 0, 1) := by decide +kernel
theorem d_M_zone_87 : decode b_M_zone 87 = .ok (.getfield 80, 3) := by decide +kernel
theorem d_M_zone_90 : decode b_M_zone 90 = .ok (.sipush 1000, 3) := by decide +kernel
theorem d_M_zone_93 : decode b_M_zone 93 = .ok (.iastore, 1) := by decide +kernel
theorem d_M_zone_94 : decode b_M_zone 94 = .ok (.aload_n 0, 1) := by decide +kernel
theorem d_M_zone_95 : decode b_M_zone 95 = .ok (.getfield 25, 3) := by decide +kernel
theorem d_M_zone_98 : decode b_M_zone 98 = .ok (.aload_n 0, 1) := by decide +kernel
theorem d_M_zone_99 : decode b_M_zone 99 = .ok (.getfield 80, 3) := by decide +kernel
theorem d_M_zone_102 : decode b_M_zone 102 = .ok (.iconst (-1), 1) := by decide +kernel
theorem d_M_zone_103 : decode b_M_zone 103 = .ok (.iastore, 1) := by decide +kernel
theorem d_M_zone_104 : decode b_M_zone 104 = .ok (.aload_n 0, 1) := by decide +kernel
theorem d_M_zone_105 : decode b_M_zone 105 = .ok (.getfield 35, 3) := by decide +kernel
theorem d_M_zone_108 : decode b_M_zone 108 = .ok (.aload_n 0, 1) := by decide +kernel
theorem d_M_zone_109 : decode b_M_zone 109 = .ok (.getfield 80, 3) := by decide +kernel
theorem d_M_zone_112 : decode b_M_zone 112 = .ok (.lconst 1, 1) := by decide +kernel
theorem d_M_zone_113 : decode b_M_zone 113 = .ok (.lastore, 1) := by decide +kernel
theorem d_M_zone_114 : decode b_M_zone 114 = .ok (.aload_n 0, 1) := by decide +kernel
theorem d_M_zone_115 : decode b_M_zone 115 = .ok (.dup, 1) := by decide +kernel
theorem d_M_zone_116 : decode b_M_zone 116 = .ok (.getfield 80, 3) := by decide +kernel
theorem d_M_zone_119 : decode b_M_zone 119 = .ok (.iconst 1, 1) := by decide +kernel
theorem d_M_zone_120 : decode b_M_zone 120 = .ok (.iadd, 1) := by decide +kernel
theorem d_M_zone_121 : decode b_M_zone 121 = .ok (.putfield 80, 3) := by decide +kernel
theorem d_M_zone_124 : decode b_M_zone 124 = .ok (.aload_n 0, 1) := by decide +kernel
theorem d_M_zone_125 : decode b_M_zone 125 = .ok (.iconst 0, 1) := by decide +kernel
theorem d_M_zone_126 : decode b_M_zone 126 = .ok (.putfield 91, 3) := by decide +kernel
theorem d_M_zone_129 : decode b_M_zone 129 = .ok (.aload_n 0, 1) := by decide +kernel
theorem d_M_zone_130 : decode b_M_zone 130 = .ok (.getfield 80, 3) := by decide +kernel
theorem d_M_zone_133 : decode b_M_zone 133 = .ok (.iconst 1, 1) := by decide +kernel
theorem d_M_zone_134 : decode b_M_zone 134 = .ok (.isub, 1) := by decide +kernel
theorem d_M_zone_135 : decode b_M_zone 135 = .ok (.ireturn, 1) := by decide +kernel
theorem d_M_set_0 : decode b_M_set 0 = .ok (.aload_n 0, 1) := by decide +kernel
theorem d_M_set_1 : decode b_M_set 1 = .ok (.iconst 0, 1) := by decide +kernel
theorem d_M_set_2 : decode b_M_set 2 = .ok (.putfield 77, 3) := by decide +kernel
theorem d_M_set_5 : decode b_M_set 5 = .ok (.iload_n 2, 1) := by decide +kernel
theorem d_M_set_6 : decode b_M_set 6 = .ok (.ifCond .ne 16, 3) := by decide +kernel
theorem d_M_set_9 : decode b_M_set 9 = .ok (.iload_n 3, 1) := by decide +kernel
theorem d_M_set_10 : decode b_M_set 10 = .ok (.sipush (-10000), 3) := by decide +kernel
theorem d_M_set_13 : decode b_M_set 13 = .ok (.sipush 10000, 3) := by decide +kernel
theorem d_M_set_16 : decode b_M_set 16 = .ok (.invokestatic 83, 3) := by decide +kernel
theorem d_M_set_19 : decode b_M_set 19 = .ok (.ifCond .ne 33, 3) := by decide +kernel
theorem d_M_set_22 : decode b_M_set 22 = .ok (.iload_n 2, 1) := by decide +kernel
theorem d_M_set_23 : decode b_M_set 23 = .ok (.iconst 1, 1) := by decide +kernel
theorem d_M_set_24 : decode b_M_set 24 = .ok (.if_icmp .ne 13, 3) := by decide +kernel
theorem d_M_set_27 : decode b_M_set 27 = .ok (.iload_n 3, 1) := by decide +kernel
theorem d_M_set_28 : decode b_M_set 28 = .ok (.iconst 0, 1) := by decide +kernel
theorem d_M_set_29 : decode b_M_set 29 = .ok (.ldc 44, 2) := by decide +kernel
theorem d_M_set_31 : decode b_M_set 31 = .ok (.invokestatic 83, 3) := by decide +kernel
theorem d_M_set_34 : decode b_M_set 34 = .ok (.ifCond .ne 18, 3) := by decide +kernel
theorem d_M_set_37 : decode b_M_set 37 = .ok (.iload_n 2, 1) := by decide +kernel
theorem d_M_set_38 : decode b_M_set 38 = .ok (.iconst 2, 1) := by decide +kernel
theorem d_M_set_39 : decode b_M_set 39 = .ok (.if_icmp .ne 17, 3) := by decide +kernel
theorem d_M_set_42 : decode b_M_set 42 = .ok (.iload_n 3, 1) := by decide +kernel
theorem d_M_set_43 : decode b_M_set 43 = .ok (.iconst 0, 1) := by decide +kernel
theorem d_M_set_44 : decode b_M_set 44 = .ok (.bipush 9, 2) := by decide +kernel
theorem d_M_set_46 : decode b_M_set 46 = .ok (.invokestatic 83, 3) := by decide +kernel
theorem d_M_set_49 : decode b_M_set 49 = .ok (.ifCond .eq 7, 3) := by decide +kernel
theorem d_M_set_52 : decode b_M_set 52 = .ok (.iconst 1, 1) := by decide +kernel
theorem d_M_set_53 : decode b_M_set 53 = .ok (.goto 4, 3) := by decide +kernel
theorem d_M_set_56 : decode b_M_set 56 = .ok (.iconst 0, 1) := by decide +kernel
theorem d_M_set_57 : decode b_M_set 57 = .ok (.istore 4, 2) := by decide +kernel
theorem d_M_set_59 : decode b_M_set 59 = .ok (.aload_n 0, 1) := by decide +kernel
theorem d_M_set_60 : decode b_M_set 60 = .ok (.aload_n 0, 1) := by decide +kernel
theorem d_M_set_61 : decode b_M_set 61 = .ok (.iload_n 1, 1) := by decide +kernel
theorem d_M_set_62 : decode b_M_set 62 = .ok (.invokevirtual 95, 3) := by decide +kernel
theorem d_M_set_65 : decode b_M_set 65 = .ok (.ifCond .eq 8, 3) := by decide +kernel
theorem d_M_set_68 : decode b_M_set 68 = .ok (.iload 4, 2) := by decide +kernel
theorem d_M_set_70 : decode b_M_set 70 = .ok (.ifCond .ne 7, 3) := by decide +kernel
theorem d_M_set_73 : decode b_M_set 73 = .ok (.iconst 1, 1) := by decide +kernel
theorem d_M_set_74 : decode b_M_set 74 = .ok (.goto 4, 3) := by decide +kernel
theorem d_M_set_77 : decode b_M_set 77 = .ok (.iconst 0, 1) := by decide +kernel
theorem d_M_set_78 : decode b_M_set 78 = .ok (.iconst 1, 1) := by decide +kernel
theorem d_M_set_79 : decode b_M_set 79 = .ok (.invokevirtual 87, 3) := by decide +kernel
theorem d_M_set_82 : decode b_M_set 82 = .ok (.ifCond .eq 5, 3) := by decide +kernel
theorem d_M_set_85 : decode b_M_set 85 = .ok (.iconst 0, 1) := by decide +kernel
theorem d_M_set_86 : decode b_M_set 86 = .ok (.ireturn, 1) := by decide +kernel
theorem d_M_set_87 : decode b_M_set 87 = .ok (.iload_n 2, 1) := by decide +kernel
theorem d_M_set_88 : decode b_M_set 88 = .ok (.ifCond .ne 12, 3) := by decide +kernel
theorem d_M_set_91 : decode b_M_set 91 = .ok (.aload_n 0, 1) := by decide +kernel
theorem d_M_set_92 : decode b_M_set 92 = .ok (.getfield 16, 3) := by decide +kernel
theorem d_M_set_95 : decode b_M_set 95 = .ok (.iload_n 1, 1) := by decide +kernel
theorem d_M_set_96 : decode b_M_set 96 = .ok (.iaload, 1) := by decide +kernel
theorem d_M_set_97 : decode b_M_set 97 = .ok (.goto 23, 3) := by decide +kernel
theorem d_M_set_100 : decode b_M_set 100 = .ok (.iload_n 2, 1) := by decide +kernel
theorem d_M_set_101 : decode b_M_set 101 = .ok (.iconst 1, 1) := by decide +kernel
theorem d_M_set_102 : decode b_M_set 102 = .ok (.if_icmp .ne 12, 3) := by decide +kernel
theorem d_M_set_105 : decode b_M_set 105 = .ok (.aload_n 0, 1) := by decide +kernel
theorem d_M_set_106 : decode b_M_set 106 = .ok (.getfield 19, 3) := by decide +kernel
theorem d_M_set_109 : decode b_M_set 109 = .ok (.iload_n 1, 1) := by decide +kernel
theorem d_M_set_110 : decode b_M_set 110 = .ok (.iaload, 1) := by decide +kernel
theorem d_M_set_111 : decode b_M_set 111 = .ok (.goto 9, 3) := by decide +kernel
theorem d_M_set_114 : decode b_M_set 114 = .ok (.aload_n 0, 1) := by decide +kernel
theorem d_M_set_115 : decode b_M_set 115 = .ok (.getfield 22, 3) := by decide +kernel
theorem d_M_set_118 : decode b_M_set 118 = .ok (.iload_n 1, 1) := by decide +kernel
theorem d_M_set_119 : decode b_M_set 119 = .ok (.iaload, 1) := by decide +kernel
theorem d_M_set_120 : decode b_M_set 120 = .ok (.istore 5, 2) := by decide +kernel
theorem d_M_set_122 : decode b_M_set 122 = .ok (.iload_n 2, 1) := by decide +kernel
theorem d_M_set_148 : decode b_M_set 148 = .ok (.aload_n 0, 1) := by decide +kernel
theorem d_M_set_149 : decode b_M_set 149 = .ok (.getfield 16, 3) := by decide +kernel
theorem d_M_set_152 : decode b_M_set 152 = .ok (.iload_n 1, 1) := by decide +kernel
theorem d_M_set_153 : decode b_M_set 153 = .ok (.iload_n 3, 1) := by decide +kernel
theorem d_M_set_154 : decode b_M_set 154 = .ok (.iastore, 1) := by decide +kernel
theorem d_M_set_155 : decode b_M_set 155 = .ok (.goto 20, 3) := by decide +kernel
theorem d_M_set_158 : decode b_M_set 158 = .ok (.aload_n 0, 1) := by decide +kernel
theorem d_M_set_159 : decode b_M_set 159 = .ok (.getfield 19, 3) := by decide +kernel
theorem d_M_set_162 : decode b_M_set 162 = .ok (.iload_n 1, 1) := by decide +kernel
theorem d_M_set_163 : decode b_M_set 163 = .ok (.iload_n 3, 1) := by decide +kernel
theorem d_M_set_164 : decode b_M_set 164 = .ok (.iastore, 1) := by decide +kernel
theorem d_M_set_165 : decode b_M_set 165 = .ok (.goto 10, 3) := by decide +kernel
theorem d_M_set_168 : decode b_M_set 168 = .ok (.aload_n 0, 1) := by decide +kernel
theorem d_M_set_169 : decode b_M_set 169 = .ok (.getfield 22, 3) := by decide +kernel
theorem d_M_set_172 : decode b_M_set 172 = .ok (.iload_n 1, 1) := by decide +kernel
theorem d_M_set_173 : decode b_M_set 173 = .ok (.iload_n 3, 1) := by decide +kernel
theorem d_M_set_174 : decode b_M_set 174 = .ok (.iastore, 1) := by decide +kernel
theorem d_M_set_175 : decode b_M_set 175 = .ok (.aload_n 0, 1) := by decide +kernel
theorem d_M_set_176 : decode b_M_set 176 = .ok (.iconst 0, 1) := by decide +kernel
theorem d_M_set_177 : decode b_M_set 177 = .ok (.putfield 91, 3) := by decide +kernel
theorem d_M_set_180 : decode b_M_set 180 = .ok (.iload 5, 2) := by decide +kernel
theorem d_M_set_182 : decode b_M_set 182 = .ok (.ireturn, 1) := by decide +kernel
theorem d_M_want_0 : decode b_M_want 0 = .ok (.aload_n 0, 1) := by decide +kernel
theorem d_M_want_1 : decode b_M_want 1 = .ok (.iconst 0, 1) := by decide +kernel
theorem d_M_want_2 : decode b_M_want 2 = .ok (.putfield 77, 3) := by decide +kernel
theorem d_M_want_5 : decode b_M_want 5 = .ok (.aload_n 0, 1) := by decide +kernel
theorem d_M_want_6 : decode b_M_want 6 = .ok (.aload_n 0, 1) := by decide +kernel
theorem d_M_want_7 : decode b_M_want 7 = .ok (.iload_n 1, 1) := by decide +kernel
theorem d_M_want_8 : decode b_M_want 8 = .ok (.invokevirtual 95, 3) := by decide +kernel
theorem d_M_want_11 : decode b_M_want 11 = .ok (.ifCond .eq 27, 3) := by decide +kernel
theorem d_M_want_14 : decode b_M_want 14 = .ok (.iload_n 2, 1) := by decide +kernel
theorem d_M_want_15 : decode b_M_want 15 = .ok (.iconst (-1), 1) := by decide +kernel
theorem d_M_want_16 : decode b_M_want 16 = .ok (.sipush 1439, 3) := by decide +kernel
theorem d_M_want_19 : decode b_M_want 19 = .ok (.invokestatic 83, 3) := by decide +kernel
theorem d_M_want_22 : decode b_M_want 22 = .ok (.ifCond .eq 16, 3) := by decide +kernel
theorem d_M_want_25 : decode b_M_want 25 = .ok (.iload_n 3, 1) := by decide +kernel
theorem d_M_want_26 : decode b_M_want 26 = .ok (.sipush (-10000), 3) := by decide +kernel
theorem d_M_want_29 : decode b_M_want 29 = .ok (.sipush 10000, 3) := by decide +kernel
theorem d_M_want_32 : decode b_M_want 32 = .ok (.invokestatic 83, 3) := by decide +kernel
theorem d_M_want_35 : decode b_M_want 35 = .ok (.ifCond .ne 7, 3) := by decide +kernel
theorem d_M_want_38 : decode b_M_want 38 = .ok (.iconst 1, 1) := by decide +kernel
theorem d_M_want_39 : decode b_M_want 39 = .ok (.goto 4, 3) := by decide +kernel
theorem d_M_want_42 : decode b_M_want 42 = .ok (.iconst 0, 1) := by decide +kernel
theorem d_M_want_43 : decode b_M_want 43 = .ok (.iconst 1, 1) := by decide +kernel
theorem d_M_want_44 : decode b_M_want 44 = .ok (.invokevirtual 87, 3) := by decide +kernel
theorem d_M_want_47 : decode b_M_want 47 = .ok (.ifCond .eq 4, 3) := by decide +kernel
theorem d_M_want_50 : decode b_M_want 50 = .ok (.return_, 1) := by decide +kernel
theorem d_M_want_51 : decode b_M_want 51 = .ok (.aload_n 0, 1) := by decide +kernel
theorem d_M_want_52 : decode b_M_want 52 = .ok (.getfield 25, 3) := by decide +kernel
theorem d_M_want_55 : decode b_M_want 55 = .ok (.iload_n 1, 1) := by decide +kernel
theorem d_M_want_56 : decode b_M_want 56 = .ok (.iload_n 2, 1) := by decide +kernel
theorem d_M_want_57 : decode b_M_want 57 = .ok (.iastore, 1) := by decide +kernel
theorem d_M_want_58 : decode b_M_want 58 = .ok (.aload_n 0, 1) := by decide +kernel
theorem d_M_want_59 : decode b_M_want 59 = .ok (.getfield 28, 3) := by decide +kernel
theorem d_M_want_62 : decode b_M_want 62 = .ok (.iload_n 1, 1) := by decide +kernel
theorem d_M_want_63 : decode b_M_want 63 = .ok (.iload_n 3, 1) := by decide +kernel
theorem d_M_want_64 : decode b_M_want 64 = .ok (.iastore, 1) := by decide +kernel
theorem d_M_want_65 : decode b_M_want 65 = .ok (.aload_n 0, 1) := by decide +kernel
theorem d_M_want_66 : decode b_M_want 66 = .ok (.iconst 0, 1) := by decide +kernel
theorem d_M_want_67 : decode b_M_want 67 = .ok (.putfield 91, 3) := by decide +kernel
theorem d_M_want_70 : decode b_M_want 70 = .ok (.return_, 1) := by decide +kernel
theorem d_M_outside_0 : decode b_M_outside 0 = .ok (.aload_n 0, 1) := by decide +kernel
theorem d_M_outside_1 : decode b_M_outside 1 = .ok (.iconst 0, 1) := by decide +kernel
theorem d_M_outside_2 : decode b_M_outside 2 = .ok (.putfield 77, 3) := by decide +kernel
theorem d_M_outside_5 : decode b_M_outside 5 = .ok (.aload_n 0, 1) := by decide +kernel
theorem d_M_outside_6 : decode b_M_outside 6 = .ok (.iload_n 1, 1) := by decide +kernel
theorem d_M_outside_7 : decode b_M_outside 7 = .ok (.iconst 0, 1) := by decide +kernel
theorem d_M_outside_8 : decode b_M_outside 8 = .ok (.sipush 1439, 3) := by decide +kernel
theorem d_M_outside_11 : decode b_M_outside 11 = .ok (.invokestatic 83, 3) := by decide +kernel
theorem d_M_outside_14 : decode b_M_outside 14 = .ok (.ifCond .eq 16, 3) := by decide +kernel
theorem d_M_outside_17 : decode b_M_outside 17 = .ok (.iload_n 2, 1) := by decide +kernel
theorem d_M_outside_18 : decode b_M_outside 18 = .ok (.sipush (-10000), 3) := by decide +kernel
theorem d_M_outside_21 : decode b_M_outside 21 = .ok (.sipush 10000, 3) := by decide +kernel
theorem d_M_outside_24 : decode b_M_outside 24 = .ok (.invokestatic 83, 3) := by decide +kernel
theorem d_M_outside_27 : decode b_M_outside 27 = .ok (.ifCond .ne 7, 3) := by decide +kernel
theorem d_M_outside_30 : decode b_M_outside 30 = .ok (.iconst 1, 1) := by decide +kernel
theorem d_M_outside_31 : decode b_M_outside 31 = .ok (.goto 4, 3) := by decide +kernel
theorem d_M_outside_34 : decode b_M_outside 34 = .ok (.iconst 0, 1) := by decide +kernel
theorem d_M_outside_35 : decode b_M_outside 35 = .ok (.iconst 1, 1) := by decide +kernel
theorem d_M_outside_36 : decode b_M_outside 36 = .ok (.invokevirtual 87, 3) := by decide +kernel
theorem d_M_outside_39 : decode b_M_outside 39 = .ok (.pop, 1) := by decide +kernel
theorem d_M_outside_40 : decode b_M_outside 40 = .ok (.aload_n 0, 1) := by decide +kernel
theorem d_M_outside_41 : decode b_M_outside 41 = .ok (.aload_n 0, 1) := by decide +kernel
theorem d_M_outside_42 : decode b_M_outside 42 = .ok (.getfield 99, 3) := by decide +kernel
theorem d_M_outside_45 : decode b_M_outside 45 = .ok (.bipush 24, 2) := by decide +kernel
theorem d_M_outside_47 : decode b_M_outside 47 = .ok (.if_icmp .eq 25, 3) := by decide +kernel
theorem d_M_outside_50 : decode b_M_outside 50 = .ok (.aload_n 0, 1) := by decide +kernel
theorem d_M_outside_51 : decode b_M_outside 51 = .ok (.getfield 99, 3) := by decide +kernel
theorem d_M_outside_54 : decode b_M_outside 54 = .ok (.ifCond .le 22, 3) := by decide +kernel
theorem d_M_outside_57 : decode b_M_outside 57 = .ok (.aload_n 0, 1) := by decide +kernel
theorem d_M_outside_58 : decode b_M_outside 58 = .ok (.getfield 38, 3) := by decide +kernel
theorem d_M_outside_61 : decode b_M_outside 61 = .ok (.aload_n 0, 1) := by decide +kernel
theorem d_M_outside_62 : decode b_M_outside 62 = .ok (.getfield 99, 3) := by decide +kernel
theorem d_M_outside_65 : decode b_M_outside 65 = .ok (.iconst 1, 1) := by decide +kernel
theorem d_M_outside_66 : decode b_M_outside 66 = .ok (.isub, 1) := by decide +kernel
theorem d_M_outside_67 : decode b_M_outside 67 = .ok (.iaload, 1) := by decide +kernel
theorem d_M_outside_68 : decode b_M_outside 68 = .ok (.iload_n 1, 1) := by decide +kernel
theorem d_M_outside_69 : decode b_M_outside 69 = .ok (.if_icmp .lt 7, 3) := by decide +kernel
theorem d_M_outside_72 : decode b_M_outside 72 = .ok (.iconst 1, 1) := by decide +kernel
theorem d_M_outside_73 : decode b_M_outside 73 = .ok (.goto 4, 3) := by decide +kernel
theorem d_M_outside_76 : decode b_M_outside 76 = .ok (.iconst 0, 1) := by decide +kernel
theorem d_M_outside_77 : decode b_M_outside 77 = .ok (.iconst 2, 1) := by decide +kernel
theorem d_M_outside_78 : decode b_M_outside 78 = .ok (.invokevirtual 87, 3) := by decide +kernel
theorem d_M_outside_81 : decode b_M_outside 81 = .ok (.ifCond .eq 5, 3) := by decide +kernel
theorem d_M_outside_84 : decode b_M_outside 84 = .ok (.iconst 0, 1) := by decide +kernel
theorem d_M_outside_85 : decode b_M_outside 85 = .ok (.ireturn, 1) := by decide +kernel
theorem d_M_outside_86 : decode b_M_outside 86 = .ok (.aload_n 0, 1) := by decide +kernel
theorem d_M_outside_87 : decode b_M_outside 87 = .ok (.getfield 38, 3) := by decide +kernel
theorem d_M_outside_90 : decode b_M_outside 90 = .ok (.aload_n 0, 1) := by decide +kernel
theorem d_M_outside_91 : decode b_M_outside 91 = .ok (.getfield 99, 3) := by decide +kernel
theorem d_M_outside_94 : decode b_M_outside 94 = .ok (.iload_n 1, 1) := by decide +kernel
theorem d_M_outside_95 : decode b_M_outside 95 = .ok (.iastore, 1) := by decide +kernel
theorem d_M_outside_96 : decode b_M_outside 96 = .ok (.aload_n 0, 1) := by decide +kernel
theorem d_M_outside_97 : decode b_M_outside 97 = .ok (.getfield 41, 3) := by decide +kernel
theorem d_M_outside_100 : decode b_M_outside 100 = .ok (.aload_n 0, 1) := by decide +kernel
theorem d_M_outside_101 : decode b_M_outside 101 = .ok (.getfield 99, 3) := by decide +kernel
theorem d_M_outside_104 : decode b_M_outside 104 = .ok (.iload_n 2, 1) := by decide +kernel
theorem d_M_outside_105 : decode b_M_outside 105 = .ok (.iastore, 1) := by decide +kernel
theorem d_M_outside_106 : decode b_M_outside 106 = .ok (.aload_n 0, 1) := by decide +kernel
theorem d_M_outside_107 : decode b_M_outside 107 = .ok (.dup, 1) := by decide +kernel
theorem d_M_outside_108 : decode b_M_outside 108 = .ok (.getfield 99, 3) := by decide +kernel
theorem d_M_outside_111 : decode b_M_outside 111 = .ok (.iconst 1, 1) := by decide +kernel
theorem d_M_outside_112 : decode b_M_outside 112 = .ok (.iadd, 1) := by decide +kernel
theorem d_M_outside_113 : decode b_M_outside 113 = .ok (.putfield 99, 3) := by decide +kernel
theorem d_M_outside_116 : decode b_M_outside 116 = .ok (.aload_n 0, 1) := by decide +kernel
theorem d_M_outside_117 : decode b_M_outside 117 = .ok (.iconst 0, 1) := by decide +kernel
theorem d_M_outside_118 : decode b_M_outside 118 = .ok (.putfield 91, 3) := by decide +kernel
theorem d_M_outside_121 : decode b_M_outside 121 = .ok (.aload_n 0, 1) := by decide +kernel
theorem d_M_outside_122 : decode b_M_outside 122 = .ok (.getfield 99, 3) := by decide +kernel
theorem d_M_outside_125 : decode b_M_outside 125 = .ok (.ireturn, 1) := by decide +kernel
theorem d_M_machine_0 : decode b_M_machine 0 = .ok (.aload_n 0, 1) := by decide +kernel
theorem d_M_machine_1 : decode b_M_machine 1 = .ok (.iconst 0, 1) := by decide +kernel
theorem d_M_machine_2 : decode b_M_machine 2 = .ok (.putfield 77, 3) := by decide +kernel
theorem d_M_machine_5 : decode b_M_machine 5 = .ok (.aload_n 0, 1) := by decide +kernel
theorem d_M_machine_6 : decode b_M_machine 6 = .ok (.iload_n 1, 1) := by decide +kernel
theorem d_M_machine_7 : decode b_M_machine 7 = .ok (.iconst 0, 1) := by decide +kernel
theorem d_M_machine_8 : decode b_M_machine 8 = .ok (.ldc 102, 2) := by decide +kernel
theorem d_M_machine_10 : decode b_M_machine 10 = .ok (.invokestatic 83, 3) := by decide +kernel
theorem d_M_machine_13 : decode b_M_machine 13 = .ok (.ifCond .ne 7, 3) := by decide +kernel
theorem d_M_machine_16 : decode b_M_machine 16 = .ok (.iconst 1, 1) := by decide +kernel
theorem d_M_machine_17 : decode b_M_machine 17 = .ok (.goto 4, 3) := by decide +kernel
theorem d_M_machine_20 : decode b_M_machine 20 = .ok (.iconst 0, 1) := by decide +kernel
theorem d_M_machine_21 : decode b_M_machine 21 = .ok (.iconst 1, 1) := by decide +kernel
theorem d_M_machine_22 : decode b_M_machine 22 = .ok (.invokevirtual 87, 3) := by decide +kernel
theorem d_M_machine_25 : decode b_M_machine 25 = .ok (.ifCond .eq 5, 3) := by decide +kernel
theorem d_M_machine_28 : decode b_M_machine 28 = .ok (.iconst 0, 1) := by decide +kernel
theorem d_M_machine_29 : decode b_M_machine 29 = .ok (.ireturn, 1) := by decide +kernel
theorem d_M_machine_30 : decode b_M_machine 30 = .ok (.aload_n 0, 1) := by decide +kernel
theorem d_M_machine_31 : decode b_M_machine 31 = .ok (.getfield 45, 3) := by decide +kernel
theorem d_M_machine_34 : decode b_M_machine 34 = .ok (.istore_n 2, 1) := by decide +kernel
theorem d_M_machine_35 : decode b_M_machine 35 = .ok (.aload_n 0, 1) := by decide +kernel
theorem d_M_machine_36 : decode b_M_machine 36 = .ok (.iload_n 1, 1) := by decide +kernel
theorem d_M_machine_37 : decode b_M_machine 37 = .ok (.putfield 45, 3) := by decide +kernel
theorem d_M_machine_40 : decode b_M_machine 40 = .ok (.aload_n 0, 1) := by decide +kernel
theorem d_M_machine_41 : decode b_M_machine 41 = .ok (.iconst 0, 1) := by decide +kernel
theorem d_M_machine_42 : decode b_M_machine 42 = .ok (.putfield 91, 3) := by decide +kernel
theorem d_M_machine_45 : decode b_M_machine 45 = .ok (.iload_n 2, 1) := by decide +kernel
theorem d_M_machine_46 : decode b_M_machine 46 = .ok (.ireturn, 1) := by decide +kernel
theorem d_M_stepped_0 : decode b_M_stepped 0 = .ok (.iload_n 2, 1) := by decide +kernel
theorem d_M_stepped_1 : decode b_M_stepped 1 = .ok (.aload_n 0, 1) := by decide +kernel
theorem d_M_stepped_2 : decode b_M_stepped 2 = .ok (.getfield 58, 3) := by decide +kernel
theorem d_M_stepped_5 : decode b_M_stepped 5 = .ok (.iload_n 3, 1) := by decide +kernel
theorem d_M_stepped_6 : decode b_M_stepped 6 = .ok (.iaload, 1) := by decide +kernel
theorem d_M_stepped_7 : decode b_M_stepped 7 = .ok (.iload_n 2, 1) := by decide +kernel
theorem d_M_stepped_8 : decode b_M_stepped 8 = .ok (.isub, 1) := by decide +kernel
theorem d_M_stepped_9 : decode b_M_stepped 9 = .ok (.aload_n 0, 1) := by decide +kernel
theorem d_M_stepped_10 : decode b_M_stepped 10 = .ok (.getfield 13, 3) := by decide +kernel
theorem d_M_stepped_13 : decode b_M_stepped 13 = .ok (.iload_n 1, 1) := by decide +kernel
theorem d_M_stepped_14 : decode b_M_stepped 14 = .ok (.iaload, 1) := by decide +kernel
theorem d_M_stepped_15 : decode b_M_stepped 15 = .ok (.idiv, 1) := by decide +kernel
theorem d_M_stepped_16 : decode b_M_stepped 16 = .ok (.iadd, 1) := by decide +kernel
theorem d_M_stepped_17 : decode b_M_stepped 17 = .ok (.iload 4, 2) := by decide +kernel
theorem d_M_stepped_19 : decode b_M_stepped 19 = .ok (.aload_n 0, 1) := by decide +kernel
theorem d_M_stepped_20 : decode b_M_stepped 20 = .ok (.getfield 7, 3) := by decide +kernel
theorem d_M_stepped_23 : decode b_M_stepped 23 = .ok (.iload_n 1, 1) := by decide +kernel
theorem d_M_stepped_24 : decode b_M_stepped 24 = .ok (.iaload, 1) := by decide +kernel
theorem d_M_stepped_25 : decode b_M_stepped 25 = .ok (.idiv, 1) := by decide +kernel
theorem d_M_stepped_26 : decode b_M_stepped 26 = .ok (.iadd, 1) := by decide +kernel
theorem d_M_stepped_27 : decode b_M_stepped 27 = .ok (.ireturn, 1) := by decide +kernel
theorem d_M_heatIn_0 : decode b_M_heatIn 0 = .ok (.aload_n 0, 1) := by decide +kernel
theorem d_M_heatIn_1 : decode b_M_heatIn 1 = .ok (.getfield 19, 3) := by decide +kernel
theorem d_M_heatIn_4 : decode b_M_heatIn 4 = .ok (.iload_n 1, 1) := by decide +kernel
theorem d_M_heatIn_5 : decode b_M_heatIn 5 = .ok (.iaload, 1) := by decide +kernel
theorem d_M_heatIn_6 : decode b_M_heatIn 6 = .ok (.aload_n 0, 1) := by decide +kernel
theorem d_M_heatIn_7 : decode b_M_heatIn 7 = .ok (.getfield 61, 3) := by decide +kernel
theorem d_M_heatIn_10 : decode b_M_heatIn 10 = .ok (.iload_n 2, 1) := by decide +kernel
theorem d_M_heatIn_11 : decode b_M_heatIn 11 = .ok (.iaload, 1) := by decide +kernel
theorem d_M_heatIn_12 : decode b_M_heatIn 12 = .ok (.if_icmp .ge 12, 3) := by decide +kernel
theorem d_M_heatIn_15 : decode b_M_heatIn 15 = .ok (.aload_n 0, 1) := by decide +kernel
theorem d_M_heatIn_16 : decode b_M_heatIn 16 = .ok (.getfield 19, 3) := by decide +kernel
theorem d_M_heatIn_19 : decode b_M_heatIn 19 = .ok (.iload_n 1, 1) := by decide +kernel
theorem d_M_heatIn_20 : decode b_M_heatIn 20 = .ok (.iaload, 1) := by decide +kernel
theorem d_M_heatIn_21 : decode b_M_heatIn 21 = .ok (.goto 9, 3) := by decide +kernel
theorem d_M_heatIn_24 : decode b_M_heatIn 24 = .ok (.aload_n 0, 1) := by decide +kernel
theorem d_M_heatIn_25 : decode b_M_heatIn 25 = .ok (.getfield 61, 3) := by decide +kernel
theorem d_M_heatIn_28 : decode b_M_heatIn 28 = .ok (.iload_n 2, 1) := by decide +kernel
theorem d_M_heatIn_29 : decode b_M_heatIn 29 = .ok (.iaload, 1) := by decide +kernel
theorem d_M_heatIn_30 : decode b_M_heatIn 30 = .ok (.ireturn, 1) := by decide +kernel
theorem d_M_findOutsides_0 : decode b_M_findOutsides 0 = .ok (.iconst 0, 1) := by decide +kernel
theorem d_M_findOutsides_1 : decode b_M_findOutsides 1 = .ok (.istore_n 1, 1) := by decide +kernel
theorem d_M_findOutsides_2 : decode b_M_findOutsides 2 = .ok (.iload_n 1, 1) := by decide +kernel
theorem d_M_findOutsides_3 : decode b_M_findOutsides 3 = .ok (.sipush 1440, 3) := by decide +kernel
theorem d_M_findOutsides_6 : decode b_M_findOutsides 6 = .ok (.if_icmp .ge 55, 3) := by decide +kernel
theorem d_M_findOutsides_9 : decode b_M_findOutsides 9 = .ok (.iconst 0, 1) := by decide +kernel
theorem d_M_findOutsides_10 : decode b_M_findOutsides 10 = .ok (.istore_n 2, 1) := by decide +kernel
theorem d_M_findOutsides_11 : decode b_M_findOutsides 11 = .ok (.iconst 0, 1) := by decide +kernel
theorem d_M_findOutsides_12 : decode b_M_findOutsides 12 = .ok (.istore_n 3, 1) := by decide +kernel
theorem d_M_findOutsides_13 : decode b_M_findOutsides 13 = .ok (.iload_n 3, 1) := by decide +kernel
theorem d_M_findOutsides_14 : decode b_M_findOutsides 14 = .ok (.aload_n 0, 1) := by decide +kernel
theorem d_M_findOutsides_15 : decode b_M_findOutsides 15 = .ok (.getfield 99, 3) := by decide +kernel
theorem d_M_findOutsides_18 : decode b_M_findOutsides 18 = .ok (.if_icmp .ge 30, 3) := by decide +kernel
theorem d_M_findOutsides_21 : decode b_M_findOutsides 21 = .ok (.aload_n 0, 1) := by decide +kernel
theorem d_M_findOutsides_22 : decode b_M_findOutsides 22 = .ok (.getfield 38, 3) := by decide +kernel
theorem d_M_findOutsides_25 : decode b_M_findOutsides 25 = .ok (.iload_n 3, 1) := by decide +kernel
theorem d_M_findOutsides_26 : decode b_M_findOutsides 26 = .ok (.iaload, 1) := by decide +kernel
theorem d_M_findOutsides_27 : decode b_M_findOutsides 27 = .ok (.iload_n 1, 1) := by decide +kernel
theorem d_M_findOutsides_28 : decode b_M_findOutsides 28 = .ok (.if_icmp .gt 12, 3) := by decide +kernel
theorem d_M_findOutsides_31 : decode b_M_findOutsides 31 = .ok (.aload_n 0, 1) := by decide +kernel
theorem d_M_findOutsides_32 : decode b_M_findOutsides 32 = .ok (.getfield 41, 3) := by decide +kernel
theorem d_M_findOutsides_35 : decode b_M_findOutsides 35 = .ok (.iload_n 3, 1) := by decide +kernel
theorem d_M_findOutsides_36 : decode b_M_findOutsides 36 = .ok (.iaload, 1) := by decide +kernel
theorem d_M_findOutsides_37 : decode b_M_findOutsides 37 = .ok (.goto 4, 3) := by decide +kernel
theorem d_M_findOutsides_40 : decode b_M_findOutsides 40 = .ok (.iload_n 2, 1) := by decide +kernel
theorem d_M_findOutsides_41 : decode b_M_findOutsides 41 = .ok (.istore_n 2, 1) := by decide +kernel
theorem d_M_findOutsides_42 : decode b_M_findOutsides 42 = .ok (.iinc 3 1, 3) := by decide +kernel
theorem d_M_findOutsides_45 : decode b_M_findOutsides 45 = .ok (.goto (-32), 3) := by decide +kernel
theorem d_M_findOutsides_48 : decode b_M_findOutsides 48 = .ok (.aload_n 0, 1) := by decide +kernel
theorem d_M_findOutsides_49 : decode b_M_findOutsides 49 = .ok (.getfield 58, 3) := by decide +kernel
theorem d_M_findOutsides_52 : decode b_M_findOutsides 52 = .ok (.iload_n 1, 1) := by decide +kernel
theorem d_M_findOutsides_53 : decode b_M_findOutsides 53 = .ok (.iload_n 2, 1) := by decide +kernel
theorem d_M_findOutsides_54 : decode b_M_findOutsides 54 = .ok (.iastore, 1) := by decide +kernel
theorem d_M_findOutsides_55 : decode b_M_findOutsides 55 = .ok (.iinc 1 1, 3) := by decide +kernel
theorem d_M_findOutsides_58 : decode b_M_findOutsides 58 = .ok (.goto (-56), 3) := by decide +kernel
theorem d_M_findOutsides_61 : decode b_M_findOutsides 61 = .ok (.return_, 1) := by decide +kernel
theorem d_M_isWarm_0 : decode b_M_isWarm 0 = .ok (.iload_n 3, 1) := by decide +kernel
theorem d_M_isWarm_1 : decode b_M_isWarm 1 = .ok (.istore 4, 2) := by decide +kernel
theorem d_M_isWarm_3 : decode b_M_isWarm 3 = .ok (.iload_n 2, 1) := by decide +kernel
theorem d_M_isWarm_4 : decode b_M_isWarm 4 = .ok (.istore 5, 2) := by decide +kernel
theorem d_M_isWarm_6 : decode b_M_isWarm 6 = .ok (.iload 5, 2) := by decide +kernel
theorem d_M_isWarm_8 : decode b_M_isWarm 8 = .ok (.aload_n 0, 1) := by decide +kernel
theorem d_M_isWarm_9 : decode b_M_isWarm 9 = .ok (.getfield 25, 3) := by decide +kernel
theorem d_M_isWarm_12 : decode b_M_isWarm 12 = .ok (.iload_n 1, 1) := by decide +kernel
theorem d_M_isWarm_13 : decode b_M_isWarm 13 = .ok (.iaload, 1) := by decide +kernel
theorem d_M_isWarm_14 : decode b_M_isWarm 14 = .ok (.if_icmp .ge 27, 3) := by decide +kernel
theorem d_M_isWarm_17 : decode b_M_isWarm 17 = .ok (.aload_n 0, 1) := by decide +kernel
theorem d_M_isWarm_18 : decode b_M_isWarm 18 = .ok (.iload_n 1, 1) := by decide +kernel
theorem d_M_isWarm_19 : decode b_M_isWarm 19 = .ok (.iload 4, 2) := by decide +kernel
theorem d_M_isWarm_21 : decode b_M_isWarm 21 = .ok (.iload 5, 2) := by decide +kernel
theorem d_M_isWarm_23 : decode b_M_isWarm 23 = .ok (.aload_n 0, 1) := by decide +kernel
theorem d_M_isWarm_24 : decode b_M_isWarm 24 = .ok (.iload_n 1, 1) := by decide +kernel
theorem d_M_isWarm_25 : decode b_M_isWarm 25 = .ok (.iload 5, 2) := by decide +kernel
theorem d_M_isWarm_27 : decode b_M_isWarm 27 = .ok (.invokevirtual 103, 3) := by decide +kernel
theorem d_M_isWarm_30 : decode b_M_isWarm 30 = .ok (.invokevirtual 107, 3) := by decide +kernel
theorem d_M_isWarm_33 : decode b_M_isWarm 33 = .ok (.istore 4, 2) := by decide +kernel
theorem d_M_isWarm_35 : decode b_M_isWarm 35 = .ok (.iinc 5 1, 3) := by decide +kernel
theorem d_M_isWarm_38 : decode b_M_isWarm 38 = .ok (.goto (-32), 3) := by decide +kernel
theorem d_M_isWarm_41 : decode b_M_isWarm 41 = .ok (.iload 4, 2) := by decide +kernel
theorem d_M_isWarm_43 : decode b_M_isWarm 43 = .ok (.aload_n 0, 1) := by decide +kernel
theorem d_M_isWarm_44 : decode b_M_isWarm 44 = .ok (.getfield 28, 3) := by decide +kernel
theorem d_M_isWarm_47 : decode b_M_isWarm 47 = .ok (.iload_n 1, 1) := by decide +kernel
theorem d_M_isWarm_48 : decode b_M_isWarm 48 = .ok (.iaload, 1) := by decide +kernel
theorem d_M_isWarm_49 : decode b_M_isWarm 49 = .ok (.if_icmp .lt 7, 3) := by decide +kernel
theorem d_M_isWarm_52 : decode b_M_isWarm 52 = .ok (.iconst 1, 1) := by decide +kernel
theorem d_M_isWarm_53 : decode b_M_isWarm 53 = .ok (.goto 4, 3) := by decide +kernel
theorem d_M_isWarm_56 : decode b_M_isWarm 56 = .ok (.iconst 0, 1) := by decide +kernel
theorem d_M_isWarm_57 : decode b_M_isWarm 57 = .ok (.ireturn, 1) := by decide +kernel
theorem d_M_planZone_0 : decode b_M_planZone 0 = .ok (.sipush 1441, 3) := by decide +kernel
theorem d_M_planZone_3 : decode b_M_planZone 3 = .ok (.iload_n 1, 1) := by decide +kernel
theorem d_M_planZone_4 : decode b_M_planZone 4 = .ok (.imul, 1) := by decide +kernel
theorem d_M_planZone_5 : decode b_M_planZone 5 = .ok (.istore_n 2, 1) := by decide +kernel
theorem d_M_planZone_6 : decode b_M_planZone 6 = .ok (.aload_n 0, 1) := by decide +kernel
theorem d_M_planZone_7 : decode b_M_planZone 7 = .ok (.getfield 71, 3) := by decide +kernel
theorem d_M_planZone_10 : decode b_M_planZone 10 = .ok (.iload_n 2, 1) := by decide +kernel
theorem d_M_planZone_11 : decode b_M_planZone 11 = .ok (.aload_n 0, 1) := by decide +kernel
theorem d_M_planZone_12 : decode b_M_planZone 12 = .ok (.getfield 16, 3) := by decide +kernel
theorem d_M_planZone_15 : decode b_M_planZone 15 = .ok (.iload_n 1, 1) := by decide +kernel
theorem d_M_planZone_16 : decode b_M_planZone 16 = .ok (.iaload, 1) := by decide +kernel
theorem d_M_planZone_17 : decode b_M_planZone 17 = .ok (.iastore, 1) := by decide +kernel
theorem d_M_planZone_18 : decode b_M_planZone 18 = .ok (.iconst 0, 1) := by decide +kernel
theorem d_M_planZone_19 : decode b_M_planZone 19 = .ok (.istore_n 3, 1) := by decide +kernel
theorem d_M_planZone_20 : decode b_M_planZone 20 = .ok (.iload_n 3, 1) := by decide +kernel
theorem d_M_planZone_21 : decode b_M_planZone 21 = .ok (.sipush 1440, 3) := by decide +kernel
theorem d_M_planZone_24 : decode b_M_planZone 24 = .ok (.if_icmp .ge 34, 3) := by decide +kernel
theorem d_M_planZone_27 : decode b_M_planZone 27 = .ok (.aload_n 0, 1) := by decide +kernel
theorem d_M_planZone_28 : decode b_M_planZone 28 = .ok (.getfield 71, 3) := by decide +kernel
theorem d_M_planZone_31 : decode b_M_planZone 31 = .ok (.iload_n 2, 1) := by decide +kernel
theorem d_M_planZone_32 : decode b_M_planZone 32 = .ok (.iload_n 3, 1) := by decide +kernel
theorem d_M_planZone_33 : decode b_M_planZone 33 = .ok (.iadd, 1) := by decide +kernel
theorem d_M_planZone_34 : decode b_M_planZone 34 = .ok (.iconst 1, 1) := by decide +kernel
theorem d_M_planZone_35 : decode b_M_planZone 35 = .ok (.iadd, 1) := by decide +kernel
theorem d_M_planZone_36 : decode b_M_planZone 36 = .ok (.aload_n 0, 1) := by decide +kernel
theorem d_M_planZone_37 : decode b_M_planZone 37 = .ok (.iload_n 1, 1) := by decide +kernel
theorem d_M_planZone_38 : decode b_M_planZone 38 = .ok (.aload_n 0, 1) := by decide +kernel
theorem d_M_planZone_39 : decode b_M_planZone 39 = .ok (.getfield 71, 3) := by decide +kernel
theorem d_M_planZone_42 : decode b_M_planZone 42 = .ok (.iload_n 2, 1) := by decide +kernel
theorem d_M_planZone_43 : decode b_M_planZone 43 = .ok (.iload_n 3, 1) := by decide +kernel
theorem d_M_planZone_44 : decode b_M_planZone 44 = .ok (.iadd, 1) := by decide +kernel
theorem d_M_planZone_45 : decode b_M_planZone 45 = .ok (.iaload, 1) := by decide +kernel
theorem d_M_planZone_46 : decode b_M_planZone 46 = .ok (.iload_n 3, 1) := by decide +kernel
theorem d_M_planZone_47 : decode b_M_planZone 47 = .ok (.iconst 0, 1) := by decide +kernel
theorem d_M_planZone_48 : decode b_M_planZone 48 = .ok (.invokevirtual 107, 3) := by decide +kernel
theorem d_M_planZone_51 : decode b_M_planZone 51 = .ok (.iastore, 1) := by decide +kernel
theorem d_M_planZone_52 : decode b_M_planZone 52 = .ok (.iinc 3 1, 3) := by decide +kernel
theorem d_M_planZone_55 : decode b_M_planZone 55 = .ok (.goto (-35), 3) := by decide +kernel
theorem d_M_planZone_58 : decode b_M_planZone 58 = .ok (.aload_n 0, 1) := by decide +kernel
theorem d_M_planZone_59 : decode b_M_planZone 59 = .ok (.getfield 64, 3) := by decide +kernel
theorem d_M_planZone_62 : decode b_M_planZone 62 = .ok (.iload_n 1, 1) := by decide +kernel
theorem d_M_planZone_63 : decode b_M_planZone 63 = .ok (.iconst (-1), 1) := by decide +kernel
theorem d_M_planZone_64 : decode b_M_planZone 64 = .ok (.iastore, 1) := by decide +kernel
theorem d_M_planZone_65 : decode b_M_planZone 65 = .ok (.aload_n 0, 1) := by decide +kernel
theorem d_M_planZone_66 : decode b_M_planZone 66 = .ok (.getfield 67, 3) := by decide +kernel
theorem d_M_planZone_69 : decode b_M_planZone 69 = .ok (.iload_n 1, 1) := by decide +kernel
theorem d_M_planZone_70 : decode b_M_planZone 70 = .ok (.iconst 0, 1) := by decide +kernel
theorem d_M_planZone_71 : decode b_M_planZone 71 = .ok (.bastore, 1) := by decide +kernel
theorem d_M_planZone_72 : decode b_M_planZone 72 = .ok (.aload_n 0, 1) := by decide +kernel
theorem d_M_planZone_73 : decode b_M_planZone 73 = .ok (.getfield 25, 3) := by decide +kernel
theorem d_M_planZone_76 : decode b_M_planZone 76 = .ok (.iload_n 1, 1) := by decide +kernel
theorem d_M_planZone_77 : decode b_M_planZone 77 = .ok (.iaload, 1) := by decide +kernel
theorem d_M_planZone_78 : decode b_M_planZone 78 = .ok (.iconst (-1), 1) := by decide +kernel
theorem d_M_planZone_79 : decode b_M_planZone 79 = .ok (.if_icmp .ne 4, 3) := by decide +kernel
theorem d_M_planZone_82 : decode b_M_planZone 82 = .ok (.return_, 1) := by decide +kernel
theorem d_M_planZone_83 : decode b_M_planZone 83 = .ok (.aload_n 0, 1) := by decide +kernel
theorem d_M_planZone_84 : decode b_M_planZone 84 = .ok (.getfield 25, 3) := by decide +kernel
theorem d_M_planZone_87 : decode b_M_planZone 87 = .ok (.iload_n 1, 1) := by decide +kernel
theorem d_M_planZone_88 : decode b_M_planZone 88 = .ok (.iaload, 1) := by decide +kernel
theorem d_M_planZone_89 : decode b_M_planZone 89 = .ok (.istore_n 3, 1) := by decide +kernel
theorem d_M_planZone_90 : decode b_M_planZone 90 = .ok (.iload_n 3, 1) := by decide +kernel
theorem d_M_planZone_91 : decode b_M_planZone 91 = .ok (.ifCond .le 26, 3) := by decide +kernel
theorem d_M_planZone_94 : decode b_M_planZone 94 = .ok (.aload_n 0, 1) := by decide +kernel
theorem d_M_planZone_95 : decode b_M_planZone 95 = .ok (.iload_n 1, 1) := by decide +kernel
theorem d_M_planZone_96 : decode b_M_planZone 96 = .ok (.iload_n 3, 1) := by decide +kernel
theorem d_M_planZone_97 : decode b_M_planZone 97 = .ok (.aload_n 0, 1) := by decide +kernel
theorem d_M_planZone_98 : decode b_M_planZone 98 = .ok (.getfield 71, 3) := by decide +kernel
theorem d_M_planZone_101 : decode b_M_planZone 101 = .ok (.iload_n 2, 1) := by decide +kernel
theorem d_M_planZone_102 : decode b_M_planZone 102 = .ok (.iload_n 3, 1) := by decide +kernel
theorem d_M_planZone_103 : decode b_M_planZone 103 = .ok (.iadd, 1) := by decide +kernel
theorem d_M_planZone_104 : decode b_M_planZone 104 = .ok (.iaload, 1) := by decide +kernel
theorem d_M_planZone_105 : decode b_M_planZone 105 = .ok (.invokevirtual 111, 3) := by decide +kernel
theorem d_M_planZone_108 : decode b_M_planZone 108 = .ok (.ifCond .ne 9, 3) := by decide +kernel
theorem d_M_planZone_111 : decode b_M_planZone 111 = .ok (.iinc 3 (-1), 3) := by decide +kernel
theorem d_M_planZone_114 : decode b_M_planZone 114 = .ok (.goto (-24), 3) := by decide +kernel
theorem d_M_planZone_117 : decode b_M_planZone 117 = .ok (.aload_n 0, 1) := by decide +kernel
theorem d_M_planZone_118 : decode b_M_planZone 118 = .ok (.getfield 64, 3) := by decide +kernel
theorem d_M_planZone_121 : decode b_M_planZone 121 = .ok (.iload_n 1, 1) := by decide +kernel
theorem d_M_planZone_122 : decode b_M_planZone 122 = .ok (.iload_n 3, 1) := by decide +kernel
theorem d_M_planZone_123 : decode b_M_planZone 123 = .ok (.iastore, 1) := by decide +kernel
theorem d_M_planZone_124 : decode b_M_planZone 124 = .ok (.aload_n 0, 1) := by decide +kernel
theorem d_M_planZone_125 : decode b_M_planZone 125 = .ok (.getfield 67, 3) := by decide +kernel
theorem d_M_planZone_128 : decode b_M_planZone 128 = .ok (.iload_n 1, 1) := by decide +kernel
theorem d_M_planZone_129 : decode b_M_planZone 129 = .ok (.aload_n 0, 1) := by decide +kernel
theorem d_M_planZone_130 : decode b_M_planZone 130 = .ok (.iload_n 1, 1) := by decide +kernel
theorem d_M_planZone_131 : decode b_M_planZone 131 = .ok (.iload_n 3, 1) := by decide +kernel
theorem d_M_planZone_132 : decode b_M_planZone 132 = .ok (.aload_n 0, 1) := by decide +kernel
theorem d_M_planZone_133 : decode b_M_planZone 133 = .ok (.getfield 71, 3) := by decide +kernel
theorem d_M_planZone_136 : decode b_M_planZone 136 = .ok (.iload_n 2, 1) := by decide +kernel
theorem d_M_planZone_137 : decode b_M_planZone 137 = .ok (.iload_n 3, 1) := by decide +kernel
theorem d_M_planZone_138 : decode b_M_planZone 138 = .ok (.iadd, 1) := by decide +kernel
theorem d_M_planZone_139 : decode b_M_planZone 139 = .ok (.iaload, 1) := by decide +kernel
theorem d_M_planZone_140 : decode b_M_planZone 140 = .ok (.invokevirtual 111, 3) := by decide +kernel
theorem d_M_planZone_143 : decode b_M_planZone 143 = .ok (.ifCond .ne 7, 3) := by decide +kernel
theorem d_M_planZone_146 : decode b_M_planZone 146 = .ok (.iconst 1, 1) := by decide +kernel
theorem d_M_planZone_147 : decode b_M_planZone 147 = .ok (.goto 4, 3) := by decide +kernel
theorem d_M_planZone_150 : decode b_M_planZone 150 = .ok (.iconst 0, 1) := by decide +kernel
theorem d_M_planZone_151 : decode b_M_planZone 151 = .ok (.bastore, 1) := by decide +kernel
theorem d_M_planZone_152 : decode b_M_planZone 152 = .ok (.iload_n 3, 1) := by decide +kernel
theorem d_M_planZone_153 : decode b_M_planZone 153 = .ok (.istore 4, 2) := by decide +kernel
theorem d_M_planZone_155 : decode b_M_planZone 155 = .ok (.iload 4, 2) := by decide +kernel
theorem d_M_planZone_157 : decode b_M_planZone 157 = .ok (.sipush 1440, 3) := by decide +kernel
theorem d_M_planZone_160 : decode b_M_planZone 160 = .ok (.if_icmp .ge 74, 3) := by decide +kernel
theorem d_M_planZone_163 : decode b_M_planZone 163 = .ok (.iload 4, 2) := by decide +kernel
theorem d_M_planZone_165 : decode b_M_planZone 165 = .ok (.aload_n 0, 1) := by decide +kernel
theorem d_M_planZone_166 : decode b_M_planZone 166 = .ok (.getfield 25, 3) := by decide +kernel
theorem d_M_planZone_169 : decode b_M_planZone 169 = .ok (.iload_n 1, 1) := by decide +kernel
theorem d_M_planZone_170 : decode b_M_planZone 170 = .ok (.iaload, 1) := by decide +kernel
theorem d_M_planZone_171 : decode b_M_planZone 171 = .ok (.if_icmp .ge 13, 3) := by decide +kernel
theorem d_M_planZone_174 : decode b_M_planZone 174 = .ok (.aload_n 0, 1) := by decide +kernel
theorem d_M_planZone_175 : decode b_M_planZone 175 = .ok (.iload_n 1, 1) := by decide +kernel
theorem d_M_planZone_176 : decode b_M_planZone 176 = .ok (.iload 4, 2) := by decide +kernel
theorem d_M_planZone_178 : decode b_M_planZone 178 = .ok (.invokevirtual 103, 3) := by decide +kernel
theorem d_M_planZone_181 : decode b_M_planZone 181 = .ok (.goto 4, 3) := by decide +kernel
theorem d_M_planZone_184 : decode b_M_planZone 184 = .ok (.iconst 0, 1) := by decide +kernel
theorem d_M_planZone_185 : decode b_M_planZone 185 = .ok (.istore 5, 2) := by decide +kernel
theorem d_M_planZone_187 : decode b_M_planZone 187 = .ok (.aload_n 0, 1) := by decide +kernel
theorem d_M_planZone_188 : decode b_M_planZone 188 = .ok (.getfield 61, 3) := by decide +kernel
theorem d_M_planZone_191 : decode b_M_planZone 191 = .ok (.iload 4, 2) := by decide +kernel
theorem d_M_planZone_193 : decode b_M_planZone 193 = .ok (.dup2, 1) := by decide +kernel
theorem d_M_planZone_194 : decode b_M_planZone 194 = .ok (.iaload, 1) := by decide +kernel
theorem d_M_planZone_195 : decode b_M_planZone 195 = .ok (.iload 5, 2) := by decide +kernel
theorem d_M_planZone_197 : decode b_M_planZone 197 = .ok (.isub, 1) := by decide +kernel
theorem d_M_planZone_198 : decode b_M_planZone 198 = .ok (.iastore, 1) := by decide +kernel
theorem d_M_planZone_199 : decode b_M_planZone 199 = .ok (.aload_n 0, 1) := by decide +kernel
theorem d_M_planZone_200 : decode b_M_planZone 200 = .ok (.getfield 71, 3) := by decide +kernel
theorem d_M_planZone_203 : decode b_M_planZone 203 = .ok (.iload_n 2, 1) := by decide +kernel
theorem d_M_planZone_204 : decode b_M_planZone 204 = .ok (.iload 4, 2) := by decide +kernel
theorem d_M_planZone_206 : decode b_M_planZone 206 = .ok (.iadd, 1) := by decide +kernel
theorem d_M_planZone_207 : decode b_M_planZone 207 = .ok (.iconst 1, 1) := by decide +kernel
theorem d_M_planZone_208 : decode b_M_planZone 208 = .ok (.iadd, 1) := by decide +kernel
theorem d_M_planZone_209 : decode b_M_planZone 209 = .ok (.aload_n 0, 1) := by decide +kernel
theorem d_M_planZone_210 : decode b_M_planZone 210 = .ok (.iload_n 1, 1) := by decide +kernel
theorem d_M_planZone_211 : decode b_M_planZone 211 = .ok (.aload_n 0, 1) := by decide +kernel
theorem d_M_planZone_212 : decode b_M_planZone 212 = .ok (.getfield 71, 3) := by decide +kernel
theorem d_M_planZone_215 : decode b_M_planZone 215 = .ok (.iload_n 2, 1) := by decide +kernel
theorem d_M_planZone_216 : decode b_M_planZone 216 = .ok (.iload 4, 2) := by decide +kernel
theorem d_M_planZone_218 : decode b_M_planZone 218 = .ok (.iadd, 1) := by decide +kernel
theorem d_M_planZone_219 : decode b_M_planZone 219 = .ok (.iaload, 1) := by decide +kernel
theorem d_M_planZone_220 : decode b_M_planZone 220 = .ok (.iload 4, 2) := by decide +kernel
theorem d_M_planZone_222 : decode b_M_planZone 222 = .ok (.iload 5, 2) := by decide +kernel
theorem d_M_planZone_224 : decode b_M_planZone 224 = .ok (.invokevirtual 107, 3) := by decide +kernel
theorem d_M_planZone_227 : decode b_M_planZone 227 = .ok (.iastore, 1) := by decide +kernel
theorem d_M_planZone_228 : decode b_M_planZone 228 = .ok (.iinc 4 1, 3) := by decide +kernel
theorem d_M_planZone_231 : decode b_M_planZone 231 = .ok (.goto (-76), 3) := by decide +kernel
theorem d_M_planZone_234 : decode b_M_planZone 234 = .ok (.return_, 1) := by decide +kernel
theorem d_M_plan_0 : decode b_M_plan 0 = .ok (.aload_n 0, 1) := by decide +kernel
theorem d_M_plan_1 : decode b_M_plan 1 = .ok (.getfield 91, 3) := by decide +kernel
theorem d_M_plan_4 : decode b_M_plan 4 = .ok (.ifCond .eq 4, 3) := by decide +kernel
theorem d_M_plan_7 : decode b_M_plan 7 = .ok (.return_, 1) := by decide +kernel
theorem d_M_plan_8 : decode b_M_plan 8 = .ok (.aload_n 0, 1) := by decide +kernel
theorem d_M_plan_9 : decode b_M_plan 9 = .ok (.iconst 1, 1) := by decide +kernel
theorem d_M_plan_10 : decode b_M_plan 10 = .ok (.putfield 91, 3) := by decide +kernel
theorem d_M_plan_13 : decode b_M_plan 13 = .ok (.aload_n 0, 1) := by decide +kernel
theorem d_M_plan_14 : decode b_M_plan 14 = .ok (.invokevirtual 114, 3) := by decide +kernel
theorem d_M_plan_17 : decode b_M_plan 17 = .ok (.iconst 0, 1) := by decide +kernel
theorem d_M_plan_18 : decode b_M_plan 18 = .ok (.istore_n 1, 1) := by decide +kernel
theorem d_M_plan_19 : decode b_M_plan 19 = .ok (.iload_n 1, 1) := by decide +kernel
theorem d_M_plan_20 : decode b_M_plan 20 = .ok (.sipush 1440, 3) := by decide +kernel
theorem d_M_plan_23 : decode b_M_plan 23 = .ok (.if_icmp .ge 19, 3) := by decide +kernel
theorem d_M_plan_26 : decode b_M_plan 26 = .ok (.aload_n 0, 1) := by decide +kernel
theorem d_M_plan_27 : decode b_M_plan 27 = .ok (.getfield 61, 3) := by decide +kernel
theorem d_M_plan_30 : decode b_M_plan 30 = .ok (.iload_n 1, 1) := by decide +kernel
theorem d_M_plan_31 : decode b_M_plan 31 = .ok (.aload_n 0, 1) := by decide +kernel
theorem d_M_plan_32 : decode b_M_plan 32 = .ok (.getfield 45, 3) := by decide +kernel
theorem d_M_plan_35 : decode b_M_plan 35 = .ok (.iastore, 1) := by decide +kernel
theorem d_M_plan_36 : decode b_M_plan 36 = .ok (.iinc 1 1, 3) := by decide +kernel
theorem d_M_plan_39 : decode b_M_plan 39 = .ok (.goto (-20), 3) := by decide +kernel
theorem d_M_plan_42 : decode b_M_plan 42 = .ok (.iconst 0, 1) := by decide +kernel
theorem d_M_plan_43 : decode b_M_plan 43 = .ok (.istore_n 1, 1) := by decide +kernel
theorem d_M_plan_44 : decode b_M_plan 44 = .ok (.iload_n 1, 1) := by decide +kernel
theorem d_M_plan_45 : decode b_M_plan 45 = .ok (.bipush 6, 2) := by decide +kernel
theorem d_M_plan_47 : decode b_M_plan 47 = .ok (.if_icmp .ge 28, 3) := by decide +kernel
theorem d_M_plan_50 : decode b_M_plan 50 = .ok (.aload_n 0, 1) := by decide +kernel
theorem d_M_plan_51 : decode b_M_plan 51 = .ok (.getfield 74, 3) := by decide +kernel
theorem d_M_plan_54 : decode b_M_plan 54 = .ok (.iload_n 1, 1) := by decide +kernel
theorem d_M_plan_55 : decode b_M_plan 55 = .ok (.iload_n 1, 1) := by decide +kernel
theorem d_M_plan_56 : decode b_M_plan 56 = .ok (.aload_n 0, 1) := by decide +kernel
theorem d_M_plan_57 : decode b_M_plan 57 = .ok (.getfield 80, 3) := by decide +kernel
theorem d_M_plan_60 : decode b_M_plan 60 = .ok (.if_icmp .lt 7, 3) := by decide +kernel
theorem d_M_plan_63 : decode b_M_plan 63 = .ok (.iconst 1, 1) := by decide +kernel
theorem d_M_plan_64 : decode b_M_plan 64 = .ok (.goto 4, 3) := by decide +kernel
theorem d_M_plan_67 : decode b_M_plan 67 = .ok (.iconst 0, 1) := by decide +kernel
theorem d_M_plan_68 : decode b_M_plan 68 = .ok (.bastore, 1) := by decide +kernel
theorem d_M_plan_69 : decode b_M_plan 69 = .ok (.iinc 1 1, 3) := by decide +kernel
theorem d_M_plan_72 : decode b_M_plan 72 = .ok (.goto (-28), 3) := by decide +kernel
theorem d_M_plan_75 : decode b_M_plan 75 = .ok (.iconst 0, 1) := by decide +kernel
theorem d_M_plan_76 : decode b_M_plan 76 = .ok (.istore_n 1, 1) := by decide +kernel
theorem d_M_plan_77 : decode b_M_plan 77 = .ok (.iload_n 1, 1) := by decide +kernel
theorem d_M_plan_78 : decode b_M_plan 78 = .ok (.aload_n 0, 1) := by decide +kernel
theorem d_M_plan_79 : decode b_M_plan 79 = .ok (.getfield 80, 3) := by decide +kernel
theorem d_M_plan_82 : decode b_M_plan 82 = .ok (.if_icmp .ge 70, 3) := by decide +kernel
theorem d_M_plan_85 : decode b_M_plan 85 = .ok (.iconst (-1), 1) := by decide +kernel
theorem d_M_plan_86 : decode b_M_plan 86 = .ok (.istore_n 2, 1) := by decide +kernel
theorem d_M_plan_87 : decode b_M_plan 87 = .ok (.iconst 0, 1) := by decide +kernel
theorem d_M_plan_88 : decode b_M_plan 88 = .ok (.istore_n 3, 1) := by decide +kernel
theorem d_M_plan_89 : decode b_M_plan 89 = .ok (.iload_n 3, 1) := by decide +kernel
theorem d_M_plan_90 : decode b_M_plan 90 = .ok (.aload_n 0, 1) := by decide +kernel
theorem d_M_plan_91 : decode b_M_plan 91 = .ok (.getfield 80, 3) := by decide +kernel
theorem d_M_plan_94 : decode b_M_plan 94 = .ok (.if_icmp .ge 40, 3) := by decide +kernel
theorem d_M_plan_97 : decode b_M_plan 97 = .ok (.aload_n 0, 1) := by decide +kernel
theorem d_M_plan_98 : decode b_M_plan 98 = .ok (.getfield 74, 3) := by decide +kernel
theorem d_M_plan_101 : decode b_M_plan 101 = .ok (.iload_n 3, 1) := by decide +kernel
theorem d_M_plan_102 : decode b_M_plan 102 = .ok (.baload, 1) := by decide +kernel
theorem d_M_plan_103 : decode b_M_plan 103 = .ok (.ifCond .ne 25, 3) := by decide +kernel
theorem d_M_plan_106 : decode b_M_plan 106 = .ok (.iload_n 2, 1) := by decide +kernel
theorem d_M_plan_107 : decode b_M_plan 107 = .ok (.iconst (-1), 1) := by decide +kernel
theorem d_M_plan_108 : decode b_M_plan 108 = .ok (.if_icmp .eq 18, 3) := by decide +kernel
theorem d_M_plan_111 : decode b_M_plan 111 = .ok (.aload_n 0, 1) := by decide +kernel
theorem d_M_plan_112 : decode b_M_plan 112 = .ok (.getfield 22, 3) := by decide +kernel
theorem d_M_plan_115 : decode b_M_plan 115 = .ok (.iload_n 3, 1) := by decide +kernel
theorem d_M_plan_116 : decode b_M_plan 116 = .ok (.iaload, 1) := by decide +kernel
theorem d_M_plan_117 : decode b_M_plan 117 = .ok (.aload_n 0, 1) := by decide +kernel
theorem d_M_plan_118 : decode b_M_plan 118 = .ok (.getfield 22, 3) := by decide +kernel
theorem d_M_plan_121 : decode b_M_plan 121 = .ok (.iload_n 2, 1) := by decide +kernel
theorem d_M_plan_122 : decode b_M_plan 122 = .ok (.iaload, 1) := by decide +kernel
theorem d_M_plan_123 : decode b_M_plan 123 = .ok (.if_icmp .ge 5, 3) := by decide +kernel
theorem d_M_plan_126 : decode b_M_plan 126 = .ok (.iload_n 3, 1) := by decide +kernel
theorem d_M_plan_127 : decode b_M_plan 127 = .ok (.istore_n 2, 1) := by decide +kernel
theorem d_M_plan_128 : decode b_M_plan 128 = .ok (.iinc 3 1, 3) := by decide +kernel
theorem d_M_plan_131 : decode b_M_plan 131 = .ok (.goto (-42), 3) := by decide +kernel
theorem d_M_plan_134 : decode b_M_plan 134 = .ok (.aload_n 0, 1) := by decide +kernel
theorem d_M_plan_135 : decode b_M_plan 135 = .ok (.getfield 74, 3) := by decide +kernel
theorem d_M_plan_138 : decode b_M_plan 138 = .ok (.iload_n 2, 1) := by decide +kernel
theorem d_M_plan_139 : decode b_M_plan 139 = .ok (.iconst 1, 1) := by decide +kernel
theorem d_M_plan_140 : decode b_M_plan 140 = .ok (.bastore, 1) := by decide +kernel
theorem d_M_plan_141 : decode b_M_plan 141 = .ok (.aload_n 0, 1) := by decide +kernel
theorem d_M_plan_142 : decode b_M_plan 142 = .ok (.iload_n 2, 1) := by decide +kernel
theorem d_M_plan_143 : decode b_M_plan 143 = .ok (.invokevirtual 117, 3) := by decide +kernel
theorem d_M_plan_146 : decode b_M_plan 146 = .ok (.iinc 1 1, 3) := by decide +kernel
theorem d_M_plan_149 : decode b_M_plan 149 = .ok (.goto (-72), 3) := by decide +kernel
theorem d_M_plan_152 : decode b_M_plan 152 = .ok (.return_, 1) := by decide +kernel
theorem d_M_start_0 : decode b_M_start 0 = .ok (.aload_n 0, 1) := by decide +kernel
theorem d_M_start_1 : decode b_M_start 1 = .ok (.iconst 0, 1) := by decide +kernel
theorem d_M_start_2 : decode b_M_start 2 = .ok (.putfield 77, 3) := by decide +kernel
theorem d_M_start_5 : decode b_M_start 5 = .ok (.aload_n 0, 1) := by decide +kernel
theorem d_M_start_6 : decode b_M_start 6 = .ok (.aload_n 0, 1) := by decide +kernel
theorem d_M_start_7 : decode b_M_start 7 = .ok (.iload_n 1, 1) := by decide +kernel
theorem d_M_start_8 : decode b_M_start 8 = .ok (.invokevirtual 95, 3) := by decide +kernel
theorem d_M_start_11 : decode b_M_start 11 = .ok (.ifCond .ne 7, 3) := by decide +kernel
theorem d_M_start_14 : decode b_M_start 14 = .ok (.iconst 1, 1) := by decide +kernel
theorem d_M_start_15 : decode b_M_start 15 = .ok (.goto 4, 3) := by decide +kernel
theorem d_M_start_18 : decode b_M_start 18 = .ok (.iconst 0, 1) := by decide +kernel
theorem d_M_start_19 : decode b_M_start 19 = .ok (.iconst 1, 1) := by decide +kernel
theorem d_M_start_20 : decode b_M_start 20 = .ok (.invokevirtual 87, 3) := by decide +kernel
theorem d_M_start_23 : decode b_M_start 23 = .ok (.ifCond .eq 5, 3) := by decide +kernel
theorem d_M_start_26 : decode b_M_start 26 = .ok (.iconst 0, 1) := by decide +kernel
theorem d_M_start_27 : decode b_M_start 27 = .ok (.ireturn, 1) := by decide +kernel
theorem d_M_start_28 : decode b_M_start 28 = .ok (.aload_n 0, 1) := by decide +kernel
theorem d_M_start_29 : decode b_M_start 29 = .ok (.invokevirtual 121, 3) := by decide +kernel
theorem d_M_start_32 : decode b_M_start 32 = .ok (.aload_n 0, 1) := by decide +kernel
theorem d_M_start_33 : decode b_M_start 33 = .ok (.getfield 64, 3) := by decide +kernel
theorem d_M_start_36 : decode b_M_start 36 = .ok (.iload_n 1, 1) := by decide +kernel
theorem d_M_start_37 : decode b_M_start 37 = .ok (.iaload, 1) := by decide +kernel
theorem d_M_start_38 : decode b_M_start 38 = .ok (.ireturn, 1) := by decide +kernel
theorem d_M_late_0 : decode b_M_late 0 = .ok (.aload_n 0, 1) := by decide +kernel
theorem d_M_late_1 : decode b_M_late 1 = .ok (.iconst 0, 1) := by decide +kernel
theorem d_M_late_2 : decode b_M_late 2 = .ok (.putfield 77, 3) := by decide +kernel
theorem d_M_late_5 : decode b_M_late 5 = .ok (.aload_n 0, 1) := by decide +kernel
theorem d_M_late_6 : decode b_M_late 6 = .ok (.aload_n 0, 1) := by decide +kernel
theorem d_M_late_7 : decode b_M_late 7 = .ok (.iload_n 1, 1) := by decide +kernel
theorem d_M_late_8 : decode b_M_late 8 = .ok (.invokevirtual 95, 3) := by decide +kernel
theorem d_M_late_11 : decode b_M_late 11 = .ok (.ifCond .ne 7, 3) := by decide +kernel
theorem d_M_late_14 : decode b_M_late 14 = .ok (.iconst 1, 1) := by decide +kernel
theorem d_M_late_15 : decode b_M_late 15 = .ok (.goto 4, 3) := by decide +kernel
theorem d_M_late_18 : decode b_M_late 18 = .ok (.iconst 0, 1) := by decide +kernel
theorem d_M_late_19 : decode b_M_late 19 = .ok (.iconst 1, 1) := by decide +kernel
theorem d_M_late_20 : decode b_M_late 20 = .ok (.invokevirtual 87, 3) := by decide +kernel
theorem d_M_late_23 : decode b_M_late 23 = .ok (.ifCond .eq 5, 3) := by decide +kernel
theorem d_M_late_26 : decode b_M_late 26 = .ok (.iconst 0, 1) := by decide +kernel
theorem d_M_late_27 : decode b_M_late 27 = .ok (.ireturn, 1) := by decide +kernel
theorem d_M_late_28 : decode b_M_late 28 = .ok (.aload_n 0, 1) := by decide +kernel
theorem d_M_late_29 : decode b_M_late 29 = .ok (.invokevirtual 121, 3) := by decide +kernel
theorem d_M_late_32 : decode b_M_late 32 = .ok (.aload_n 0, 1) := by decide +kernel
theorem d_M_late_33 : decode b_M_late 33 = .ok (.getfield 67, 3) := by decide +kernel
theorem d_M_late_36 : decode b_M_late 36 = .ok (.iload_n 1, 1) := by decide +kernel
theorem d_M_late_37 : decode b_M_late 37 = .ok (.baload, 1) := by decide +kernel
theorem d_M_late_38 : decode b_M_late 38 = .ok (.ireturn, 1) := by decide +kernel
theorem d_M_at_0 : decode b_M_at 0 = .ok (.aload_n 0, 1) := by decide +kernel
theorem d_M_at_1 : decode b_M_at 1 = .ok (.iconst 0, 1) := by decide +kernel
theorem d_M_at_2 : decode b_M_at 2 = .ok (.putfield 77, 3) := by decide +kernel
theorem d_M_at_5 : decode b_M_at 5 = .ok (.aload_n 0, 1) := by decide +kernel
theorem d_M_at_6 : decode b_M_at 6 = .ok (.aload_n 0, 1) := by decide +kernel
theorem d_M_at_7 : decode b_M_at 7 = .ok (.iload_n 1, 1) := by decide +kernel
theorem d_M_at_8 : decode b_M_at 8 = .ok (.invokevirtual 95, 3) := by decide +kernel
theorem d_M_at_11 : decode b_M_at 11 = .ok (.ifCond .eq 14, 3) := by decide +kernel
theorem d_M_at_14 : decode b_M_at 14 = .ok (.iload_n 2, 1) := by decide +kernel
theorem d_M_at_15 : decode b_M_at 15 = .ok (.iconst 0, 1) := by decide +kernel
theorem d_M_at_16 : decode b_M_at 16 = .ok (.sipush 1440, 3) := by decide +kernel
theorem d_M_at_19 : decode b_M_at 19 = .ok (.invokestatic 83, 3) := by decide +kernel
theorem d_M_at_22 : decode b_M_at 22 = .ok (.ifCond .ne 7, 3) := by decide +kernel
theorem d_M_at_25 : decode b_M_at 25 = .ok (.iconst 1, 1) := by decide +kernel
theorem d_M_at_26 : decode b_M_at 26 = .ok (.goto 4, 3) := by decide +kernel
theorem d_M_at_29 : decode b_M_at 29 = .ok (.iconst 0, 1) := by decide +kernel
theorem d_M_at_30 : decode b_M_at 30 = .ok (.iconst 1, 1) := by decide +kernel
theorem d_M_at_31 : decode b_M_at 31 = .ok (.invokevirtual 87, 3) := by decide +kernel
theorem d_M_at_34 : decode b_M_at 34 = .ok (.ifCond .eq 5, 3) := by decide +kernel
theorem d_M_at_37 : decode b_M_at 37 = .ok (.iconst 0, 1) := by decide +kernel
theorem d_M_at_38 : decode b_M_at 38 = .ok (.ireturn, 1) := by decide +kernel
theorem d_M_at_39 : decode b_M_at 39 = .ok (.aload_n 0, 1) := by decide +kernel
theorem d_M_at_40 : decode b_M_at 40 = .ok (.invokevirtual 121, 3) := by decide +kernel
theorem d_M_at_43 : decode b_M_at 43 = .ok (.aload_n 0, 1) := by decide +kernel
theorem d_M_at_44 : decode b_M_at 44 = .ok (.getfield 71, 3) := by decide +kernel
theorem d_M_at_47 : decode b_M_at 47 = .ok (.sipush 1441, 3) := by decide +kernel
theorem d_M_at_50 : decode b_M_at 50 = .ok (.iload_n 1, 1) := by decide +kernel
theorem d_M_at_51 : decode b_M_at 51 = .ok (.imul, 1) := by decide +kernel
theorem d_M_at_52 : decode b_M_at 52 = .ok (.iload_n 2, 1) := by decide +kernel
theorem d_M_at_53 : decode b_M_at 53 = .ok (.iadd, 1) := by decide +kernel
theorem d_M_at_54 : decode b_M_at 54 = .ok (.iaload, 1) := by decide +kernel
theorem d_M_at_55 : decode b_M_at 55 = .ok (.ireturn, 1) := by decide +kernel
theorem d_M_used_0 : decode b_M_used 0 = .ok (.aload_n 0, 1) := by decide +kernel
theorem d_M_used_1 : decode b_M_used 1 = .ok (.iconst 0, 1) := by decide +kernel
theorem d_M_used_2 : decode b_M_used 2 = .ok (.putfield 77, 3) := by decide +kernel
theorem d_M_used_5 : decode b_M_used 5 = .ok (.aload_n 0, 1) := by decide +kernel
theorem d_M_used_6 : decode b_M_used 6 = .ok (.iload_n 1, 1) := by decide +kernel
theorem d_M_used_7 : decode b_M_used 7 = .ok (.iconst 0, 1) := by decide +kernel
theorem d_M_used_8 : decode b_M_used 8 = .ok (.sipush 1439, 3) := by decide +kernel
theorem d_M_used_11 : decode b_M_used 11 = .ok (.invokestatic 83, 3) := by decide +kernel
theorem d_M_used_14 : decode b_M_used 14 = .ok (.ifCond .ne 7, 3) := by decide +kernel
theorem d_M_used_17 : decode b_M_used 17 = .ok (.iconst 1, 1) := by decide +kernel
theorem d_M_used_18 : decode b_M_used 18 = .ok (.goto 4, 3) := by decide +kernel
theorem d_M_used_21 : decode b_M_used 21 = .ok (.iconst 0, 1) := by decide +kernel
theorem d_M_used_22 : decode b_M_used 22 = .ok (.iconst 1, 1) := by decide +kernel
theorem d_M_used_23 : decode b_M_used 23 = .ok (.invokevirtual 87, 3) := by decide +kernel
theorem d_M_used_26 : decode b_M_used 26 = .ok (.ifCond .eq 5, 3) := by decide +kernel
theorem d_M_used_29 : decode b_M_used 29 = .ok (.iconst 0, 1) := by decide +kernel
theorem d_M_used_30 : decode b_M_used 30 = .ok (.ireturn, 1) := by decide +kernel
theorem d_M_used_31 : decode b_M_used 31 = .ok (.aload_n 0, 1) := by decide +kernel
theorem d_M_used_32 : decode b_M_used 32 = .ok (.invokevirtual 121, 3) := by decide +kernel
theorem d_M_used_35 : decode b_M_used 35 = .ok (.aload_n 0, 1) := by decide +kernel
theorem d_M_used_36 : decode b_M_used 36 = .ok (.getfield 45, 3) := by decide +kernel
theorem d_M_used_39 : decode b_M_used 39 = .ok (.aload_n 0, 1) := by decide +kernel
theorem d_M_used_40 : decode b_M_used 40 = .ok (.getfield 61, 3) := by decide +kernel
theorem d_M_used_43 : decode b_M_used 43 = .ok (.iload_n 1, 1) := by decide +kernel
theorem d_M_used_44 : decode b_M_used 44 = .ok (.iaload, 1) := by decide +kernel
theorem d_M_used_45 : decode b_M_used 45 = .ok (.isub, 1) := by decide +kernel
theorem d_M_used_46 : decode b_M_used 46 = .ok (.ireturn, 1) := by decide +kernel
theorem d_M_cold_0 : decode b_M_cold 0 = .ok (.aload_n 0, 1) := by decide +kernel
theorem d_M_cold_1 : decode b_M_cold 1 = .ok (.iconst 0, 1) := by decide +kernel
theorem d_M_cold_2 : decode b_M_cold 2 = .ok (.putfield 77, 3) := by decide +kernel
theorem d_M_cold_5 : decode b_M_cold 5 = .ok (.aload_n 0, 1) := by decide +kernel
theorem d_M_cold_6 : decode b_M_cold 6 = .ok (.aload_n 0, 1) := by decide +kernel
theorem d_M_cold_7 : decode b_M_cold 7 = .ok (.iload_n 1, 1) := by decide +kernel
theorem d_M_cold_8 : decode b_M_cold 8 = .ok (.invokevirtual 95, 3) := by decide +kernel
theorem d_M_cold_11 : decode b_M_cold 11 = .ok (.ifCond .ne 7, 3) := by decide +kernel
theorem d_M_cold_14 : decode b_M_cold 14 = .ok (.iconst 1, 1) := by decide +kernel
theorem d_M_cold_15 : decode b_M_cold 15 = .ok (.goto 4, 3) := by decide +kernel
theorem d_M_cold_18 : decode b_M_cold 18 = .ok (.iconst 0, 1) := by decide +kernel
theorem d_M_cold_19 : decode b_M_cold 19 = .ok (.iconst 1, 1) := by decide +kernel
theorem d_M_cold_20 : decode b_M_cold 20 = .ok (.invokevirtual 87, 3) := by decide +kernel
theorem d_M_cold_23 : decode b_M_cold 23 = .ok (.ifCond .eq 5, 3) := by decide +kernel
theorem d_M_cold_26 : decode b_M_cold 26 = .ok (.iconst 0, 1) := by decide +kernel
theorem d_M_cold_27 : decode b_M_cold 27 = .ok (.ireturn, 1) := by decide +kernel
theorem d_M_cold_28 : decode b_M_cold 28 = .ok (.aload_n 0, 1) := by decide +kernel
theorem d_M_cold_29 : decode b_M_cold 29 = .ok (.invokevirtual 121, 3) := by decide +kernel
theorem d_M_cold_32 : decode b_M_cold 32 = .ok (.iconst 0, 1) := by decide +kernel
theorem d_M_cold_33 : decode b_M_cold 33 = .ok (.istore_n 2, 1) := by decide +kernel
theorem d_M_cold_34 : decode b_M_cold 34 = .ok (.aload_n 0, 1) := by decide +kernel
theorem d_M_cold_35 : decode b_M_cold 35 = .ok (.getfield 25, 3) := by decide +kernel
theorem d_M_cold_38 : decode b_M_cold 38 = .ok (.iload_n 1, 1) := by decide +kernel
theorem d_M_cold_39 : decode b_M_cold 39 = .ok (.iaload, 1) := by decide +kernel
theorem d_M_cold_40 : decode b_M_cold 40 = .ok (.istore_n 3, 1) := by decide +kernel
theorem d_M_cold_41 : decode b_M_cold 41 = .ok (.iload_n 3, 1) := by decide +kernel
theorem d_M_cold_42 : decode b_M_cold 42 = .ok (.ifCond .lt 45, 3) := by decide +kernel
theorem d_M_cold_45 : decode b_M_cold 45 = .ok (.iload_n 3, 1) := by decide +kernel
theorem d_M_cold_46 : decode b_M_cold 46 = .ok (.sipush 1440, 3) := by decide +kernel
theorem d_M_cold_49 : decode b_M_cold 49 = .ok (.if_icmp .ge 38, 3) := by decide +kernel
theorem d_M_cold_52 : decode b_M_cold 52 = .ok (.iload_n 2, 1) := by decide +kernel
theorem d_M_cold_53 : decode b_M_cold 53 = .ok (.aload_n 0, 1) := by decide +kernel
theorem d_M_cold_54 : decode b_M_cold 54 = .ok (.getfield 71, 3) := by decide +kernel
theorem d_M_cold_57 : decode b_M_cold 57 = .ok (.sipush 1441, 3) := by decide +kernel
theorem d_M_cold_60 : decode b_M_cold 60 = .ok (.iload_n 1, 1) := by decide +kernel
theorem d_M_cold_61 : decode b_M_cold 61 = .ok (.imul, 1) := by decide +kernel
theorem d_M_cold_62 : decode b_M_cold 62 = .ok (.iload_n 3, 1) := by decide +kernel
theorem d_M_cold_63 : decode b_M_cold 63 = .ok (.iadd, 1) := by decide +kernel
theorem d_M_cold_64 : decode b_M_cold 64 = .ok (.iaload, 1) := by decide +kernel
theorem d_M_cold_65 : decode b_M_cold 65 = .ok (.aload_n 0, 1) := by decide +kernel
theorem d_M_cold_66 : decode b_M_cold 66 = .ok (.getfield 28, 3) := by decide +kernel
theorem d_M_cold_69 : decode b_M_cold 69 = .ok (.iload_n 1, 1) := by decide +kernel
theorem d_M_cold_70 : decode b_M_cold 70 = .ok (.iaload, 1) := by decide +kernel
theorem d_M_cold_71 : decode b_M_cold 71 = .ok (.if_icmp .ge 7, 3) := by decide +kernel
theorem d_M_cold_74 : decode b_M_cold 74 = .ok (.iconst 1, 1) := by decide +kernel
theorem d_M_cold_75 : decode b_M_cold 75 = .ok (.goto 4, 3) := by decide +kernel
theorem d_M_cold_78 : decode b_M_cold 78 = .ok (.iconst 0, 1) := by decide +kernel
theorem d_M_cold_79 : decode b_M_cold 79 = .ok (.iadd, 1) := by decide +kernel
theorem d_M_cold_80 : decode b_M_cold 80 = .ok (.istore_n 2, 1) := by decide +kernel
theorem d_M_cold_81 : decode b_M_cold 81 = .ok (.iinc 3 1, 3) := by decide +kernel
theorem d_M_cold_84 : decode b_M_cold 84 = .ok (.goto (-43), 3) := by decide +kernel
theorem d_M_cold_87 : decode b_M_cold 87 = .ok (.iload_n 2, 1) := by decide +kernel
theorem d_M_cold_88 : decode b_M_cold 88 = .ok (.ireturn, 1) := by decide +kernel
theorem d_M_fade_0 : decode b_M_fade 0 = .ok (.aload_n 0, 1) := by decide +kernel
theorem d_M_fade_1 : decode b_M_fade 1 = .ok (.iconst 0, 1) := by decide +kernel
theorem d_M_fade_2 : decode b_M_fade 2 = .ok (.putfield 77, 3) := by decide +kernel
theorem d_M_fade_5 : decode b_M_fade 5 = .ok (.aload_n 0, 1) := by decide +kernel
theorem d_M_fade_6 : decode b_M_fade 6 = .ok (.iload_n 2, 1) := by decide +kernel
theorem d_M_fade_7 : decode b_M_fade 7 = .ok (.iconst 1, 1) := by decide +kernel
theorem d_M_fade_8 : decode b_M_fade 8 = .ok (.bipush 100, 2) := by decide +kernel
theorem d_M_fade_10 : decode b_M_fade 10 = .ok (.invokestatic 83, 3) := by decide +kernel
theorem d_M_fade_13 : decode b_M_fade 13 = .ok (.ifCond .eq 12, 3) := by decide +kernel
theorem d_M_fade_16 : decode b_M_fade 16 = .ok (.iload_n 1, 1) := by decide +kernel
theorem d_M_fade_17 : decode b_M_fade 17 = .ok (.iconst 0, 1) := by decide +kernel
theorem d_M_fade_18 : decode b_M_fade 18 = .ok (.iload_n 2, 1) := by decide +kernel
theorem d_M_fade_19 : decode b_M_fade 19 = .ok (.invokestatic 83, 3) := by decide +kernel
theorem d_M_fade_22 : decode b_M_fade 22 = .ok (.ifCond .ne 7, 3) := by decide +kernel
theorem d_M_fade_25 : decode b_M_fade 25 = .ok (.iconst 1, 1) := by decide +kernel
theorem d_M_fade_26 : decode b_M_fade 26 = .ok (.goto 4, 3) := by decide +kernel
theorem d_M_fade_29 : decode b_M_fade 29 = .ok (.iconst 0, 1) := by decide +kernel
theorem d_M_fade_30 : decode b_M_fade 30 = .ok (.iconst 1, 1) := by decide +kernel
theorem d_M_fade_31 : decode b_M_fade 31 = .ok (.invokevirtual 87, 3) := by decide +kernel
theorem d_M_fade_34 : decode b_M_fade 34 = .ok (.ifCond .eq 4, 3) := by decide +kernel
theorem d_M_fade_37 : decode b_M_fade 37 = .ok (.return_, 1) := by decide +kernel
theorem d_M_fade_38 : decode b_M_fade 38 = .ok (.aload_n 0, 1) := by decide +kernel
theorem d_M_fade_39 : decode b_M_fade 39 = .ok (.iload_n 1, 1) := by decide +kernel
theorem d_M_fade_40 : decode b_M_fade 40 = .ok (.putfield 52, 3) := by decide +kernel
theorem d_M_fade_43 : decode b_M_fade 43 = .ok (.aload_n 0, 1) := by decide +kernel
theorem d_M_fade_44 : decode b_M_fade 44 = .ok (.iload_n 2, 1) := by decide +kernel
theorem d_M_fade_45 : decode b_M_fade 45 = .ok (.putfield 55, 3) := by decide +kernel
theorem d_M_fade_48 : decode b_M_fade 48 = .ok (.return_, 1) := by decide +kernel
theorem d_M_divisor_0 : decode b_M_divisor 0 = .ok (.lload_n 0, 1) := by decide +kernel
theorem d_M_divisor_1 : decode b_M_divisor 1 = .ok (.lconst 0, 1) := by decide +kernel
theorem d_M_divisor_2 : decode b_M_divisor 2 = .ok (.lcmp, 1) := by decide +kernel
theorem d_M_divisor_3 : decode b_M_divisor 3 = .ok (.ifCond .ge 8, 3) := by decide +kernel
theorem d_M_divisor_6 : decode b_M_divisor 6 = .ok (.lload_n 0, 1) := by decide +kernel
theorem d_M_divisor_7 : decode b_M_divisor 7 = .ok (.lneg, 1) := by decide +kernel
theorem d_M_divisor_8 : decode b_M_divisor 8 = .ok (.goto 4, 3) := by decide +kernel
theorem d_M_divisor_11 : decode b_M_divisor 11 = .ok (.lload_n 0, 1) := by decide +kernel
theorem d_M_divisor_12 : decode b_M_divisor 12 = .ok (.lstore 4, 2) := by decide +kernel
theorem d_M_divisor_14 : decode b_M_divisor 14 = .ok (.lload_n 2, 1) := by decide +kernel
theorem d_M_divisor_15 : decode b_M_divisor 15 = .ok (.lstore 6, 2) := by decide +kernel
theorem d_M_divisor_17 : decode b_M_divisor 17 = .ok (.lload 6, 2) := by decide +kernel
theorem d_M_divisor_19 : decode b_M_divisor 19 = .ok (.lconst 0, 1) := by decide +kernel
theorem d_M_divisor_20 : decode b_M_divisor 20 = .ok (.lcmp, 1) := by decide +kernel
theorem d_M_divisor_21 : decode b_M_divisor 21 = .ok (.ifCond .eq 21, 3) := by decide +kernel
theorem d_M_divisor_24 : decode b_M_divisor 24 = .ok (.lload 4, 2) := by decide +kernel
theorem d_M_divisor_26 : decode b_M_divisor 26 = .ok (.lload 6, 2) := by decide +kernel
theorem d_M_divisor_28 : decode b_M_divisor 28 = .ok (.lrem, 1) := by decide +kernel
theorem d_M_divisor_29 : decode b_M_divisor 29 = .ok (.lstore 8, 2) := by decide +kernel
theorem d_M_divisor_31 : decode b_M_divisor 31 = .ok (.lload 6, 2) := by decide +kernel
theorem d_M_divisor_33 : decode b_M_divisor 33 = .ok (.lstore 4, 2) := by decide +kernel
theorem d_M_divisor_35 : decode b_M_divisor 35 = .ok (.lload 8, 2) := by decide +kernel
theorem d_M_divisor_37 : decode b_M_divisor 37 = .ok (.lstore 6, 2) := by decide +kernel
theorem d_M_divisor_39 : decode b_M_divisor 39 = .ok (.goto (-22), 3) := by decide +kernel
theorem d_M_divisor_42 : decode b_M_divisor 42 = .ok (.lload 4, 2) := by decide +kernel
theorem d_M_divisor_44 : decode b_M_divisor 44 = .ok (.lreturn, 1) := by decide +kernel
theorem d_M_day_0 : decode b_M_day 0 = .ok (.aload_n 0, 1) := by decide +kernel
theorem d_M_day_1 : decode b_M_day 1 = .ok (.iconst 0, 1) := by decide +kernel
theorem d_M_day_2 : decode b_M_day 2 = .ok (.putfield 77, 3) := by decide +kernel
theorem d_M_day_5 : decode b_M_day 5 = .ok (.aload_n 0, 1) := by decide +kernel
theorem d_M_day_6 : decode b_M_day 6 = .ok (.aload_n 0, 1) := by decide +kernel
theorem d_M_day_7 : decode b_M_day 7 = .ok (.iload_n 1, 1) := by decide +kernel
theorem d_M_day_8 : decode b_M_day 8 = .ok (.invokevirtual 95, 3) := by decide +kernel
theorem d_M_day_11 : decode b_M_day 11 = .ok (.ifCond .eq 16, 3) := by decide +kernel
theorem d_M_day_14 : decode b_M_day 14 = .ok (.iload_n 2, 1) := by decide +kernel
theorem d_M_day_15 : decode b_M_day 15 = .ok (.sipush (-1440), 3) := by decide +kernel
theorem d_M_day_18 : decode b_M_day 18 = .ok (.sipush 1440, 3) := by decide +kernel
theorem d_M_day_21 : decode b_M_day 21 = .ok (.invokestatic 83, 3) := by decide +kernel
theorem d_M_day_24 : decode b_M_day 24 = .ok (.ifCond .ne 7, 3) := by decide +kernel
theorem d_M_day_27 : decode b_M_day 27 = .ok (.iconst 1, 1) := by decide +kernel
theorem d_M_day_28 : decode b_M_day 28 = .ok (.goto 4, 3) := by decide +kernel
theorem d_M_day_31 : decode b_M_day 31 = .ok (.iconst 0, 1) := by decide +kernel
theorem d_M_day_32 : decode b_M_day 32 = .ok (.iconst 1, 1) := by decide +kernel
theorem d_M_day_33 : decode b_M_day 33 = .ok (.invokevirtual 87, 3) := by decide +kernel
theorem d_M_day_36 : decode b_M_day 36 = .ok (.ifCond .eq 4, 3) := by decide +kernel
theorem d_M_day_39 : decode b_M_day 39 = .ok (.return_, 1) := by decide +kernel
theorem d_M_day_40 : decode b_M_day 40 = .ok (.aload_n 0, 1) := by decide +kernel
theorem d_M_day_41 : decode b_M_day 41 = .ok (.getfield 31, 3) := by decide +kernel
theorem d_M_day_44 : decode b_M_day 44 = .ok (.iload_n 1, 1) := by decide +kernel
theorem d_M_day_45 : decode b_M_day 45 = .ok (.laload, 1) := by decide +kernel
theorem d_M_day_46 : decode b_M_day 46 = .ok (.aload_n 0, 1) := by decide +kernel
theorem d_M_day_47 : decode b_M_day 47 = .ok (.getfield 55, 3) := by decide +kernel
theorem d_M_day_50 : decode b_M_day 50 = .ok (.aload_n 0, 1) := by decide +kernel
theorem d_M_day_51 : decode b_M_day 51 = .ok (.getfield 52, 3) := by decide +kernel
theorem d_M_day_54 : decode b_M_day 54 = .ok (.isub, 1) := by decide +kernel
theorem d_M_day_55 : decode b_M_day 55 = .ok (.i2l, 1) := by decide +kernel
theorem d_M_day_56 : decode b_M_day 56 = .ok (.lmul, 1) := by decide +kernel
theorem d_M_day_57 : decode b_M_day 57 = .ok (.iload_n 2, 1) := by decide +kernel
theorem d_M_day_58 : decode b_M_day 58 = .ok (.i2l, 1) := by decide +kernel
theorem d_M_day_59 : decode b_M_day 59 = .ok (.aload_n 0, 1) := by decide +kernel
theorem d_M_day_60 : decode b_M_day 60 = .ok (.getfield 35, 3) := by decide +kernel
theorem d_M_day_63 : decode b_M_day 63 = .ok (.iload_n 1, 1) := by decide +kernel
theorem d_M_day_64 : decode b_M_day 64 = .ok (.laload, 1) := by decide +kernel
theorem d_M_day_65 : decode b_M_day 65 = .ok (.lmul, 1) := by decide +kernel
theorem d_M_day_66 : decode b_M_day 66 = .ok (.aload_n 0, 1) := by decide +kernel
theorem d_M_day_67 : decode b_M_day 67 = .ok (.getfield 52, 3) := by decide +kernel
theorem d_M_day_70 : decode b_M_day 70 = .ok (.i2l, 1) := by decide +kernel
theorem d_M_day_71 : decode b_M_day 71 = .ok (.lmul, 1) := by decide +kernel
theorem d_M_day_72 : decode b_M_day 72 = .ok (.ladd, 1) := by decide +kernel
theorem d_M_day_73 : decode b_M_day 73 = .ok (.lstore_n 3, 1) := by decide +kernel
theorem d_M_day_74 : decode b_M_day 74 = .ok (.aload_n 0, 1) := by decide +kernel
theorem d_M_day_75 : decode b_M_day 75 = .ok (.getfield 35, 3) := by decide +kernel
theorem d_M_day_78 : decode b_M_day 78 = .ok (.iload_n 1, 1) := by decide +kernel
theorem d_M_day_79 : decode b_M_day 79 = .ok (.laload, 1) := by decide +kernel
theorem d_M_day_80 : decode b_M_day 80 = .ok (.aload_n 0, 1) := by decide +kernel
theorem d_M_day_81 : decode b_M_day 81 = .ok (.getfield 55, 3) := by decide +kernel
theorem d_M_day_84 : decode b_M_day 84 = .ok (.i2l, 1) := by decide +kernel
theorem d_M_day_85 : decode b_M_day 85 = .ok (.lmul, 1) := by decide +kernel
theorem d_M_day_86 : decode b_M_day 86 = .ok (.lstore 5, 2) := by decide +kernel
theorem d_M_day_88 : decode b_M_day 88 = .ok (.lload_n 3, 1) := by decide +kernel
theorem d_M_day_89 : decode b_M_day 89 = .ok (.lload 5, 2) := by decide +kernel
theorem d_M_day_91 : decode b_M_day 91 = .ok (.invokestatic 124, 3) := by decide +kernel
theorem d_M_day_94 : decode b_M_day 94 = .ok (.lstore 7, 2) := by decide +kernel
theorem d_M_day_96 : decode b_M_day 96 = .ok (.lload 5, 2) := by decide +kernel
theorem d_M_day_98 : decode b_M_day 98 = .ok (.lload 7, 2) := by decide +kernel
theorem d_M_day_100 : decode b_M_day 100 = .ok (.ldiv, 1) := by decide +kernel
theorem d_M_day_101 : decode b_M_day 101 = .ok (.ldc2_w 128, 3) := by decide +kernel
theorem d_M_day_104 : decode b_M_day 104 = .ok (.lcmp, 1) := by decide +kernel
theorem d_M_day_105 : decode b_M_day 105 = .ok (.ifCond .le 37, 3) := by decide +kernel
theorem d_M_day_108 : decode b_M_day 108 = .ok (.lload_n 3, 1) := by decide +kernel
theorem d_M_day_109 : decode b_M_day 109 = .ok (.lload 5, 2) := by decide +kernel
theorem d_M_day_111 : decode b_M_day 111 = .ok (.ldiv, 1) := by decide +kernel
theorem d_M_day_112 : decode b_M_day 112 = .ok (.ldc2_w 130, 3) := by decide +kernel
theorem d_M_day_115 : decode b_M_day 115 = .ok (.lmul, 1) := by decide +kernel
theorem d_M_day_116 : decode b_M_day 116 = .ok (.lload_n 3, 1) := by decide +kernel
theorem d_M_day_117 : decode b_M_day 117 = .ok (.lload 5, 2) := by decide +kernel
theorem d_M_day_119 : decode b_M_day 119 = .ok (.lrem, 1) := by decide +kernel
theorem d_M_day_120 : decode b_M_day 120 = .ok (.ldc2_w 130, 3) := by decide +kernel
theorem d_M_day_123 : decode b_M_day 123 = .ok (.lmul, 1) := by decide +kernel
theorem d_M_day_124 : decode b_M_day 124 = .ok (.lload 5, 2) := by decide +kernel
theorem d_M_day_126 : decode b_M_day 126 = .ok (.ldiv, 1) := by decide +kernel
theorem d_M_day_127 : decode b_M_day 127 = .ok (.ladd, 1) := by decide +kernel
theorem d_M_day_128 : decode b_M_day 128 = .ok (.lstore_n 3, 1) := by decide +kernel
theorem d_M_day_129 : decode b_M_day 129 = .ok (.ldc2_w 130, 3) := by decide +kernel
theorem d_M_day_132 : decode b_M_day 132 = .ok (.lstore 5, 2) := by decide +kernel
theorem d_M_day_134 : decode b_M_day 134 = .ok (.lload_n 3, 1) := by decide +kernel
theorem d_M_day_135 : decode b_M_day 135 = .ok (.lload 5, 2) := by decide +kernel
theorem d_M_day_137 : decode b_M_day 137 = .ok (.invokestatic 124, 3) := by decide +kernel
theorem d_M_day_140 : decode b_M_day 140 = .ok (.lstore 7, 2) := by decide +kernel
theorem d_M_day_142 : decode b_M_day 142 = .ok (.aload_n 0, 1) := by decide +kernel
theorem d_M_day_143 : decode b_M_day 143 = .ok (.getfield 31, 3) := by decide +kernel
theorem d_M_day_146 : decode b_M_day 146 = .ok (.iload_n 1, 1) := by decide +kernel
theorem d_M_day_147 : decode b_M_day 147 = .ok (.lload_n 3, 1) := by decide +kernel
theorem d_M_day_148 : decode b_M_day 148 = .ok (.lload 7, 2) := by decide +kernel
theorem d_M_day_150 : decode b_M_day 150 = .ok (.ldiv, 1) := by decide +kernel
theorem d_M_day_151 : decode b_M_day 151 = .ok (.lastore, 1) := by decide +kernel
theorem d_M_day_152 : decode b_M_day 152 = .ok (.aload_n 0, 1) := by decide +kernel
theorem d_M_day_153 : decode b_M_day 153 = .ok (.getfield 35, 3) := by decide +kernel
theorem d_M_day_156 : decode b_M_day 156 = .ok (.iload_n 1, 1) := by decide +kernel
theorem d_M_day_157 : decode b_M_day 157 = .ok (.lload 5, 2) := by decide +kernel
theorem d_M_day_159 : decode b_M_day 159 = .ok (.lload 7, 2) := by decide +kernel
theorem d_M_day_161 : decode b_M_day 161 = .ok (.ldiv, 1) := by decide +kernel
theorem d_M_day_162 : decode b_M_day 162 = .ok (.lastore, 1) := by decide +kernel
theorem d_M_day_163 : decode b_M_day 163 = .ok (.return_, 1) := by decide +kernel
theorem d_M_lesson_0 : decode b_M_lesson 0 = .ok (.aload_n 0, 1) := by decide +kernel
theorem d_M_lesson_1 : decode b_M_lesson 1 = .ok (.iconst 0, 1) := by decide +kernel
theorem d_M_lesson_2 : decode b_M_lesson 2 = .ok (.putfield 77, 3) := by decide +kernel
theorem d_M_lesson_5 : decode b_M_lesson 5 = .ok (.aload_n 0, 1) := by decide +kernel
theorem d_M_lesson_6 : decode b_M_lesson 6 = .ok (.aload_n 0, 1) := by decide +kernel
theorem d_M_lesson_7 : decode b_M_lesson 7 = .ok (.iload_n 1, 1) := by decide +kernel
theorem d_M_lesson_8 : decode b_M_lesson 8 = .ok (.invokevirtual 95, 3) := by decide +kernel
theorem d_M_lesson_11 : decode b_M_lesson 11 = .ok (.ifCond .eq 12, 3) := by decide +kernel
theorem d_M_lesson_14 : decode b_M_lesson 14 = .ok (.iload_n 2, 1) := by decide +kernel
theorem d_M_lesson_15 : decode b_M_lesson 15 = .ok (.iconst 0, 1) := by decide +kernel
theorem d_M_lesson_16 : decode b_M_lesson 16 = .ok (.iconst 1, 1) := by decide +kernel
theorem d_M_lesson_17 : decode b_M_lesson 17 = .ok (.invokestatic 83, 3) := by decide +kernel
theorem d_M_lesson_20 : decode b_M_lesson 20 = .ok (.ifCond .ne 7, 3) := by decide +kernel
theorem d_M_lesson_23 : decode b_M_lesson 23 = .ok (.iconst 1, 1) := by decide +kernel
theorem d_M_lesson_24 : decode b_M_lesson 24 = .ok (.goto 4, 3) := by decide +kernel
theorem d_M_lesson_27 : decode b_M_lesson 27 = .ok (.iconst 0, 1) := by decide +kernel
theorem d_M_lesson_28 : decode b_M_lesson 28 = .ok (.iconst 1, 1) := by decide +kernel
theorem d_M_lesson_29 : decode b_M_lesson 29 = .ok (.invokevirtual 87, 3) := by decide +kernel
theorem d_M_lesson_32 : decode b_M_lesson 32 = .ok (.ifCond .eq 5, 3) := by decide +kernel
theorem d_M_lesson_35 : decode b_M_lesson 35 = .ok (.lconst 0, 1) := by decide +kernel
theorem d_M_lesson_36 : decode b_M_lesson 36 = .ok (.lreturn, 1) := by decide +kernel
theorem d_M_lesson_37 : decode b_M_lesson 37 = .ok (.iload_n 2, 1) := by decide +kernel
theorem d_M_lesson_38 : decode b_M_lesson 38 = .ok (.ifCond .ne 12, 3) := by decide +kernel
theorem d_M_lesson_41 : decode b_M_lesson 41 = .ok (.aload_n 0, 1) := by decide +kernel
theorem d_M_lesson_42 : decode b_M_lesson 42 = .ok (.getfield 31, 3) := by decide +kernel
theorem d_M_lesson_45 : decode b_M_lesson 45 = .ok (.iload_n 1, 1) := by decide +kernel
theorem d_M_lesson_46 : decode b_M_lesson 46 = .ok (.laload, 1) := by decide +kernel
theorem d_M_lesson_47 : decode b_M_lesson 47 = .ok (.goto 9, 3) := by decide +kernel
theorem d_M_lesson_50 : decode b_M_lesson 50 = .ok (.aload_n 0, 1) := by decide +kernel
theorem d_M_lesson_51 : decode b_M_lesson 51 = .ok (.getfield 35, 3) := by decide +kernel
theorem d_M_lesson_54 : decode b_M_lesson 54 = .ok (.iload_n 1, 1) := by decide +kernel
theorem d_M_lesson_55 : decode b_M_lesson 55 = .ok (.laload, 1) := by decide +kernel
theorem d_M_lesson_56 : decode b_M_lesson 56 = .ok (.lreturn, 1) := by decide +kernel
theorem d_M_taught_0 : decode b_M_taught 0 = .ok (.aload_n 0, 1) := by decide +kernel
theorem d_M_taught_1 : decode b_M_taught 1 = .ok (.iconst 0, 1) := by decide +kernel
theorem d_M_taught_2 : decode b_M_taught 2 = .ok (.putfield 77, 3) := by decide +kernel
theorem d_M_taught_5 : decode b_M_taught 5 = .ok (.aload_n 0, 1) := by decide +kernel
theorem d_M_taught_6 : decode b_M_taught 6 = .ok (.aload_n 0, 1) := by decide +kernel
theorem d_M_taught_7 : decode b_M_taught 7 = .ok (.iload_n 1, 1) := by decide +kernel
theorem d_M_taught_8 : decode b_M_taught 8 = .ok (.invokevirtual 95, 3) := by decide +kernel
theorem d_M_taught_11 : decode b_M_taught 11 = .ok (.ifCond .ne 7, 3) := by decide +kernel
theorem d_M_taught_14 : decode b_M_taught 14 = .ok (.iconst 1, 1) := by decide +kernel
theorem d_M_taught_15 : decode b_M_taught 15 = .ok (.goto 4, 3) := by decide +kernel
theorem d_M_taught_18 : decode b_M_taught 18 = .ok (.iconst 0, 1) := by decide +kernel
theorem d_M_taught_19 : decode b_M_taught 19 = .ok (.iconst 1, 1) := by decide +kernel
theorem d_M_taught_20 : decode b_M_taught 20 = .ok (.invokevirtual 87, 3) := by decide +kernel
theorem d_M_taught_23 : decode b_M_taught 23 = .ok (.ifCond .eq 5, 3) := by decide +kernel
theorem d_M_taught_26 : decode b_M_taught 26 = .ok (.iconst 0, 1) := by decide +kernel
theorem d_M_taught_27 : decode b_M_taught 27 = .ok (.ireturn, 1) := by decide +kernel
theorem d_M_taught_28 : decode b_M_taught 28 = .ok (.aload_n 0, 1) := by decide +kernel
theorem d_M_taught_29 : decode b_M_taught 29 = .ok (.invokevirtual 121, 3) := by decide +kernel
theorem d_M_taught_32 : decode b_M_taught 32 = .ok (.aload_n 0, 1) := by decide +kernel
theorem d_M_taught_33 : decode b_M_taught 33 = .ok (.getfield 64, 3) := by decide +kernel
theorem d_M_taught_36 : decode b_M_taught 36 = .ok (.iload_n 1, 1) := by decide +kernel
theorem d_M_taught_37 : decode b_M_taught 37 = .ok (.iaload, 1) := by decide +kernel
theorem d_M_taught_38 : decode b_M_taught 38 = .ok (.iconst (-1), 1) := by decide +kernel
theorem d_M_taught_39 : decode b_M_taught 39 = .ok (.if_icmp .ne 5, 3) := by decide +kernel
theorem d_M_taught_42 : decode b_M_taught 42 = .ok (.iconst (-1), 1) := by decide +kernel
theorem d_M_taught_43 : decode b_M_taught 43 = .ok (.ireturn, 1) := by decide +kernel
theorem d_M_taught_44 : decode b_M_taught 44 = .ok (.aload_n 0, 1) := by decide +kernel
theorem d_M_taught_45 : decode b_M_taught 45 = .ok (.getfield 64, 3) := by decide +kernel
theorem d_M_taught_48 : decode b_M_taught 48 = .ok (.iload_n 1, 1) := by decide +kernel
theorem d_M_taught_49 : decode b_M_taught 49 = .ok (.iaload, 1) := by decide +kernel
theorem d_M_taught_50 : decode b_M_taught 50 = .ok (.i2l, 1) := by decide +kernel
theorem d_M_taught_51 : decode b_M_taught 51 = .ok (.aload_n 0, 1) := by decide +kernel
theorem d_M_taught_52 : decode b_M_taught 52 = .ok (.getfield 31, 3) := by decide +kernel
theorem d_M_taught_55 : decode b_M_taught 55 = .ok (.iload_n 1, 1) := by decide +kernel
theorem d_M_taught_56 : decode b_M_taught 56 = .ok (.laload, 1) := by decide +kernel
theorem d_M_taught_57 : decode b_M_taught 57 = .ok (.aload_n 0, 1) := by decide +kernel
theorem d_M_taught_58 : decode b_M_taught 58 = .ok (.getfield 35, 3) := by decide +kernel
theorem d_M_taught_61 : decode b_M_taught 61 = .ok (.iload_n 1, 1) := by decide +kernel
theorem d_M_taught_62 : decode b_M_taught 62 = .ok (.laload, 1) := by decide +kernel
theorem d_M_taught_63 : decode b_M_taught 63 = .ok (.ldiv, 1) := by decide +kernel
theorem d_M_taught_64 : decode b_M_taught 64 = .ok (.lsub, 1) := by decide +kernel
theorem d_M_taught_65 : decode b_M_taught 65 = .ok (.lstore_n 2, 1) := by decide +kernel
theorem d_M_taught_66 : decode b_M_taught 66 = .ok (.lload_n 2, 1) := by decide +kernel
theorem d_M_taught_67 : decode b_M_taught 67 = .ok (.lconst 0, 1) := by decide +kernel
theorem d_M_taught_68 : decode b_M_taught 68 = .ok (.lcmp, 1) := by decide +kernel
theorem d_M_taught_69 : decode b_M_taught 69 = .ok (.ifCond .ge 7, 3) := by decide +kernel
theorem d_M_taught_72 : decode b_M_taught 72 = .ok (.iconst 0, 1) := by decide +kernel
theorem d_M_taught_73 : decode b_M_taught 73 = .ok (.goto 19, 3) := by decide +kernel
theorem d_M_taught_76 : decode b_M_taught 76 = .ok (.lload_n 2, 1) := by decide +kernel
theorem d_M_taught_77 : decode b_M_taught 77 = .ok (.ldc2_w 132, 3) := by decide +kernel
theorem d_M_taught_80 : decode b_M_taught 80 = .ok (.lcmp, 1) := by decide +kernel
theorem d_M_taught_81 : decode b_M_taught 81 = .ok (.ifCond .le 9, 3) := by decide +kernel
theorem d_M_taught_84 : decode b_M_taught 84 = .ok (.sipush 1439, 3) := by decide +kernel
theorem d_M_taught_87 : decode b_M_taught 87 = .ok (.goto 5, 3) := by decide +kernel
theorem d_M_taught_90 : decode b_M_taught 90 = .ok (.lload_n 2, 1) := by decide +kernel
theorem d_M_taught_91 : decode b_M_taught 91 = .ok (.l2i, 1) := by decide +kernel
theorem d_M_taught_92 : decode b_M_taught 92 = .ok (.ireturn, 1) := by decide +kernel
theorem d_M_price_0 : decode b_M_price 0 = .ok (.aload_n 0, 1) := by decide +kernel
theorem d_M_price_1 : decode b_M_price 1 = .ok (.iconst 0, 1) := by decide +kernel
theorem d_M_price_2 : decode b_M_price 2 = .ok (.putfield 77, 3) := by decide +kernel
theorem d_M_price_5 : decode b_M_price 5 = .ok (.aload_n 0, 1) := by decide +kernel
theorem d_M_price_6 : decode b_M_price 6 = .ok (.iload_n 1, 1) := by decide +kernel
theorem d_M_price_7 : decode b_M_price 7 = .ok (.iconst 0, 1) := by decide +kernel
theorem d_M_price_8 : decode b_M_price 8 = .ok (.bipush 23, 2) := by decide +kernel
theorem d_M_price_10 : decode b_M_price 10 = .ok (.invokestatic 83, 3) := by decide +kernel
theorem d_M_price_13 : decode b_M_price 13 = .ok (.ifCond .eq 14, 3) := by decide +kernel
theorem d_M_price_16 : decode b_M_price 16 = .ok (.iload_n 2, 1) := by decide +kernel
theorem d_M_price_17 : decode b_M_price 17 = .ok (.iconst 0, 1) := by decide +kernel
theorem d_M_price_18 : decode b_M_price 18 = .ok (.sipush 1000, 3) := by decide +kernel
theorem d_M_price_21 : decode b_M_price 21 = .ok (.invokestatic 83, 3) := by decide +kernel
theorem d_M_price_24 : decode b_M_price 24 = .ok (.ifCond .ne 7, 3) := by decide +kernel
theorem d_M_price_27 : decode b_M_price 27 = .ok (.iconst 1, 1) := by decide +kernel
theorem d_M_price_28 : decode b_M_price 28 = .ok (.goto 4, 3) := by decide +kernel
theorem d_M_price_31 : decode b_M_price 31 = .ok (.iconst 0, 1) := by decide +kernel
theorem d_M_price_32 : decode b_M_price 32 = .ok (.iconst 1, 1) := by decide +kernel
theorem d_M_price_33 : decode b_M_price 33 = .ok (.invokevirtual 87, 3) := by decide +kernel
theorem d_M_price_36 : decode b_M_price 36 = .ok (.ifCond .eq 5, 3) := by decide +kernel
theorem d_M_price_39 : decode b_M_price 39 = .ok (.iconst 0, 1) := by decide +kernel
theorem d_M_price_40 : decode b_M_price 40 = .ok (.ireturn, 1) := by decide +kernel
theorem d_M_price_41 : decode b_M_price 41 = .ok (.aload_n 0, 1) := by decide +kernel
theorem d_M_price_42 : decode b_M_price 42 = .ok (.getfield 49, 3) := by decide +kernel
theorem d_M_price_45 : decode b_M_price 45 = .ok (.iload_n 1, 1) := by decide +kernel
theorem d_M_price_46 : decode b_M_price 46 = .ok (.iaload, 1) := by decide +kernel
theorem d_M_price_47 : decode b_M_price 47 = .ok (.istore_n 3, 1) := by decide +kernel
theorem d_M_price_48 : decode b_M_price 48 = .ok (.aload_n 0, 1) := by decide +kernel
theorem d_M_price_49 : decode b_M_price 49 = .ok (.getfield 49, 3) := by decide +kernel
theorem d_M_price_52 : decode b_M_price 52 = .ok (.iload_n 1, 1) := by decide +kernel
theorem d_M_price_53 : decode b_M_price 53 = .ok (.iload_n 2, 1) := by decide +kernel
theorem d_M_price_54 : decode b_M_price 54 = .ok (.iastore, 1) := by decide +kernel
theorem d_M_price_55 : decode b_M_price 55 = .ok (.iload_n 3, 1) := by decide +kernel
theorem d_M_price_56 : decode b_M_price 56 = .ok (.ireturn, 1) := by decide +kernel
theorem d_M_areQuarters_0 : decode b_M_areQuarters 0 = .ok (.aload_n 0, 1) := by decide +kernel
theorem d_M_areQuarters_1 : decode b_M_areQuarters 1 = .ok (.iload_n 1, 1) := by decide +kernel
theorem d_M_areQuarters_2 : decode b_M_areQuarters 2 = .ok (.invokevirtual 95, 3) := by decide +kernel
theorem d_M_areQuarters_5 : decode b_M_areQuarters 5 = .ok (.ifCond .eq 27, 3) := by decide +kernel
theorem d_M_areQuarters_8 : decode b_M_areQuarters 8 = .ok (.iload_n 2, 1) := by decide +kernel
theorem d_M_areQuarters_9 : decode b_M_areQuarters 9 = .ok (.iconst 1, 1) := by decide +kernel
theorem d_M_areQuarters_10 : decode b_M_areQuarters 10 = .ok (.bipush 10, 2) := by decide +kernel
theorem d_M_areQuarters_12 : decode b_M_areQuarters 12 = .ok (.invokestatic 83, 3) := by decide +kernel
theorem d_M_areQuarters_15 : decode b_M_areQuarters 15 = .ok (.ifCond .eq 17, 3) := by decide +kernel
theorem d_M_areQuarters_18 : decode b_M_areQuarters 18 = .ok (.iload_n 3, 1) := by decide +kernel
theorem d_M_areQuarters_19 : decode b_M_areQuarters 19 = .ok (.iconst 1, 1) := by decide +kernel
theorem d_M_areQuarters_20 : decode b_M_areQuarters 20 = .ok (.bipush 30, 2) := by decide +kernel
theorem d_M_areQuarters_22 : decode b_M_areQuarters 22 = .ok (.invokestatic 83, 3) := by decide +kernel
theorem d_M_areQuarters_25 : decode b_M_areQuarters 25 = .ok (.ifCond .eq 7, 3) := by decide +kernel
theorem d_M_areQuarters_28 : decode b_M_areQuarters 28 = .ok (.iconst 1, 1) := by decide +kernel
theorem d_M_areQuarters_29 : decode b_M_areQuarters 29 = .ok (.goto 4, 3) := by decide +kernel
theorem d_M_areQuarters_32 : decode b_M_areQuarters 32 = .ok (.iconst 0, 1) := by decide +kernel
theorem d_M_areQuarters_33 : decode b_M_areQuarters 33 = .ok (.ireturn, 1) := by decide +kernel
theorem d_M_reckoned_0 : decode b_M_reckoned 0 = .ok (.aload_n 0, 1) := by decide +kernel
theorem d_M_reckoned_1 : decode b_M_reckoned 1 = .ok (.getfield 16, 3) := by decide +kernel
theorem d_M_reckoned_4 : decode b_M_reckoned 4 = .ok (.iload_n 1, 1) := by decide +kernel
theorem d_M_reckoned_5 : decode b_M_reckoned 5 = .ok (.iaload, 1) := by decide +kernel
theorem d_M_reckoned_6 : decode b_M_reckoned 6 = .ok (.istore 5, 2) := by decide +kernel
theorem d_M_reckoned_8 : decode b_M_reckoned 8 = .ok (.aload_n 0, 1) := by decide +kernel
theorem d_M_reckoned_9 : decode b_M_reckoned 9 = .ok (.getfield 25, 3) := by decide +kernel
theorem d_M_reckoned_12 : decode b_M_reckoned 12 = .ok (.iload_n 1, 1) := by decide +kernel
theorem d_M_reckoned_13 : decode b_M_reckoned 13 = .ok (.iaload, 1) := by decide +kernel
theorem d_M_reckoned_14 : decode b_M_reckoned 14 = .ok (.iload_n 2, 1) := by decide +kernel
theorem d_M_reckoned_15 : decode b_M_reckoned 15 = .ok (.iload_n 3, 1) := by decide +kernel
theorem d_M_reckoned_16 : decode b_M_reckoned 16 = .ok (.imul, 1) := by decide +kernel
theorem d_M_reckoned_17 : decode b_M_reckoned 17 = .ok (.isub, 1) := by decide +kernel
theorem d_M_reckoned_18 : decode b_M_reckoned 18 = .ok (.istore 6, 2) := by decide +kernel
theorem d_M_reckoned_20 : decode b_M_reckoned 20 = .ok (.lconst 0, 1) := by decide +kernel
theorem d_M_reckoned_21 : decode b_M_reckoned 21 = .ok (.lstore 7, 2) := by decide +kernel
theorem d_M_reckoned_23 : decode b_M_reckoned 23 = .ok (.iconst 0, 1) := by decide +kernel
theorem d_M_reckoned_24 : decode b_M_reckoned 24 = .ok (.istore 9, 2) := by decide +kernel
theorem d_M_reckoned_26 : decode b_M_reckoned 26 = .ok (.iload 9, 2) := by decide +kernel
theorem d_M_reckoned_28 : decode b_M_reckoned 28 = .ok (.aload_n 0, 1) := by decide +kernel
theorem d_M_reckoned_29 : decode b_M_reckoned 29 = .ok (.getfield 25, 3) := by decide +kernel
theorem d_M_reckoned_32 : decode b_M_reckoned 32 = .ok (.iload_n 1, 1) := by decide +kernel
theorem d_M_reckoned_33 : decode b_M_reckoned 33 = .ok (.iaload, 1) := by decide +kernel
theorem d_M_reckoned_34 : decode b_M_reckoned 34 = .ok (.if_icmp .ge 98, 3) := by decide +kernel
theorem d_M_reckoned_37 : decode b_M_reckoned 37 = .ok (.iload 9, 2) := by decide +kernel
theorem d_M_reckoned_39 : decode b_M_reckoned 39 = .ok (.iload 6, 2) := by decide +kernel
theorem d_M_reckoned_41 : decode b_M_reckoned 41 = .ok (.if_icmp .lt 23, 3) := by decide +kernel
theorem d_M_reckoned_44 : decode b_M_reckoned 44 = .ok (.iload 4, 2) := by decide +kernel
theorem d_M_reckoned_46 : decode b_M_reckoned 46 = .ok (.iload 9, 2) := by decide +kernel
theorem d_M_reckoned_48 : decode b_M_reckoned 48 = .ok (.iload 6, 2) := by decide +kernel
theorem d_M_reckoned_50 : decode b_M_reckoned 50 = .ok (.isub, 1) := by decide +kernel
theorem d_M_reckoned_51 : decode b_M_reckoned 51 = .ok (.iload_n 3, 1) := by decide +kernel
theorem d_M_reckoned_52 : decode b_M_reckoned 52 = .ok (.idiv, 1) := by decide +kernel
theorem d_M_reckoned_53 : decode b_M_reckoned 53 = .ok (.ishr, 1) := by decide +kernel
theorem d_M_reckoned_54 : decode b_M_reckoned 54 = .ok (.iconst 1, 1) := by decide +kernel
theorem d_M_reckoned_55 : decode b_M_reckoned 55 = .ok (.iand, 1) := by decide +kernel
theorem d_M_reckoned_56 : decode b_M_reckoned 56 = .ok (.iconst 1, 1) := by decide +kernel
theorem d_M_reckoned_57 : decode b_M_reckoned 57 = .ok (.if_icmp .ne 7, 3) := by decide +kernel
theorem d_M_reckoned_60 : decode b_M_reckoned 60 = .ok (.iconst 1, 1) := by decide +kernel
theorem d_M_reckoned_61 : decode b_M_reckoned 61 = .ok (.goto 4, 3) := by decide +kernel
theorem d_M_reckoned_64 : decode b_M_reckoned 64 = .ok (.iconst 0, 1) := by decide +kernel
theorem d_M_reckoned_65 : decode b_M_reckoned 65 = .ok (.istore 10, 2) := by decide +kernel
theorem d_M_reckoned_67 : decode b_M_reckoned 67 = .ok (.aload_n 0, 1) := by decide +kernel
theorem d_M_reckoned_68 : decode b_M_reckoned 68 = .ok (.iload_n 1, 1) := by decide +kernel
theorem d_M_reckoned_69 : decode b_M_reckoned 69 = .ok (.iload 5, 2) := by decide +kernel
theorem d_M_reckoned_71 : decode b_M_reckoned 71 = .ok (.iload 9, 2) := by decide +kernel
theorem d_M_reckoned_73 : decode b_M_reckoned 73 = .ok (.iload 10, 2) := by decide +kernel
theorem d_M_reckoned_75 : decode b_M_reckoned 75 = .ok (.ifCond .eq 12, 3) := by decide +kernel
theorem d_M_reckoned_78 : decode b_M_reckoned 78 = .ok (.aload_n 0, 1) := by decide +kernel
theorem d_M_reckoned_79 : decode b_M_reckoned 79 = .ok (.getfield 19, 3) := by decide +kernel
theorem d_M_reckoned_82 : decode b_M_reckoned 82 = .ok (.iload_n 1, 1) := by decide +kernel
theorem d_M_reckoned_83 : decode b_M_reckoned 83 = .ok (.iaload, 1) := by decide +kernel
theorem d_M_reckoned_84 : decode b_M_reckoned 84 = .ok (.goto 4, 3) := by decide +kernel
theorem d_M_reckoned_87 : decode b_M_reckoned 87 = .ok (.iconst 0, 1) := by decide +kernel
theorem d_M_reckoned_88 : decode b_M_reckoned 88 = .ok (.invokevirtual 107, 3) := by decide +kernel
theorem d_M_reckoned_91 : decode b_M_reckoned 91 = .ok (.istore 5, 2) := by decide +kernel
theorem d_M_reckoned_93 : decode b_M_reckoned 93 = .ok (.lload 7, 2) := by decide +kernel
theorem d_M_reckoned_95 : decode b_M_reckoned 95 = .ok (.iload 10, 2) := by decide +kernel
theorem d_M_reckoned_97 : decode b_M_reckoned 97 = .ok (.ifCond .eq 25, 3) := by decide +kernel
theorem d_M_reckoned_100 : decode b_M_reckoned 100 = .ok (.aload_n 0, 1) := by decide +kernel
theorem d_M_reckoned_101 : decode b_M_reckoned 101 = .ok (.getfield 19, 3) := by decide +kernel
theorem d_M_reckoned_104 : decode b_M_reckoned 104 = .ok (.iload_n 1, 1) := by decide +kernel
theorem d_M_reckoned_105 : decode b_M_reckoned 105 = .ok (.iaload, 1) := by decide +kernel
theorem d_M_reckoned_106 : decode b_M_reckoned 106 = .ok (.i2l, 1) := by decide +kernel
theorem d_M_reckoned_107 : decode b_M_reckoned 107 = .ok (.aload_n 0, 1) := by decide +kernel
theorem d_M_reckoned_108 : decode b_M_reckoned 108 = .ok (.getfield 49, 3) := by decide +kernel
theorem d_M_reckoned_111 : decode b_M_reckoned 111 = .ok (.iload 9, 2) := by decide +kernel
theorem d_M_reckoned_113 : decode b_M_reckoned 113 = .ok (.bipush 60, 2) := by decide +kernel
theorem d_M_reckoned_115 : decode b_M_reckoned 115 = .ok (.idiv, 1) := by decide +kernel
theorem d_M_reckoned_116 : decode b_M_reckoned 116 = .ok (.iaload, 1) := by decide +kernel
theorem d_M_reckoned_117 : decode b_M_reckoned 117 = .ok (.i2l, 1) := by decide +kernel
theorem d_M_reckoned_118 : decode b_M_reckoned 118 = .ok (.lmul, 1) := by decide +kernel
theorem d_M_reckoned_119 : decode b_M_reckoned 119 = .ok (.goto 4, 3) := by decide +kernel
theorem d_M_reckoned_122 : decode b_M_reckoned 122 = .ok (.lconst 0, 1) := by decide +kernel
theorem d_M_reckoned_123 : decode b_M_reckoned 123 = .ok (.ladd, 1) := by decide +kernel
theorem d_M_reckoned_124 : decode b_M_reckoned 124 = .ok (.lstore 7, 2) := by decide +kernel
theorem d_M_reckoned_126 : decode b_M_reckoned 126 = .ok (.iinc 9 1, 3) := by decide +kernel
theorem d_M_reckoned_129 : decode b_M_reckoned 129 = .ok (.goto (-103), 3) := by decide +kernel
theorem d_M_reckoned_132 : decode b_M_reckoned 132 = .ok (.iload 5, 2) := by decide +kernel
theorem d_M_reckoned_134 : decode b_M_reckoned 134 = .ok (.aload_n 0, 1) := by decide +kernel
theorem d_M_reckoned_135 : decode b_M_reckoned 135 = .ok (.getfield 28, 3) := by decide +kernel
theorem d_M_reckoned_138 : decode b_M_reckoned 138 = .ok (.iload_n 1, 1) := by decide +kernel
theorem d_M_reckoned_139 : decode b_M_reckoned 139 = .ok (.iaload, 1) := by decide +kernel
theorem d_M_reckoned_140 : decode b_M_reckoned 140 = .ok (.if_icmp .lt 8, 3) := by decide +kernel
theorem d_M_reckoned_143 : decode b_M_reckoned 143 = .ok (.lload 7, 2) := by decide +kernel
theorem d_M_reckoned_145 : decode b_M_reckoned 145 = .ok (.goto 6, 3) := by decide +kernel
theorem d_M_reckoned_148 : decode b_M_reckoned 148 = .ok (.ldc2_w 134, 3) := by decide +kernel
theorem d_M_reckoned_151 : decode b_M_reckoned 151 = .ok (.lreturn, 1) := by decide +kernel
theorem d_M_cheapest_0 : decode b_M_cheapest 0 = .ok (.aload_n 0, 1) := by decide +kernel
theorem d_M_cheapest_1 : decode b_M_cheapest 1 = .ok (.iconst 0, 1) := by decide +kernel
theorem d_M_cheapest_2 : decode b_M_cheapest 2 = .ok (.putfield 77, 3) := by decide +kernel
theorem d_M_cheapest_5 : decode b_M_cheapest 5 = .ok (.aload_n 0, 1) := by decide +kernel
theorem d_M_cheapest_6 : decode b_M_cheapest 6 = .ok (.aload_n 0, 1) := by decide +kernel
theorem d_M_cheapest_7 : decode b_M_cheapest 7 = .ok (.iload_n 1, 1) := by decide +kernel
theorem d_M_cheapest_8 : decode b_M_cheapest 8 = .ok (.iload_n 2, 1) := by decide +kernel
theorem d_M_cheapest_9 : decode b_M_cheapest 9 = .ok (.iload_n 3, 1) := by decide +kernel
theorem d_M_cheapest_10 : decode b_M_cheapest 10 = .ok (.invokevirtual 136, 3) := by decide +kernel
theorem d_M_cheapest_13 : decode b_M_cheapest 13 = .ok (.ifCond .ne 7, 3) := by decide +kernel
theorem d_M_cheapest_16 : decode b_M_cheapest 16 = .ok (.iconst 1, 1) := by decide +kernel
theorem d_M_cheapest_17 : decode b_M_cheapest 17 = .ok (.goto 4, 3) := by decide +kernel
theorem d_M_cheapest_20 : decode b_M_cheapest 20 = .ok (.iconst 0, 1) := by decide +kernel
theorem d_M_cheapest_21 : decode b_M_cheapest 21 = .ok (.iconst 1, 1) := by decide +kernel
theorem d_M_cheapest_22 : decode b_M_cheapest 22 = .ok (.invokevirtual 87, 3) := by decide +kernel
theorem d_M_cheapest_25 : decode b_M_cheapest 25 = .ok (.ifCond .ne 26, 3) := by decide +kernel
theorem d_M_cheapest_28 : decode b_M_cheapest 28 = .ok (.aload_n 0, 1) := by decide +kernel
theorem d_M_cheapest_29 : decode b_M_cheapest 29 = .ok (.aload_n 0, 1) := by decide +kernel
theorem d_M_cheapest_30 : decode b_M_cheapest 30 = .ok (.getfield 25, 3) := by decide +kernel
theorem d_M_cheapest_33 : decode b_M_cheapest 33 = .ok (.iload_n 1, 1) := by decide +kernel
theorem d_M_cheapest_34 : decode b_M_cheapest 34 = .ok (.iaload, 1) := by decide +kernel
theorem d_M_cheapest_35 : decode b_M_cheapest 35 = .ok (.iconst (-1), 1) := by decide +kernel
theorem d_M_cheapest_36 : decode b_M_cheapest 36 = .ok (.if_icmp .ne 7, 3) := by decide +kernel
theorem d_M_cheapest_39 : decode b_M_cheapest 39 = .ok (.iconst 1, 1) := by decide +kernel
theorem d_M_cheapest_40 : decode b_M_cheapest 40 = .ok (.goto 4, 3) := by decide +kernel
theorem d_M_cheapest_43 : decode b_M_cheapest 43 = .ok (.iconst 0, 1) := by decide +kernel
theorem d_M_cheapest_44 : decode b_M_cheapest 44 = .ok (.iconst 2, 1) := by decide +kernel
theorem d_M_cheapest_45 : decode b_M_cheapest 45 = .ok (.invokevirtual 87, 3) := by decide +kernel
theorem d_M_cheapest_48 : decode b_M_cheapest 48 = .ok (.ifCond .eq 5, 3) := by decide +kernel
theorem d_M_cheapest_51 : decode b_M_cheapest 51 = .ok (.iconst 0, 1) := by decide +kernel
theorem d_M_cheapest_52 : decode b_M_cheapest 52 = .ok (.ireturn, 1) := by decide +kernel
theorem d_M_cheapest_53 : decode b_M_cheapest 53 = .ok (.aload_n 0, 1) := by decide +kernel
theorem d_M_cheapest_54 : decode b_M_cheapest 54 = .ok (.invokevirtual 114, 3) := by decide +kernel
theorem d_M_cheapest_57 : decode b_M_cheapest 57 = .ok (.iconst (-1), 1) := by decide +kernel
theorem d_M_cheapest_58 : decode b_M_cheapest 58 = .ok (.istore 4, 2) := by decide +kernel
theorem d_M_cheapest_60 : decode b_M_cheapest 60 = .ok (.lconst 0, 1) := by decide +kernel
theorem d_M_cheapest_61 : decode b_M_cheapest 61 = .ok (.lstore 5, 2) := by decide +kernel
theorem d_M_cheapest_63 : decode b_M_cheapest 63 = .ok (.iconst 0, 1) := by decide +kernel
theorem d_M_cheapest_64 : decode b_M_cheapest 64 = .ok (.istore 7, 2) := by decide +kernel
theorem d_M_cheapest_66 : decode b_M_cheapest 66 = .ok (.iload 7, 2) := by decide +kernel
theorem d_M_cheapest_68 : decode b_M_cheapest 68 = .ok (.iconst 1, 1) := by decide +kernel
theorem d_M_cheapest_69 : decode b_M_cheapest 69 = .ok (.iload_n 2, 1) := by decide +kernel
theorem d_M_cheapest_70 : decode b_M_cheapest 70 = .ok (.ishl, 1) := by decide +kernel
theorem d_M_cheapest_71 : decode b_M_cheapest 71 = .ok (.if_icmp .ge 49, 3) := by decide +kernel
theorem d_M_cheapest_74 : decode b_M_cheapest 74 = .ok (.aload_n 0, 1) := by decide +kernel
theorem d_M_cheapest_75 : decode b_M_cheapest 75 = .ok (.iload_n 1, 1) := by decide +kernel
theorem d_M_cheapest_76 : decode b_M_cheapest 76 = .ok (.iload_n 2, 1) := by decide +kernel
theorem d_M_cheapest_77 : decode b_M_cheapest 77 = .ok (.iload_n 3, 1) := by decide +kernel
theorem d_M_cheapest_78 : decode b_M_cheapest 78 = .ok (.iload 7, 2) := by decide +kernel
theorem d_M_cheapest_80 : decode b_M_cheapest 80 = .ok (.invokevirtual 139, 3) := by decide +kernel
theorem d_M_cheapest_83 : decode b_M_cheapest 83 = .ok (.lstore 8, 2) := by decide +kernel
theorem d_M_cheapest_85 : decode b_M_cheapest 85 = .ok (.lload 8, 2) := by decide +kernel
theorem d_M_cheapest_87 : decode b_M_cheapest 87 = .ok (.lconst 0, 1) := by decide +kernel
theorem d_M_cheapest_88 : decode b_M_cheapest 88 = .ok (.lcmp, 1) := by decide +kernel
theorem d_M_cheapest_89 : decode b_M_cheapest 89 = .ok (.ifCond .lt 25, 3) := by decide +kernel
theorem d_M_cheapest_92 : decode b_M_cheapest 92 = .ok (.iload 4, 2) := by decide +kernel
theorem d_M_cheapest_94 : decode b_M_cheapest 94 = .ok (.iconst (-1), 1) := by decide +kernel
theorem d_M_cheapest_95 : decode b_M_cheapest 95 = .ok (.if_icmp .eq 11, 3) := by decide +kernel
theorem d_M_cheapest_98 : decode b_M_cheapest 98 = .ok (.lload 8, 2) := by decide +kernel
theorem d_M_cheapest_100 : decode b_M_cheapest 100 = .ok (.lload 5, 2) := by decide +kernel
theorem d_M_cheapest_102 : decode b_M_cheapest 102 = .ok (.lcmp, 1) := by decide +kernel
theorem d_M_cheapest_103 : decode b_M_cheapest 103 = .ok (.ifCond .ge 11, 3) := by decide +kernel
theorem d_M_cheapest_106 : decode b_M_cheapest 106 = .ok (.iload 7, 2) := by decide +kernel
theorem d_M_cheapest_108 : decode b_M_cheapest 108 = .ok (.istore 4, 2) := by decide +kernel
theorem d_M_cheapest_110 : decode b_M_cheapest 110 = .ok (.lload 8, 2) := by decide +kernel
theorem d_M_cheapest_112 : decode b_M_cheapest 112 = .ok (.lstore 5, 2) := by decide +kernel
theorem d_M_cheapest_114 : decode b_M_cheapest 114 = .ok (.iinc 7 1, 3) := by decide +kernel
theorem d_M_cheapest_117 : decode b_M_cheapest 117 = .ok (.goto (-51), 3) := by decide +kernel
theorem d_M_cheapest_120 : decode b_M_cheapest 120 = .ok (.iload 4, 2) := by decide +kernel
theorem d_M_cheapest_122 : decode b_M_cheapest 122 = .ok (.ireturn, 1) := by decide +kernel
theorem d_M_costs_0 : decode b_M_costs 0 = .ok (.aload_n 0, 1) := by decide +kernel
theorem d_M_costs_1 : decode b_M_costs 1 = .ok (.iconst 0, 1) := by decide +kernel
theorem d_M_costs_2 : decode b_M_costs 2 = .ok (.putfield 77, 3) := by decide +kernel
theorem d_M_costs_5 : decode b_M_costs 5 = .ok (.aload_n 0, 1) := by decide +kernel
theorem d_M_costs_6 : decode b_M_costs 6 = .ok (.aload_n 0, 1) := by decide +kernel
theorem d_M_costs_7 : decode b_M_costs 7 = .ok (.iload_n 1, 1) := by decide +kernel
theorem d_M_costs_8 : decode b_M_costs 8 = .ok (.iload_n 2, 1) := by decide +kernel
theorem d_M_costs_9 : decode b_M_costs 9 = .ok (.iload_n 3, 1) := by decide +kernel
theorem d_M_costs_10 : decode b_M_costs 10 = .ok (.invokevirtual 136, 3) := by decide +kernel
theorem d_M_costs_13 : decode b_M_costs 13 = .ok (.ifCond .eq 15, 3) := by decide +kernel
theorem d_M_costs_16 : decode b_M_costs 16 = .ok (.iload 4, 2) := by decide +kernel
theorem d_M_costs_18 : decode b_M_costs 18 = .ok (.ifCond .lt 10, 3) := by decide +kernel
theorem d_M_costs_21 : decode b_M_costs 21 = .ok (.iload 4, 2) := by decide +kernel
theorem d_M_costs_23 : decode b_M_costs 23 = .ok (.iload_n 2, 1) := by decide +kernel
theorem d_M_costs_24 : decode b_M_costs 24 = .ok (.ishr, 1) := by decide +kernel
theorem d_M_costs_25 : decode b_M_costs 25 = .ok (.ifCond .eq 7, 3) := by decide +kernel
theorem d_M_costs_28 : decode b_M_costs 28 = .ok (.iconst 1, 1) := by decide +kernel
theorem d_M_costs_29 : decode b_M_costs 29 = .ok (.goto 4, 3) := by decide +kernel
theorem d_M_costs_32 : decode b_M_costs 32 = .ok (.iconst 0, 1) := by decide +kernel
theorem d_M_costs_33 : decode b_M_costs 33 = .ok (.iconst 1, 1) := by decide +kernel
theorem d_M_costs_34 : decode b_M_costs 34 = .ok (.invokevirtual 87, 3) := by decide +kernel
theorem d_M_costs_37 : decode b_M_costs 37 = .ok (.ifCond .ne 26, 3) := by decide +kernel
theorem d_M_costs_40 : decode b_M_costs 40 = .ok (.aload_n 0, 1) := by decide +kernel
theorem d_M_costs_41 : decode b_M_costs 41 = .ok (.aload_n 0, 1) := by decide +kernel
theorem d_M_costs_42 : decode b_M_costs 42 = .ok (.getfield 25, 3) := by decide +kernel
theorem d_M_costs_45 : decode b_M_costs 45 = .ok (.iload_n 1, 1) := by decide +kernel
theorem d_M_costs_46 : decode b_M_costs 46 = .ok (.iaload, 1) := by decide +kernel
theorem d_M_costs_47 : decode b_M_costs 47 = .ok (.iconst (-1), 1) := by decide +kernel
theorem d_M_costs_48 : decode b_M_costs 48 = .ok (.if_icmp .ne 7, 3) := by decide +kernel
theorem d_M_costs_51 : decode b_M_costs 51 = .ok (.iconst 1, 1) := by decide +kernel
theorem d_M_costs_52 : decode b_M_costs 52 = .ok (.goto 4, 3) := by decide +kernel
theorem d_M_costs_55 : decode b_M_costs 55 = .ok (.iconst 0, 1) := by decide +kernel
theorem d_M_costs_56 : decode b_M_costs 56 = .ok (.iconst 2, 1) := by decide +kernel
theorem d_M_costs_57 : decode b_M_costs 57 = .ok (.invokevirtual 87, 3) := by decide +kernel
theorem d_M_costs_60 : decode b_M_costs 60 = .ok (.ifCond .eq 5, 3) := by decide +kernel
theorem d_M_costs_63 : decode b_M_costs 63 = .ok (.lconst 0, 1) := by decide +kernel
theorem d_M_costs_64 : decode b_M_costs 64 = .ok (.lreturn, 1) := by decide +kernel
theorem d_M_costs_65 : decode b_M_costs 65 = .ok (.aload_n 0, 1) := by decide +kernel
theorem d_M_costs_66 : decode b_M_costs 66 = .ok (.invokevirtual 114, 3) := by decide +kernel
theorem d_M_costs_69 : decode b_M_costs 69 = .ok (.aload_n 0, 1) := by decide +kernel
theorem d_M_costs_70 : decode b_M_costs 70 = .ok (.iload_n 1, 1) := by decide +kernel
theorem d_M_costs_71 : decode b_M_costs 71 = .ok (.iload_n 2, 1) := by decide +kernel
theorem d_M_costs_72 : decode b_M_costs 72 = .ok (.iload_n 3, 1) := by decide +kernel
theorem d_M_costs_73 : decode b_M_costs 73 = .ok (.iload 4, 2) := by decide +kernel
theorem d_M_costs_75 : decode b_M_costs 75 = .ok (.invokevirtual 139, 3) := by decide +kernel
theorem d_M_costs_78 : decode b_M_costs 78 = .ok (.lreturn, 1) := by decide +kernel
theorem d_E_init_0 : decode b_E_init 0 = .ok (.aload_n 0, 1) := by decide +kernel
theorem d_E_init_1 : decode b_E_init 1 = .ok (.invokespecial 1, 3) := by decide +kernel
theorem d_E_init_4 : decode b_E_init 4 = .ok (.aload_n 0, 1) := by decide +kernel
theorem d_E_init_5 : decode b_E_init 5 = .ok (.lconst 0, 1) := by decide +kernel
theorem d_E_init_6 : decode b_E_init 6 = .ok (.putfield 7, 3) := by decide +kernel
theorem d_E_init_9 : decode b_E_init 9 = .ok (.aload_n 0, 1) := by decide +kernel
theorem d_E_init_10 : decode b_E_init 10 = .ok (.lconst 1, 1) := by decide +kernel
theorem d_E_init_11 : decode b_E_init 11 = .ok (.putfield 13, 3) := by decide +kernel
theorem d_E_init_14 : decode b_E_init 14 = .ok (.return_, 1) := by decide +kernel
theorem d_E_learn_0 : decode b_E_learn 0 = .ok (.aload_n 0, 1) := by decide +kernel
theorem d_E_learn_1 : decode b_E_learn 1 = .ok (.getfield 7, 3) := by decide +kernel
theorem d_E_learn_4 : decode b_E_learn 4 = .ok (.iload_n 3, 1) := by decide +kernel
theorem d_E_learn_5 : decode b_E_learn 5 = .ok (.iload_n 2, 1) := by decide +kernel
theorem d_E_learn_6 : decode b_E_learn 6 = .ok (.isub, 1) := by decide +kernel
theorem d_E_learn_7 : decode b_E_learn 7 = .ok (.i2l, 1) := by decide +kernel
theorem d_E_learn_8 : decode b_E_learn 8 = .ok (.lmul, 1) := by decide +kernel
theorem d_E_learn_9 : decode b_E_learn 9 = .ok (.lstore 4, 2) := by decide +kernel
theorem d_E_learn_11 : decode b_E_learn 11 = .ok (.iload_n 1, 1) := by decide +kernel
theorem d_E_learn_12 : decode b_E_learn 12 = .ok (.i2l, 1) := by decide +kernel
theorem d_E_learn_13 : decode b_E_learn 13 = .ok (.aload_n 0, 1) := by decide +kernel
theorem d_E_learn_14 : decode b_E_learn 14 = .ok (.getfield 13, 3) := by decide +kernel
theorem d_E_learn_17 : decode b_E_learn 17 = .ok (.lmul, 1) := by decide +kernel
theorem d_E_learn_18 : decode b_E_learn 18 = .ok (.iload_n 2, 1) := by decide +kernel
theorem d_E_learn_19 : decode b_E_learn 19 = .ok (.i2l, 1) := by decide +kernel
theorem d_E_learn_20 : decode b_E_learn 20 = .ok (.lmul, 1) := by decide +kernel
theorem d_E_learn_21 : decode b_E_learn 21 = .ok (.lstore 6, 2) := by decide +kernel
theorem d_E_learn_23 : decode b_E_learn 23 = .ok (.aload_n 0, 1) := by decide +kernel
theorem d_E_learn_24 : decode b_E_learn 24 = .ok (.lload 4, 2) := by decide +kernel
theorem d_E_learn_26 : decode b_E_learn 26 = .ok (.lload 6, 2) := by decide +kernel
theorem d_E_learn_28 : decode b_E_learn 28 = .ok (.ladd, 1) := by decide +kernel
theorem d_E_learn_29 : decode b_E_learn 29 = .ok (.aload_n 0, 1) := by decide +kernel
theorem d_E_learn_30 : decode b_E_learn 30 = .ok (.getfield 13, 3) := by decide +kernel
theorem d_E_learn_33 : decode b_E_learn 33 = .ok (.iload_n 3, 1) := by decide +kernel
theorem d_E_learn_34 : decode b_E_learn 34 = .ok (.i2l, 1) := by decide +kernel
theorem d_E_learn_35 : decode b_E_learn 35 = .ok (.lmul, 1) := by decide +kernel
theorem d_E_learn_36 : decode b_E_learn 36 = .ok (.invokevirtual 16, 3) := by decide +kernel
theorem d_E_learn_39 : decode b_E_learn 39 = .ok (.aload_n 0, 1) := by decide +kernel
theorem d_E_learn_40 : decode b_E_learn 40 = .ok (.getfield 13, 3) := by decide +kernel
theorem d_E_learn_43 : decode b_E_learn 43 = .ok (.ldc2_w 20, 3) := by decide +kernel
theorem d_E_learn_46 : decode b_E_learn 46 = .ok (.lcmp, 1) := by decide +kernel
theorem d_E_learn_47 : decode b_E_learn 47 = .ok (.ifCond .le 14, 3) := by decide +kernel
theorem d_E_learn_50 : decode b_E_learn 50 = .ok (.aload_n 0, 1) := by decide +kernel
theorem d_E_learn_51 : decode b_E_learn 51 = .ok (.aload_n 0, 1) := by decide +kernel
theorem d_E_learn_52 : decode b_E_learn 52 = .ok (.invokevirtual 22, 3) := by decide +kernel
theorem d_E_learn_55 : decode b_E_learn 55 = .ok (.ldc2_w 26, 3) := by decide +kernel
theorem d_E_learn_58 : decode b_E_learn 58 = .ok (.invokevirtual 16, 3) := by decide +kernel
theorem d_E_learn_61 : decode b_E_learn 61 = .ok (.return_, 1) := by decide +kernel
theorem d_E_millionths_0 : decode b_E_millionths 0 = .ok (.aload_n 0, 1) := by decide +kernel
theorem d_E_millionths_1 : decode b_E_millionths 1 = .ok (.getfield 7, 3) := by decide +kernel
theorem d_E_millionths_4 : decode b_E_millionths 4 = .ok (.aload_n 0, 1) := by decide +kernel
theorem d_E_millionths_5 : decode b_E_millionths 5 = .ok (.getfield 13, 3) := by decide +kernel
theorem d_E_millionths_8 : decode b_E_millionths 8 = .ok (.ldiv, 1) := by decide +kernel
theorem d_E_millionths_9 : decode b_E_millionths 9 = .ok (.ldc2_w 26, 3) := by decide +kernel
theorem d_E_millionths_12 : decode b_E_millionths 12 = .ok (.lmul, 1) := by decide +kernel
theorem d_E_millionths_13 : decode b_E_millionths 13 = .ok (.aload_n 0, 1) := by decide +kernel
theorem d_E_millionths_14 : decode b_E_millionths 14 = .ok (.getfield 7, 3) := by decide +kernel
theorem d_E_millionths_17 : decode b_E_millionths 17 = .ok (.aload_n 0, 1) := by decide +kernel
theorem d_E_millionths_18 : decode b_E_millionths 18 = .ok (.getfield 13, 3) := by decide +kernel
theorem d_E_millionths_21 : decode b_E_millionths 21 = .ok (.lrem, 1) := by decide +kernel
theorem d_E_millionths_22 : decode b_E_millionths 22 = .ok (.ldc2_w 26, 3) := by decide +kernel
theorem d_E_millionths_25 : decode b_E_millionths 25 = .ok (.lmul, 1) := by decide +kernel
theorem d_E_millionths_26 : decode b_E_millionths 26 = .ok (.aload_n 0, 1) := by decide +kernel
theorem d_E_millionths_27 : decode b_E_millionths 27 = .ok (.getfield 13, 3) := by decide +kernel
theorem d_E_millionths_30 : decode b_E_millionths 30 = .ok (.ldiv, 1) := by decide +kernel
theorem d_E_millionths_31 : decode b_E_millionths 31 = .ok (.ladd, 1) := by decide +kernel
theorem d_E_millionths_32 : decode b_E_millionths 32 = .ok (.lreturn, 1) := by decide +kernel
theorem d_E_keepInLowestTerms_0 : decode b_E_keepInLowestTerms 0 = .ok (.lload_n 1, 1) := by decide +kernel
theorem d_E_keepInLowestTerms_1 : decode b_E_keepInLowestTerms 1 = .ok (.invokestatic 28, 3) := by decide +kernel
theorem d_E_keepInLowestTerms_4 : decode b_E_keepInLowestTerms 4 = .ok (.lload_n 3, 1) := by decide +kernel
theorem d_E_keepInLowestTerms_5 : decode b_E_keepInLowestTerms 5 = .ok (.invokestatic 34, 3) := by decide +kernel
theorem d_E_keepInLowestTerms_8 : decode b_E_keepInLowestTerms 8 = .ok (.lstore 5, 2) := by decide +kernel
theorem d_E_keepInLowestTerms_10 : decode b_E_keepInLowestTerms 10 = .ok (.aload_n 0, 1) := by decide +kernel
theorem d_E_keepInLowestTerms_11 : decode b_E_keepInLowestTerms 11 = .ok (.lload_n 1, 1) := by decide +kernel
theorem d_E_keepInLowestTerms_12 : decode b_E_keepInLowestTerms 12 = .ok (.lload 5, 2) := by decide +kernel
theorem d_E_keepInLowestTerms_14 : decode b_E_keepInLowestTerms 14 = .ok (.ldiv, 1) := by decide +kernel
theorem d_E_keepInLowestTerms_15 : decode b_E_keepInLowestTerms 15 = .ok (.putfield 7, 3) := by decide +kernel
theorem d_E_keepInLowestTerms_18 : decode b_E_keepInLowestTerms 18 = .ok (.aload_n 0, 1) := by decide +kernel
theorem d_E_keepInLowestTerms_19 : decode b_E_keepInLowestTerms 19 = .ok (.lload_n 3, 1) := by decide +kernel
theorem d_E_keepInLowestTerms_20 : decode b_E_keepInLowestTerms 20 = .ok (.lload 5, 2) := by decide +kernel
theorem d_E_keepInLowestTerms_22 : decode b_E_keepInLowestTerms 22 = .ok (.ldiv, 1) := by decide +kernel
theorem d_E_keepInLowestTerms_23 : decode b_E_keepInLowestTerms 23 = .ok (.putfield 13, 3) := by decide +kernel
theorem d_E_keepInLowestTerms_26 : decode b_E_keepInLowestTerms 26 = .ok (.return_, 1) := by decide +kernel
theorem d_E_commonDivisor_0 : decode b_E_commonDivisor 0 = .ok (.lload_n 2, 1) := by decide +kernel
theorem d_E_commonDivisor_1 : decode b_E_commonDivisor 1 = .ok (.lstore 4, 2) := by decide +kernel
theorem d_E_commonDivisor_3 : decode b_E_commonDivisor 3 = .ok (.lload_n 0, 1) := by decide +kernel
theorem d_E_commonDivisor_4 : decode b_E_commonDivisor 4 = .ok (.lstore 6, 2) := by decide +kernel
theorem d_E_commonDivisor_6 : decode b_E_commonDivisor 6 = .ok (.iconst 0, 1) := by decide +kernel
theorem d_E_commonDivisor_7 : decode b_E_commonDivisor 7 = .ok (.istore 8, 2) := by decide +kernel
theorem d_E_commonDivisor_9 : decode b_E_commonDivisor 9 = .ok (.iload 8, 2) := by decide +kernel
theorem d_E_commonDivisor_11 : decode b_E_commonDivisor 11 = .ok (.bipush 100, 2) := by decide +kernel
theorem d_E_commonDivisor_13 : decode b_E_commonDivisor 13 = .ok (.if_icmp .ge 31, 3) := by decide +kernel
theorem d_E_commonDivisor_16 : decode b_E_commonDivisor 16 = .ok (.lload 6, 2) := by decide +kernel
theorem d_E_commonDivisor_18 : decode b_E_commonDivisor 18 = .ok (.lconst 0, 1) := by decide +kernel
theorem d_E_commonDivisor_19 : decode b_E_commonDivisor 19 = .ok (.lcmp, 1) := by decide +kernel
theorem d_E_commonDivisor_20 : decode b_E_commonDivisor 20 = .ok (.ifCond .eq 24, 3) := by decide +kernel
theorem d_E_commonDivisor_23 : decode b_E_commonDivisor 23 = .ok (.lload 4, 2) := by decide +kernel
theorem d_E_commonDivisor_25 : decode b_E_commonDivisor 25 = .ok (.lload 6, 2) := by decide +kernel
theorem d_E_commonDivisor_27 : decode b_E_commonDivisor 27 = .ok (.lrem, 1) := by decide +kernel
theorem d_E_commonDivisor_28 : decode b_E_commonDivisor 28 = .ok (.lstore 9, 2) := by decide +kernel
theorem d_E_commonDivisor_30 : decode b_E_commonDivisor 30 = .ok (.lload 6, 2) := by decide +kernel
theorem d_E_commonDivisor_32 : decode b_E_commonDivisor 32 = .ok (.lstore 4, 2) := by decide +kernel
theorem d_E_commonDivisor_34 : decode b_E_commonDivisor 34 = .ok (.lload 9, 2) := by decide +kernel
theorem d_E_commonDivisor_36 : decode b_E_commonDivisor 36 = .ok (.lstore 6, 2) := by decide +kernel
theorem d_E_commonDivisor_38 : decode b_E_commonDivisor 38 = .ok (.iinc 8 1, 3) := by decide +kernel
theorem d_E_commonDivisor_41 : decode b_E_commonDivisor 41 = .ok (.goto (-32), 3) := by decide +kernel
theorem d_E_commonDivisor_44 : decode b_E_commonDivisor 44 = .ok (.lload 4, 2) := by decide +kernel
theorem d_E_commonDivisor_46 : decode b_E_commonDivisor 46 = .ok (.lreturn, 1) := by decide +kernel
theorem d_E_wholeMinutes_0 : decode b_E_wholeMinutes 0 = .ok (.aload_n 0, 1) := by decide +kernel
theorem d_E_wholeMinutes_1 : decode b_E_wholeMinutes 1 = .ok (.getfield 7, 3) := by decide +kernel
theorem d_E_wholeMinutes_4 : decode b_E_wholeMinutes 4 = .ok (.aload_n 0, 1) := by decide +kernel
theorem d_E_wholeMinutes_5 : decode b_E_wholeMinutes 5 = .ok (.getfield 13, 3) := by decide +kernel
theorem d_E_wholeMinutes_8 : decode b_E_wholeMinutes 8 = .ok (.ldiv, 1) := by decide +kernel
theorem d_E_wholeMinutes_9 : decode b_E_wholeMinutes 9 = .ok (.l2i, 1) := by decide +kernel
theorem d_E_wholeMinutes_10 : decode b_E_wholeMinutes 10 = .ok (.ireturn, 1) := by decide +kernel
theorem d_Z_init_0 : decode b_Z_init 0 = .ok (.aload_n 0, 1) := by decide +kernel
theorem d_Z_init_1 : decode b_Z_init 1 = .ok (.invokespecial 3, 3) := by decide +kernel
theorem d_Z_init_4 : decode b_Z_init 4 = .ok (.aload_n 0, 1) := by decide +kernel
theorem d_Z_init_5 : decode b_Z_init 5 = .ok (.iconst 0, 1) := by decide +kernel
theorem d_Z_init_6 : decode b_Z_init 6 = .ok (.putfield 9, 3) := by decide +kernel
theorem d_Z_init_9 : decode b_Z_init 9 = .ok (.aload_n 0, 1) := by decide +kernel
theorem d_Z_init_10 : decode b_Z_init 10 = .ok (.sipush 1000, 3) := by decide +kernel
theorem d_Z_init_13 : decode b_Z_init 13 = .ok (.putfield 15, 3) := by decide +kernel
theorem d_Z_init_16 : decode b_Z_init 16 = .ok (.aload_n 0, 1) := by decide +kernel
theorem d_Z_init_17 : decode b_Z_init 17 = .ok (.iconst 0, 1) := by decide +kernel
theorem d_Z_init_18 : decode b_Z_init 18 = .ok (.putfield 18, 3) := by decide +kernel
theorem d_Z_init_21 : decode b_Z_init 21 = .ok (.aload_n 0, 1) := by decide +kernel
theorem d_Z_init_22 : decode b_Z_init 22 = .ok (.iconst (-1), 1) := by decide +kernel
theorem d_Z_init_23 : decode b_Z_init 23 = .ok (.putfield 21, 3) := by decide +kernel
theorem d_Z_init_26 : decode b_Z_init 26 = .ok (.aload_n 0, 1) := by decide +kernel
theorem d_Z_init_27 : decode b_Z_init 27 = .ok (.iconst 0, 1) := by decide +kernel
theorem d_Z_init_28 : decode b_Z_init 28 = .ok (.putfield 24, 3) := by decide +kernel
theorem d_Z_init_31 : decode b_Z_init 31 = .ok (.aload_n 0, 1) := by decide +kernel
theorem d_Z_init_32 : decode b_Z_init 32 = .ok (.new 27, 3) := by decide +kernel
theorem d_Z_init_35 : decode b_Z_init 35 = .ok (.dup, 1) := by decide +kernel
theorem d_Z_init_36 : decode b_Z_init 36 = .ok (.invokespecial 29, 3) := by decide +kernel
theorem d_Z_init_39 : decode b_Z_init 39 = .ok (.putfield 30, 3) := by decide +kernel
theorem d_Z_init_42 : decode b_Z_init 42 = .ok (.aload_n 0, 1) := by decide +kernel
theorem d_Z_init_43 : decode b_Z_init 43 = .ok (.iconst (-1), 1) := by decide +kernel
theorem d_Z_init_44 : decode b_Z_init 44 = .ok (.putfield 34, 3) := by decide +kernel
theorem d_Z_init_47 : decode b_Z_init 47 = .ok (.aload_n 0, 1) := by decide +kernel
theorem d_Z_init_48 : decode b_Z_init 48 = .ok (.sipush 1441, 3) := by decide +kernel
theorem d_Z_init_51 : decode b_Z_init 51 = .ok (.newarray .int, 2) := by decide +kernel
theorem d_Z_init_53 : decode b_Z_init 53 = .ok (.putfield 37, 3) := by decide +kernel
theorem d_Z_init_56 : decode b_Z_init 56 = .ok (.aload_n 0, 1) := by decide +kernel
theorem d_Z_init_57 : decode b_Z_init 57 = .ok (.iload_n 1, 1) := by decide +kernel
theorem d_Z_init_58 : decode b_Z_init 58 = .ok (.putfield 41, 3) := by decide +kernel
theorem d_Z_init_61 : decode b_Z_init 61 = .ok (.aload_n 0, 1) := by decide +kernel
theorem d_Z_init_62 : decode b_Z_init 62 = .ok (.iload_n 2, 1) := by decide +kernel
theorem d_Z_init_63 : decode b_Z_init 63 = .ok (.putfield 44, 3) := by decide +kernel
theorem d_Z_init_66 : decode b_Z_init 66 = .ok (.return_, 1) := by decide +kernel
theorem d_Z_wantsWarmth_0 : decode b_Z_wantsWarmth 0 = .ok (.aload_n 0, 1) := by decide +kernel
theorem d_Z_wantsWarmth_1 : decode b_Z_wantsWarmth 1 = .ok (.getfield 21, 3) := by decide +kernel
theorem d_Z_wantsWarmth_4 : decode b_Z_wantsWarmth 4 = .ok (.iconst (-1), 1) := by decide +kernel
theorem d_Z_wantsWarmth_5 : decode b_Z_wantsWarmth 5 = .ok (.if_icmp .eq 7, 3) := by decide +kernel
theorem d_Z_wantsWarmth_8 : decode b_Z_wantsWarmth 8 = .ok (.iconst 1, 1) := by decide +kernel
theorem d_Z_wantsWarmth_9 : decode b_Z_wantsWarmth 9 = .ok (.goto 4, 3) := by decide +kernel
theorem d_Z_wantsWarmth_12 : decode b_Z_wantsWarmth 12 = .ok (.iconst 0, 1) := by decide +kernel
theorem d_Z_wantsWarmth_13 : decode b_Z_wantsWarmth 13 = .ok (.ireturn, 1) := by decide +kernel
theorem d_L_zone_0 : decode b_L_zone 0 = .ok (.aload_n 3, 1) := by decide +kernel
theorem d_L_zone_1 : decode b_L_zone 1 = .ok (.iconst 0, 1) := by decide +kernel
theorem d_L_zone_2 : decode b_L_zone 2 = .ok (.aload_n 0, 1) := by decide +kernel
theorem d_L_zone_3 : decode b_L_zone 3 = .ok (.iload_n 1, 1) := by decide +kernel
theorem d_L_zone_4 : decode b_L_zone 4 = .ok (.iload_n 2, 1) := by decide +kernel
theorem d_L_zone_5 : decode b_L_zone 5 = .ok (.invokevirtual 7, 3) := by decide +kernel
theorem d_L_zone_8 : decode b_L_zone 8 = .ok (.i2l, 1) := by decide +kernel
theorem d_L_zone_9 : decode b_L_zone 9 = .ok (.lastore, 1) := by decide +kernel
theorem d_L_zone_10 : decode b_L_zone 10 = .ok (.goto 11, 3) := by decide +kernel
theorem d_L_zone_13 : decode b_L_zone 13 = .ok (.astore 4, 2) := by decide +kernel
theorem d_L_zone_15 : decode b_L_zone 15 = .ok (.iconst 1, 1) := by decide +kernel
theorem d_L_zone_16 : decode b_L_zone 16 = .ok (.ireturn, 1) := by decide +kernel
theorem d_L_zone_17 : decode b_L_zone 17 = .ok (.astore 4, 2) := by decide +kernel
theorem d_L_zone_19 : decode b_L_zone 19 = .ok (.iconst 2, 1) := by decide +kernel
theorem d_L_zone_20 : decode b_L_zone 20 = .ok (.ireturn, 1) := by decide +kernel
theorem d_L_zone_21 : decode b_L_zone 21 = .ok (.iconst 0, 1) := by decide +kernel
theorem d_L_zone_22 : decode b_L_zone 22 = .ok (.ireturn, 1) := by decide +kernel
theorem d_L_set_0 : decode b_L_set 0 = .ok (.aload 4, 2) := by decide +kernel
theorem d_L_set_2 : decode b_L_set 2 = .ok (.iconst 0, 1) := by decide +kernel
theorem d_L_set_3 : decode b_L_set 3 = .ok (.aload_n 0, 1) := by decide +kernel
theorem d_L_set_4 : decode b_L_set 4 = .ok (.iload_n 1, 1) := by decide +kernel
theorem d_L_set_5 : decode b_L_set 5 = .ok (.iload_n 2, 1) := by decide +kernel
theorem d_L_set_6 : decode b_L_set 6 = .ok (.iload_n 3, 1) := by decide +kernel
theorem d_L_set_7 : decode b_L_set 7 = .ok (.invokevirtual 17, 3) := by decide +kernel
theorem d_L_set_10 : decode b_L_set 10 = .ok (.i2l, 1) := by decide +kernel
theorem d_L_set_11 : decode b_L_set 11 = .ok (.lastore, 1) := by decide +kernel
theorem d_L_set_12 : decode b_L_set 12 = .ok (.goto 7, 3) := by decide +kernel
theorem d_L_set_15 : decode b_L_set 15 = .ok (.astore 5, 2) := by decide +kernel
theorem d_L_set_17 : decode b_L_set 17 = .ok (.iconst 1, 1) := by decide +kernel
theorem d_L_set_18 : decode b_L_set 18 = .ok (.ireturn, 1) := by decide +kernel
theorem d_L_set_19 : decode b_L_set 19 = .ok (.iconst 0, 1) := by decide +kernel
theorem d_L_set_20 : decode b_L_set 20 = .ok (.ireturn, 1) := by decide +kernel
theorem d_L_want_0 : decode b_L_want 0 = .ok (.aload_n 0, 1) := by decide +kernel
theorem d_L_want_1 : decode b_L_want 1 = .ok (.iload_n 1, 1) := by decide +kernel
theorem d_L_want_2 : decode b_L_want 2 = .ok (.iload_n 2, 1) := by decide +kernel
theorem d_L_want_3 : decode b_L_want 3 = .ok (.iload_n 3, 1) := by decide +kernel
theorem d_L_want_4 : decode b_L_want 4 = .ok (.invokevirtual 21, 3) := by decide +kernel
theorem d_L_want_7 : decode b_L_want 7 = .ok (.goto 7, 3) := by decide +kernel
theorem d_L_want_10 : decode b_L_want 10 = .ok (.astore 4, 2) := by decide +kernel
theorem d_L_want_12 : decode b_L_want 12 = .ok (.iconst 1, 1) := by decide +kernel
theorem d_L_want_13 : decode b_L_want 13 = .ok (.ireturn, 1) := by decide +kernel
theorem d_L_want_14 : decode b_L_want 14 = .ok (.iconst 0, 1) := by decide +kernel
theorem d_L_want_15 : decode b_L_want 15 = .ok (.ireturn, 1) := by decide +kernel
theorem d_L_outside_0 : decode b_L_outside 0 = .ok (.aload_n 3, 1) := by decide +kernel
theorem d_L_outside_1 : decode b_L_outside 1 = .ok (.iconst 0, 1) := by decide +kernel
theorem d_L_outside_2 : decode b_L_outside 2 = .ok (.aload_n 0, 1) := by decide +kernel
theorem d_L_outside_3 : decode b_L_outside 3 = .ok (.iload_n 1, 1) := by decide +kernel
theorem d_L_outside_4 : decode b_L_outside 4 = .ok (.iload_n 2, 1) := by decide +kernel
theorem d_L_outside_5 : decode b_L_outside 5 = .ok (.invokevirtual 25, 3) := by decide +kernel
theorem d_L_outside_8 : decode b_L_outside 8 = .ok (.i2l, 1) := by decide +kernel
theorem d_L_outside_9 : decode b_L_outside 9 = .ok (.lastore, 1) := by decide +kernel
theorem d_L_outside_10 : decode b_L_outside 10 = .ok (.goto 11, 3) := by decide +kernel
theorem d_L_outside_13 : decode b_L_outside 13 = .ok (.astore 4, 2) := by decide +kernel
theorem d_L_outside_15 : decode b_L_outside 15 = .ok (.iconst 1, 1) := by decide +kernel
theorem d_L_outside_16 : decode b_L_outside 16 = .ok (.ireturn, 1) := by decide +kernel
theorem d_L_outside_17 : decode b_L_outside 17 = .ok (.astore 4, 2) := by decide +kernel
theorem d_L_outside_19 : decode b_L_outside 19 = .ok (.iconst 2, 1) := by decide +kernel
theorem d_L_outside_20 : decode b_L_outside 20 = .ok (.ireturn, 1) := by decide +kernel
theorem d_L_outside_21 : decode b_L_outside 21 = .ok (.iconst 0, 1) := by decide +kernel
theorem d_L_outside_22 : decode b_L_outside 22 = .ok (.ireturn, 1) := by decide +kernel
theorem d_L_machine_0 : decode b_L_machine 0 = .ok (.aload_n 2, 1) := by decide +kernel
theorem d_L_machine_1 : decode b_L_machine 1 = .ok (.iconst 0, 1) := by decide +kernel
theorem d_L_machine_2 : decode b_L_machine 2 = .ok (.aload_n 0, 1) := by decide +kernel
theorem d_L_machine_3 : decode b_L_machine 3 = .ok (.iload_n 1, 1) := by decide +kernel
theorem d_L_machine_4 : decode b_L_machine 4 = .ok (.invokevirtual 28, 3) := by decide +kernel
theorem d_L_machine_7 : decode b_L_machine 7 = .ok (.i2l, 1) := by decide +kernel
theorem d_L_machine_8 : decode b_L_machine 8 = .ok (.lastore, 1) := by decide +kernel
theorem d_L_machine_9 : decode b_L_machine 9 = .ok (.goto 6, 3) := by decide +kernel
theorem d_L_machine_12 : decode b_L_machine 12 = .ok (.astore_n 3, 1) := by decide +kernel
theorem d_L_machine_13 : decode b_L_machine 13 = .ok (.iconst 1, 1) := by decide +kernel
theorem d_L_machine_14 : decode b_L_machine 14 = .ok (.ireturn, 1) := by decide +kernel
theorem d_L_machine_15 : decode b_L_machine 15 = .ok (.iconst 0, 1) := by decide +kernel
theorem d_L_machine_16 : decode b_L_machine 16 = .ok (.ireturn, 1) := by decide +kernel
theorem d_L_start_0 : decode b_L_start 0 = .ok (.aload_n 2, 1) := by decide +kernel
theorem d_L_start_1 : decode b_L_start 1 = .ok (.iconst 0, 1) := by decide +kernel
theorem d_L_start_2 : decode b_L_start 2 = .ok (.aload_n 0, 1) := by decide +kernel
theorem d_L_start_3 : decode b_L_start 3 = .ok (.iload_n 1, 1) := by decide +kernel
theorem d_L_start_4 : decode b_L_start 4 = .ok (.invokevirtual 32, 3) := by decide +kernel
theorem d_L_start_7 : decode b_L_start 7 = .ok (.i2l, 1) := by decide +kernel
theorem d_L_start_8 : decode b_L_start 8 = .ok (.lastore, 1) := by decide +kernel
theorem d_L_start_9 : decode b_L_start 9 = .ok (.goto 6, 3) := by decide +kernel
theorem d_L_start_12 : decode b_L_start 12 = .ok (.astore_n 3, 1) := by decide +kernel
theorem d_L_start_13 : decode b_L_start 13 = .ok (.iconst 1, 1) := by decide +kernel
theorem d_L_start_14 : decode b_L_start 14 = .ok (.ireturn, 1) := by decide +kernel
theorem d_L_start_15 : decode b_L_start 15 = .ok (.iconst 0, 1) := by decide +kernel
theorem d_L_start_16 : decode b_L_start 16 = .ok (.ireturn, 1) := by decide +kernel
theorem d_L_late_0 : decode b_L_late 0 = .ok (.aload_n 2, 1) := by decide +kernel
theorem d_L_late_1 : decode b_L_late 1 = .ok (.iconst 0, 1) := by decide +kernel
theorem d_L_late_2 : decode b_L_late 2 = .ok (.aload_n 0, 1) := by decide +kernel
theorem d_L_late_3 : decode b_L_late 3 = .ok (.iload_n 1, 1) := by decide +kernel
theorem d_L_late_4 : decode b_L_late 4 = .ok (.invokevirtual 35, 3) := by decide +kernel
theorem d_L_late_7 : decode b_L_late 7 = .ok (.ifCond .eq 7, 3) := by decide +kernel
theorem d_L_late_10 : decode b_L_late 10 = .ok (.lconst 1, 1) := by decide +kernel
theorem d_L_late_11 : decode b_L_late 11 = .ok (.goto 4, 3) := by decide +kernel
theorem d_L_late_14 : decode b_L_late 14 = .ok (.lconst 0, 1) := by decide +kernel
theorem d_L_late_15 : decode b_L_late 15 = .ok (.lastore, 1) := by decide +kernel
theorem d_L_late_16 : decode b_L_late 16 = .ok (.goto 6, 3) := by decide +kernel
theorem d_L_late_19 : decode b_L_late 19 = .ok (.astore_n 3, 1) := by decide +kernel
theorem d_L_late_20 : decode b_L_late 20 = .ok (.iconst 1, 1) := by decide +kernel
theorem d_L_late_21 : decode b_L_late 21 = .ok (.ireturn, 1) := by decide +kernel
theorem d_L_late_22 : decode b_L_late 22 = .ok (.iconst 0, 1) := by decide +kernel
theorem d_L_late_23 : decode b_L_late 23 = .ok (.ireturn, 1) := by decide +kernel
theorem d_L_at_0 : decode b_L_at 0 = .ok (.aload_n 3, 1) := by decide +kernel
theorem d_L_at_1 : decode b_L_at 1 = .ok (.iconst 0, 1) := by decide +kernel
theorem d_L_at_2 : decode b_L_at 2 = .ok (.aload_n 0, 1) := by decide +kernel
theorem d_L_at_3 : decode b_L_at 3 = .ok (.iload_n 1, 1) := by decide +kernel
theorem d_L_at_4 : decode b_L_at 4 = .ok (.iload_n 2, 1) := by decide +kernel
theorem d_L_at_5 : decode b_L_at 5 = .ok (.invokevirtual 39, 3) := by decide +kernel
theorem d_L_at_8 : decode b_L_at 8 = .ok (.i2l, 1) := by decide +kernel
theorem d_L_at_9 : decode b_L_at 9 = .ok (.lastore, 1) := by decide +kernel
theorem d_L_at_10 : decode b_L_at 10 = .ok (.goto 7, 3) := by decide +kernel
theorem d_L_at_13 : decode b_L_at 13 = .ok (.astore 4, 2) := by decide +kernel
theorem d_L_at_15 : decode b_L_at 15 = .ok (.iconst 1, 1) := by decide +kernel
theorem d_L_at_16 : decode b_L_at 16 = .ok (.ireturn, 1) := by decide +kernel
theorem d_L_at_17 : decode b_L_at 17 = .ok (.iconst 0, 1) := by decide +kernel
theorem d_L_at_18 : decode b_L_at 18 = .ok (.ireturn, 1) := by decide +kernel
theorem d_L_used_0 : decode b_L_used 0 = .ok (.aload_n 2, 1) := by decide +kernel
theorem d_L_used_1 : decode b_L_used 1 = .ok (.iconst 0, 1) := by decide +kernel
theorem d_L_used_2 : decode b_L_used 2 = .ok (.aload_n 0, 1) := by decide +kernel
theorem d_L_used_3 : decode b_L_used 3 = .ok (.iload_n 1, 1) := by decide +kernel
theorem d_L_used_4 : decode b_L_used 4 = .ok (.invokevirtual 42, 3) := by decide +kernel
theorem d_L_used_7 : decode b_L_used 7 = .ok (.i2l, 1) := by decide +kernel
theorem d_L_used_8 : decode b_L_used 8 = .ok (.lastore, 1) := by decide +kernel
theorem d_L_used_9 : decode b_L_used 9 = .ok (.goto 6, 3) := by decide +kernel
theorem d_L_used_12 : decode b_L_used 12 = .ok (.astore_n 3, 1) := by decide +kernel
theorem d_L_used_13 : decode b_L_used 13 = .ok (.iconst 1, 1) := by decide +kernel
theorem d_L_used_14 : decode b_L_used 14 = .ok (.ireturn, 1) := by decide +kernel
theorem d_L_used_15 : decode b_L_used 15 = .ok (.iconst 0, 1) := by decide +kernel
theorem d_L_used_16 : decode b_L_used 16 = .ok (.ireturn, 1) := by decide +kernel
theorem d_L_cold_0 : decode b_L_cold 0 = .ok (.aload_n 2, 1) := by decide +kernel
theorem d_L_cold_1 : decode b_L_cold 1 = .ok (.iconst 0, 1) := by decide +kernel
theorem d_L_cold_2 : decode b_L_cold 2 = .ok (.aload_n 0, 1) := by decide +kernel
theorem d_L_cold_3 : decode b_L_cold 3 = .ok (.iload_n 1, 1) := by decide +kernel
theorem d_L_cold_4 : decode b_L_cold 4 = .ok (.invokevirtual 45, 3) := by decide +kernel
theorem d_L_cold_7 : decode b_L_cold 7 = .ok (.i2l, 1) := by decide +kernel
theorem d_L_cold_8 : decode b_L_cold 8 = .ok (.lastore, 1) := by decide +kernel
theorem d_L_cold_9 : decode b_L_cold 9 = .ok (.goto 6, 3) := by decide +kernel
theorem d_L_cold_12 : decode b_L_cold 12 = .ok (.astore_n 3, 1) := by decide +kernel
theorem d_L_cold_13 : decode b_L_cold 13 = .ok (.iconst 1, 1) := by decide +kernel
theorem d_L_cold_14 : decode b_L_cold 14 = .ok (.ireturn, 1) := by decide +kernel
theorem d_L_cold_15 : decode b_L_cold 15 = .ok (.iconst 0, 1) := by decide +kernel
theorem d_L_cold_16 : decode b_L_cold 16 = .ok (.ireturn, 1) := by decide +kernel
theorem d_L_fade_0 : decode b_L_fade 0 = .ok (.aload_n 0, 1) := by decide +kernel
theorem d_L_fade_1 : decode b_L_fade 1 = .ok (.iload_n 1, 1) := by decide +kernel
theorem d_L_fade_2 : decode b_L_fade 2 = .ok (.iload_n 2, 1) := by decide +kernel
theorem d_L_fade_3 : decode b_L_fade 3 = .ok (.invokevirtual 48, 3) := by decide +kernel
theorem d_L_fade_6 : decode b_L_fade 6 = .ok (.goto 6, 3) := by decide +kernel
theorem d_L_fade_9 : decode b_L_fade 9 = .ok (.astore_n 3, 1) := by decide +kernel
theorem d_L_fade_10 : decode b_L_fade 10 = .ok (.iconst 1, 1) := by decide +kernel
theorem d_L_fade_11 : decode b_L_fade 11 = .ok (.ireturn, 1) := by decide +kernel
theorem d_L_fade_12 : decode b_L_fade 12 = .ok (.iconst 0, 1) := by decide +kernel
theorem d_L_fade_13 : decode b_L_fade 13 = .ok (.ireturn, 1) := by decide +kernel
theorem d_L_day_0 : decode b_L_day 0 = .ok (.aload_n 0, 1) := by decide +kernel
theorem d_L_day_1 : decode b_L_day 1 = .ok (.iload_n 1, 1) := by decide +kernel
theorem d_L_day_2 : decode b_L_day 2 = .ok (.iload_n 2, 1) := by decide +kernel
theorem d_L_day_3 : decode b_L_day 3 = .ok (.invokevirtual 52, 3) := by decide +kernel
theorem d_L_day_6 : decode b_L_day 6 = .ok (.goto 6, 3) := by decide +kernel
theorem d_L_day_9 : decode b_L_day 9 = .ok (.astore_n 3, 1) := by decide +kernel
theorem d_L_day_10 : decode b_L_day 10 = .ok (.iconst 1, 1) := by decide +kernel
theorem d_L_day_11 : decode b_L_day 11 = .ok (.ireturn, 1) := by decide +kernel
theorem d_L_day_12 : decode b_L_day 12 = .ok (.iconst 0, 1) := by decide +kernel
theorem d_L_day_13 : decode b_L_day 13 = .ok (.ireturn, 1) := by decide +kernel
theorem d_L_lesson_0 : decode b_L_lesson 0 = .ok (.aload_n 3, 1) := by decide +kernel
theorem d_L_lesson_1 : decode b_L_lesson 1 = .ok (.iconst 0, 1) := by decide +kernel
theorem d_L_lesson_2 : decode b_L_lesson 2 = .ok (.aload_n 0, 1) := by decide +kernel
theorem d_L_lesson_3 : decode b_L_lesson 3 = .ok (.iload_n 1, 1) := by decide +kernel
theorem d_L_lesson_4 : decode b_L_lesson 4 = .ok (.iload_n 2, 1) := by decide +kernel
theorem d_L_lesson_5 : decode b_L_lesson 5 = .ok (.invokevirtual 55, 3) := by decide +kernel
theorem d_L_lesson_8 : decode b_L_lesson 8 = .ok (.lastore, 1) := by decide +kernel
theorem d_L_lesson_9 : decode b_L_lesson 9 = .ok (.goto 7, 3) := by decide +kernel
theorem d_L_lesson_12 : decode b_L_lesson 12 = .ok (.astore 4, 2) := by decide +kernel
theorem d_L_lesson_14 : decode b_L_lesson 14 = .ok (.iconst 1, 1) := by decide +kernel
theorem d_L_lesson_15 : decode b_L_lesson 15 = .ok (.ireturn, 1) := by decide +kernel
theorem d_L_lesson_16 : decode b_L_lesson 16 = .ok (.iconst 0, 1) := by decide +kernel
theorem d_L_lesson_17 : decode b_L_lesson 17 = .ok (.ireturn, 1) := by decide +kernel
theorem d_L_taught_0 : decode b_L_taught 0 = .ok (.aload_n 2, 1) := by decide +kernel
theorem d_L_taught_1 : decode b_L_taught 1 = .ok (.iconst 0, 1) := by decide +kernel
theorem d_L_taught_2 : decode b_L_taught 2 = .ok (.aload_n 0, 1) := by decide +kernel
theorem d_L_taught_3 : decode b_L_taught 3 = .ok (.iload_n 1, 1) := by decide +kernel
theorem d_L_taught_4 : decode b_L_taught 4 = .ok (.invokevirtual 59, 3) := by decide +kernel
theorem d_L_taught_7 : decode b_L_taught 7 = .ok (.i2l, 1) := by decide +kernel
theorem d_L_taught_8 : decode b_L_taught 8 = .ok (.lastore, 1) := by decide +kernel
theorem d_L_taught_9 : decode b_L_taught 9 = .ok (.goto 6, 3) := by decide +kernel
theorem d_L_taught_12 : decode b_L_taught 12 = .ok (.astore_n 3, 1) := by decide +kernel
theorem d_L_taught_13 : decode b_L_taught 13 = .ok (.iconst 1, 1) := by decide +kernel
theorem d_L_taught_14 : decode b_L_taught 14 = .ok (.ireturn, 1) := by decide +kernel
theorem d_L_taught_15 : decode b_L_taught 15 = .ok (.iconst 0, 1) := by decide +kernel
theorem d_L_taught_16 : decode b_L_taught 16 = .ok (.ireturn, 1) := by decide +kernel
theorem d_L_price_0 : decode b_L_price 0 = .ok (.aload_n 3, 1) := by decide +kernel
theorem d_L_price_1 : decode b_L_price 1 = .ok (.iconst 0, 1) := by decide +kernel
theorem d_L_price_2 : decode b_L_price 2 = .ok (.aload_n 0, 1) := by decide +kernel
theorem d_L_price_3 : decode b_L_price 3 = .ok (.iload_n 1, 1) := by decide +kernel
theorem d_L_price_4 : decode b_L_price 4 = .ok (.iload_n 2, 1) := by decide +kernel
theorem d_L_price_5 : decode b_L_price 5 = .ok (.invokevirtual 62, 3) := by decide +kernel
theorem d_L_price_8 : decode b_L_price 8 = .ok (.i2l, 1) := by decide +kernel
theorem d_L_price_9 : decode b_L_price 9 = .ok (.lastore, 1) := by decide +kernel
theorem d_L_price_10 : decode b_L_price 10 = .ok (.goto 7, 3) := by decide +kernel
theorem d_L_price_13 : decode b_L_price 13 = .ok (.astore 4, 2) := by decide +kernel
theorem d_L_price_15 : decode b_L_price 15 = .ok (.iconst 1, 1) := by decide +kernel
theorem d_L_price_16 : decode b_L_price 16 = .ok (.ireturn, 1) := by decide +kernel
theorem d_L_price_17 : decode b_L_price 17 = .ok (.iconst 0, 1) := by decide +kernel
theorem d_L_price_18 : decode b_L_price 18 = .ok (.ireturn, 1) := by decide +kernel
theorem d_L_cheapest_0 : decode b_L_cheapest 0 = .ok (.aload 4, 2) := by decide +kernel
theorem d_L_cheapest_2 : decode b_L_cheapest 2 = .ok (.iconst 0, 1) := by decide +kernel
theorem d_L_cheapest_3 : decode b_L_cheapest 3 = .ok (.aload_n 0, 1) := by decide +kernel
theorem d_L_cheapest_4 : decode b_L_cheapest 4 = .ok (.iload_n 1, 1) := by decide +kernel
theorem d_L_cheapest_5 : decode b_L_cheapest 5 = .ok (.iload_n 2, 1) := by decide +kernel
theorem d_L_cheapest_6 : decode b_L_cheapest 6 = .ok (.iload_n 3, 1) := by decide +kernel
theorem d_L_cheapest_7 : decode b_L_cheapest 7 = .ok (.invokevirtual 65, 3) := by decide +kernel
theorem d_L_cheapest_10 : decode b_L_cheapest 10 = .ok (.i2l, 1) := by decide +kernel
theorem d_L_cheapest_11 : decode b_L_cheapest 11 = .ok (.lastore, 1) := by decide +kernel
theorem d_L_cheapest_12 : decode b_L_cheapest 12 = .ok (.goto 11, 3) := by decide +kernel
theorem d_L_cheapest_15 : decode b_L_cheapest 15 = .ok (.astore 5, 2) := by decide +kernel
theorem d_L_cheapest_17 : decode b_L_cheapest 17 = .ok (.iconst 1, 1) := by decide +kernel
theorem d_L_cheapest_18 : decode b_L_cheapest 18 = .ok (.ireturn, 1) := by decide +kernel
theorem d_L_cheapest_19 : decode b_L_cheapest 19 = .ok (.astore 5, 2) := by decide +kernel
theorem d_L_cheapest_21 : decode b_L_cheapest 21 = .ok (.iconst 2, 1) := by decide +kernel
theorem d_L_cheapest_22 : decode b_L_cheapest 22 = .ok (.ireturn, 1) := by decide +kernel
theorem d_L_cheapest_23 : decode b_L_cheapest 23 = .ok (.iconst 0, 1) := by decide +kernel
theorem d_L_cheapest_24 : decode b_L_cheapest 24 = .ok (.ireturn, 1) := by decide +kernel
theorem d_L_costs_0 : decode b_L_costs 0 = .ok (.aload 5, 2) := by decide +kernel
theorem d_L_costs_2 : decode b_L_costs 2 = .ok (.iconst 0, 1) := by decide +kernel
theorem d_L_costs_3 : decode b_L_costs 3 = .ok (.aload_n 0, 1) := by decide +kernel
theorem d_L_costs_4 : decode b_L_costs 4 = .ok (.iload_n 1, 1) := by decide +kernel
theorem d_L_costs_5 : decode b_L_costs 5 = .ok (.iload_n 2, 1) := by decide +kernel
theorem d_L_costs_6 : decode b_L_costs 6 = .ok (.iload_n 3, 1) := by decide +kernel
theorem d_L_costs_7 : decode b_L_costs 7 = .ok (.iload 4, 2) := by decide +kernel
theorem d_L_costs_9 : decode b_L_costs 9 = .ok (.invokevirtual 68, 3) := by decide +kernel
theorem d_L_costs_12 : decode b_L_costs 12 = .ok (.lastore, 1) := by decide +kernel
theorem d_L_costs_13 : decode b_L_costs 13 = .ok (.goto 11, 3) := by decide +kernel
theorem d_L_costs_16 : decode b_L_costs 16 = .ok (.astore 6, 2) := by decide +kernel
theorem d_L_costs_18 : decode b_L_costs 18 = .ok (.iconst 1, 1) := by decide +kernel
theorem d_L_costs_19 : decode b_L_costs 19 = .ok (.ireturn, 1) := by decide +kernel
theorem d_L_costs_20 : decode b_L_costs 20 = .ok (.astore 6, 2) := by decide +kernel
theorem d_L_costs_22 : decode b_L_costs 22 = .ok (.iconst 2, 1) := by decide +kernel
theorem d_L_costs_23 : decode b_L_costs 23 = .ok (.ireturn, 1) := by decide +kernel
theorem d_L_costs_24 : decode b_L_costs 24 = .ok (.iconst 0, 1) := by decide +kernel
theorem d_L_costs_25 : decode b_L_costs 25 = .ok (.ireturn, 1) := by decide +kernel
end
section
/-! ===== words that aren't kept by themselves, strings, the two statics: what every method takes along ===== -/
def nx_warm : Cond → Bool
  | .fieldLinkNest .. | .methodLinkNest .. | .declares _ | .castable .. => true
  | _ => false
def nx_S : List (Nat × String) := [(166, "a number is out of its bounds"), (62, "there are 6 zones"), (171, "there is no such zone"), (89, "there are 24 rows"), (91, "a row is at that minute or behind it"), (169, "the zone wants nothing")]
def NX (U : State) : Prop := (∀ w ∈ tables_1, nx_warm w = true → va_Nw w U) ∧ (∀ q ∈ nx_S, ∃ sa : Nat, vk_R "StartTimes" q.1 q.2 sa U) ∧ va_AO "StartTimes$Zone" U
theorem nx_ot {w : Cond} (h : nx_warm w = true) : w.onTables = true := by
  cases w <;> first | rfl | (simp [nx_warm] at h)
theorem NX.same {u U : State} (hv : u.vm = U.vm) (h : NX u) : NX U :=
  ⟨fun w hw hn => va_Nw.same (nx_ot hn) hv (h.1 w hw hn), fun q hq => by obtain ⟨sa, hs⟩ := h.2.1 q hq; exact ⟨sa, vk_R.same hv.symm hs⟩, va_AO.moved (by rw [hv]; exact Vm.Alike.refl _) h.2.2⟩
theorem NX.warm {s U : State} (hW : s.WarmedH U.vm) (h : NX s) : NX U := by
  refine ⟨fun w hw hn => ?_, fun q hq => by obtain ⟨sa, hs⟩ := h.2.1 q hq; exact ⟨sa, vk_R.warm hW hs⟩, va_AO.moved hW.alike h.2.2⟩
  have h1 := h.1 w hw hn
  cases w <;> first | exact va_Nw.warmF hW h1 | exact va_Nw.warmM hW h1 | exact va_Nw.warmD hW h1 | exact va_Nw.warmC hW h1 | (simp [nx_warm] at hn)
theorem NX.use {s : State} {args : Array Value} {w : Cond} (h : NX s) (hm : w ∈ tables_1) (hw : nx_warm w = true := by rfl) : w.before args s = true := va_Nw.use (nx_ot hw) (h.1 w hm hw)
/-- the two statics that a throw reads -/
def TH (A : Nat → Prop) (U : State) (H : Heap) : Prop := vx_Zq Bundle.tN "UNASSIGNED_STACK" Bundle.steD A U H ∧ vx_Zq Bundle.tN "SUPPRESSED_SENTINEL" Bundle.listD A U H
def EV (A : Nat → Prop) (U : State) : Prop := NX U ∧ TH A U U.heap
theorem EV.blind {A : Nat → Prop} {U : State} {g : JFrame} {mk : MethodId} {a : Array Value} (h : EV A U) : EV A (U.calling g mk a) :=
  ⟨NX.same (u := U) (U := U.calling g mk a) rfl h.1, ⟨vx_Zq.moved (u := U) (U := U.calling g mk a) (Vm.Alike.refl U.vm) h.2.1, vx_Zq.moved (u := U) (U := U.calling g mk a) (Vm.Alike.refl U.vm) h.2.2⟩⟩
theorem EV.call {A A1 : Nat → Prop} {s U : State} {H : Heap} {locs : List Loc} (h : EV A s) (hS : va_S A s.heap H locs) (hF : ∀ q, A1 q → A q) (hU : U.heap = H) (hW : s.WarmedH U.vm) : EV A1 U := by
  refine ⟨NX.warm hW h.1, ?_, ?_⟩
  · rw [hU]; exact ((h.2.1.kept hS.2.1).narrow hF).moved hW.alike
  · rw [hU]; exact ((h.2.2.kept hS.2.1).narrow hF).moved hW.alike
/-! ===== worlds ===== -/
theorem wp_kept {D : va_G} {cl : List vw_C} {ws : va_W} {H H1 : Heap} (hP : va_P D cl ws H) (hk : ∀ q : Nat, q < H.size → ¬ va_A [] H.size q → H1[q]? = H[q]?) : va_P D cl ws H1 :=
  hP.kept (fun k q hq => hk q.1 (hP k q hq).lt (fun h => by
    rcases h with ⟨k, e, h⟩ | h
    · simp at h
    · exact absurd (hP _ q hq).lt (Nat.not_lt.mpr h)))
def sets : va_W → List Nat → va_W → va_W
  | ws, i :: is, e :: es => sets (ws.set i e) is es
  | ws, _, _ => ws
theorem sets_get : ∀ (is : List Nat) (w1 ws : va_W) (k : Nat) (q : Nat × va_E), is.length = w1.length → (sets ws is w1)[k]? = some q → q ∈ w1 ∨ (k ∉ is ∧ ws[k]? = some q) := by
  intro is
  induction is with
  | nil => intro w1 ws k q _ h; exact Or.inr ⟨List.not_mem_nil, by simpa [sets] using h⟩
  | cons i is ih =>
    intro w1 ws k q hl h
    cases w1 with
    | nil => simp at hl
    | cons e es =>
      rcases ih es (ws.set i e) k q (by simpa using hl) h with h1 | ⟨h1, h2⟩
      · exact Or.inl (List.mem_cons_of_mem _ h1)
      · by_cases hk : k = i
        · subst hk
          rw [List.getElem?_set_self'] at h2
          cases hw : ws[k]? with
          | none => rw [hw] at h2; simp at h2
          | some z => rw [hw] at h2; simp at h2; exact Or.inl (by rw [← h2]; exact List.mem_cons_self)
        · rw [List.getElem?_set_ne (Ne.symm hk)] at h2
          exact Or.inr ⟨fun hm => (List.mem_cons.mp hm).elim hk h1, h2⟩
theorem sets_fst : ∀ (is : List Nat) (w1 ws : va_W), is.map (fun i => (ws.map Prod.fst)[i]?) = w1.map (fun e => some e.1) → (sets ws is w1).map Prod.fst = ws.map Prod.fst := by
  intro is
  induction is with
  | nil => intro w1 ws _; cases w1 <;> rfl
  | cons i is ih =>
    intro w1 ws h
    cases w1 with
    | nil => rfl
    | cons e es =>
      simp only [List.map_cons, List.cons.injEq] at h
      have e1 : (ws.set i e).map Prod.fst = ws.map Prod.fst := by
        rw [List.map_set]
        apply List.ext_getElem?
        intro j
        by_cases hj : j = i
        · subst hj
          rw [List.getElem?_set_self', h.1]; rfl
        · rw [List.getElem?_set_ne (Ne.symm hj)]
      show (sets (ws.set i e) is es).map Prod.fst = _
      rw [ih es (ws.set i e) (by rw [e1]; exact h.2), e1]
theorem wd_fst {A : Nat → Prop} {ws ws' : va_W} (e : ws'.map Prod.fst = ws.map Prod.fst) (h : va_D A ws) : va_D A ws' := by
  have g : ∀ (k : Nat) (q : Nat × va_E), ws'[k]? = some q → ∃ p : Nat × va_E, ws[k]? = some p ∧ p.1 = q.1 := by
    intro k q hq
    have h1 : (ws'.map Prod.fst)[k]? = some q.1 := by rw [List.getElem?_map, hq]; rfl
    rw [e, List.getElem?_map] at h1
    cases hw : ws[k]? with
    | none => rw [hw] at h1; simp at h1
    | some p => rw [hw] at h1; exact ⟨p, rfl, by simpa using h1⟩
  refine ⟨fun i j p q hi hj hpq => ?_, fun k q hk => ?_⟩
  · obtain ⟨p2, h2, e2⟩ := g i p hi
    obtain ⟨q2, h3, e3⟩ := g j q hj
    exact h.1 i j p2 q2 h2 h3 (by rw [e2, e3]; exact hpq)
  · obtain ⟨p2, h2, e2⟩ := g k q hk
    rw [← e2]; exact h.2 k p2 h2
/-- behind a call that wrote in the cells at the places 'is', and made none -/
theorem jset {A0 : Nat → Prop} {D : va_G} {cl : List vw_C} {ws wc w1 : va_W} {H H1 : Heap} (is : List Nat) (hC : is.map (fun i => ws[i]?) = wc.map some) (h1 : wc.map Prod.fst = w1.map Prod.fst) (hP : va_P D cl ws H) (hD : va_D A0 ws)
    (hk : ∀ q : Nat, q < H.size → ¬ va_A wc H.size q → H1[q]? = H[q]?) (hP1 : va_P D cl w1 H1) : va_P D cl (sets ws is w1) H1 ∧ va_D A0 (sets ws is w1) := by
  have hlen : is.length = w1.length := by
    have e1 := congrArg List.length hC
    have e2 := congrArg List.length h1
    simp only [List.length_map] at e1 e2
    omega
  constructor
  · intro k q hq
    rcases sets_get is w1 ws k q hlen hq with h | ⟨hn, h⟩
    · obtain ⟨i, hi⟩ := List.getElem?_of_mem h
      exact hP1 i q hi
    · refine (hP k q h).kept (hk q.1 (hP k q h).lt ?_)
      rintro (⟨j, e, hj⟩ | hz)
      · have e1 : (is.map (fun i => ws[i]?))[j]? = some (some (q.1, e)) := by rw [hC, List.getElem?_map, hj]; rfl
        rw [List.getElem?_map] at e1
        cases hi : is[j]? with
        | none => rw [hi] at e1; simp at e1
        | some i =>
          rw [hi] at e1
          have e2 : ws[i]? = some (q.1, e) := by simpa using e1
          have e3 := hD.1 k i q (q.1, e) h e2 rfl
          exact hn (by rw [e3]; exact List.mem_of_getElem? hi)
      · exact absurd (hP k q h).lt (Nat.not_lt.mpr hz)
  · refine wd_fst (sets_fst is w1 ws ?_) hD
    have e1 : is.map (fun i => (ws.map Prod.fst)[i]?) = (is.map (fun i => ws[i]?)).map (fun o => o.map Prod.fst) := by
      rw [List.map_map]
      refine List.map_congr_left (fun i _ => ?_)
      simp [List.getElem?_map]
    rw [e1, hC, List.map_map]
    have e2 : w1.map (fun e => some e.1) = (w1.map Prod.fst).map some := by rw [List.map_map]; rfl
    rw [e2, ← h1, List.map_map]
    rfl
/-! ===== a method's start and end ===== -/
abbrev TY (cI cJ cZ cB : ClassId) : List (ClassId × FieldType) := [(cI, .int), (cJ, .long), (cZ, .object "StartTimes$Zone"), (cB, .boolean)]
def PC (D : va_G) (tys : List (ClassId × FieldType)) (av : List Value) (w : va_W) (sz : Nat) (A : Nat → Prop) : Array Value → State → Prop :=
  va_Pc av (fun U => U.heap.size = sz ∧ va_P D vwCl w U.heap ∧ va_K D vwCl tys U ∧ va_D (fun _ => True) w ∧ EV A U)
theorem PC.blind {D : va_G} {tys : List (ClassId × FieldType)} {av : List Value} {w : va_W} {sz : Nat} {A : Nat → Prop} : FrameBlind (PC D tys av w sz A) := by
  intro a U g mk q
  obtain ⟨q0, q1, qP, qK, qD, qE⟩ := q
  exact ⟨q0, q1, qP, va_K.moved (u := U) (U := U.calling g mk a) (Vm.Alike.refl U.vm) qK, qD, qE.blind⟩
theorem PC.of {D : va_G} {tys : List (ClassId × FieldType)} {av : List Value} {w : va_W} {A A0 A1 : Nat → Prop} {s : State} {H : Heap} {locs : List Loc} (hP : va_P D vwCl w H) (hK : va_K D vwCl tys s) (hD : va_D A0 w) (hE : EV A s) (hS : va_S A s.heap H locs) (hF : ∀ q, A1 q → A q) :
    ∀ U : State, U.heap = H → s.WarmedH U.vm → PC D tys av w H.size A1 av.toArray U :=
  fun U hU hW => ⟨rfl, by rw [hU], by rw [hU]; exact hP, va_K.moved hW.alike hK, hD.weaken (fun _ _ _ _ => trivial), hE.call hS hF hU hW⟩
/-- the array classes, by the tables' words -/
theorem ty_prim {s : State} {args : Array Value} {ty : FieldType} (h : (Cond.arrayClass ty).before args s = true) (hp : ∀ C, ty ≠ .object C) : ∃ cA : ClassId, ArrOfT s cA ty ∧ va_RA s cA ty := by
  obtain ⟨cA, kA, comp, h1, h2, h3⟩ := Cond.arrayClass_spec (show (Cond.arrayClass ty).holds args s none s [] = true from h)
  refine ⟨cA, fun n z => ⟨fun k h => (by cases h), kA, h2, comp, h3⟩, ?_⟩
  cases ty <;> first | exact h1 | exact absurd rfl (hp _)
theorem ty_obj {s : State} {C : String} (h : va_AO C s) : ∃ cA : ClassId, ArrOfT s cA (.object C) ∧ va_RA s cA (.object C) := by
  obtain ⟨comp, cA, kA, h1, h2, h3, h4, h5⟩ := Cond.arrayOver_spec (show (Cond.arrayOver (.object C)).holds #[] s none s [] = true from h)
  exact ⟨cA, fun n z => ⟨fun k h => (by cases h), kA, h3, comp, h4⟩, kA, comp, h3, h4, h1, h5⟩
theorem ty_same {D : va_G} {cl : List vw_C} {tys : List (ClassId × FieldType)} {U : State} {c1 c2 : ClassId} {ty : FieldType} (hK : va_K D cl tys U) {i j : Nat} (hi : tys[i]? = some (c1, ty)) (hj : tys[j]? = some (c2, ty)) : c2 = c1 := by
  have h1 := (hK.2 i _ hi).2
  have h2 := (hK.2 j _ hj).2
  cases ty with
  | object C =>
    obtain ⟨_, _, _, _, _, e1⟩ := h1
    obtain ⟨_, _, _, _, _, e2⟩ := h2
    exact Option.some.inj (e2.symm.trans e1)
  | _ => exact Option.some.inj (Eq.trans (Eq.symm h2) h1)
theorem va_A_nil {A : Nat → Prop} {H0 H : Heap} (hA : ∀ q, H0.size ≤ q → A q) (hz : H0.size ≤ H.size) : ∀ q, va_A [] H.size q → A q := by
  rintro q (⟨k, e, h⟩ | h)
  · simp at h
  · exact hA q (Nat.le_trans hz h)
end
section
theorem at_IAE : ∀ w ∈ vx_atS R_C 168 "java/lang/IllegalArgumentException" ["java/lang/RuntimeException", "java/lang/Exception"], w ∈ GG ∨ (w ∈ tables_1 ∧ nx_warm w = true) := by decide +kernel
theorem at_ISE : ∀ w ∈ vx_atS R_C 64 "java/lang/IllegalStateException" ["java/lang/RuntimeException", "java/lang/Exception"], w ∈ GG ∨ (w ∈ tables_1 ∧ nx_warm w = true) := by decide +kernel
theorem ot_IAE : ∀ w ∈ Cond.classLink R_C 164 "java/lang/IllegalArgumentException" :: Cond.initialized "java/lang/IllegalArgumentException" :: vx_atS R_C 168 "java/lang/IllegalArgumentException" ["java/lang/RuntimeException", "java/lang/Exception"], vx_ot w = true := by decide +kernel
theorem ot_ISE : ∀ w ∈ Cond.classLink R_C 60 "java/lang/IllegalStateException" :: Cond.initialized "java/lang/IllegalStateException" :: vx_atS R_C 64 "java/lang/IllegalStateException" ["java/lang/RuntimeException", "java/lang/Exception"], vx_ot w = true := by decide +kernel
set_option maxHeartbeats 4000000 in
set_option maxRecDepth 100000 in
theorem c_checkBounds (l : Launch) (dC : Nat → ClassId) (dI : Nat → Nat → Nat) (cI cJ cZ cB : ClassId) (hl : l.stackTraces = false) (v lo hi : Int32) (sz : Nat) : vx_Met l y_C_checkBounds w_C_checkBounds ({ frames := 6, cells := 1, slots := 6, locals := 82 }) (PC (dC, dI) (TY cI cJ cZ cB) [.int v, .int lo, .int hi] [] sz (va_A [] sz)) (va_Qv (fun (_ : Unit) => ¬ (v < lo ∨ hi < v)) (fun (_ : Unit) (_ : State) => True) (va_A [] sz)) (vx_X (fun (_ : Unit) => True) (fun (E : String) (_ : Unit) (_ : State) => E = "java/lang/IllegalArgumentException" ∧ (v < lo ∨ hi < v)) (va_A [] sz)) 1 6 (va_A [] sz) := by
  refine vx_ofW (cc := b_C_checkBounds) (maxL := 3) (ret := none) (by decide) rfl ?_
  intro p e s m args below meth c s₁ B hml hnx hv
  obtain ⟨rfl, hsz, hP, hK, hD0, hE⟩ := hv
  have hx := B.exec
  have hb := B.bytes
  have hr := B.returns
  have hG : ∀ w ∈ GG, w.before _ s = true := fun w h => atoms_spec (ws := w_C_checkBounds) B.pre w (List.mem_cons_of_mem _ h)
  have hown : s.vm.findClass R_C = some m.cls := findClass_of_methodNamed B.named
  have hlocks := B.notSynchronized
  subst hsz
  generalize hAe : (va_A [] s.heap.size) = A at hE ⊢
  have hA : ∀ q : Nat, s.heap.size ≤ q → A q := fun q h => by rw [← hAe]; exact Or.inr h
  have hS : va_S A s.heap s.heap [] := va_S.rf
  have hD := hD0
  obtain ⟨H, hH⟩ : ∃ z, z = s.heap := ⟨_, rfl⟩
  rw [← hH] at hP
  have hS : va_S A s.heap H [] := by rw [hH]; exact hS
  rw [← hH]
  have hl9 := lv_entry ([.int v, .int lo, .int hi]) (n := 3) (Nat.le_of_ble_eq_true rfl)
  rw [lg_entry_eq]
  generalize (lg_sl ([.int v, .int lo, .int hi]) ++ List.replicate (3 - (lg_sl ([.int v, .int lo, .int hi])).length) Slot.unset).toArray = ls at hl9 ⊢
  have hl9 : lv_has ls 3 [(0, .int v), (1, .int lo), (2, .int hi)] := hl9
  refine lv_iload_n hx hb d_C_checkBounds_0 rfl (lv_at hl9 0 rfl) ?_
  refine lv_iload_n hx hb d_C_checkBounds_1 rfl (lv_at hl9 1 rfl) ?_
  refine lv_icmp_lt (tgt := 10) hx hb d_C_checkBounds_2 (by decide) (fun c1 => ?_) (fun c1 => ?_)
  · obtain ⟨sa, hsa⟩ := hE.1.2.1 (166, "a number is out of its bounds") (by decide)
    exact vx_throwS (own := R_C) (cls := "java/lang/IllegalArgumentException") (names := ["java/lang/RuntimeException", "java/lang/Exception"]) hx hb hl hown (by decide +kernel) (by decide +kernel) (hG _ k_76) (hG _ k_6) hsa (fun w h => (at_IAE w h).elim (hG w) (fun h => hE.1.use h.1 h.2)) ot_IAE hE.2.1 hE.2.2 hS (hl9.1.trans hml.symm) d_C_checkBounds_10 d_C_checkBounds_13 d_C_checkBounds_14 d_C_checkBounds_16 d_C_checkBounds_19 (fun x hx => (hnx x hx).elim) (Nat.le_of_ble_eq_true rfl) (Nat.le_of_ble_eq_true rfl) (by first | exact Nat.le_of_ble_eq_true rfl | omega) (by first | exact Nat.le_of_ble_eq_true rfl | omega) hlocks (fun t ha hsz hk => ⟨(), trivial, ⟨rfl, Or.inl c1⟩, Nat.le_trans hS.1 hsz, fun q h1 h2 => (hk q (Nat.lt_of_lt_of_le h1 hS.1)).trans (hS.2.1 q h1 h2)⟩) hS.2.2 (by first | exact Nat.le_of_ble_eq_true rfl | omega) (by first | exact Nat.le_of_ble_eq_true rfl | omega)
  · refine lv_iload_n hx hb d_C_checkBounds_5 rfl (lv_at hl9 0 rfl) ?_
    refine lv_iload_n hx hb d_C_checkBounds_6 rfl (lv_at hl9 2 rfl) ?_
    refine lv_icmp_le (tgt := 20) hx hb d_C_checkBounds_7 (by decide) (fun c2 => ?_) (fun c2 => ?_)
    · refine vx_ret ?_
      refine W.widen (k := 1) (n := 6) (by omega) (by omega) ?_
      exact W.vret hx hb hr (fun t ht hW => ⟨⟨(), rfl, fun h => h.elim c1 (fun h => Int32.not_le.mpr h c2), trivial⟩, hS.F ht⟩) hS.2.2 d_C_checkBounds_20
    · obtain ⟨sa, hsa⟩ := hE.1.2.1 (166, "a number is out of its bounds") (by decide)
      exact vx_throwS (own := R_C) (cls := "java/lang/IllegalArgumentException") (names := ["java/lang/RuntimeException", "java/lang/Exception"]) hx hb hl hown (by decide +kernel) (by decide +kernel) (hG _ k_76) (hG _ k_6) hsa (fun w h => (at_IAE w h).elim (hG w) (fun h => hE.1.use h.1 h.2)) ot_IAE hE.2.1 hE.2.2 hS (hl9.1.trans hml.symm) d_C_checkBounds_10 d_C_checkBounds_13 d_C_checkBounds_14 d_C_checkBounds_16 d_C_checkBounds_19 (fun x hx => (hnx x hx).elim) (Nat.le_of_ble_eq_true rfl) (Nat.le_of_ble_eq_true rfl) (by first | exact Nat.le_of_ble_eq_true rfl | omega) (by first | exact Nat.le_of_ble_eq_true rfl | omega) hlocks (fun t ha hsz hk => ⟨(), trivial, ⟨rfl, Or.inr (Int32.not_le.mp c2)⟩, Nat.le_trans hS.1 hsz, fun q h1 h2 => (hk q (Nat.lt_of_lt_of_le h1 hS.1)).trans (hS.2.1 q h1 h2)⟩) hS.2.2 (by first | exact Nat.le_of_ble_eq_true rfl | omega) (by first | exact Nat.le_of_ble_eq_true rfl | omega)
set_option maxHeartbeats 4000000 in
set_option maxRecDepth 100000 in
theorem c_warmthAfter (l : Launch) (dC : Nat → ClassId) (dI : Nat → Nat → Nat) (cI cJ cZ cB : ClassId) (a0 aZ aO aG aP aW aK : Nat) (zc orr ol mp pl fa fb : Int32) (fO : Nat → Int32) (za la wa : Nat) (zh zl zf zp zr zm zw zs : Int32) (x k h : Int32) (sz : Nat) (hk : vp_in k 1440) (hzl : ¬ zl = 0) (hzh : ¬ zh = 0) : Met l y_C_warmthAfter w_C_warmthAfter ({ frames := 0, cells := 0, slots := 0, locals := 0 }) (PC (dC, dI) (TY cI cJ cZ cB) [.ref a0, .ref za, .int x, .int k, .int h] [(a0, .inr (2, [.ref aZ, .int zc, .ref aO, .int orr, .int ol, .int mp, .ref aG, .int pl, .int fa, .int fb, .ref aP, .ref aW, .ref aK])), (aO, .inl (cI, 1440, .inl fO)), (za, .inr (1, [.int zh, .int zl, .int zf, .int zp, .int zr, .int zm, .int zw, .ref la, .int zs, .ref wa]))] sz (va_A [] sz)) (va_Qi (fun (r : Int32) (_ : Unit) => r = x + (fO k.toNatClampNeg - x) / zl + h / zh) (fun (_ : Unit) (_ : State) => True) (va_A [] sz)) 0 0 (va_A [] sz) := by
  refine Met.ofW (cc := b_C_warmthAfter) (maxL := 5) (ret := (some .int)) (by decide) rfl ?_
  intro p e s m args below meth c s₁ B hml hv
  obtain ⟨rfl, hsz, hP, hK, hD0, hE⟩ := hv
  have hx := B.exec
  have hb := B.bytes
  have hr := B.returns
  have hG : ∀ w ∈ GG, w.before _ s = true := fun w h => atoms_spec (ws := w_C_warmthAfter) B.pre w (List.mem_cons_of_mem _ h)
  have hown : s.vm.findClass R_C = some m.cls := findClass_of_methodNamed B.named
  have hlocks := B.notSynchronized
  subst hsz
  generalize hAe : (va_A [] s.heap.size) = A at hE ⊢
  have hA : ∀ q : Nat, s.heap.size ≤ q → A q := fun q h => by rw [← hAe]; exact Or.inr h
  have hS : va_S A s.heap s.heap [] := va_S.rf
  have hD := hD0
  obtain ⟨H, hH⟩ : ∃ z, z = s.heap := ⟨_, rfl⟩
  rw [← hH] at hP
  have hS : va_S A s.heap H [] := by rw [hH]; exact hS
  rw [← hH]
  have hl9 := lv_entry ([.ref a0, .ref za, .int x, .int k, .int h]) (n := 5) (Nat.le_of_ble_eq_true rfl)
  rw [lg_entry_eq]
  generalize (lg_sl ([.ref a0, .ref za, .int x, .int k, .int h]) ++ List.replicate (5 - (lg_sl ([.ref a0, .ref za, .int x, .int k, .int h])).length) Slot.unset).toArray = ls at hl9 ⊢
  have hl9 : lv_has ls 5 [(0, .ref a0), (1, .ref za), (2, .int x), (3, .int k), (4, .int h)] := hl9
  refine lv_iload_n hx hb d_C_warmthAfter_0 rfl (lv_at hl9 2 rfl) ?_
  refine lv_aload_n hx hb d_C_warmthAfter_1 rfl (lv_at hl9 0 rfl) ?_
  refine va_get (D := (dC, dI)) (ci := 2) (v := .ref aO) (C := R_C) (T := F_C) (N := 13) hx hb hG i_C hown hK hP 0 rfl rfl 2 (by decide) (hG _ k_24) (fun _ h9 => h9) rfl d_C_warmthAfter_2 ?_
  refine lv_iload_n hx hb d_C_warmthAfter_5 rfl (lv_at hl9 3 rfl) ?_
  refine va_iald hx hb hK hP 1 0 rfl rfl (hk) d_C_warmthAfter_6 ?_
  refine lv_iload_n hx hb d_C_warmthAfter_7 rfl (lv_at hl9 2 rfl) ?_
  refine lv_isub hx hb d_C_warmthAfter_8 ?_
  refine lv_aload_n hx hb d_C_warmthAfter_9 rfl (lv_at hl9 1 rfl) ?_
  refine va_getN (D := (dC, dI)) (ci := 1) (v := .int zl) (C := R_Z) (T := F_Z) (N := 10) hx hb hG i_Z hown hK hP 2 rfl rfl 1 (by decide) (hE.1.use k_182) (fun _ h9 => h9) rfl d_C_warmthAfter_10 ?_
  refine lv_idiv hx hb d_C_warmthAfter_13 (hzl) ?_
  refine lv_iadd hx hb d_C_warmthAfter_14 ?_
  refine lv_iload hx hb d_C_warmthAfter_15 (lv_at hl9 4 rfl) ?_
  refine lv_aload_n hx hb d_C_warmthAfter_17 rfl (lv_at hl9 1 rfl) ?_
  refine va_getN (D := (dC, dI)) (ci := 1) (v := .int zh) (C := R_Z) (T := F_Z) (N := 10) hx hb hG i_Z hown hK hP 2 rfl rfl 0 (by decide) (hE.1.use k_180) (fun _ h9 => h9) rfl d_C_warmthAfter_18 ?_
  refine lv_idiv hx hb d_C_warmthAfter_21 (hzh) ?_
  refine lv_iadd hx hb d_C_warmthAfter_22 ?_
  exact W.iret (v := ((x + (((fO k.toNatClampNeg) - x) / zl)) + (h / zh))) hx hb hr (fun t ht hW => ⟨⟨((x + (((fO k.toNatClampNeg) - x) / zl)) + (h / zh)), (), rfl, rfl, trivial⟩, hS.F ht⟩) hS.2.2 d_C_warmthAfter_23
set_option maxHeartbeats 4000000 in
set_option maxRecDepth 100000 in
theorem c_shareOf (l : Launch) (dC : Nat → ClassId) (dI : Nat → Nat → Nat) (cI cJ cZ cB : ClassId) (a0 aZ aO aG aP aW aK : Nat) (zc orr ol mp pl fa fb : Int32) (fG : Nat → Int32) (za la wa : Nat) (zh zl zf zp zr zm zw zs : Int32) (k : Int32) (sz : Nat) (hk : vp_in k 1440) : Met l y_C_shareOf w_C_shareOf ({ frames := 0, cells := 0, slots := 0, locals := 0 }) (PC (dC, dI) (TY cI cJ cZ cB) [.ref a0, .ref za, .int k] [(a0, .inr (2, [.ref aZ, .int zc, .ref aO, .int orr, .int ol, .int mp, .ref aG, .int pl, .int fa, .int fb, .ref aP, .ref aW, .ref aK])), (aG, .inl (cI, 1440, .inl fG)), (za, .inr (1, [.int zh, .int zl, .int zf, .int zp, .int zr, .int zm, .int zw, .ref la, .int zs, .ref wa]))] sz (va_A [] sz)) (va_Qi (fun (r : Int32) (_ : Unit) => r = if zp < mp - fG k.toNatClampNeg then zp else mp - fG k.toNatClampNeg) (fun (_ : Unit) (_ : State) => True) (va_A [] sz)) 0 0 (va_A [] sz) := by
  refine Met.ofW (cc := b_C_shareOf) (maxL := 4) (ret := (some .int)) (by decide) rfl ?_
  intro p e s m args below meth c s₁ B hml hv
  obtain ⟨rfl, hsz, hP, hK, hD0, hE⟩ := hv
  have hx := B.exec
  have hb := B.bytes
  have hr := B.returns
  have hG : ∀ w ∈ GG, w.before _ s = true := fun w h => atoms_spec (ws := w_C_shareOf) B.pre w (List.mem_cons_of_mem _ h)
  have hown : s.vm.findClass R_C = some m.cls := findClass_of_methodNamed B.named
  have hlocks := B.notSynchronized
  subst hsz
  generalize hAe : (va_A [] s.heap.size) = A at hE ⊢
  have hA : ∀ q : Nat, s.heap.size ≤ q → A q := fun q h => by rw [← hAe]; exact Or.inr h
  have hS : va_S A s.heap s.heap [] := va_S.rf
  have hD := hD0
  obtain ⟨H, hH⟩ : ∃ z, z = s.heap := ⟨_, rfl⟩
  rw [← hH] at hP
  have hS : va_S A s.heap H [] := by rw [hH]; exact hS
  rw [← hH]
  have hl9 := lv_entry ([.ref a0, .ref za, .int k]) (n := 4) (Nat.le_of_ble_eq_true rfl)
  rw [lg_entry_eq]
  generalize (lg_sl ([.ref a0, .ref za, .int k]) ++ List.replicate (4 - (lg_sl ([.ref a0, .ref za, .int k])).length) Slot.unset).toArray = ls at hl9 ⊢
  have hl9 : lv_has ls 4 [(0, .ref a0), (1, .ref za), (2, .int k)] := hl9
  refine lv_aload_n hx hb d_C_shareOf_0 rfl (lv_at hl9 0 rfl) ?_
  refine va_get (D := (dC, dI)) (ci := 2) (v := .int mp) (C := R_C) (T := F_C) (N := 13) hx hb hG i_C hown hK hP 0 rfl rfl 5 (by decide) (hG _ k_27) (fun _ h9 => h9) rfl d_C_shareOf_1 ?_
  refine lv_aload_n hx hb d_C_shareOf_4 rfl (lv_at hl9 0 rfl) ?_
  refine va_get (D := (dC, dI)) (ci := 2) (v := .ref aG) (C := R_C) (T := F_C) (N := 13) hx hb hG i_C hown hK hP 0 rfl rfl 6 (by decide) (hG _ k_28) (fun _ h9 => h9) rfl d_C_shareOf_5 ?_
  refine lv_iload_n hx hb d_C_shareOf_8 rfl (lv_at hl9 2 rfl) ?_
  refine va_iald hx hb hK hP 1 0 rfl rfl (hk) d_C_shareOf_9 ?_
  refine lv_isub hx hb d_C_shareOf_10 ?_
  refine lv_istore_n (lv' := [(3, .int (mp - (fG k.toNatClampNeg))), (0, .ref a0), (1, .ref za), (2, .int k)]) hx hb d_C_shareOf_11 rfl hl9 (by decide) rfl (fun ls hl9 => ?_)
  refine lv_aload_n hx hb d_C_shareOf_12 rfl (lv_at hl9 2 rfl) ?_
  refine va_getN (D := (dC, dI)) (ci := 1) (v := .int zp) (C := R_Z) (T := F_Z) (N := 10) hx hb hG i_Z hown hK hP 2 rfl rfl 3 (by decide) (hE.1.use k_186) (fun _ h9 => h9) rfl d_C_shareOf_13 ?_
  refine lv_iload_n hx hb d_C_shareOf_16 rfl (lv_at hl9 0 rfl) ?_
  refine lv_icmp_ge (tgt := 27) hx hb d_C_shareOf_17 (by decide) (fun c1 => ?_) (fun c1 => ?_)
  · refine lv_iload_n hx hb d_C_shareOf_27 rfl (lv_at hl9 0 rfl) ?_
    exact W.iret (v := (mp - (fG k.toNatClampNeg))) hx hb hr (fun t ht hW => ⟨⟨(mp - (fG k.toNatClampNeg)), (), rfl, by rw [if_neg (Int32.not_lt.mpr c1)], trivial⟩, hS.F ht⟩) hS.2.2 d_C_shareOf_28
  · refine lv_aload_n hx hb d_C_shareOf_20 rfl (lv_at hl9 2 rfl) ?_
    refine va_getN (D := (dC, dI)) (ci := 1) (v := .int zp) (C := R_Z) (T := F_Z) (N := 10) hx hb hG i_Z hown hK hP 2 rfl rfl 3 (by decide) (hE.1.use k_186) (fun _ h9 => h9) rfl d_C_shareOf_21 ?_
    refine lv_goto (tgt := 28) hx hb d_C_shareOf_24 (by decide) ?_
    exact W.iret (v := zp) hx hb hr (fun t ht hW => ⟨⟨zp, (), rfl, by rw [if_pos (Int32.not_le.mp c1)], trivial⟩, hS.F ht⟩) hS.2.2 d_C_shareOf_28
end
section
/-- n minutes on from minute a with the heat h -/
def wt (o : Nat → Int32) (L hd h x : Int32) (a : Nat) : Nat → Int32
  | 0 => x
  | n + 1 => wt o L hd h x a n + (o (a + n) - wt o L hd h x a n) / L + h / hd
theorem g_C_179 : GoodIn GG (wsV R_C 179 R_C y_C_warmthAfter w_C_warmthAfter) := goodG (List.forall_mem_append.mpr ⟨List.forall_mem_cons.mpr ⟨k_279, List.forall_mem_cons.mpr ⟨k_281, List.forall_mem_cons.mpr ⟨ks_6, List.forall_mem_cons.mpr ⟨k_1, fun _ h => absurd h List.not_mem_nil⟩⟩⟩⟩, List.forall_mem_cons.mpr ⟨k_282, fun _ h => h⟩⟩)
set_option maxHeartbeats 4000000 in
set_option maxRecDepth 100000 in
theorem c_warmthThrough (l : Launch) (dC : Nat → ClassId) (dI : Nat → Nat → Nat) (cI cJ cZ cB : ClassId) (a0 aZ aO aG aP aW aK : Nat) (zc orr ol mp pl fa fb : Int32) (fO : Nat → Int32) (za la wa : Nat) (zh zl zf zp zr zm zw zs : Int32) (x h : Int32) (a b : Nat) (sz : Nat) (hab : a ≤ b) (hb1 : b ≤ 1440) (hzl : ¬ zl = 0) (hzh : ¬ zh = 0) : Met l y_C_warmthThrough w_C_warmthThrough ({ frames := 1, cells := 0, slots := 0, locals := 24 }) (PC (dC, dI) (TY cI cJ cZ cB) [.ref a0, .ref za, .int x, .int (nI a), .int (nI b), .int h] [(a0, .inr (2, [.ref aZ, .int zc, .ref aO, .int orr, .int ol, .int mp, .ref aG, .int pl, .int fa, .int fb, .ref aP, .ref aW, .ref aK])), (aO, .inl (cI, 1440, .inl fO)), (za, .inr (1, [.int zh, .int zl, .int zf, .int zp, .int zr, .int zm, .int zw, .ref la, .int zs, .ref wa]))] sz (va_A [] sz)) (va_Qi (fun (r : Int32) (_ : Unit) => r = wt fO zl zh h x a (b - a)) (fun (_ : Unit) (_ : State) => True) (va_A [] sz)) 0 0 (va_A [] sz) := by
  refine Met.ofW (cc := b_C_warmthThrough) (maxL := 8) (ret := (some .int)) (by decide) rfl ?_
  intro p e s m args below meth c s₁ B hml hv
  obtain ⟨rfl, hsz, hP, hK, hD0, hE⟩ := hv
  have hx := B.exec
  have hb := B.bytes
  have hr := B.returns
  have hG : ∀ w ∈ GG, w.before _ s = true := fun w h => atoms_spec (ws := w_C_warmthThrough) B.pre w (List.mem_cons_of_mem _ h)
  have hown : s.vm.findClass R_C = some m.cls := findClass_of_methodNamed B.named
  have hlocks := B.notSynchronized
  subst hsz
  generalize hAe : (va_A [] s.heap.size) = A at hE ⊢
  have hA : ∀ q : Nat, s.heap.size ≤ q → A q := fun q h => by rw [← hAe]; exact Or.inr h
  have hS : va_S A s.heap s.heap [] := va_S.rf
  have hD := hD0
  obtain ⟨H, hH⟩ : ∃ z, z = s.heap := ⟨_, rfl⟩
  rw [← hH] at hP
  have hS : va_S A s.heap H [] := by rw [hH]; exact hS
  rw [← hH]
  have hl9 := lv_entry ([.ref a0, .ref za, .int x, .int (nI a), .int (nI b), .int h]) (n := 8) (Nat.le_of_ble_eq_true rfl)
  rw [lg_entry_eq]
  generalize (lg_sl ([.ref a0, .ref za, .int x, .int (nI a), .int (nI b), .int h]) ++ List.replicate (8 - (lg_sl ([.ref a0, .ref za, .int x, .int (nI a), .int (nI b), .int h])).length) Slot.unset).toArray = ls at hl9 ⊢
  have hl9 : lv_has ls 8 [(0, .ref a0), (1, .ref za), (2, .int x), (3, .int (nI a)), (4, .int (nI b)), (5, .int h)] := hl9
  refine lv_iload_n hx hb d_C_warmthThrough_0 rfl (lv_at hl9 2 rfl) ?_
  refine lv_istore (lv' := [(6, .int x), (0, .ref a0), (1, .ref za), (2, .int x), (3, .int (nI a)), (4, .int (nI b)), (5, .int h)]) hx hb d_C_warmthThrough_1 hl9 (by decide) rfl (fun ls hl9 => ?_)
  refine lv_iload_n hx hb d_C_warmthThrough_3 rfl (lv_at hl9 4 rfl) ?_
  refine lv_istore (lv' := [(7, .int (nI a)), (6, .int x), (0, .ref a0), (1, .ref za), (2, .int x), (3, .int (nI a)), (4, .int (nI b)), (5, .int h)]) hx hb d_C_warmthThrough_4 hl9 (by decide) rfl (fun ls hl9 => ?_)
  have lp : ∀ (n : Nat) (i : Nat), a ≤ i → i ≤ b → b + 1 ≤ i + n → ∀ (H : Heap) (locs : List Loc) (ls : Array Slot), va_P (dC, dI) vwCl [(a0, .inr (2, [.ref aZ, .int zc, .ref aO, .int orr, .int ol, .int mp, .ref aG, .int pl, .int fa, .int fb, .ref aP, .ref aW, .ref aK])), (aO, .inl (cI, 1440, .inl fO)), (za, .inr (1, [.int zh, .int zl, .int zf, .int zp, .int zr, .int zm, .int zw, .ref la, .int zs, .ref wa]))] H → va_S A s.heap H locs → lv_has ls 8 [(6, .int (wt fO zl zh h x a (i - a))), (7, .int (nI i)), (0, .ref a0), (1, .ref za), (4, .int (nI b)), (5, .int h)] → W p l e (headSpec w_C_warmthThrough ({ frames := 1, cells := 0, slots := 0, locals := 24 })).room s m ([.ref a0, .ref za, .int x, .int (nI a), .int (nI b), .int h] : List Value).toArray below meth c H locs 0 0 (MQ below (va_Qi (fun (r : Int32) (_ : Unit) => r = wt fO zl zh h x a (b - a)) (fun (_ : Unit) (_ : State) => True) A) ([.ref a0, .ref za, .int x, .int (nI a), .int (nI b), .int h] : List Value).toArray s 0 0 A) (F0 m 6 ls []) := by
    intro n
    induction n with
    | zero =>
      intro i hai hib hin
      exact absurd hin (by omega)
    | succ n ih =>
      intro i hai hib hin H locs ls hP hS hl9
      refine lv_iload hx hb d_C_warmthThrough_6 (lv_at hl9 1 rfl) ?_
      refine lv_iload hx hb d_C_warmthThrough_8 (lv_at hl9 4 rfl) ?_
      refine lv_icmp_ge (tgt := 32) hx hb d_C_warmthThrough_10 (by decide) (fun c1 => ?_) (fun c1 => ?_)
      · have e9 : i = b := by have := (nI_leI (a := b) (b := i) (by omega) (by omega)).mp c1; omega
        subst e9
        refine lv_iload hx hb d_C_warmthThrough_32 (lv_at hl9 0 rfl) ?_
        exact W.iret (v := (wt fO zl zh h x a (i - a))) hx hb hr (fun t ht hW => ⟨⟨(wt fO zl zh h x a (i - a)), (), rfl, rfl, trivial⟩, hS.F ht⟩) hS.2.2 d_C_warmthThrough_34
      · have e9 : i < b := by rcases Nat.lt_or_ge i b with q | q; exact q; exact absurd ((nI_leI (a := b) (b := i) (by omega) (by omega)).mpr q) c1
        have hin : vp_in (nI i) 1440 := vp_in_nI (by omega) (by omega)
        refine lv_aload_n hx hb d_C_warmthThrough_13 rfl (lv_at hl9 2 rfl) ?_
        refine lv_aload_n hx hb d_C_warmthThrough_14 rfl (lv_at hl9 3 rfl) ?_
        refine lv_iload hx hb d_C_warmthThrough_15 (lv_at hl9 0 rfl) ?_
        refine lv_iload hx hb d_C_warmthThrough_17 (lv_at hl9 1 rfl) ?_
        refine lv_iload hx hb d_C_warmthThrough_19 (lv_at hl9 5 rfl) ?_
        have hPc := hP.sub (ws' := [(a0, .inr (2, [.ref aZ, .int zc, .ref aO, .int orr, .int ol, .int mp, .ref aG, .int pl, .int fa, .int fb, .ref aP, .ref aW, .ref aK])), (aO, .inl (cI, 1440, .inl fO)), (za, .inr (1, [.int zh, .int zl, .int zf, .int zp, .int zr, .int zm, .int zw, .ref la, .int zs, .ref wa]))]) [0, 1, 2] rfl
        have hDc := hD.sub (ws' := [(a0, .inr (2, [.ref aZ, .int zc, .ref aO, .int orr, .int ol, .int mp, .ref aG, .int pl, .int fa, .int fb, .ref aP, .ref aW, .ref aK])), (aO, .inl (cI, 1440, .inl fO)), (za, .inr (1, [.int zh, .int zl, .int zf, .int zp, .int zr, .int zm, .int zw, .ref la, .int zs, .ref wa]))]) [0, 1, 2] (by decide) rfl
        have hFc := va_A_nil hA hS.1
        refine va_calli (va_runV (C := R_C) (As := [.ref za, .int (wt fO zl zh h x a (i - a)), .int (nI i), .int h]) (rest := []) ⟨hx, hb, hml, hown, hG⟩ (c_warmthAfter l dC dI cI cJ cZ cB a0 aZ aO aG aP aW aK zc orr ol mp pl fa fb fO za la wa zh zl zf zp zr zm zw zs (wt fO zl zh h x a (i - a)) (nI i) h H.size hin hzl hzh) (cwV 4 hG g_C_179 rfl rfl rfl (by decide +kernel) ⟨Nat.le_of_ble_eq_true rfl, Nat.le_of_ble_eq_true rfl⟩) ⟨PC.blind, va_recv hK hP (ci := 2) (q0 := 0) rfl rfl, PC.of hPc hK hDc hE hS hFc⟩ rfl rfl hl9.1 rfl (lv_room (Nat.le_of_ble_eq_true rfl)) d_C_warmthThrough_21 ⟨by first | exact Nat.le_of_ble_eq_true rfl | omega, by first | exact Nat.le_of_ble_eq_true rfl | omega⟩) hS (fun q _ h => hFc q h) hFc (fun r2 u t H1 locs ht hvm hw hB hz1 hk1 hS => ?_)
        have hP := wp_kept hP hk1
        have hw : r2 = (wt fO zl zh h x a (i - a)) + (fO (nI i).toNatClampNeg - (wt fO zl zh h x a (i - a))) / zl + h / zh := hw
        subst hw
        refine lv_istore (lv' := [(6, .int ((wt fO zl zh h x a (i - a)) + (fO (nI i).toNatClampNeg - (wt fO zl zh h x a (i - a))) / zl + h / zh)), (7, .int (nI i)), (0, .ref a0), (1, .ref za), (4, .int (nI b)), (5, .int h)]) hx hb d_C_warmthThrough_24 hl9 (by decide) rfl (fun ls hl9 => ?_)
        refine lv_iinc (v := ((nI i) + 1)) (lv' := [(7, .int ((nI i) + 1)), (6, .int ((wt fO zl zh h x a (i - a)) + (fO (nI i).toNatClampNeg - (wt fO zl zh h x a (i - a))) / zl + h / zh)), (0, .ref a0), (1, .ref za), (4, .int (nI b)), (5, .int h)]) hx hb d_C_warmthThrough_26 hl9 (k := 1) rfl rfl (by decide) rfl (fun ls hl9 => ?_)
        refine lv_goto (tgt := 6) hx hb d_C_warmthThrough_29 (by decide) ?_
        have e8 : wt fO zl zh h x a (i - a) + (fO (nI i).toNatClampNeg - wt fO zl zh h x a (i - a)) / zl + h / zh = wt fO zl zh h x a (i + 1 - a) := by rw [show i + 1 - a = (i - a) + 1 by omega, nI_clamp (by omega)]; show _ = wt fO zl zh h x a (i - a) + (fO (a + (i - a)) - wt fO zl zh h x a (i - a)) / zl + h / zh; rw [show a + (i - a) = i by omega]
        rw [e8, nI_1] at hl9
        exact ih (i + 1) (by omega) (by omega) (by omega) _ _ ls hP hS (lv_sub hl9 [1, 0, 2, 3, 4, 5] rfl)
  have e7 : x = wt fO zl zh h x a (a - a) := by rw [Nat.sub_self]; rfl
  have hl9 : lv_has ls 8 [(7, .int (nI a)), (6, .int (wt fO zl zh h x a (a - a))), (0, .ref a0), (1, .ref za), (2, .int x), (3, .int (nI a)), (4, .int (nI b)), (5, .int h)] := by rw [← e7]; exact hl9
  exact lp (b + 1 - a) a (Nat.le_refl a) hab (by omega) _ _ ls hP hS (lv_sub hl9 [1, 0, 2, 3, 6, 7] rfl)
end
section
/-- what a zone gets in a minute -/
def sh (g : Nat → Int32) (zp mp : Int32) (k : Nat) : Int32 := if zp < mp - g k then zp else mp - g k
/-- left unheated from minute a on, n minutes -/
def lu (o : Nat → Int32) (L hd : Int32) (T : Nat → Int32) (a : Nat) : Nat → Nat → Int32
  | 0 => T
  | n + 1 => upd (lu o L hd T a n) (a + n + 1) (lu o L hd T a n (a + n) + (o (a + n) - lu o L hd T a n (a + n)) / L + 0 / hd)
/-- heated from minute a on, n minutes, from the warmth x -/
def wi (o g : Nat → Int32) (L hd zp mp x : Int32) (a : Nat) : Nat → Int32
  | 0 => x
  | n + 1 => wi o g L hd zp mp x a n + (o (a + n) - wi o g L hd zp mp x a n) / L + sh g zp mp (a + n) / hd
/-- .. the warmths, and what is given -/
def hf (o : Nat → Int32) (L hd zp mp : Int32) (T g : Nat → Int32) (a : Nat) : Nat → (Nat → Int32) × (Nat → Int32)
  | 0 => (T, g)
  | n + 1 => (upd (hf o L hd zp mp T g a n).1 (a + n + 1) ((hf o L hd zp mp T g a n).1 (a + n) + (o (a + n) - (hf o L hd zp mp T g a n).1 (a + n)) / L + sh (hf o L hd zp mp T g a n).2 zp mp (a + n) / hd), upd (hf o L hd zp mp T g a n).2 (a + n) ((hf o L hd zp mp T g a n).2 (a + n) + sh (hf o L hd zp mp T g a n).2 zp mp (a + n)))
/-- the latest start by halving steps, behind j steps -/
def lst (o g T : Nat → Int32) (L hd zp mp ww : Int32) (b : Nat) : Nat → Nat
  | 0 => 0
  | j + 1 => if lst o g T L hd zp mp ww b j + 1024 / 2 ^ j ≤ b ∧ ww ≤ wi o g L hd zp mp (T (lst o g T L hd zp mp ww b j + 1024 / 2 ^ j)) (lst o g T L hd zp mp ww b j + 1024 / 2 ^ j) (b - (lst o g T L hd zp mp ww b j + 1024 / 2 ^ j)) then lst o g T L hd zp mp ww b j + 1024 / 2 ^ j else lst o g T L hd zp mp ww b j
theorem lst_le (o g T : Nat → Int32) (L hd zp mp ww : Int32) (b : Nat) : ∀ j, lst o g T L hd zp mp ww b j ≤ b := by
  intro j
  induction j with
  | zero => exact Nat.zero_le _
  | succ j ih =>
    show (if _ then _ else _) ≤ b
    split
    · rename_i h; exact h.1
    · exact ih
/-- what the minutes from a on cost -/
def cm (f : Nat → Int32) (zp : Int32) (a : Nat) : Nat → Int64
  | 0 => 0
  | n + 1 => cm f zp a n + zp.toInt64 * (f ((a + n) / 60)).toInt64
theorem lt_of_c {i b : Nat} (hi : i < 2 ^ 31) (hb : b < 2 ^ 31) (c : ¬ nI b ≤ nI i) : i < b := by
  rcases Nat.lt_or_ge i b with q | q
  · exact q
  · exact absurd (nI_le q hi) c
theorem ge_of_c {i b : Nat} (hi : i < 2 ^ 31) (hb : b < 2 ^ 31) (c : nI b ≤ nI i) : b ≤ i := (nI_leI hb hi).mp c
theorem upd_c (f : Nat → Int32) {n : Nat} (h : n < 2 ^ 31) (x : Int32) : upd f (nI n).toNatClampNeg x = upd f n x := by rw [nI_clamp h]
set_option maxHeartbeats 4000000 in
set_option maxRecDepth 100000 in
theorem c_wantsWarmth (l : Launch) (dC : Nat → ClassId) (dI : Nat → Nat → Nat) (cI cJ cZ cB : ClassId) (za la wa : Nat) (zh zl zf zp zr zm zw zs : Int32) (sz : Nat) : Met l y_Z_wantsWarmth w_Z_wantsWarmth ({ frames := 0, cells := 0, slots := 0, locals := 0 }) (PC (dC, dI) (TY cI cJ cZ cB) [.ref za] [(za, .inr (1, [.int zh, .int zl, .int zf, .int zp, .int zr, .int zm, .int zw, .ref la, .int zs, .ref wa]))] sz (va_A [] sz)) (va_Qi (fun (r : Int32) (_ : Unit) => r = if zm = -1 then 0 else 1) (fun (_ : Unit) (_ : State) => True) (va_A [] sz)) 0 0 (va_A [] sz) := by
  refine Met.ofW (cc := b_Z_wantsWarmth) (maxL := 1) (ret := (some .boolean)) (by decide) rfl ?_
  intro p e s m args below meth c s₁ B hml hv
  obtain ⟨rfl, hsz, hP, hK, hD0, hE⟩ := hv
  have hx := B.exec
  have hb := B.bytes
  have hr := B.returns
  have hG : ∀ w ∈ GG, w.before _ s = true := fun w h => atoms_spec (ws := w_Z_wantsWarmth) B.pre w (List.mem_cons_of_mem _ h)
  have hown : s.vm.findClass R_Z = some m.cls := findClass_of_methodNamed B.named
  have hlocks := B.notSynchronized
  subst hsz
  generalize hAe : (va_A [] s.heap.size) = A at hE ⊢
  have hA : ∀ q : Nat, s.heap.size ≤ q → A q := fun q h => by rw [← hAe]; exact Or.inr h
  have hS : va_S A s.heap s.heap [] := va_S.rf
  have hD := hD0
  obtain ⟨H, hH⟩ : ∃ z, z = s.heap := ⟨_, rfl⟩
  rw [← hH] at hP
  have hS : va_S A s.heap H [] := by rw [hH]; exact hS
  rw [← hH]
  have hl9 := lv_entry ([.ref za]) (n := 1) (Nat.le_of_ble_eq_true rfl)
  rw [lg_entry_eq]
  generalize (lg_sl ([.ref za]) ++ List.replicate (1 - (lg_sl ([.ref za])).length) Slot.unset).toArray = ls at hl9 ⊢
  have hl9 : lv_has ls 1 [(0, .ref za)] := hl9
  refine lv_aload_n hx hb d_Z_wantsWarmth_0 rfl (lv_at hl9 0 rfl) ?_
  refine va_get (D := (dC, dI)) (ci := 1) (v := .int zm) (C := R_Z) (T := F_Z) (N := 10) hx hb hG i_Z hown hK hP 0 rfl rfl 5 (by decide) (hG _ k_189) (fun _ h9 => h9) rfl d_Z_wantsWarmth_1 ?_
  refine lv_iconst (v := (-1)) hx hb d_Z_wantsWarmth_4 (by decide) ?_
  refine lv_icmp_eq (tgt := 12) hx hb d_Z_wantsWarmth_5 (by decide) (fun c1 => ?_) (fun c1 => ?_)
  · refine lv_iconst (v := 0) hx hb d_Z_wantsWarmth_12 (by decide) ?_
    exact W.zret (v := 0) hx hb hr rfl (fun t ht hW => ⟨⟨0, (), rfl, by rw [if_pos c1], trivial⟩, hS.F ht⟩) hS.2.2 d_Z_wantsWarmth_13
  · refine lv_iconst (v := 1) hx hb d_Z_wantsWarmth_8 (by decide) ?_
    refine lv_goto (tgt := 13) hx hb d_Z_wantsWarmth_9 (by decide) ?_
    exact W.zret (v := 1) hx hb hr rfl (fun t ht hW => ⟨⟨1, (), rfl, by rw [if_neg c1], trivial⟩, hS.F ht⟩) hS.2.2 d_Z_wantsWarmth_13
set_option maxHeartbeats 4000000 in
set_option maxRecDepth 100000 in
theorem c_quarterBegin (l : Launch) (dC : Nat → ClassId) (dI : Nat → Nat → Nat) (cI cJ cZ cB : ClassId) (za la wa : Nat) (zh zl zf zp zr zm zw zs : Int32) (q mm : Int32) (sz : Nat) : Met l y_C_quarterBegin w_C_quarterBegin ({ frames := 1, cells := 0, slots := 0, locals := 24 }) (PC (dC, dI) (TY cI cJ cZ cB) [.ref za, .int q, .int mm] [(za, .inr (1, [.int zh, .int zl, .int zf, .int zp, .int zr, .int zm, .int zw, .ref la, .int zs, .ref wa]))] sz (va_A [] sz)) (va_Qi (fun (r : Int32) (_ : Unit) => r = if 0 < zm - q * mm then zm - q * mm else 0) (fun (_ : Unit) (_ : State) => True) (va_A [] sz)) 0 0 (va_A [] sz) := by
  refine Met.ofW (cc := b_C_quarterBegin) (maxL := 3) (ret := (some .int)) (by decide) rfl ?_
  intro p e s m args below meth c s₁ B hml hv
  obtain ⟨rfl, hsz, hP, hK, hD0, hE⟩ := hv
  have hx := B.exec
  have hb := B.bytes
  have hr := B.returns
  have hG : ∀ w ∈ GG, w.before _ s = true := fun w h => atoms_spec (ws := w_C_quarterBegin) B.pre w (List.mem_cons_of_mem _ h)
  have hown : s.vm.findClass R_C = some m.cls := findClass_of_methodNamed B.named
  have hlocks := B.notSynchronized
  subst hsz
  generalize hAe : (va_A [] s.heap.size) = A at hE ⊢
  have hA : ∀ q : Nat, s.heap.size ≤ q → A q := fun q h => by rw [← hAe]; exact Or.inr h
  have hS : va_S A s.heap s.heap [] := va_S.rf
  have hD := hD0
  obtain ⟨H, hH⟩ : ∃ z, z = s.heap := ⟨_, rfl⟩
  rw [← hH] at hP
  have hS : va_S A s.heap H [] := by rw [hH]; exact hS
  rw [← hH]
  have hl9 := lv_entry ([.ref za, .int q, .int mm]) (n := 3) (Nat.le_of_ble_eq_true rfl)
  rw [lg_entry_eq]
  generalize (lg_sl ([.ref za, .int q, .int mm]) ++ List.replicate (3 - (lg_sl ([.ref za, .int q, .int mm])).length) Slot.unset).toArray = ls at hl9 ⊢
  have hl9 : lv_has ls 3 [(0, .ref za), (1, .int q), (2, .int mm)] := hl9
  refine lv_iconst (v := 0) hx hb d_C_quarterBegin_0 (by decide) ?_
  refine lv_aload_n hx hb d_C_quarterBegin_1 rfl (lv_at hl9 0 rfl) ?_
  refine va_getN (D := (dC, dI)) (ci := 1) (v := .int zm) (C := R_Z) (T := F_Z) (N := 10) hx hb hG i_Z hown hK hP 0 rfl rfl 5 (by decide) (hE.1.use k_190) (fun _ h9 => h9) rfl d_C_quarterBegin_2 ?_
  refine lv_iload_n hx hb d_C_quarterBegin_5 rfl (lv_at hl9 1 rfl) ?_
  refine lv_iload_n hx hb d_C_quarterBegin_6 rfl (lv_at hl9 2 rfl) ?_
  refine lv_imul hx hb d_C_quarterBegin_7 ?_
  refine lv_isub hx hb d_C_quarterBegin_8 ?_
  refine va_mmax hx hb (hml.trans hl9.1.symm) hown (hG _ k_386) (hG _ k_387) (hG _ k_10) (hG _ k_388) (Nat.le_of_ble_eq_true rfl) (Nat.le_of_ble_eq_true rfl) (Nat.le_of_ble_eq_true rfl) (Nat.le_of_ble_eq_true rfl) d_C_quarterBegin_9 ?_
  exact W.iret (v := (if 0 < (zm - (q * mm)) then (zm - (q * mm)) else 0)) hx hb hr (fun t ht hW => ⟨⟨(if 0 < (zm - (q * mm)) then (zm - (q * mm)) else 0), (), rfl, rfl, trivial⟩, hS.F ht⟩) hS.2.2 d_C_quarterBegin_12
set_option maxHeartbeats 4000000 in
set_option maxRecDepth 100000 in
theorem c_costOfMinutes (l : Launch) (dC : Nat → ClassId) (dI : Nat → Nat → Nat) (cI cJ cZ cB : ClassId) (a0 aZ aO aG aP aW aK : Nat) (zc orr ol mp pl fa fb : Int32) (fP : Nat → Int32) (za la wa : Nat) (zh zl zf zp zr zm zw zs : Int32) (a b : Nat) (sz : Nat) (hab : a ≤ b) (hb1 : b ≤ 1440) : Met l y_C_costOfMinutes w_C_costOfMinutes ({ frames := 0, cells := 0, slots := 0, locals := 0 }) (PC (dC, dI) (TY cI cJ cZ cB) [.ref a0, .ref za, .int (nI a), .int (nI b)] [(a0, .inr (2, [.ref aZ, .int zc, .ref aO, .int orr, .int ol, .int mp, .ref aG, .int pl, .int fa, .int fb, .ref aP, .ref aW, .ref aK])), (aP, .inl (cI, 24, .inl fP)), (za, .inr (1, [.int zh, .int zl, .int zf, .int zp, .int zr, .int zm, .int zw, .ref la, .int zs, .ref wa]))] sz (va_A [] sz)) (va_Ql (fun (r : Int64) (_ : Unit) => r = cm fP zp a (b - a)) (fun (_ : Unit) (_ : State) => True) (va_A [] sz)) 0 0 (va_A [] sz) := by
  refine Met.ofW (cc := b_C_costOfMinutes) (maxL := 7) (ret := (some .long)) (by decide) rfl ?_
  intro p e s m args below meth c s₁ B hml hv
  obtain ⟨rfl, hsz, hP, hK, hD0, hE⟩ := hv
  have hx := B.exec
  have hb := B.bytes
  have hr := B.returns
  have hG : ∀ w ∈ GG, w.before _ s = true := fun w h => atoms_spec (ws := w_C_costOfMinutes) B.pre w (List.mem_cons_of_mem _ h)
  have hown : s.vm.findClass R_C = some m.cls := findClass_of_methodNamed B.named
  have hlocks := B.notSynchronized
  subst hsz
  generalize hAe : (va_A [] s.heap.size) = A at hE ⊢
  have hA : ∀ q : Nat, s.heap.size ≤ q → A q := fun q h => by rw [← hAe]; exact Or.inr h
  have hS : va_S A s.heap s.heap [] := va_S.rf
  have hD := hD0
  obtain ⟨H, hH⟩ : ∃ z, z = s.heap := ⟨_, rfl⟩
  rw [← hH] at hP
  have hS : va_S A s.heap H [] := by rw [hH]; exact hS
  rw [← hH]
  have hl9 := lv_entry ([.ref a0, .ref za, .int (nI a), .int (nI b)]) (n := 7) (Nat.le_of_ble_eq_true rfl)
  rw [lg_entry_eq]
  generalize (lg_sl ([.ref a0, .ref za, .int (nI a), .int (nI b)]) ++ List.replicate (7 - (lg_sl ([.ref a0, .ref za, .int (nI a), .int (nI b)])).length) Slot.unset).toArray = ls at hl9 ⊢
  have hl9 : lv_has ls 7 [(0, .ref a0), (1, .ref za), (2, .int (nI a)), (3, .int (nI b))] := hl9
  refine lv_lconst (v := 0) hx hb d_C_costOfMinutes_0 (by decide) ?_
  refine lv_lstore (lv' := [(4, .long 0), (0, .ref a0), (1, .ref za), (2, .int (nI a)), (3, .int (nI b))]) hx hb d_C_costOfMinutes_1 hl9 (by decide) rfl (fun ls hl9 => ?_)
  refine lv_iload_n hx hb d_C_costOfMinutes_3 rfl (lv_at hl9 3 rfl) ?_
  refine lv_istore (lv' := [(6, .int (nI a)), (4, .long 0), (0, .ref a0), (1, .ref za), (2, .int (nI a)), (3, .int (nI b))]) hx hb d_C_costOfMinutes_4 hl9 (by decide) rfl (fun ls hl9 => ?_)
  have lp : ∀ (n : Nat) (i : Nat), a ≤ i → i ≤ b → b + 1 ≤ i + n → ∀ (H : Heap) (locs : List Loc) (ls : Array Slot), va_P (dC, dI) vwCl [(a0, .inr (2, [.ref aZ, .int zc, .ref aO, .int orr, .int ol, .int mp, .ref aG, .int pl, .int fa, .int fb, .ref aP, .ref aW, .ref aK])), (aP, .inl (cI, 24, .inl fP)), (za, .inr (1, [.int zh, .int zl, .int zf, .int zp, .int zr, .int zm, .int zw, .ref la, .int zs, .ref wa]))] H → va_S A s.heap H locs → lv_has ls 7 [(4, .long (cm fP zp a (i - a))), (6, .int (nI i)), (0, .ref a0), (1, .ref za), (3, .int (nI b))] → W p l e (headSpec w_C_costOfMinutes ({ frames := 0, cells := 0, slots := 0, locals := 0 })).room s m ([.ref a0, .ref za, .int (nI a), .int (nI b)] : List Value).toArray below meth c H locs 0 0 (MQ below (va_Ql (fun (r : Int64) (_ : Unit) => r = cm fP zp a (b - a)) (fun (_ : Unit) (_ : State) => True) A) ([.ref a0, .ref za, .int (nI a), .int (nI b)] : List Value).toArray s 0 0 A) (F0 m 6 ls []) := by
    intro n
    induction n with
    | zero =>
      intro i hai hib hin
      exact absurd hin (by omega)
    | succ n ih =>
      intro i hai hib hin H locs ls hP hS hl9
      refine lv_iload hx hb d_C_costOfMinutes_6 (lv_at hl9 1 rfl) ?_
      refine lv_iload_n hx hb d_C_costOfMinutes_8 rfl (lv_at hl9 4 rfl) ?_
      refine lv_icmp_ge (tgt := 40) hx hb d_C_costOfMinutes_9 (by decide) (fun c1 => ?_) (fun c1 => ?_)
      · have e9 : i = b := by have := ge_of_c (i := i) (b := b) (by omega) (by omega) c1; omega
        subst e9
        refine lv_lload hx hb d_C_costOfMinutes_40 (lv_at hl9 0 rfl) ?_
        exact W.lret (v := (cm fP zp a (i - a))) hx hb hr (fun t ht hW => ⟨⟨(cm fP zp a (i - a)), (), rfl, rfl, trivial⟩, hS.F ht⟩) hS.2.2 d_C_costOfMinutes_42
      · have e9 : i < b := lt_of_c (by omega) (by omega) c1
        have e6 : nI i / 60 = nI (i / 60) := pk_div (d := 60) (by omega) (by decide) (by decide)
        have hin : vp_in (nI i / 60) 24 := by rw [e6]; exact vp_in_nI (by omega) (by omega)
        refine lv_lload hx hb d_C_costOfMinutes_12 (lv_at hl9 0 rfl) ?_
        refine lv_aload_n hx hb d_C_costOfMinutes_14 rfl (lv_at hl9 3 rfl) ?_
        refine va_getN (D := (dC, dI)) (ci := 1) (v := .int zp) (C := R_Z) (T := F_Z) (N := 10) hx hb hG i_Z hown hK hP 2 rfl rfl 3 (by decide) (hE.1.use k_186) (fun _ h9 => h9) rfl d_C_costOfMinutes_15 ?_
        refine lv_i2l hx hb d_C_costOfMinutes_18 rfl ?_
        refine lv_aload_n hx hb d_C_costOfMinutes_19 rfl (lv_at hl9 2 rfl) ?_
        refine va_get (D := (dC, dI)) (ci := 2) (v := .ref aP) (C := R_C) (T := F_C) (N := 13) hx hb hG i_C hown hK hP 0 rfl rfl 10 (by decide) (hG _ k_32) (fun _ h9 => h9) rfl d_C_costOfMinutes_20 ?_
        refine lv_iload hx hb d_C_costOfMinutes_23 (lv_at hl9 1 rfl) ?_
        refine lv_bipush (v := 60) hx hb d_C_costOfMinutes_25 (by decide) ?_
        refine lv_idiv hx hb d_C_costOfMinutes_27 (by decide) ?_
        refine va_iald hx hb hK hP 1 0 rfl rfl (hin) d_C_costOfMinutes_28 ?_
        refine lv_i2l hx hb d_C_costOfMinutes_29 rfl ?_
        refine lv_lmul hx hb d_C_costOfMinutes_30 ?_
        refine lv_ladd hx hb d_C_costOfMinutes_31 ?_
        refine lv_lstore (lv' := [(4, .long ((cm fP zp a (i - a)) + (zp.toInt64 * ((fP ((nI i) / 60).toNatClampNeg).toInt64)))), (6, .int (nI i)), (0, .ref a0), (1, .ref za), (3, .int (nI b))]) hx hb d_C_costOfMinutes_32 hl9 (by decide) rfl (fun ls hl9 => ?_)
        refine lv_iinc (v := ((nI i) + 1)) (lv' := [(6, .int ((nI i) + 1)), (4, .long ((cm fP zp a (i - a)) + (zp.toInt64 * ((fP ((nI i) / 60).toNatClampNeg).toInt64)))), (0, .ref a0), (1, .ref za), (3, .int (nI b))]) hx hb d_C_costOfMinutes_34 hl9 (k := 1) rfl rfl (by decide) rfl (fun ls hl9 => ?_)
        refine lv_goto (tgt := 6) hx hb d_C_costOfMinutes_37 (by decide) ?_
        have e8 : cm fP zp a (i - a) + zp.toInt64 * (fP (nI i / 60).toNatClampNeg).toInt64 = cm fP zp a (i + 1 - a) := by rw [e6, nI_clamp (by omega), show i + 1 - a = (i - a) + 1 by omega]; show _ = cm fP zp a (i - a) + zp.toInt64 * (fP ((a + (i - a)) / 60)).toInt64; rw [show a + (i - a) = i by omega]
        rw [e8, nI_1] at hl9
        exact ih (i + 1) (by omega) (by omega) (by omega) _ _ ls hP hS (lv_sub hl9 [1, 0, 2, 3, 4] rfl)
  have e7 : (0 : Int64) = cm fP zp a (a - a) := by rw [Nat.sub_self]; rfl
  rw [e7] at hl9
  exact lp (b + 1 - a) a (Nat.le_refl a) hab (by omega) _ _ ls hP hS (lv_sub hl9 [1, 0, 2, 3, 5] rfl)
set_option maxHeartbeats 4000000 in
set_option maxRecDepth 100000 in
theorem c_leaveUnheated (l : Launch) (dC : Nat → ClassId) (dI : Nat → Nat → Nat) (cI cJ cZ cB : ClassId) (a0 aZ aO aG aP aW aK : Nat) (zc orr ol mp pl fa fb : Int32) (fO : Nat → Int32) (za la wa : Nat) (zh zl zf zp zr zm zw zs : Int32) (fT : Nat → Int32) (a : Nat) (sz : Nat) (ha1 : a ≤ 1440) (hzl : ¬ zl = 0) (hzh : ¬ zh = 0) : Met l y_C_leaveUnheated w_C_leaveUnheated ({ frames := 1, cells := 0, slots := 0, locals := 24 }) (PC (dC, dI) (TY cI cJ cZ cB) [.ref a0, .ref za, .int (nI a)] [(a0, .inr (2, [.ref aZ, .int zc, .ref aO, .int orr, .int ol, .int mp, .ref aG, .int pl, .int fa, .int fb, .ref aP, .ref aW, .ref aK])), (aO, .inl (cI, 1440, .inl fO)), (za, .inr (1, [.int zh, .int zl, .int zf, .int zp, .int zr, .int zm, .int zw, .ref la, .int zs, .ref wa])), (wa, .inl (cI, 1441, .inl fT))] sz (va_A [(a0, .inr (2, [.ref aZ, .int zc, .ref aO, .int orr, .int ol, .int mp, .ref aG, .int pl, .int fa, .int fb, .ref aP, .ref aW, .ref aK])), (aO, .inl (cI, 1440, .inl fO)), (za, .inr (1, [.int zh, .int zl, .int zf, .int zp, .int zr, .int zm, .int zw, .ref la, .int zs, .ref wa])), (wa, .inl (cI, 1441, .inl fT))] sz)) (va_Qv (fun (_ : Unit) => True) (fun (_ : Unit) (t : State) => va_P (dC, dI) vwCl [(a0, .inr (2, [.ref aZ, .int zc, .ref aO, .int orr, .int ol, .int mp, .ref aG, .int pl, .int fa, .int fb, .ref aP, .ref aW, .ref aK])), (aO, .inl (cI, 1440, .inl fO)), (za, .inr (1, [.int zh, .int zl, .int zf, .int zp, .int zr, .int zm, .int zw, .ref la, .int zs, .ref wa])), (wa, .inl (cI, 1441, .inl (lu fO zl zh fT a (1440 - a))))] t.heap) (va_A [(a0, .inr (2, [.ref aZ, .int zc, .ref aO, .int orr, .int ol, .int mp, .ref aG, .int pl, .int fa, .int fb, .ref aP, .ref aW, .ref aK])), (aO, .inl (cI, 1440, .inl fO)), (za, .inr (1, [.int zh, .int zl, .int zf, .int zp, .int zr, .int zm, .int zw, .ref la, .int zs, .ref wa])), (wa, .inl (cI, 1441, .inl fT))] sz)) 0 0 (va_A [(a0, .inr (2, [.ref aZ, .int zc, .ref aO, .int orr, .int ol, .int mp, .ref aG, .int pl, .int fa, .int fb, .ref aP, .ref aW, .ref aK])), (aO, .inl (cI, 1440, .inl fO)), (za, .inr (1, [.int zh, .int zl, .int zf, .int zp, .int zr, .int zm, .int zw, .ref la, .int zs, .ref wa])), (wa, .inl (cI, 1441, .inl fT))] sz) := by
  refine Met.ofW (cc := b_C_leaveUnheated) (maxL := 4) (ret := none) (by decide) rfl ?_
  intro p e s m args below meth c s₁ B hml hv
  obtain ⟨rfl, hsz, hP, hK, hD0, hE⟩ := hv
  have hx := B.exec
  have hb := B.bytes
  have hr := B.returns
  have hG : ∀ w ∈ GG, w.before _ s = true := fun w h => atoms_spec (ws := w_C_leaveUnheated) B.pre w (List.mem_cons_of_mem _ h)
  have hown : s.vm.findClass R_C = some m.cls := findClass_of_methodNamed B.named
  have hlocks := B.notSynchronized
  subst hsz
  have hD := hD0.self (sz := s.heap.size)
  generalize hAe : (va_A [(a0, .inr (2, [.ref aZ, .int zc, .ref aO, .int orr, .int ol, .int mp, .ref aG, .int pl, .int fa, .int fb, .ref aP, .ref aW, .ref aK])), (aO, .inl (cI, 1440, .inl fO)), (za, .inr (1, [.int zh, .int zl, .int zf, .int zp, .int zr, .int zm, .int zw, .ref la, .int zs, .ref wa])), (wa, .inl (cI, 1441, .inl fT))] s.heap.size) = A at hD hE ⊢
  have hA : ∀ q : Nat, s.heap.size ≤ q → A q := fun q h => by rw [← hAe]; exact Or.inr h
  have hS : va_S A s.heap s.heap [] := va_S.rf
  obtain ⟨H, hH⟩ : ∃ z, z = s.heap := ⟨_, rfl⟩
  rw [← hH] at hP
  have hS : va_S A s.heap H [] := by rw [hH]; exact hS
  rw [← hH]
  have hl9 := lv_entry ([.ref a0, .ref za, .int (nI a)]) (n := 4) (Nat.le_of_ble_eq_true rfl)
  rw [lg_entry_eq]
  generalize (lg_sl ([.ref a0, .ref za, .int (nI a)]) ++ List.replicate (4 - (lg_sl ([.ref a0, .ref za, .int (nI a)])).length) Slot.unset).toArray = ls at hl9 ⊢
  have hl9 : lv_has ls 4 [(0, .ref a0), (1, .ref za), (2, .int (nI a))] := hl9
  refine lv_iload_n hx hb d_C_leaveUnheated_0 rfl (lv_at hl9 2 rfl) ?_
  refine lv_istore_n (lv' := [(3, .int (nI a)), (0, .ref a0), (1, .ref za), (2, .int (nI a))]) hx hb d_C_leaveUnheated_1 rfl hl9 (by decide) rfl (fun ls hl9 => ?_)
  have lp : ∀ (n : Nat) (i : Nat), a ≤ i → i ≤ 1440 → 1441 ≤ i + n → ∀ (H : Heap) (locs : List Loc) (ls : Array Slot), va_P (dC, dI) vwCl [(a0, .inr (2, [.ref aZ, .int zc, .ref aO, .int orr, .int ol, .int mp, .ref aG, .int pl, .int fa, .int fb, .ref aP, .ref aW, .ref aK])), (aO, .inl (cI, 1440, .inl fO)), (za, .inr (1, [.int zh, .int zl, .int zf, .int zp, .int zr, .int zm, .int zw, .ref la, .int zs, .ref wa])), (wa, .inl (cI, 1441, .inl (lu fO zl zh fT a (i - a))))] H → va_D A [(a0, .inr (2, [.ref aZ, .int zc, .ref aO, .int orr, .int ol, .int mp, .ref aG, .int pl, .int fa, .int fb, .ref aP, .ref aW, .ref aK])), (aO, .inl (cI, 1440, .inl fO)), (za, .inr (1, [.int zh, .int zl, .int zf, .int zp, .int zr, .int zm, .int zw, .ref la, .int zs, .ref wa])), (wa, .inl (cI, 1441, .inl (lu fO zl zh fT a (i - a))))] → va_S A s.heap H locs → lv_has ls 4 [(3, .int (nI i)), (0, .ref a0), (1, .ref za)] → W p l e (headSpec w_C_leaveUnheated ({ frames := 1, cells := 0, slots := 0, locals := 24 })).room s m ([.ref a0, .ref za, .int (nI a)] : List Value).toArray below meth c H locs 0 0 (MQ below (va_Qv (fun (_ : Unit) => True) (fun (_ : Unit) (t : State) => va_P (dC, dI) vwCl [(a0, .inr (2, [.ref aZ, .int zc, .ref aO, .int orr, .int ol, .int mp, .ref aG, .int pl, .int fa, .int fb, .ref aP, .ref aW, .ref aK])), (aO, .inl (cI, 1440, .inl fO)), (za, .inr (1, [.int zh, .int zl, .int zf, .int zp, .int zr, .int zm, .int zw, .ref la, .int zs, .ref wa])), (wa, .inl (cI, 1441, .inl (lu fO zl zh fT a (1440 - a))))] t.heap) A) ([.ref a0, .ref za, .int (nI a)] : List Value).toArray s 0 0 A) (F0 m 2 ls []) := by
    intro n
    induction n with
    | zero =>
      intro i hai hib hin
      exact absurd hin (by omega)
    | succ n ih =>
      intro i hai hib hin H locs ls hP hD hS hl9
      refine lv_iload_n hx hb d_C_leaveUnheated_2 rfl (lv_at hl9 0 rfl) ?_
      refine lv_sipush (v := 1440) hx hb d_C_leaveUnheated_3 (by decide) ?_
      refine lv_icmp_ge (tgt := 36) hx hb d_C_leaveUnheated_6 (by decide) (fun c1 => ?_) (fun c1 => ?_)
      · have e9 : i = 1440 := by have := ge_of_c (i := i) (b := 1440) (by omega) (by decide) c1; omega
        subst e9
        exact W.vret hx hb hr (fun t ht hW => ⟨⟨(), rfl, trivial, by have h9 := hP; rw [← ht] at h9; exact h9⟩, hS.F ht⟩) hS.2.2 d_C_leaveUnheated_36
      · have e9 : i < 1440 := lt_of_c (b := 1440) (by omega) (by decide) c1
        have hin1 : vp_in (nI i) 1440 := vp_in_nI (by omega) (by omega)
        have hin2 : vp_in (nI i) 1441 := vp_in_nI (by omega) (by omega)
        have hin3 : vp_in (nI i + 1) 1441 := by rw [nI_1]; exact vp_in_nI (by omega) (by omega)
        refine lv_aload_n hx hb d_C_leaveUnheated_9 rfl (lv_at hl9 2 rfl) ?_
        refine va_getN (D := (dC, dI)) (ci := 1) (v := .ref wa) (C := R_Z) (T := F_Z) (N := 10) hx hb hG i_Z hown hK hP 2 rfl rfl 9 (by decide) (hE.1.use k_198) (fun _ h9 => h9) rfl d_C_leaveUnheated_10 ?_
        refine lv_iload_n hx hb d_C_leaveUnheated_13 rfl (lv_at hl9 0 rfl) ?_
        refine lv_iconst (v := 1) hx hb d_C_leaveUnheated_14 (by decide) ?_
        refine lv_iadd hx hb d_C_leaveUnheated_15 ?_
        refine lv_aload_n hx hb d_C_leaveUnheated_16 rfl (lv_at hl9 1 rfl) ?_
        refine lv_aload_n hx hb d_C_leaveUnheated_17 rfl (lv_at hl9 2 rfl) ?_
        refine lv_aload_n hx hb d_C_leaveUnheated_18 rfl (lv_at hl9 2 rfl) ?_
        refine va_getN (D := (dC, dI)) (ci := 1) (v := .ref wa) (C := R_Z) (T := F_Z) (N := 10) hx hb hG i_Z hown hK hP 2 rfl rfl 9 (by decide) (hE.1.use k_198) (fun _ h9 => h9) rfl d_C_leaveUnheated_19 ?_
        refine lv_iload_n hx hb d_C_leaveUnheated_22 rfl (lv_at hl9 0 rfl) ?_
        refine va_iald hx hb hK hP 3 0 rfl rfl (hin2) d_C_leaveUnheated_23 ?_
        refine lv_iload_n hx hb d_C_leaveUnheated_24 rfl (lv_at hl9 0 rfl) ?_
        refine lv_iconst (v := 0) hx hb d_C_leaveUnheated_25 (by decide) ?_
        have hPc := hP.sub (ws' := [(a0, .inr (2, [.ref aZ, .int zc, .ref aO, .int orr, .int ol, .int mp, .ref aG, .int pl, .int fa, .int fb, .ref aP, .ref aW, .ref aK])), (aO, .inl (cI, 1440, .inl fO)), (za, .inr (1, [.int zh, .int zl, .int zf, .int zp, .int zr, .int zm, .int zw, .ref la, .int zs, .ref wa]))]) [0, 1, 2] rfl
        have hDc := hD.sub (ws' := [(a0, .inr (2, [.ref aZ, .int zc, .ref aO, .int orr, .int ol, .int mp, .ref aG, .int pl, .int fa, .int fb, .ref aP, .ref aW, .ref aK])), (aO, .inl (cI, 1440, .inl fO)), (za, .inr (1, [.int zh, .int zl, .int zf, .int zp, .int zr, .int zm, .int zw, .ref la, .int zs, .ref wa]))]) [0, 1, 2] (by decide) rfl
        have hFc := va_A_nil hA hS.1
        refine va_calli (va_runV (C := R_C) (As := [.ref za, .int ((lu fO zl zh fT a (i - a)) (nI i).toNatClampNeg), .int (nI i), .int 0]) (rest := [.int ((nI i) + 1), .ref wa]) ⟨hx, hb, hml, hown, hG⟩ (c_warmthAfter l dC dI cI cJ cZ cB a0 aZ aO aG aP aW aK zc orr ol mp pl fa fb fO za la wa zh zl zf zp zr zm zw zs ((lu fO zl zh fT a (i - a)) (nI i).toNatClampNeg) (nI i) 0 H.size hin1 hzl hzh) (cwV 4 hG g_C_179 rfl rfl rfl (by decide +kernel) ⟨Nat.le_of_ble_eq_true rfl, Nat.le_of_ble_eq_true rfl⟩) ⟨PC.blind, va_recv hK hP (ci := 2) (q0 := 0) rfl rfl, PC.of hPc hK hDc hE hS hFc⟩ rfl rfl hl9.1 rfl (lv_room (Nat.le_of_ble_eq_true rfl)) d_C_leaveUnheated_26 ⟨by first | exact Nat.le_of_ble_eq_true rfl | omega, by first | exact Nat.le_of_ble_eq_true rfl | omega⟩) hS (fun q _ h => hFc q h) hFc (fun r2 u t H1 locs ht hvm hw hB hz1 hk1 hS => ?_)
        have hP := wp_kept hP hk1
        have hw : r2 = ((lu fO zl zh fT a (i - a)) (nI i).toNatClampNeg) + (fO (nI i).toNatClampNeg - ((lu fO zl zh fT a (i - a)) (nI i).toNatClampNeg)) / zl + 0 / zh := hw
        subst hw
        refine va_iast hx hb hK hP hD hS 3 0 rfl rfl (hin3) d_C_leaveUnheated_29 (fun H locs hP hD hS => ?_)
        have hP : va_P (dC, dI) vwCl [(a0, .inr (2, [.ref aZ, .int zc, .ref aO, .int orr, .int ol, .int mp, .ref aG, .int pl, .int fa, .int fb, .ref aP, .ref aW, .ref aK])), (aO, .inl (cI, 1440, .inl fO)), (za, .inr (1, [.int zh, .int zl, .int zf, .int zp, .int zr, .int zm, .int zw, .ref la, .int zs, .ref wa])), (wa, .inl (cI, 1441, .inl (upd (lu fO zl zh fT a (i - a)) ((nI i) + 1).toNatClampNeg (((lu fO zl zh fT a (i - a)) (nI i).toNatClampNeg) + (fO (nI i).toNatClampNeg - ((lu fO zl zh fT a (i - a)) (nI i).toNatClampNeg)) / zl + 0 / zh))))] H := hP
        have hD : va_D A [(a0, .inr (2, [.ref aZ, .int zc, .ref aO, .int orr, .int ol, .int mp, .ref aG, .int pl, .int fa, .int fb, .ref aP, .ref aW, .ref aK])), (aO, .inl (cI, 1440, .inl fO)), (za, .inr (1, [.int zh, .int zl, .int zf, .int zp, .int zr, .int zm, .int zw, .ref la, .int zs, .ref wa])), (wa, .inl (cI, 1441, .inl (upd (lu fO zl zh fT a (i - a)) ((nI i) + 1).toNatClampNeg (((lu fO zl zh fT a (i - a)) (nI i).toNatClampNeg) + (fO (nI i).toNatClampNeg - ((lu fO zl zh fT a (i - a)) (nI i).toNatClampNeg)) / zl + 0 / zh))))] := hD
        refine lv_iinc (v := ((nI i) + 1)) (lv' := [(3, .int ((nI i) + 1)), (0, .ref a0), (1, .ref za)]) hx hb d_C_leaveUnheated_30 hl9 (k := 0) rfl rfl (by decide) rfl (fun ls hl9 => ?_)
        refine lv_goto (tgt := 2) hx hb d_C_leaveUnheated_33 (by decide) ?_
        have e8 : (upd (lu fO zl zh fT a (i - a)) ((nI i) + 1).toNatClampNeg (((lu fO zl zh fT a (i - a)) (nI i).toNatClampNeg) + (fO (nI i).toNatClampNeg - ((lu fO zl zh fT a (i - a)) (nI i).toNatClampNeg)) / zl + 0 / zh)) = (lu fO zl zh fT a (i + 1 - a)) := by rw [nI_1, nI_clamp (n := i) (by omega), nI_clamp (n := i + 1) (by omega), show i + 1 - a = (i - a) + 1 by omega]; show _ = upd (lu fO zl zh fT a (i - a)) (a + (i - a) + 1) (lu fO zl zh fT a (i - a) (a + (i - a)) + (fO (a + (i - a)) - lu fO zl zh fT a (i - a) (a + (i - a))) / zl + 0 / zh); rw [show a + (i - a) = i by omega]
        rw [e8] at hP hD
        rw [nI_1] at hl9
        exact ih (i + 1) (by omega) (by omega) (by omega) _ _ ls hP hD hS (lv_sub hl9 [0, 1, 2] rfl)
  have e7 : fT = lu fO zl zh fT a (a - a) := by rw [Nat.sub_self]; rfl
  have hP : va_P (dC, dI) vwCl [(a0, .inr (2, [.ref aZ, .int zc, .ref aO, .int orr, .int ol, .int mp, .ref aG, .int pl, .int fa, .int fb, .ref aP, .ref aW, .ref aK])), (aO, .inl (cI, 1440, .inl fO)), (za, .inr (1, [.int zh, .int zl, .int zf, .int zp, .int zr, .int zm, .int zw, .ref la, .int zs, .ref wa])), (wa, .inl (cI, 1441, .inl (lu fO zl zh fT a (a - a))))] H := by rw [← e7]; exact hP
  have hD : va_D A [(a0, .inr (2, [.ref aZ, .int zc, .ref aO, .int orr, .int ol, .int mp, .ref aG, .int pl, .int fa, .int fb, .ref aP, .ref aW, .ref aK])), (aO, .inl (cI, 1440, .inl fO)), (za, .inr (1, [.int zh, .int zl, .int zf, .int zp, .int zr, .int zm, .int zw, .ref la, .int zs, .ref wa])), (wa, .inl (cI, 1441, .inl (lu fO zl zh fT a (a - a))))] := by rw [← e7]; exact hD
  exact lp (1441 - a) a (Nat.le_refl a) ha1 (by omega) _ _ ls hP hD hS (lv_sub hl9 [0, 1, 2] rfl)
end
section
theorem st_pos {j : Nat} (hj : j < 11) : 0 < 1024 / 2 ^ j := by
  rcases (show j = 0 ∨ j = 1 ∨ j = 2 ∨ j = 3 ∨ j = 4 ∨ j = 5 ∨ j = 6 ∨ j = 7 ∨ j = 8 ∨ j = 9 ∨ j = 10 by omega) with rfl | rfl | rfl | rfl | rfl | rfl | rfl | rfl | rfl | rfl | rfl <;> decide
theorem st_le (j : Nat) : 1024 / 2 ^ j ≤ 1024 := Nat.div_le_self _ _
theorem st_done {j : Nat} (hj : j ≤ 11) (c : nI (1024 / 2 ^ j) ≤ 0) : j = 11 := by
  rcases Nat.lt_or_ge j 11 with q | q
  · exact absurd c (nI_nle (st_pos q) (Nat.lt_of_le_of_lt (st_le j) (by decide)))
  · omega
theorem st_more {j : Nat} (hj : j ≤ 11) (c : ¬ nI (1024 / 2 ^ j) ≤ 0) : j < 11 := by
  rcases Nat.lt_or_ge j 11 with q | q
  · exact q
  · have e : j = 11 := by omega
    subst e
    exact absurd (by decide) c
theorem st_half (j : Nat) : nI (1024 / 2 ^ j) / 2 = nI (1024 / 2 ^ (j + 1)) := by
  have h := st_le j
  rw [show (2 : Int32) = nI 2 from rfl, pk_div (Nat.lt_of_le_of_lt h (by decide)) (by decide) (by decide), Nat.div_div_eq_div_mul, Nat.pow_succ]
theorem g_C_201 : GoodIn GG (wsV R_C 201 R_C y_C_shareOf w_C_shareOf) := goodG (List.forall_mem_append.mpr ⟨List.forall_mem_cons.mpr ⟨k_295, List.forall_mem_cons.mpr ⟨k_297, List.forall_mem_cons.mpr ⟨ks_10, List.forall_mem_cons.mpr ⟨k_1, fun _ h => absurd h List.not_mem_nil⟩⟩⟩⟩, List.forall_mem_cons.mpr ⟨k_298, fun _ h => h⟩⟩)
theorem g_C_197 : GoodIn GG (wsV R_C 197 R_C y_C_warmthIfStarted w_C_warmthIfStarted) := goodG (List.forall_mem_append.mpr ⟨List.forall_mem_cons.mpr ⟨k_291, List.forall_mem_cons.mpr ⟨k_293, List.forall_mem_cons.mpr ⟨ks_9, List.forall_mem_cons.mpr ⟨k_1, fun _ h => absurd h List.not_mem_nil⟩⟩⟩⟩, List.forall_mem_cons.mpr ⟨k_294, fun _ h => h⟩⟩)
set_option maxHeartbeats 4000000 in
set_option maxRecDepth 100000 in
theorem c_warmthIfStarted (l : Launch) (dC : Nat → ClassId) (dI : Nat → Nat → Nat) (cI cJ cZ cB : ClassId) (a0 aZ aO aG aP aW aK : Nat) (zc orr ol mp pl fa fb : Int32) (fO fG : Nat → Int32) (za la wa : Nat) (zh zl zf zp zr zm zw zs : Int32) (fT : Nat → Int32) (a b : Nat) (sz : Nat) (hab : a ≤ b) (hb1 : b < 1440) (hzl : ¬ zl = 0) (hzh : ¬ zh = 0) : Met l y_C_warmthIfStarted w_C_warmthIfStarted ({ frames := 1, cells := 0, slots := 0, locals := 24 }) (PC (dC, dI) (TY cI cJ cZ cB) [.ref a0, .ref za, .int (nI a)] [(a0, .inr (2, [.ref aZ, .int zc, .ref aO, .int orr, .int ol, .int mp, .ref aG, .int pl, .int fa, .int fb, .ref aP, .ref aW, .ref aK])), (aO, .inl (cI, 1440, .inl fO)), (aG, .inl (cI, 1440, .inl fG)), (za, .inr (1, [.int zh, .int zl, .int zf, .int zp, .int zr, .int (nI b), .int zw, .ref la, .int zs, .ref wa])), (wa, .inl (cI, 1441, .inl fT))] sz (va_A [] sz)) (va_Qi (fun (r : Int32) (_ : Unit) => r = wi fO fG zl zh zp mp (fT a) a (b - a)) (fun (_ : Unit) (_ : State) => True) (va_A [] sz)) 0 0 (va_A [] sz) := by
  refine Met.ofW (cc := b_C_warmthIfStarted) (maxL := 5) (ret := (some .int)) (by decide) rfl ?_
  intro p e s m args below meth c s₁ B hml hv
  obtain ⟨rfl, hsz, hP, hK, hD0, hE⟩ := hv
  have hx := B.exec
  have hb := B.bytes
  have hr := B.returns
  have hG : ∀ w ∈ GG, w.before _ s = true := fun w h => atoms_spec (ws := w_C_warmthIfStarted) B.pre w (List.mem_cons_of_mem _ h)
  have hown : s.vm.findClass R_C = some m.cls := findClass_of_methodNamed B.named
  have hlocks := B.notSynchronized
  subst hsz
  generalize hAe : (va_A [] s.heap.size) = A at hE ⊢
  have hA : ∀ q : Nat, s.heap.size ≤ q → A q := fun q h => by rw [← hAe]; exact Or.inr h
  have hS : va_S A s.heap s.heap [] := va_S.rf
  have hD := hD0
  obtain ⟨H, hH⟩ : ∃ z, z = s.heap := ⟨_, rfl⟩
  rw [← hH] at hP
  have hS : va_S A s.heap H [] := by rw [hH]; exact hS
  rw [← hH]
  have hl9 := lv_entry ([.ref a0, .ref za, .int (nI a)]) (n := 5) (Nat.le_of_ble_eq_true rfl)
  rw [lg_entry_eq]
  generalize (lg_sl ([.ref a0, .ref za, .int (nI a)]) ++ List.replicate (5 - (lg_sl ([.ref a0, .ref za, .int (nI a)])).length) Slot.unset).toArray = ls at hl9 ⊢
  have hl9 : lv_has ls 5 [(0, .ref a0), (1, .ref za), (2, .int (nI a))] := hl9
  have hin0 : vp_in (nI a) 1441 := vp_in_nI (by omega) (by omega)
  refine lv_aload_n hx hb d_C_warmthIfStarted_0 rfl (lv_at hl9 1 rfl) ?_
  refine va_getN (D := (dC, dI)) (ci := 1) (v := .ref wa) (C := R_Z) (T := F_Z) (N := 10) hx hb hG i_Z hown hK hP 3 rfl rfl 9 (by decide) (hE.1.use k_198) (fun _ h9 => h9) rfl d_C_warmthIfStarted_1 ?_
  refine lv_iload_n hx hb d_C_warmthIfStarted_4 rfl (lv_at hl9 2 rfl) ?_
  refine va_iald hx hb hK hP 4 0 rfl rfl (hin0) d_C_warmthIfStarted_5 ?_
  refine lv_istore_n (lv' := [(3, .int (fT (nI a).toNatClampNeg)), (0, .ref a0), (1, .ref za), (2, .int (nI a))]) hx hb d_C_warmthIfStarted_6 rfl hl9 (by decide) rfl (fun ls hl9 => ?_)
  refine lv_iload_n hx hb d_C_warmthIfStarted_7 rfl (lv_at hl9 3 rfl) ?_
  refine lv_istore (lv' := [(4, .int (nI a)), (3, .int (fT (nI a).toNatClampNeg)), (0, .ref a0), (1, .ref za), (2, .int (nI a))]) hx hb d_C_warmthIfStarted_8 hl9 (by decide) rfl (fun ls hl9 => ?_)
  have lp : ∀ (n : Nat) (i : Nat), a ≤ i → i ≤ b → b + 1 ≤ i + n → ∀ (H : Heap) (locs : List Loc) (ls : Array Slot), va_P (dC, dI) vwCl [(a0, .inr (2, [.ref aZ, .int zc, .ref aO, .int orr, .int ol, .int mp, .ref aG, .int pl, .int fa, .int fb, .ref aP, .ref aW, .ref aK])), (aO, .inl (cI, 1440, .inl fO)), (aG, .inl (cI, 1440, .inl fG)), (za, .inr (1, [.int zh, .int zl, .int zf, .int zp, .int zr, .int (nI b), .int zw, .ref la, .int zs, .ref wa])), (wa, .inl (cI, 1441, .inl fT))] H → va_S A s.heap H locs → lv_has ls 5 [(3, .int (wi fO fG zl zh zp mp (fT a) a (i - a))), (4, .int (nI i)), (0, .ref a0), (1, .ref za)] → W p l e (headSpec w_C_warmthIfStarted ({ frames := 1, cells := 0, slots := 0, locals := 24 })).room s m ([.ref a0, .ref za, .int (nI a)] : List Value).toArray below meth c H locs 0 0 (MQ below (va_Qi (fun (r : Int32) (_ : Unit) => r = wi fO fG zl zh zp mp (fT a) a (b - a)) (fun (_ : Unit) (_ : State) => True) A) ([.ref a0, .ref za, .int (nI a)] : List Value).toArray s 0 0 A) (F0 m 10 ls []) := by
    intro n
    induction n with
    | zero =>
      intro i hai hib hin
      exact absurd hin (by omega)
    | succ n ih =>
      intro i hai hib hin H locs ls hP hS hl9
      refine lv_iload hx hb d_C_warmthIfStarted_10 (lv_at hl9 1 rfl) ?_
      refine lv_aload_n hx hb d_C_warmthIfStarted_12 rfl (lv_at hl9 3 rfl) ?_
      refine va_getN (D := (dC, dI)) (ci := 1) (v := .int (nI b)) (C := R_Z) (T := F_Z) (N := 10) hx hb hG i_Z hown hK hP 3 rfl rfl 5 (by decide) (hE.1.use k_190) (fun _ h9 => h9) rfl d_C_warmthIfStarted_13 ?_
      refine lv_icmp_ge (tgt := 41) hx hb d_C_warmthIfStarted_16 (by decide) (fun c1 => ?_) (fun c1 => ?_)
      · have e9 : i = b := by have := ge_of_c (i := i) (b := b) (by omega) (by omega) c1; omega
        subst e9
        refine lv_iload_n hx hb d_C_warmthIfStarted_41 rfl (lv_at hl9 0 rfl) ?_
        exact W.iret (v := (wi fO fG zl zh zp mp (fT a) a (i - a))) hx hb hr (fun t ht hW => ⟨⟨(wi fO fG zl zh zp mp (fT a) a (i - a)), (), rfl, rfl, trivial⟩, hS.F ht⟩) hS.2.2 d_C_warmthIfStarted_42
      · have e9 : i < b := lt_of_c (by omega) (by omega) c1
        have hin1 : vp_in (nI i) 1440 := vp_in_nI (by omega) (by omega)
        refine lv_aload_n hx hb d_C_warmthIfStarted_19 rfl (lv_at hl9 2 rfl) ?_
        refine lv_aload_n hx hb d_C_warmthIfStarted_20 rfl (lv_at hl9 3 rfl) ?_
        refine lv_iload_n hx hb d_C_warmthIfStarted_21 rfl (lv_at hl9 0 rfl) ?_
        refine lv_iload hx hb d_C_warmthIfStarted_22 (lv_at hl9 1 rfl) ?_
        refine lv_aload_n hx hb d_C_warmthIfStarted_24 rfl (lv_at hl9 2 rfl) ?_
        refine lv_aload_n hx hb d_C_warmthIfStarted_25 rfl (lv_at hl9 3 rfl) ?_
        refine lv_iload hx hb d_C_warmthIfStarted_26 (lv_at hl9 1 rfl) ?_
        have hPc := hP.sub (ws' := [(a0, .inr (2, [.ref aZ, .int zc, .ref aO, .int orr, .int ol, .int mp, .ref aG, .int pl, .int fa, .int fb, .ref aP, .ref aW, .ref aK])), (aG, .inl (cI, 1440, .inl fG)), (za, .inr (1, [.int zh, .int zl, .int zf, .int zp, .int zr, .int (nI b), .int zw, .ref la, .int zs, .ref wa]))]) [0, 2, 3] rfl
        have hDc := hD.sub (ws' := [(a0, .inr (2, [.ref aZ, .int zc, .ref aO, .int orr, .int ol, .int mp, .ref aG, .int pl, .int fa, .int fb, .ref aP, .ref aW, .ref aK])), (aG, .inl (cI, 1440, .inl fG)), (za, .inr (1, [.int zh, .int zl, .int zf, .int zp, .int zr, .int (nI b), .int zw, .ref la, .int zs, .ref wa]))]) [0, 2, 3] (by decide) rfl
        have hFc := va_A_nil hA hS.1
        refine va_calli (va_runV (C := R_C) (As := [.ref za, .int (nI i)]) (rest := [.int (nI i), .int (wi fO fG zl zh zp mp (fT a) a (i - a)), .ref za, .ref a0]) ⟨hx, hb, hml, hown, hG⟩ (c_shareOf l dC dI cI cJ cZ cB a0 aZ aO aG aP aW aK zc orr ol mp pl fa fb fG za la wa zh zl zf zp zr (nI b) zw zs (nI i) H.size hin1) (cwV 2 hG g_C_201 rfl rfl rfl (by decide +kernel) ⟨Nat.le_of_ble_eq_true rfl, Nat.le_of_ble_eq_true rfl⟩) ⟨PC.blind, va_recv hK hP (ci := 2) (q0 := 0) rfl rfl, PC.of hPc hK hDc hE hS hFc⟩ rfl rfl hl9.1 rfl (lv_room (Nat.le_of_ble_eq_true rfl)) d_C_warmthIfStarted_28 ⟨by first | exact Nat.le_of_ble_eq_true rfl | omega, by first | exact Nat.le_of_ble_eq_true rfl | omega⟩) hS (fun q _ h => hFc q h) hFc (fun r2 u t H1 locs ht hvm hw hB hz1 hk1 hS => ?_)
        have hP := wp_kept hP hk1
        have hw : r2 = if zp < mp - fG (nI i).toNatClampNeg then zp else mp - fG (nI i).toNatClampNeg := hw
        subst hw
        have e6 : (if zp < mp - fG (nI i).toNatClampNeg then zp else mp - fG (nI i).toNatClampNeg) = sh fG zp mp i := by rw [nI_clamp (by omega)]; rfl
        rw [e6]
        have hPc := hP.sub (ws' := [(a0, .inr (2, [.ref aZ, .int zc, .ref aO, .int orr, .int ol, .int mp, .ref aG, .int pl, .int fa, .int fb, .ref aP, .ref aW, .ref aK])), (aO, .inl (cI, 1440, .inl fO)), (za, .inr (1, [.int zh, .int zl, .int zf, .int zp, .int zr, .int (nI b), .int zw, .ref la, .int zs, .ref wa]))]) [0, 1, 3] rfl
        have hDc := hD.sub (ws' := [(a0, .inr (2, [.ref aZ, .int zc, .ref aO, .int orr, .int ol, .int mp, .ref aG, .int pl, .int fa, .int fb, .ref aP, .ref aW, .ref aK])), (aO, .inl (cI, 1440, .inl fO)), (za, .inr (1, [.int zh, .int zl, .int zf, .int zp, .int zr, .int (nI b), .int zw, .ref la, .int zs, .ref wa]))]) [0, 1, 3] (by decide) rfl
        have hFc := va_A_nil hA hS.1
        refine va_calli (va_runV (C := R_C) (As := [.ref za, .int (wi fO fG zl zh zp mp (fT a) a (i - a)), .int (nI i), .int (sh fG zp mp i)]) (rest := []) ⟨hx, hb, hml, hown, hG⟩ (c_warmthAfter l dC dI cI cJ cZ cB a0 aZ aO aG aP aW aK zc orr ol mp pl fa fb fO za la wa zh zl zf zp zr (nI b) zw zs (wi fO fG zl zh zp mp (fT a) a (i - a)) (nI i) (sh fG zp mp i) H1.size hin1 hzl hzh) (cwV 4 hG g_C_179 rfl rfl rfl (by decide +kernel) ⟨Nat.le_of_ble_eq_true rfl, Nat.le_of_ble_eq_true rfl⟩) ⟨PC.blind, va_recv hK hP (ci := 2) (q0 := 0) rfl rfl, PC.of hPc hK hDc hE hS hFc⟩ rfl rfl hl9.1 rfl (lv_room (Nat.le_of_ble_eq_true rfl)) d_C_warmthIfStarted_31 ⟨by first | exact Nat.le_of_ble_eq_true rfl | omega, by first | exact Nat.le_of_ble_eq_true rfl | omega⟩) hS (fun q _ h => hFc q h) hFc (fun r4 u t H3 locs ht hvm hw hB hz1 hk1 hS => ?_)
        have hP := wp_kept hP hk1
        have hw : r4 = (wi fO fG zl zh zp mp (fT a) a (i - a)) + (fO (nI i).toNatClampNeg - (wi fO fG zl zh zp mp (fT a) a (i - a))) / zl + (sh fG zp mp i) / zh := hw
        subst hw
        refine lv_istore_n (lv' := [(3, .int ((wi fO fG zl zh zp mp (fT a) a (i - a)) + (fO (nI i).toNatClampNeg - (wi fO fG zl zh zp mp (fT a) a (i - a))) / zl + (sh fG zp mp i) / zh)), (4, .int (nI i)), (0, .ref a0), (1, .ref za)]) hx hb d_C_warmthIfStarted_34 rfl hl9 (by decide) rfl (fun ls hl9 => ?_)
        refine lv_iinc (v := ((nI i) + 1)) (lv' := [(4, .int ((nI i) + 1)), (3, .int ((wi fO fG zl zh zp mp (fT a) a (i - a)) + (fO (nI i).toNatClampNeg - (wi fO fG zl zh zp mp (fT a) a (i - a))) / zl + (sh fG zp mp i) / zh)), (0, .ref a0), (1, .ref za)]) hx hb d_C_warmthIfStarted_35 hl9 (k := 1) rfl rfl (by decide) rfl (fun ls hl9 => ?_)
        refine lv_goto (tgt := 10) hx hb d_C_warmthIfStarted_38 (by decide) ?_
        have e8 : wi fO fG zl zh zp mp (fT a) a (i - a) + (fO (nI i).toNatClampNeg - wi fO fG zl zh zp mp (fT a) a (i - a)) / zl + sh fG zp mp i / zh = wi fO fG zl zh zp mp (fT a) a (i + 1 - a) := by rw [nI_clamp (by omega), show i + 1 - a = (i - a) + 1 by omega]; show _ = wi fO fG zl zh zp mp (fT a) a (i - a) + (fO (a + (i - a)) - wi fO fG zl zh zp mp (fT a) a (i - a)) / zl + sh fG zp mp (a + (i - a)) / zh; rw [show a + (i - a) = i by omega]
        rw [e8, nI_1] at hl9
        exact ih (i + 1) (by omega) (by omega) (by omega) _ _ ls hP hS (lv_sub hl9 [1, 0, 2, 3] rfl)
  have e7 : fT (nI a).toNatClampNeg = wi fO fG zl zh zp mp (fT a) a (a - a) := by rw [Nat.sub_self, nI_clamp (by omega)]; rfl
  rw [e7] at hl9
  exact lp (b + 1 - a) a (Nat.le_refl a) hab (by omega) _ _ ls hP hS (lv_sub hl9 [1, 0, 2, 3] rfl)
set_option maxHeartbeats 4000000 in
set_option maxRecDepth 100000 in
theorem c_latestStart (l : Launch) (dC : Nat → ClassId) (dI : Nat → Nat → Nat) (cI cJ cZ cB : ClassId) (a0 aZ aO aG aP aW aK : Nat) (zc orr ol mp pl fa fb : Int32) (fO fG : Nat → Int32) (za la wa : Nat) (zh zl zf zp zr zm zw zs : Int32) (fT : Nat → Int32) (b : Nat) (sz : Nat) (hb1 : b < 1440) (hzl : ¬ zl = 0) (hzh : ¬ zh = 0) : Met l y_C_latestStart w_C_latestStart ({ frames := 2, cells := 0, slots := 0, locals := 48 }) (PC (dC, dI) (TY cI cJ cZ cB) [.ref a0, .ref za] [(a0, .inr (2, [.ref aZ, .int zc, .ref aO, .int orr, .int ol, .int mp, .ref aG, .int pl, .int fa, .int fb, .ref aP, .ref aW, .ref aK])), (aO, .inl (cI, 1440, .inl fO)), (aG, .inl (cI, 1440, .inl fG)), (za, .inr (1, [.int zh, .int zl, .int zf, .int zp, .int zr, .int (nI b), .int zw, .ref la, .int zs, .ref wa])), (wa, .inl (cI, 1441, .inl fT))] sz (va_A [] sz)) (va_Qi (fun (r : Int32) (_ : Unit) => r = nI (lst fO fG fT zl zh zp mp zw b 11)) (fun (_ : Unit) (_ : State) => True) (va_A [] sz)) 0 0 (va_A [] sz) := by
  refine Met.ofW (cc := b_C_latestStart) (maxL := 5) (ret := (some .int)) (by decide) rfl ?_
  intro p e s m args below meth c s₁ B hml hv
  obtain ⟨rfl, hsz, hP, hK, hD0, hE⟩ := hv
  have hx := B.exec
  have hb := B.bytes
  have hr := B.returns
  have hG : ∀ w ∈ GG, w.before _ s = true := fun w h => atoms_spec (ws := w_C_latestStart) B.pre w (List.mem_cons_of_mem _ h)
  have hown : s.vm.findClass R_C = some m.cls := findClass_of_methodNamed B.named
  have hlocks := B.notSynchronized
  subst hsz
  generalize hAe : (va_A [] s.heap.size) = A at hE ⊢
  have hA : ∀ q : Nat, s.heap.size ≤ q → A q := fun q h => by rw [← hAe]; exact Or.inr h
  have hS : va_S A s.heap s.heap [] := va_S.rf
  have hD := hD0
  obtain ⟨H, hH⟩ : ∃ z, z = s.heap := ⟨_, rfl⟩
  rw [← hH] at hP
  have hS : va_S A s.heap H [] := by rw [hH]; exact hS
  rw [← hH]
  have hl9 := lv_entry ([.ref a0, .ref za]) (n := 5) (Nat.le_of_ble_eq_true rfl)
  rw [lg_entry_eq]
  generalize (lg_sl ([.ref a0, .ref za]) ++ List.replicate (5 - (lg_sl ([.ref a0, .ref za])).length) Slot.unset).toArray = ls at hl9 ⊢
  have hl9 : lv_has ls 5 [(0, .ref a0), (1, .ref za)] := hl9
  refine lv_iconst (v := 0) hx hb d_C_latestStart_0 (by decide) ?_
  refine lv_istore_n (lv' := [(2, .int 0), (0, .ref a0), (1, .ref za)]) hx hb d_C_latestStart_1 rfl hl9 (by decide) rfl (fun ls hl9 => ?_)
  refine lv_sipush (v := 1024) hx hb d_C_latestStart_2 (by decide) ?_
  refine lv_istore_n (lv' := [(3, .int 1024), (2, .int 0), (0, .ref a0), (1, .ref za)]) hx hb d_C_latestStart_5 rfl hl9 (by decide) rfl (fun ls hl9 => ?_)
  have lp : ∀ (n : Nat) (j : Nat), j ≤ 11 → 12 ≤ j + n → ∀ (H : Heap) (locs : List Loc) (ls : Array Slot), va_P (dC, dI) vwCl [(a0, .inr (2, [.ref aZ, .int zc, .ref aO, .int orr, .int ol, .int mp, .ref aG, .int pl, .int fa, .int fb, .ref aP, .ref aW, .ref aK])), (aO, .inl (cI, 1440, .inl fO)), (aG, .inl (cI, 1440, .inl fG)), (za, .inr (1, [.int zh, .int zl, .int zf, .int zp, .int zr, .int (nI b), .int zw, .ref la, .int zs, .ref wa])), (wa, .inl (cI, 1441, .inl fT))] H → va_S A s.heap H locs → lv_has ls 5 [(2, .int (nI (lst fO fG fT zl zh zp mp zw b j))), (3, .int (nI (1024 / 2 ^ j))), (0, .ref a0), (1, .ref za)] → W p l e (headSpec w_C_latestStart ({ frames := 2, cells := 0, slots := 0, locals := 48 })).room s m ([.ref a0, .ref za] : List Value).toArray below meth c H locs 0 0 (MQ below (va_Qi (fun (r : Int32) (_ : Unit) => r = nI (lst fO fG fT zl zh zp mp zw b 11)) (fun (_ : Unit) (_ : State) => True) A) ([.ref a0, .ref za] : List Value).toArray s 0 0 A) (F0 m 6 ls []) := by
    intro n
    induction n with
    | zero =>
      intro j hj hin
      exact absurd hin (by omega)
    | succ n ih =>
      intro j hj hin H locs ls hP hS hl9
      have hsb : lst fO fG fT zl zh zp mp zw b j ≤ b := lst_le _ _ _ _ _ _ _ _ _ j
      have hst : 1024 / 2 ^ j ≤ 1024 := Nat.div_le_self _ _
      refine lv_iload_n hx hb d_C_latestStart_6 rfl (lv_at hl9 1 rfl) ?_
      refine lv_if_le (tgt := 48) hx hb d_C_latestStart_7 (by decide) (fun c1 => ?_) (fun c1 => ?_)
      · have e9 : j = 11 := st_done hj c1
        refine lv_iload_n hx hb d_C_latestStart_48 rfl (lv_at hl9 0 rfl) ?_
        exact W.iret (v := (nI (lst fO fG fT zl zh zp mp zw b j))) hx hb hr (fun t ht hW => ⟨⟨(nI (lst fO fG fT zl zh zp mp zw b j)), (), rfl, by rw [e9], trivial⟩, hS.F ht⟩) hS.2.2 d_C_latestStart_49
      · have e9 : j < 11 := st_more hj c1
        obtain ⟨t9, et9⟩ : ∃ z, z = lst fO fG fT zl zh zp mp zw b j + 1024 / 2 ^ j := ⟨_, rfl⟩
        have e5 : nI (1024 / 2 ^ j) / 2 = nI (1024 / 2 ^ (j + 1)) := st_half j
        refine lv_iload_n hx hb d_C_latestStart_10 rfl (lv_at hl9 0 rfl) ?_
        refine lv_iload_n hx hb d_C_latestStart_11 rfl (lv_at hl9 1 rfl) ?_
        refine lv_iadd hx hb d_C_latestStart_12 ?_
        refine lv_istore (lv' := [(4, .int ((nI (lst fO fG fT zl zh zp mp zw b j)) + (nI (1024 / 2 ^ j)))), (2, .int (nI (lst fO fG fT zl zh zp mp zw b j))), (3, .int (nI (1024 / 2 ^ j))), (0, .ref a0), (1, .ref za)]) hx hb d_C_latestStart_13 hl9 (by decide) rfl (fun ls hl9 => ?_)
        rw [nI_add, ← et9] at hl9
        refine lv_iload hx hb d_C_latestStart_15 (lv_at hl9 0 rfl) ?_
        refine lv_aload_n hx hb d_C_latestStart_17 rfl (lv_at hl9 4 rfl) ?_
        refine va_getN (D := (dC, dI)) (ci := 1) (v := .int (nI b)) (C := R_Z) (T := F_Z) (N := 10) hx hb hG i_Z hown hK hP 3 rfl rfl 5 (by decide) (hE.1.use k_190) (fun _ h9 => h9) rfl d_C_latestStart_18 ?_
        refine lv_icmp_gt (tgt := 41) hx hb d_C_latestStart_21 (by decide) (fun c2 => ?_) (fun c2 => ?_)
        · have e4 : nI (lst fO fG fT zl zh zp mp zw b j) = nI (lst fO fG fT zl zh zp mp zw b (j + 1)) := by show _ = nI (if _ then _ else _); rw [if_neg (by rw [← et9]; exact fun h => Int32.not_le.mpr c2 (nI_le h.1 (by omega)))]
          refine lv_iload_n hx hb d_C_latestStart_41 rfl (lv_at hl9 2 rfl) ?_
          refine lv_iconst (v := 2) hx hb d_C_latestStart_42 (by decide) ?_
          refine lv_idiv hx hb d_C_latestStart_43 (by decide) ?_
          refine lv_istore_n (lv' := [(3, .int ((nI (1024 / 2 ^ j)) / 2)), (4, .int (nI t9)), (2, .int (nI (lst fO fG fT zl zh zp mp zw b j))), (0, .ref a0), (1, .ref za)]) hx hb d_C_latestStart_44 rfl hl9 (by decide) rfl (fun ls hl9 => ?_)
          refine lv_goto (tgt := 6) hx hb d_C_latestStart_45 (by decide) ?_
          rw [e5] at hl9
          rw [e4] at hl9
          exact ih (j + 1) (by omega) (by omega) _ _ ls hP hS (lv_sub hl9 [2, 0, 3, 4] rfl)
        · have hle : t9 ≤ b := (nI_leI (by omega) (by omega)).mp (Int32.not_lt.mp c2)
          refine lv_aload_n hx hb d_C_latestStart_24 rfl (lv_at hl9 3 rfl) ?_
          refine lv_aload_n hx hb d_C_latestStart_25 rfl (lv_at hl9 4 rfl) ?_
          refine lv_iload hx hb d_C_latestStart_26 (lv_at hl9 0 rfl) ?_
          have hPc := hP.sub (ws' := [(a0, .inr (2, [.ref aZ, .int zc, .ref aO, .int orr, .int ol, .int mp, .ref aG, .int pl, .int fa, .int fb, .ref aP, .ref aW, .ref aK])), (aO, .inl (cI, 1440, .inl fO)), (aG, .inl (cI, 1440, .inl fG)), (za, .inr (1, [.int zh, .int zl, .int zf, .int zp, .int zr, .int (nI b), .int zw, .ref la, .int zs, .ref wa])), (wa, .inl (cI, 1441, .inl fT))]) [0, 1, 2, 3, 4] rfl
          have hDc := hD.sub (ws' := [(a0, .inr (2, [.ref aZ, .int zc, .ref aO, .int orr, .int ol, .int mp, .ref aG, .int pl, .int fa, .int fb, .ref aP, .ref aW, .ref aK])), (aO, .inl (cI, 1440, .inl fO)), (aG, .inl (cI, 1440, .inl fG)), (za, .inr (1, [.int zh, .int zl, .int zf, .int zp, .int zr, .int (nI b), .int zw, .ref la, .int zs, .ref wa])), (wa, .inl (cI, 1441, .inl fT))]) [0, 1, 2, 3, 4] (by decide) rfl
          have hFc := va_A_nil hA hS.1
          refine va_calli (va_runV (C := R_C) (As := [.ref za, .int (nI t9)]) (rest := []) ⟨hx, hb, hml, hown, hG⟩ (c_warmthIfStarted l dC dI cI cJ cZ cB a0 aZ aO aG aP aW aK zc orr ol mp pl fa fb fO fG za la wa zh zl zf zp zr (nI b) zw zs fT t9 b H.size hle hb1 hzl hzh) (cwV 2 hG g_C_197 rfl rfl rfl (by decide +kernel) ⟨Nat.le_of_ble_eq_true rfl, Nat.le_of_ble_eq_true rfl⟩) ⟨PC.blind, va_recv hK hP (ci := 2) (q0 := 0) rfl rfl, PC.of hPc hK hDc hE hS hFc⟩ rfl rfl hl9.1 rfl (lv_room (Nat.le_of_ble_eq_true rfl)) d_C_latestStart_28 ⟨by first | exact Nat.le_of_ble_eq_true rfl | omega, by first | exact Nat.le_of_ble_eq_true rfl | omega⟩) hS (fun q _ h => hFc q h) hFc (fun r2 u t H1 locs ht hvm hw hB hz1 hk1 hS => ?_)
          have hP := wp_kept hP hk1
          have hw : r2 = wi fO fG zl zh zp mp (fT t9) t9 (b - t9) := hw
          subst hw
          refine lv_aload_n hx hb d_C_latestStart_31 rfl (lv_at hl9 4 rfl) ?_
          refine va_getN (D := (dC, dI)) (ci := 1) (v := .int zw) (C := R_Z) (T := F_Z) (N := 10) hx hb hG i_Z hown hK hP 3 rfl rfl 6 (by decide) (hE.1.use k_192) (fun _ h9 => h9) rfl d_C_latestStart_32 ?_
          refine lv_icmp_lt (tgt := 41) hx hb d_C_latestStart_35 (by decide) (fun c3 => ?_) (fun c3 => ?_)
          · have e4 : nI (lst fO fG fT zl zh zp mp zw b j) = nI (lst fO fG fT zl zh zp mp zw b (j + 1)) := by show _ = nI (if _ then _ else _); rw [if_neg (by rw [← et9]; exact fun h => Int32.not_le.mpr c3 h.2)]
            refine lv_iload_n hx hb d_C_latestStart_41 rfl (lv_at hl9 2 rfl) ?_
            refine lv_iconst (v := 2) hx hb d_C_latestStart_42 (by decide) ?_
            refine lv_idiv hx hb d_C_latestStart_43 (by decide) ?_
            refine lv_istore_n (lv' := [(3, .int ((nI (1024 / 2 ^ j)) / 2)), (4, .int (nI t9)), (2, .int (nI (lst fO fG fT zl zh zp mp zw b j))), (0, .ref a0), (1, .ref za)]) hx hb d_C_latestStart_44 rfl hl9 (by decide) rfl (fun ls hl9 => ?_)
            refine lv_goto (tgt := 6) hx hb d_C_latestStart_45 (by decide) ?_
            rw [e5] at hl9
            rw [e4] at hl9
            exact ih (j + 1) (by omega) (by omega) _ _ ls hP hS (lv_sub hl9 [2, 0, 3, 4] rfl)
          · have e4 : nI t9 = nI (lst fO fG fT zl zh zp mp zw b (j + 1)) := by show _ = nI (if _ then _ else _); rw [if_pos (by rw [← et9]; exact ⟨hle, Int32.not_lt.mp c3⟩), et9]
            refine lv_iload hx hb d_C_latestStart_38 (lv_at hl9 0 rfl) ?_
            refine lv_istore_n (lv' := [(2, .int (nI t9)), (4, .int (nI t9)), (3, .int (nI (1024 / 2 ^ j))), (0, .ref a0), (1, .ref za)]) hx hb d_C_latestStart_40 rfl hl9 (by decide) rfl (fun ls hl9 => ?_)
            refine lv_iload_n hx hb d_C_latestStart_41 rfl (lv_at hl9 2 rfl) ?_
            refine lv_iconst (v := 2) hx hb d_C_latestStart_42 (by decide) ?_
            refine lv_idiv hx hb d_C_latestStart_43 (by decide) ?_
            refine lv_istore_n (lv' := [(3, .int ((nI (1024 / 2 ^ j)) / 2)), (2, .int (nI t9)), (4, .int (nI t9)), (0, .ref a0), (1, .ref za)]) hx hb d_C_latestStart_44 rfl hl9 (by decide) rfl (fun ls hl9 => ?_)
            refine lv_goto (tgt := 6) hx hb d_C_latestStart_45 (by decide) ?_
            rw [e5] at hl9
            rw [e4] at hl9
            exact ih (j + 1) (by omega) (by omega) _ _ ls hP hS (lv_sub hl9 [1, 0, 3, 4] rfl)
  exact lp 12 0 (by omega) (by omega) _ _ ls hP hS (lv_sub hl9 [1, 0, 2, 3] rfl)
end
section
/-- a zone's part of the plan: its start, its warmths, what is given then -/
def pzT0 (o : Nat → Int32) (L hd zf : Int32) (T : Nat → Int32) : Nat → Int32 := lu o L hd (upd T 0 zf) 0 1440
def pzS (o g : Nat → Int32) (L hd zf zp mp zw : Int32) (T : Nat → Int32) (b : Nat) : Nat := lst o g (pzT0 o L hd zf T) L hd zp mp zw b 11
def pzH (o g : Nat → Int32) (L hd zf zp mp zw : Int32) (T : Nat → Int32) (b : Nat) : (Nat → Int32) × (Nat → Int32) := hf o L hd zp mp (pzT0 o L hd zf T) g (pzS o g L hd zf zp mp zw T b) (b - pzS o g L hd zf zp mp zw T b)
def pzT (o g : Nat → Int32) (L hd zf zp mp zw : Int32) (T : Nat → Int32) (b : Nat) : Nat → Int32 := lu o L hd (pzH o g L hd zf zp mp zw T b).1 b (1440 - b)
theorem g_C_186 : GoodIn GG (wsV R_C 186 R_C y_C_leaveUnheated w_C_leaveUnheated) := goodG (List.forall_mem_append.mpr ⟨List.forall_mem_cons.mpr ⟨k_275, List.forall_mem_cons.mpr ⟨k_277, List.forall_mem_cons.mpr ⟨ks_5, List.forall_mem_cons.mpr ⟨k_1, fun _ h => absurd h List.not_mem_nil⟩⟩⟩⟩, List.forall_mem_cons.mpr ⟨k_278, fun _ h => h⟩⟩)
theorem g_C_100 : GoodIn GG w_Z_wantsWarmth := goodG (List.forall_mem_cons.mpr ⟨k_286, fun _ h => h⟩)
theorem g_C_190 : GoodIn GG (wsV R_C 190 R_C y_C_latestStart w_C_latestStart) := goodG (List.forall_mem_append.mpr ⟨List.forall_mem_cons.mpr ⟨k_287, List.forall_mem_cons.mpr ⟨k_289, List.forall_mem_cons.mpr ⟨ks_8, List.forall_mem_cons.mpr ⟨k_1, fun _ h => absurd h List.not_mem_nil⟩⟩⟩⟩, List.forall_mem_cons.mpr ⟨k_290, fun _ h => h⟩⟩)
theorem g_C_194 : GoodIn GG (wsV R_C 194 R_C y_C_heatFromStart w_C_heatFromStart) := goodG (List.forall_mem_append.mpr ⟨List.forall_mem_cons.mpr ⟨k_299, List.forall_mem_cons.mpr ⟨k_301, List.forall_mem_cons.mpr ⟨ks_11, List.forall_mem_cons.mpr ⟨k_1, fun _ h => absurd h List.not_mem_nil⟩⟩⟩⟩, List.forall_mem_cons.mpr ⟨k_302, fun _ h => h⟩⟩)
set_option maxHeartbeats 4000000 in
set_option maxRecDepth 100000 in
theorem c_heatFromStart (l : Launch) (dC : Nat → ClassId) (dI : Nat → Nat → Nat) (cI cJ cZ cB : ClassId) (a0 aZ aO aG aP aW aK : Nat) (zc orr ol mp pl fa fb : Int32) (fO fG : Nat → Int32) (za la wa : Nat) (zh zl zf zp zr zm zw zs : Int32) (fT : Nat → Int32) (a b : Nat) (sz : Nat) (hab : a ≤ b) (hb1 : b < 1440) (hzl : ¬ zl = 0) (hzh : ¬ zh = 0) : Met l y_C_heatFromStart w_C_heatFromStart ({ frames := 1, cells := 0, slots := 0, locals := 24 }) (PC (dC, dI) (TY cI cJ cZ cB) [.ref a0, .ref za] [(a0, .inr (2, [.ref aZ, .int zc, .ref aO, .int orr, .int ol, .int mp, .ref aG, .int pl, .int fa, .int fb, .ref aP, .ref aW, .ref aK])), (aO, .inl (cI, 1440, .inl fO)), (aG, .inl (cI, 1440, .inl fG)), (za, .inr (1, [.int zh, .int zl, .int zf, .int zp, .int zr, .int (nI b), .int zw, .ref la, .int (nI a), .ref wa])), (wa, .inl (cI, 1441, .inl fT))] sz (va_A [(a0, .inr (2, [.ref aZ, .int zc, .ref aO, .int orr, .int ol, .int mp, .ref aG, .int pl, .int fa, .int fb, .ref aP, .ref aW, .ref aK])), (aO, .inl (cI, 1440, .inl fO)), (aG, .inl (cI, 1440, .inl fG)), (za, .inr (1, [.int zh, .int zl, .int zf, .int zp, .int zr, .int (nI b), .int zw, .ref la, .int (nI a), .ref wa])), (wa, .inl (cI, 1441, .inl fT))] sz)) (va_Qv (fun (_ : Unit) => True) (fun (_ : Unit) (t : State) => va_P (dC, dI) vwCl [(a0, .inr (2, [.ref aZ, .int zc, .ref aO, .int orr, .int ol, .int mp, .ref aG, .int pl, .int fa, .int fb, .ref aP, .ref aW, .ref aK])), (aO, .inl (cI, 1440, .inl fO)), (aG, .inl (cI, 1440, .inl ((hf fO zl zh zp mp fT fG a (b - a)).2))), (za, .inr (1, [.int zh, .int zl, .int zf, .int zp, .int zr, .int (nI b), .int zw, .ref la, .int (nI a), .ref wa])), (wa, .inl (cI, 1441, .inl ((hf fO zl zh zp mp fT fG a (b - a)).1)))] t.heap) (va_A [(a0, .inr (2, [.ref aZ, .int zc, .ref aO, .int orr, .int ol, .int mp, .ref aG, .int pl, .int fa, .int fb, .ref aP, .ref aW, .ref aK])), (aO, .inl (cI, 1440, .inl fO)), (aG, .inl (cI, 1440, .inl fG)), (za, .inr (1, [.int zh, .int zl, .int zf, .int zp, .int zr, .int (nI b), .int zw, .ref la, .int (nI a), .ref wa])), (wa, .inl (cI, 1441, .inl fT))] sz)) 0 0 (va_A [(a0, .inr (2, [.ref aZ, .int zc, .ref aO, .int orr, .int ol, .int mp, .ref aG, .int pl, .int fa, .int fb, .ref aP, .ref aW, .ref aK])), (aO, .inl (cI, 1440, .inl fO)), (aG, .inl (cI, 1440, .inl fG)), (za, .inr (1, [.int zh, .int zl, .int zf, .int zp, .int zr, .int (nI b), .int zw, .ref la, .int (nI a), .ref wa])), (wa, .inl (cI, 1441, .inl fT))] sz) := by
  refine Met.ofW (cc := b_C_heatFromStart) (maxL := 4) (ret := none) (by decide) rfl ?_
  intro p e s m args below meth c s₁ B hml hv
  obtain ⟨rfl, hsz, hP, hK, hD0, hE⟩ := hv
  have hx := B.exec
  have hb := B.bytes
  have hr := B.returns
  have hG : ∀ w ∈ GG, w.before _ s = true := fun w h => atoms_spec (ws := w_C_heatFromStart) B.pre w (List.mem_cons_of_mem _ h)
  have hown : s.vm.findClass R_C = some m.cls := findClass_of_methodNamed B.named
  have hlocks := B.notSynchronized
  subst hsz
  have hD := hD0.self (sz := s.heap.size)
  generalize hAe : (va_A [(a0, .inr (2, [.ref aZ, .int zc, .ref aO, .int orr, .int ol, .int mp, .ref aG, .int pl, .int fa, .int fb, .ref aP, .ref aW, .ref aK])), (aO, .inl (cI, 1440, .inl fO)), (aG, .inl (cI, 1440, .inl fG)), (za, .inr (1, [.int zh, .int zl, .int zf, .int zp, .int zr, .int (nI b), .int zw, .ref la, .int (nI a), .ref wa])), (wa, .inl (cI, 1441, .inl fT))] s.heap.size) = A at hD hE ⊢
  have hA : ∀ q : Nat, s.heap.size ≤ q → A q := fun q h => by rw [← hAe]; exact Or.inr h
  have hS : va_S A s.heap s.heap [] := va_S.rf
  obtain ⟨H, hH⟩ : ∃ z, z = s.heap := ⟨_, rfl⟩
  rw [← hH] at hP
  have hS : va_S A s.heap H [] := by rw [hH]; exact hS
  rw [← hH]
  have hl9 := lv_entry ([.ref a0, .ref za]) (n := 4) (Nat.le_of_ble_eq_true rfl)
  rw [lg_entry_eq]
  generalize (lg_sl ([.ref a0, .ref za]) ++ List.replicate (4 - (lg_sl ([.ref a0, .ref za])).length) Slot.unset).toArray = ls at hl9 ⊢
  have hl9 : lv_has ls 4 [(0, .ref a0), (1, .ref za)] := hl9
  refine lv_aload_n hx hb d_C_heatFromStart_0 rfl (lv_at hl9 1 rfl) ?_
  refine va_getN (D := (dC, dI)) (ci := 1) (v := .int (nI a)) (C := R_Z) (T := F_Z) (N := 10) hx hb hG i_Z hown hK hP 3 rfl rfl 8 (by decide) (hE.1.use k_196) (fun _ h9 => h9) rfl d_C_heatFromStart_1 ?_
  refine lv_istore_n (lv' := [(2, .int (nI a)), (0, .ref a0), (1, .ref za)]) hx hb d_C_heatFromStart_4 rfl hl9 (by decide) rfl (fun ls hl9 => ?_)
  have lp : ∀ (n : Nat) (i : Nat), a ≤ i → i ≤ b → b + 1 ≤ i + n → ∀ (H : Heap) (locs : List Loc) (ls : Array Slot), va_P (dC, dI) vwCl [(a0, .inr (2, [.ref aZ, .int zc, .ref aO, .int orr, .int ol, .int mp, .ref aG, .int pl, .int fa, .int fb, .ref aP, .ref aW, .ref aK])), (aO, .inl (cI, 1440, .inl fO)), (aG, .inl (cI, 1440, .inl ((hf fO zl zh zp mp fT fG a (i - a)).2))), (za, .inr (1, [.int zh, .int zl, .int zf, .int zp, .int zr, .int (nI b), .int zw, .ref la, .int (nI a), .ref wa])), (wa, .inl (cI, 1441, .inl ((hf fO zl zh zp mp fT fG a (i - a)).1)))] H → va_D A [(a0, .inr (2, [.ref aZ, .int zc, .ref aO, .int orr, .int ol, .int mp, .ref aG, .int pl, .int fa, .int fb, .ref aP, .ref aW, .ref aK])), (aO, .inl (cI, 1440, .inl fO)), (aG, .inl (cI, 1440, .inl ((hf fO zl zh zp mp fT fG a (i - a)).2))), (za, .inr (1, [.int zh, .int zl, .int zf, .int zp, .int zr, .int (nI b), .int zw, .ref la, .int (nI a), .ref wa])), (wa, .inl (cI, 1441, .inl ((hf fO zl zh zp mp fT fG a (i - a)).1)))] → va_S A s.heap H locs → lv_has ls 4 [(2, .int (nI i)), (0, .ref a0), (1, .ref za)] → W p l e (headSpec w_C_heatFromStart ({ frames := 1, cells := 0, slots := 0, locals := 24 })).room s m ([.ref a0, .ref za] : List Value).toArray below meth c H locs 0 0 (MQ below (va_Qv (fun (_ : Unit) => True) (fun (_ : Unit) (t : State) => va_P (dC, dI) vwCl [(a0, .inr (2, [.ref aZ, .int zc, .ref aO, .int orr, .int ol, .int mp, .ref aG, .int pl, .int fa, .int fb, .ref aP, .ref aW, .ref aK])), (aO, .inl (cI, 1440, .inl fO)), (aG, .inl (cI, 1440, .inl ((hf fO zl zh zp mp fT fG a (b - a)).2))), (za, .inr (1, [.int zh, .int zl, .int zf, .int zp, .int zr, .int (nI b), .int zw, .ref la, .int (nI a), .ref wa])), (wa, .inl (cI, 1441, .inl ((hf fO zl zh zp mp fT fG a (b - a)).1)))] t.heap) A) ([.ref a0, .ref za] : List Value).toArray s 0 0 A) (F0 m 5 ls []) := by
    intro n
    induction n with
    | zero =>
      intro i hai hib hin
      exact absurd hin (by omega)
    | succ n ih =>
      intro i hai hib hin H locs ls hP hD hS hl9
      refine lv_iload_n hx hb d_C_heatFromStart_5 rfl (lv_at hl9 0 rfl) ?_
      refine lv_aload_n hx hb d_C_heatFromStart_6 rfl (lv_at hl9 2 rfl) ?_
      refine va_getN (D := (dC, dI)) (ci := 1) (v := .int (nI b)) (C := R_Z) (T := F_Z) (N := 10) hx hb hG i_Z hown hK hP 3 rfl rfl 5 (by decide) (hE.1.use k_190) (fun _ h9 => h9) rfl d_C_heatFromStart_7 ?_
      refine lv_icmp_ge (tgt := 57) hx hb d_C_heatFromStart_10 (by decide) (fun c1 => ?_) (fun c1 => ?_)
      · have e9 : i = b := by have := ge_of_c (i := i) (b := b) (by omega) (by omega) c1; omega
        subst e9
        exact W.vret hx hb hr (fun t ht hW => ⟨⟨(), rfl, trivial, by have h9 := hP; rw [← ht] at h9; exact h9⟩, hS.F ht⟩) hS.2.2 d_C_heatFromStart_57
      · have e9 : i < b := lt_of_c (by omega) (by omega) c1
        have hin1 : vp_in (nI i) 1440 := vp_in_nI (by omega) (by omega)
        have hin2 : vp_in (nI i) 1441 := vp_in_nI (by omega) (by omega)
        have hin3 : vp_in (nI i + 1) 1441 := by rw [nI_1]; exact vp_in_nI (by omega) (by omega)
        refine lv_aload_n hx hb d_C_heatFromStart_13 rfl (lv_at hl9 1 rfl) ?_
        refine lv_aload_n hx hb d_C_heatFromStart_14 rfl (lv_at hl9 2 rfl) ?_
        refine lv_iload_n hx hb d_C_heatFromStart_15 rfl (lv_at hl9 0 rfl) ?_
        have hPc := hP.sub (ws' := [(a0, .inr (2, [.ref aZ, .int zc, .ref aO, .int orr, .int ol, .int mp, .ref aG, .int pl, .int fa, .int fb, .ref aP, .ref aW, .ref aK])), (aG, .inl (cI, 1440, .inl ((hf fO zl zh zp mp fT fG a (i - a)).2))), (za, .inr (1, [.int zh, .int zl, .int zf, .int zp, .int zr, .int (nI b), .int zw, .ref la, .int (nI a), .ref wa]))]) [0, 2, 3] rfl
        have hDc := hD.sub (ws' := [(a0, .inr (2, [.ref aZ, .int zc, .ref aO, .int orr, .int ol, .int mp, .ref aG, .int pl, .int fa, .int fb, .ref aP, .ref aW, .ref aK])), (aG, .inl (cI, 1440, .inl ((hf fO zl zh zp mp fT fG a (i - a)).2))), (za, .inr (1, [.int zh, .int zl, .int zf, .int zp, .int zr, .int (nI b), .int zw, .ref la, .int (nI a), .ref wa]))]) [0, 2, 3] (by decide) rfl
        have hFc := va_A_nil hA hS.1
        refine va_calli (va_runV (C := R_C) (As := [.ref za, .int (nI i)]) (rest := []) ⟨hx, hb, hml, hown, hG⟩ (c_shareOf l dC dI cI cJ cZ cB a0 aZ aO aG aP aW aK zc orr ol mp pl fa fb ((hf fO zl zh zp mp fT fG a (i - a)).2) za la wa zh zl zf zp zr (nI b) zw (nI a) (nI i) H.size hin1) (cwV 2 hG g_C_201 rfl rfl rfl (by decide +kernel) ⟨Nat.le_of_ble_eq_true rfl, Nat.le_of_ble_eq_true rfl⟩) ⟨PC.blind, va_recv hK hP (ci := 2) (q0 := 0) rfl rfl, PC.of hPc hK hDc hE hS hFc⟩ rfl rfl hl9.1 rfl (lv_room (Nat.le_of_ble_eq_true rfl)) d_C_heatFromStart_16 ⟨by first | exact Nat.le_of_ble_eq_true rfl | omega, by first | exact Nat.le_of_ble_eq_true rfl | omega⟩) hS (fun q _ h => hFc q h) hFc (fun r2 u t H1 locs ht hvm hw hB hz1 hk1 hS => ?_)
        have hP := wp_kept hP hk1
        have hw : r2 = if zp < mp - ((hf fO zl zh zp mp fT fG a (i - a)).2) (nI i).toNatClampNeg then zp else mp - ((hf fO zl zh zp mp fT fG a (i - a)).2) (nI i).toNatClampNeg := hw
        subst hw
        have e6 : (if zp < mp - ((hf fO zl zh zp mp fT fG a (i - a)).2) (nI i).toNatClampNeg then zp else mp - ((hf fO zl zh zp mp fT fG a (i - a)).2) (nI i).toNatClampNeg) = sh ((hf fO zl zh zp mp fT fG a (i - a)).2) zp mp i := by rw [nI_clamp (by omega)]; rfl
        rw [e6]
        refine lv_istore_n (lv' := [(3, .int (sh ((hf fO zl zh zp mp fT fG a (i - a)).2) zp mp i)), (2, .int (nI i)), (0, .ref a0), (1, .ref za)]) hx hb d_C_heatFromStart_19 rfl hl9 (by decide) rfl (fun ls hl9 => ?_)
        refine lv_aload_n hx hb d_C_heatFromStart_20 rfl (lv_at hl9 3 rfl) ?_
        refine va_getN (D := (dC, dI)) (ci := 1) (v := .ref wa) (C := R_Z) (T := F_Z) (N := 10) hx hb hG i_Z hown hK hP 3 rfl rfl 9 (by decide) (hE.1.use k_198) (fun _ h9 => h9) rfl d_C_heatFromStart_21 ?_
        refine lv_iload_n hx hb d_C_heatFromStart_24 rfl (lv_at hl9 1 rfl) ?_
        refine lv_iconst (v := 1) hx hb d_C_heatFromStart_25 (by decide) ?_
        refine lv_iadd hx hb d_C_heatFromStart_26 ?_
        refine lv_aload_n hx hb d_C_heatFromStart_27 rfl (lv_at hl9 2 rfl) ?_
        refine lv_aload_n hx hb d_C_heatFromStart_28 rfl (lv_at hl9 3 rfl) ?_
        refine lv_aload_n hx hb d_C_heatFromStart_29 rfl (lv_at hl9 3 rfl) ?_
        refine va_getN (D := (dC, dI)) (ci := 1) (v := .ref wa) (C := R_Z) (T := F_Z) (N := 10) hx hb hG i_Z hown hK hP 3 rfl rfl 9 (by decide) (hE.1.use k_198) (fun _ h9 => h9) rfl d_C_heatFromStart_30 ?_
        refine lv_iload_n hx hb d_C_heatFromStart_33 rfl (lv_at hl9 1 rfl) ?_
        refine va_iald hx hb hK hP 4 0 rfl rfl (hin2) d_C_heatFromStart_34 ?_
        refine lv_iload_n hx hb d_C_heatFromStart_35 rfl (lv_at hl9 1 rfl) ?_
        refine lv_iload_n hx hb d_C_heatFromStart_36 rfl (lv_at hl9 0 rfl) ?_
        have hPc := hP.sub (ws' := [(a0, .inr (2, [.ref aZ, .int zc, .ref aO, .int orr, .int ol, .int mp, .ref aG, .int pl, .int fa, .int fb, .ref aP, .ref aW, .ref aK])), (aO, .inl (cI, 1440, .inl fO)), (za, .inr (1, [.int zh, .int zl, .int zf, .int zp, .int zr, .int (nI b), .int zw, .ref la, .int (nI a), .ref wa]))]) [0, 1, 3] rfl
        have hDc := hD.sub (ws' := [(a0, .inr (2, [.ref aZ, .int zc, .ref aO, .int orr, .int ol, .int mp, .ref aG, .int pl, .int fa, .int fb, .ref aP, .ref aW, .ref aK])), (aO, .inl (cI, 1440, .inl fO)), (za, .inr (1, [.int zh, .int zl, .int zf, .int zp, .int zr, .int (nI b), .int zw, .ref la, .int (nI a), .ref wa]))]) [0, 1, 3] (by decide) rfl
        have hFc := va_A_nil hA hS.1
        refine va_calli (va_runV (C := R_C) (As := [.ref za, .int (((hf fO zl zh zp mp fT fG a (i - a)).1) (nI i).toNatClampNeg), .int (nI i), .int (sh ((hf fO zl zh zp mp fT fG a (i - a)).2) zp mp i)]) (rest := [.int ((nI i) + 1), .ref wa]) ⟨hx, hb, hml, hown, hG⟩ (c_warmthAfter l dC dI cI cJ cZ cB a0 aZ aO aG aP aW aK zc orr ol mp pl fa fb fO za la wa zh zl zf zp zr (nI b) zw (nI a) (((hf fO zl zh zp mp fT fG a (i - a)).1) (nI i).toNatClampNeg) (nI i) (sh ((hf fO zl zh zp mp fT fG a (i - a)).2) zp mp i) H1.size hin1 hzl hzh) (cwV 4 hG g_C_179 rfl rfl rfl (by decide +kernel) ⟨Nat.le_of_ble_eq_true rfl, Nat.le_of_ble_eq_true rfl⟩) ⟨PC.blind, va_recv hK hP (ci := 2) (q0 := 0) rfl rfl, PC.of hPc hK hDc hE hS hFc⟩ rfl rfl hl9.1 rfl (lv_room (Nat.le_of_ble_eq_true rfl)) d_C_heatFromStart_37 ⟨by first | exact Nat.le_of_ble_eq_true rfl | omega, by first | exact Nat.le_of_ble_eq_true rfl | omega⟩) hS (fun q _ h => hFc q h) hFc (fun r4 u t H3 locs ht hvm hw hB hz1 hk1 hS => ?_)
        have hP := wp_kept hP hk1
        have hw : r4 = (((hf fO zl zh zp mp fT fG a (i - a)).1) (nI i).toNatClampNeg) + (fO (nI i).toNatClampNeg - (((hf fO zl zh zp mp fT fG a (i - a)).1) (nI i).toNatClampNeg)) / zl + (sh ((hf fO zl zh zp mp fT fG a (i - a)).2) zp mp i) / zh := hw
        subst hw
        refine va_iast hx hb hK hP hD hS 4 0 rfl rfl (hin3) d_C_heatFromStart_40 (fun H locs hP hD hS => ?_)
        have hP : va_P (dC, dI) vwCl [(a0, .inr (2, [.ref aZ, .int zc, .ref aO, .int orr, .int ol, .int mp, .ref aG, .int pl, .int fa, .int fb, .ref aP, .ref aW, .ref aK])), (aO, .inl (cI, 1440, .inl fO)), (aG, .inl (cI, 1440, .inl ((hf fO zl zh zp mp fT fG a (i - a)).2))), (za, .inr (1, [.int zh, .int zl, .int zf, .int zp, .int zr, .int (nI b), .int zw, .ref la, .int (nI a), .ref wa])), (wa, .inl (cI, 1441, .inl (upd ((hf fO zl zh zp mp fT fG a (i - a)).1) ((nI i) + 1).toNatClampNeg ((((hf fO zl zh zp mp fT fG a (i - a)).1) (nI i).toNatClampNeg) + (fO (nI i).toNatClampNeg - (((hf fO zl zh zp mp fT fG a (i - a)).1) (nI i).toNatClampNeg)) / zl + (sh ((hf fO zl zh zp mp fT fG a (i - a)).2) zp mp i) / zh))))] H := hP
        have hD : va_D A [(a0, .inr (2, [.ref aZ, .int zc, .ref aO, .int orr, .int ol, .int mp, .ref aG, .int pl, .int fa, .int fb, .ref aP, .ref aW, .ref aK])), (aO, .inl (cI, 1440, .inl fO)), (aG, .inl (cI, 1440, .inl ((hf fO zl zh zp mp fT fG a (i - a)).2))), (za, .inr (1, [.int zh, .int zl, .int zf, .int zp, .int zr, .int (nI b), .int zw, .ref la, .int (nI a), .ref wa])), (wa, .inl (cI, 1441, .inl (upd ((hf fO zl zh zp mp fT fG a (i - a)).1) ((nI i) + 1).toNatClampNeg ((((hf fO zl zh zp mp fT fG a (i - a)).1) (nI i).toNatClampNeg) + (fO (nI i).toNatClampNeg - (((hf fO zl zh zp mp fT fG a (i - a)).1) (nI i).toNatClampNeg)) / zl + (sh ((hf fO zl zh zp mp fT fG a (i - a)).2) zp mp i) / zh))))] := hD
        refine lv_aload_n hx hb d_C_heatFromStart_41 rfl (lv_at hl9 2 rfl) ?_
        refine va_get (D := (dC, dI)) (ci := 2) (v := .ref aG) (C := R_C) (T := F_C) (N := 13) hx hb hG i_C hown hK hP 0 rfl rfl 6 (by decide) (hG _ k_28) (fun _ h9 => h9) rfl d_C_heatFromStart_42 ?_
        refine lv_iload_n hx hb d_C_heatFromStart_45 rfl (lv_at hl9 1 rfl) ?_
        refine lv_dup2_11 hx hb d_C_heatFromStart_46 rfl rfl ?_
        refine va_iald hx hb hK hP 2 0 rfl rfl (hin1) d_C_heatFromStart_47 ?_
        refine lv_iload_n hx hb d_C_heatFromStart_48 rfl (lv_at hl9 0 rfl) ?_
        refine lv_iadd hx hb d_C_heatFromStart_49 ?_
        refine va_iast hx hb hK hP hD hS 2 0 rfl rfl (hin1) d_C_heatFromStart_50 (fun H locs hP hD hS => ?_)
        have hP : va_P (dC, dI) vwCl [(a0, .inr (2, [.ref aZ, .int zc, .ref aO, .int orr, .int ol, .int mp, .ref aG, .int pl, .int fa, .int fb, .ref aP, .ref aW, .ref aK])), (aO, .inl (cI, 1440, .inl fO)), (aG, .inl (cI, 1440, .inl (upd ((hf fO zl zh zp mp fT fG a (i - a)).2) (nI i).toNatClampNeg ((((hf fO zl zh zp mp fT fG a (i - a)).2) (nI i).toNatClampNeg) + (sh ((hf fO zl zh zp mp fT fG a (i - a)).2) zp mp i))))), (za, .inr (1, [.int zh, .int zl, .int zf, .int zp, .int zr, .int (nI b), .int zw, .ref la, .int (nI a), .ref wa])), (wa, .inl (cI, 1441, .inl (upd ((hf fO zl zh zp mp fT fG a (i - a)).1) ((nI i) + 1).toNatClampNeg ((((hf fO zl zh zp mp fT fG a (i - a)).1) (nI i).toNatClampNeg) + (fO (nI i).toNatClampNeg - (((hf fO zl zh zp mp fT fG a (i - a)).1) (nI i).toNatClampNeg)) / zl + (sh ((hf fO zl zh zp mp fT fG a (i - a)).2) zp mp i) / zh))))] H := hP
        have hD : va_D A [(a0, .inr (2, [.ref aZ, .int zc, .ref aO, .int orr, .int ol, .int mp, .ref aG, .int pl, .int fa, .int fb, .ref aP, .ref aW, .ref aK])), (aO, .inl (cI, 1440, .inl fO)), (aG, .inl (cI, 1440, .inl (upd ((hf fO zl zh zp mp fT fG a (i - a)).2) (nI i).toNatClampNeg ((((hf fO zl zh zp mp fT fG a (i - a)).2) (nI i).toNatClampNeg) + (sh ((hf fO zl zh zp mp fT fG a (i - a)).2) zp mp i))))), (za, .inr (1, [.int zh, .int zl, .int zf, .int zp, .int zr, .int (nI b), .int zw, .ref la, .int (nI a), .ref wa])), (wa, .inl (cI, 1441, .inl (upd ((hf fO zl zh zp mp fT fG a (i - a)).1) ((nI i) + 1).toNatClampNeg ((((hf fO zl zh zp mp fT fG a (i - a)).1) (nI i).toNatClampNeg) + (fO (nI i).toNatClampNeg - (((hf fO zl zh zp mp fT fG a (i - a)).1) (nI i).toNatClampNeg)) / zl + (sh ((hf fO zl zh zp mp fT fG a (i - a)).2) zp mp i) / zh))))] := hD
        refine lv_iinc (v := ((nI i) + 1)) (lv' := [(2, .int ((nI i) + 1)), (3, .int (sh ((hf fO zl zh zp mp fT fG a (i - a)).2) zp mp i)), (0, .ref a0), (1, .ref za)]) hx hb d_C_heatFromStart_51 hl9 (k := 1) rfl rfl (by decide) rfl (fun ls hl9 => ?_)
        refine lv_goto (tgt := 5) hx hb d_C_heatFromStart_54 (by decide) ?_
        have e8 : (upd ((hf fO zl zh zp mp fT fG a (i - a)).1) ((nI i) + 1).toNatClampNeg ((((hf fO zl zh zp mp fT fG a (i - a)).1) (nI i).toNatClampNeg) + (fO (nI i).toNatClampNeg - (((hf fO zl zh zp mp fT fG a (i - a)).1) (nI i).toNatClampNeg)) / zl + (sh ((hf fO zl zh zp mp fT fG a (i - a)).2) zp mp i) / zh)) = (hf fO zl zh zp mp fT fG a (i + 1 - a)).1 := by rw [nI_1, nI_clamp (n := i) (by omega), nI_clamp (n := i + 1) (by omega), show i + 1 - a = (i - a) + 1 by omega]; show _ = upd (hf fO zl zh zp mp fT fG a (i - a)).1 (a + (i - a) + 1) ((hf fO zl zh zp mp fT fG a (i - a)).1 (a + (i - a)) + (fO (a + (i - a)) - (hf fO zl zh zp mp fT fG a (i - a)).1 (a + (i - a))) / zl + sh (hf fO zl zh zp mp fT fG a (i - a)).2 zp mp (a + (i - a)) / zh); rw [show a + (i - a) = i by omega]
        have e5 : (upd ((hf fO zl zh zp mp fT fG a (i - a)).2) (nI i).toNatClampNeg ((((hf fO zl zh zp mp fT fG a (i - a)).2) (nI i).toNatClampNeg) + (sh ((hf fO zl zh zp mp fT fG a (i - a)).2) zp mp i))) = (hf fO zl zh zp mp fT fG a (i + 1 - a)).2 := by rw [nI_clamp (n := i) (by omega), show i + 1 - a = (i - a) + 1 by omega]; show _ = upd (hf fO zl zh zp mp fT fG a (i - a)).2 (a + (i - a)) ((hf fO zl zh zp mp fT fG a (i - a)).2 (a + (i - a)) + sh (hf fO zl zh zp mp fT fG a (i - a)).2 zp mp (a + (i - a))); rw [show a + (i - a) = i by omega]
        rw [e8, e5] at hP hD
        rw [nI_1] at hl9
        exact ih (i + 1) (by omega) (by omega) (by omega) _ _ ls hP hD hS (lv_sub hl9 [0, 2, 3] rfl)
  have e7 : hf fO zl zh zp mp fT fG a (a - a) = (fT, fG) := by rw [Nat.sub_self]; rfl
  have hP : va_P (dC, dI) vwCl [(a0, .inr (2, [.ref aZ, .int zc, .ref aO, .int orr, .int ol, .int mp, .ref aG, .int pl, .int fa, .int fb, .ref aP, .ref aW, .ref aK])), (aO, .inl (cI, 1440, .inl fO)), (aG, .inl (cI, 1440, .inl ((hf fO zl zh zp mp fT fG a (a - a)).2))), (za, .inr (1, [.int zh, .int zl, .int zf, .int zp, .int zr, .int (nI b), .int zw, .ref la, .int (nI a), .ref wa])), (wa, .inl (cI, 1441, .inl ((hf fO zl zh zp mp fT fG a (a - a)).1)))] H := by rw [e7]; exact hP
  have hD : va_D A [(a0, .inr (2, [.ref aZ, .int zc, .ref aO, .int orr, .int ol, .int mp, .ref aG, .int pl, .int fa, .int fb, .ref aP, .ref aW, .ref aK])), (aO, .inl (cI, 1440, .inl fO)), (aG, .inl (cI, 1440, .inl ((hf fO zl zh zp mp fT fG a (a - a)).2))), (za, .inr (1, [.int zh, .int zl, .int zf, .int zp, .int zr, .int (nI b), .int zw, .ref la, .int (nI a), .ref wa])), (wa, .inl (cI, 1441, .inl ((hf fO zl zh zp mp fT fG a (a - a)).1)))] := by rw [e7]; exact hD
  exact lp (b + 1 - a) a (Nat.le_refl a) hab (by omega) _ _ ls hP hD hS (lv_sub hl9 [0, 1, 2] rfl)
set_option maxHeartbeats 4000000 in
set_option maxRecDepth 100000 in
theorem c_planZone0 (l : Launch) (dC : Nat → ClassId) (dI : Nat → Nat → Nat) (cI cJ cZ cB : ClassId) (a0 aZ aO aG aP aW aK : Nat) (zc orr ol mp pl fa fb : Int32) (fO fG : Nat → Int32) (za la wa : Nat) (zh zl zf zp zr zm zw zs : Int32) (fT : Nat → Int32) (sz : Nat) (hzl : ¬ zl = 0) (hzh : ¬ zh = 0) : Met l y_C_planZone w_C_planZone ({ frames := 3, cells := 0, slots := 0, locals := 72 }) (PC (dC, dI) (TY cI cJ cZ cB) [.ref a0, .ref za] [(a0, .inr (2, [.ref aZ, .int zc, .ref aO, .int orr, .int ol, .int mp, .ref aG, .int pl, .int fa, .int fb, .ref aP, .ref aW, .ref aK])), (aO, .inl (cI, 1440, .inl fO)), (aG, .inl (cI, 1440, .inl fG)), (za, .inr (1, [.int zh, .int zl, .int zf, .int zp, .int zr, .int (-1), .int zw, .ref la, .int zs, .ref wa])), (wa, .inl (cI, 1441, .inl fT))] sz (va_A [(a0, .inr (2, [.ref aZ, .int zc, .ref aO, .int orr, .int ol, .int mp, .ref aG, .int pl, .int fa, .int fb, .ref aP, .ref aW, .ref aK])), (aO, .inl (cI, 1440, .inl fO)), (aG, .inl (cI, 1440, .inl fG)), (za, .inr (1, [.int zh, .int zl, .int zf, .int zp, .int zr, .int (-1), .int zw, .ref la, .int zs, .ref wa])), (wa, .inl (cI, 1441, .inl fT))] sz)) (va_Qv (fun (_ : Unit) => True) (fun (_ : Unit) (t : State) => va_P (dC, dI) vwCl [(a0, .inr (2, [.ref aZ, .int zc, .ref aO, .int orr, .int ol, .int mp, .ref aG, .int pl, .int fa, .int fb, .ref aP, .ref aW, .ref aK])), (aO, .inl (cI, 1440, .inl fO)), (aG, .inl (cI, 1440, .inl fG)), (za, .inr (1, [.int zh, .int zl, .int zf, .int zp, .int zr, .int (-1), .int zw, .ref la, .int (-1), .ref wa])), (wa, .inl (cI, 1441, .inl (pzT0 fO zl zh zf fT)))] t.heap) (va_A [(a0, .inr (2, [.ref aZ, .int zc, .ref aO, .int orr, .int ol, .int mp, .ref aG, .int pl, .int fa, .int fb, .ref aP, .ref aW, .ref aK])), (aO, .inl (cI, 1440, .inl fO)), (aG, .inl (cI, 1440, .inl fG)), (za, .inr (1, [.int zh, .int zl, .int zf, .int zp, .int zr, .int (-1), .int zw, .ref la, .int zs, .ref wa])), (wa, .inl (cI, 1441, .inl fT))] sz)) 0 0 (va_A [(a0, .inr (2, [.ref aZ, .int zc, .ref aO, .int orr, .int ol, .int mp, .ref aG, .int pl, .int fa, .int fb, .ref aP, .ref aW, .ref aK])), (aO, .inl (cI, 1440, .inl fO)), (aG, .inl (cI, 1440, .inl fG)), (za, .inr (1, [.int zh, .int zl, .int zf, .int zp, .int zr, .int (-1), .int zw, .ref la, .int zs, .ref wa])), (wa, .inl (cI, 1441, .inl fT))] sz) := by
  refine Met.ofW (cc := b_C_planZone) (maxL := 2) (ret := none) (by decide) rfl ?_
  intro p e s m args below meth c s₁ B hml hv
  obtain ⟨rfl, hsz, hP, hK, hD0, hE⟩ := hv
  have hx := B.exec
  have hb := B.bytes
  have hr := B.returns
  have hG : ∀ w ∈ GG, w.before _ s = true := fun w h => atoms_spec (ws := w_C_planZone) B.pre w (List.mem_cons_of_mem _ h)
  have hown : s.vm.findClass R_C = some m.cls := findClass_of_methodNamed B.named
  have hlocks := B.notSynchronized
  subst hsz
  have hD := hD0.self (sz := s.heap.size)
  generalize hAe : (va_A [(a0, .inr (2, [.ref aZ, .int zc, .ref aO, .int orr, .int ol, .int mp, .ref aG, .int pl, .int fa, .int fb, .ref aP, .ref aW, .ref aK])), (aO, .inl (cI, 1440, .inl fO)), (aG, .inl (cI, 1440, .inl fG)), (za, .inr (1, [.int zh, .int zl, .int zf, .int zp, .int zr, .int (-1), .int zw, .ref la, .int zs, .ref wa])), (wa, .inl (cI, 1441, .inl fT))] s.heap.size) = A at hD hE ⊢
  have hA : ∀ q : Nat, s.heap.size ≤ q → A q := fun q h => by rw [← hAe]; exact Or.inr h
  have hS : va_S A s.heap s.heap [] := va_S.rf
  obtain ⟨H, hH⟩ : ∃ z, z = s.heap := ⟨_, rfl⟩
  rw [← hH] at hP
  have hS : va_S A s.heap H [] := by rw [hH]; exact hS
  rw [← hH]
  have hl9 := lv_entry ([.ref a0, .ref za]) (n := 2) (Nat.le_of_ble_eq_true rfl)
  rw [lg_entry_eq]
  generalize (lg_sl ([.ref a0, .ref za]) ++ List.replicate (2 - (lg_sl ([.ref a0, .ref za])).length) Slot.unset).toArray = ls at hl9 ⊢
  have hl9 : lv_has ls 2 [(0, .ref a0), (1, .ref za)] := hl9
  refine lv_aload_n hx hb d_C_planZone_0 rfl (lv_at hl9 1 rfl) ?_
  refine va_getN (D := (dC, dI)) (ci := 1) (v := .ref wa) (C := R_Z) (T := F_Z) (N := 10) hx hb hG i_Z hown hK hP 3 rfl rfl 9 (by decide) (hE.1.use k_198) (fun _ h9 => h9) rfl d_C_planZone_1 ?_
  refine lv_iconst (v := 0) hx hb d_C_planZone_4 (by decide) ?_
  refine lv_aload_n hx hb d_C_planZone_5 rfl (lv_at hl9 1 rfl) ?_
  refine va_getN (D := (dC, dI)) (ci := 1) (v := .int zf) (C := R_Z) (T := F_Z) (N := 10) hx hb hG i_Z hown hK hP 3 rfl rfl 2 (by decide) (hE.1.use k_184) (fun _ h9 => h9) rfl d_C_planZone_6 ?_
  refine va_iast hx hb hK hP hD hS 4 0 rfl rfl (vp_in_nI (n := 0) (N := 1441) (by decide) (by decide)) d_C_planZone_9 (fun H locs hP hD hS => ?_)
  have hP : va_P (dC, dI) vwCl [(a0, .inr (2, [.ref aZ, .int zc, .ref aO, .int orr, .int ol, .int mp, .ref aG, .int pl, .int fa, .int fb, .ref aP, .ref aW, .ref aK])), (aO, .inl (cI, 1440, .inl fO)), (aG, .inl (cI, 1440, .inl fG)), (za, .inr (1, [.int zh, .int zl, .int zf, .int zp, .int zr, .int (-1), .int zw, .ref la, .int zs, .ref wa])), (wa, .inl (cI, 1441, .inl (upd fT (0 : Int32).toNatClampNeg zf)))] H := hP
  have hD : va_D A [(a0, .inr (2, [.ref aZ, .int zc, .ref aO, .int orr, .int ol, .int mp, .ref aG, .int pl, .int fa, .int fb, .ref aP, .ref aW, .ref aK])), (aO, .inl (cI, 1440, .inl fO)), (aG, .inl (cI, 1440, .inl fG)), (za, .inr (1, [.int zh, .int zl, .int zf, .int zp, .int zr, .int (-1), .int zw, .ref la, .int zs, .ref wa])), (wa, .inl (cI, 1441, .inl (upd fT (0 : Int32).toNatClampNeg zf)))] := hD
  refine lv_aload_n hx hb d_C_planZone_10 rfl (lv_at hl9 0 rfl) ?_
  refine lv_aload_n hx hb d_C_planZone_11 rfl (lv_at hl9 1 rfl) ?_
  refine lv_iconst (v := 0) hx hb d_C_planZone_12 (by decide) ?_
  have e1 : (upd fT (0 : Int32).toNatClampNeg zf) = upd fT 0 zf := rfl
  rw [e1] at hP hD
  refine W.eq (g2 := F0 m 13 ls [.int (nI 0), .ref za, .ref a0]) rfl ?_
  have hPc := hP.sub (ws' := [(a0, .inr (2, [.ref aZ, .int zc, .ref aO, .int orr, .int ol, .int mp, .ref aG, .int pl, .int fa, .int fb, .ref aP, .ref aW, .ref aK])), (aO, .inl (cI, 1440, .inl fO)), (za, .inr (1, [.int zh, .int zl, .int zf, .int zp, .int zr, .int (-1), .int zw, .ref la, .int zs, .ref wa])), (wa, .inl (cI, 1441, .inl (upd fT 0 zf)))]) [0, 1, 3, 4] rfl
  have hDc := hD.sub (ws' := [(a0, .inr (2, [.ref aZ, .int zc, .ref aO, .int orr, .int ol, .int mp, .ref aG, .int pl, .int fa, .int fb, .ref aP, .ref aW, .ref aK])), (aO, .inl (cI, 1440, .inl fO)), (za, .inr (1, [.int zh, .int zl, .int zf, .int zp, .int zr, .int (-1), .int zw, .ref la, .int zs, .ref wa])), (wa, .inl (cI, 1441, .inl (upd fT 0 zf)))]) [0, 1, 3, 4] (by decide) rfl
  have hFc := va_free (wc := [(a0, .inr (2, [.ref aZ, .int zc, .ref aO, .int orr, .int ol, .int mp, .ref aG, .int pl, .int fa, .int fb, .ref aP, .ref aW, .ref aK])), (aO, .inl (cI, 1440, .inl fO)), (za, .inr (1, [.int zh, .int zl, .int zf, .int zp, .int zr, .int (-1), .int zw, .ref la, .int zs, .ref wa])), (wa, .inl (cI, 1441, .inl (upd fT 0 zf)))]) hD hS hA [0, 1, 3, 4] rfl
  refine va_callv (va_runV (C := R_C) (As := [.ref za, .int (nI 0)]) (rest := []) ⟨hx, hb, hml, hown, hG⟩ (c_leaveUnheated l dC dI cI cJ cZ cB a0 aZ aO aG aP aW aK zc orr ol mp pl fa fb fO za la wa zh zl zf zp zr (-1) zw zs (upd fT 0 zf) 0 H.size (by omega) hzl hzh) (cwV 2 hG g_C_186 rfl rfl rfl (by decide +kernel) ⟨Nat.le_of_ble_eq_true rfl, Nat.le_of_ble_eq_true rfl⟩) ⟨PC.blind, va_recv hK hP (ci := 2) (q0 := 0) rfl rfl, PC.of hPc hK hDc hE hS hFc⟩ rfl rfl hl9.1 rfl (lv_room (Nat.le_of_ble_eq_true rfl)) d_C_planZone_13 ⟨by first | exact Nat.le_of_ble_eq_true rfl | omega, by first | exact Nat.le_of_ble_eq_true rfl | omega⟩) hS (fun q _ h => hFc q h) hFc (fun u t H1 locs ht hvm hw hB hz1 hk1 hS => ?_)
  rw [ht] at hB
  obtain ⟨hP, hD⟩ := jset (wc := [(a0, .inr (2, [.ref aZ, .int zc, .ref aO, .int orr, .int ol, .int mp, .ref aG, .int pl, .int fa, .int fb, .ref aP, .ref aW, .ref aK])), (aO, .inl (cI, 1440, .inl fO)), (za, .inr (1, [.int zh, .int zl, .int zf, .int zp, .int zr, .int (-1), .int zw, .ref la, .int zs, .ref wa])), (wa, .inl (cI, 1441, .inl (upd fT 0 zf)))]) (w1 := [(a0, .inr (2, [.ref aZ, .int zc, .ref aO, .int orr, .int ol, .int mp, .ref aG, .int pl, .int fa, .int fb, .ref aP, .ref aW, .ref aK])), (aO, .inl (cI, 1440, .inl fO)), (za, .inr (1, [.int zh, .int zl, .int zf, .int zp, .int zr, .int (-1), .int zw, .ref la, .int zs, .ref wa])), (wa, .inl (cI, 1441, .inl (lu fO zl zh (upd fT 0 zf) 0 (1440 - 0))))]) [0, 1, 3, 4] rfl rfl hP hD hk1 hB
  have hP : va_P (dC, dI) vwCl [(a0, .inr (2, [.ref aZ, .int zc, .ref aO, .int orr, .int ol, .int mp, .ref aG, .int pl, .int fa, .int fb, .ref aP, .ref aW, .ref aK])), (aO, .inl (cI, 1440, .inl fO)), (aG, .inl (cI, 1440, .inl fG)), (za, .inr (1, [.int zh, .int zl, .int zf, .int zp, .int zr, .int (-1), .int zw, .ref la, .int zs, .ref wa])), (wa, .inl (cI, 1441, .inl (lu fO zl zh (upd fT 0 zf) 0 (1440 - 0))))] H1 := hP
  have hD : va_D A [(a0, .inr (2, [.ref aZ, .int zc, .ref aO, .int orr, .int ol, .int mp, .ref aG, .int pl, .int fa, .int fb, .ref aP, .ref aW, .ref aK])), (aO, .inl (cI, 1440, .inl fO)), (aG, .inl (cI, 1440, .inl fG)), (za, .inr (1, [.int zh, .int zl, .int zf, .int zp, .int zr, .int (-1), .int zw, .ref la, .int zs, .ref wa])), (wa, .inl (cI, 1441, .inl (lu fO zl zh (upd fT 0 zf) 0 (1440 - 0))))] := hD
  have e2 : lu fO zl zh (upd fT 0 zf) 0 (1440 - 0) = (pzT0 fO zl zh zf fT) := by simp only [pzT0, Nat.sub_zero]
  rw [e2] at hP hD
  refine lv_aload_n hx hb d_C_planZone_16 rfl (lv_at hl9 1 rfl) ?_
  refine lv_iconst (v := (-1)) hx hb d_C_planZone_17 (by decide) ?_
  refine va_putN (D := (dC, dI)) (ci := 1) (v := .int (-1)) (ty := .int) (C := R_Z) (T := F_Z) (N := 10) hx hb hG i_Z t_Z t_Z_ok n_Z hown hK hP hD hS 3 rfl rfl 8 (by decide) (hE.1.use k_196) (fun _ h9 => h9) rfl (by decide +kernel) rfl rfl (Nat.le_of_ble_eq_true rfl) d_C_planZone_18 (fun H locs hP hD hS => ?_)
  have hP : va_P (dC, dI) vwCl [(a0, .inr (2, [.ref aZ, .int zc, .ref aO, .int orr, .int ol, .int mp, .ref aG, .int pl, .int fa, .int fb, .ref aP, .ref aW, .ref aK])), (aO, .inl (cI, 1440, .inl fO)), (aG, .inl (cI, 1440, .inl fG)), (za, .inr (1, [.int zh, .int zl, .int zf, .int zp, .int zr, .int (-1), .int zw, .ref la, .int (-1), .ref wa])), (wa, .inl (cI, 1441, .inl (pzT0 fO zl zh zf fT)))] H := hP
  have hD : va_D A [(a0, .inr (2, [.ref aZ, .int zc, .ref aO, .int orr, .int ol, .int mp, .ref aG, .int pl, .int fa, .int fb, .ref aP, .ref aW, .ref aK])), (aO, .inl (cI, 1440, .inl fO)), (aG, .inl (cI, 1440, .inl fG)), (za, .inr (1, [.int zh, .int zl, .int zf, .int zp, .int zr, .int (-1), .int zw, .ref la, .int (-1), .ref wa])), (wa, .inl (cI, 1441, .inl (pzT0 fO zl zh zf fT)))] := hD
  refine lv_aload_n hx hb d_C_planZone_21 rfl (lv_at hl9 1 rfl) ?_
  have hPc := hP.sub (ws' := [(za, .inr (1, [.int zh, .int zl, .int zf, .int zp, .int zr, .int (-1), .int zw, .ref la, .int (-1), .ref wa]))]) [3] rfl
  have hDc := hD.sub (ws' := [(za, .inr (1, [.int zh, .int zl, .int zf, .int zp, .int zr, .int (-1), .int zw, .ref la, .int (-1), .ref wa]))]) [3] (by decide) rfl
  have hFc := va_A_nil hA hS.1
  refine va_calli (va_runVN (C := R_Z) (As := []) (rest := []) ⟨hx, hb, hml, hown, hG⟩ (c_wantsWarmth l dC dI cI cJ cZ cB za la wa zh zl zf zp zr (-1) zw (-1) H.size ) ⟨va_cnB (host := "StartTimes") 0 hG g_C_100 rfl rfl rfl (hE.1.1 _ k_283 rfl) (hG _ k_8) (by decide +kernel) ⟨Nat.le_of_ble_eq_true rfl, Nat.le_of_ble_eq_true rfl⟩, hG _ k_285, hG _ ks_7⟩ ⟨PC.blind, va_recv hK hP (ci := 1) (q0 := 3) rfl rfl, PC.of hPc hK hDc hE hS hFc⟩ rfl rfl hl9.1 rfl (lv_room (Nat.le_of_ble_eq_true rfl)) d_C_planZone_22 ⟨by first | exact Nat.le_of_ble_eq_true rfl | omega, by first | exact Nat.le_of_ble_eq_true rfl | omega⟩) hS (fun q _ h => hFc q h) hFc (fun r4 u t H3 locs ht hvm hw hB hz1 hk1 hS => ?_)
  have hP := wp_kept hP hk1
  have hw : r4 = if (-1) = -1 then 0 else 1 := hw
  subst hw
  refine W.eq (g2 := F0 m 25 ls [.int 0]) rfl ?_
  refine lv_if_eq (tgt := 51) hx hb d_C_planZone_25 (by decide) (fun c1 => ?_) (fun c1 => ?_)
  · exact W.vret hx hb hr (fun t ht hW => ⟨⟨(), rfl, trivial, by have h9 := hP; rw [← ht] at h9; exact h9⟩, hS.F ht⟩) hS.2.2 d_C_planZone_51
  · exact absurd rfl c1
set_option maxHeartbeats 4000000 in
set_option maxRecDepth 100000 in
theorem c_planZone1 (l : Launch) (dC : Nat → ClassId) (dI : Nat → Nat → Nat) (cI cJ cZ cB : ClassId) (a0 aZ aO aG aP aW aK : Nat) (zc orr ol mp pl fa fb : Int32) (fO fG : Nat → Int32) (za la wa : Nat) (zh zl zf zp zr zm zw zs : Int32) (fT : Nat → Int32) (b : Nat) (sz : Nat) (hb1 : b < 1440) (hzl : ¬ zl = 0) (hzh : ¬ zh = 0) : Met l y_C_planZone w_C_planZone ({ frames := 3, cells := 0, slots := 0, locals := 72 }) (PC (dC, dI) (TY cI cJ cZ cB) [.ref a0, .ref za] [(a0, .inr (2, [.ref aZ, .int zc, .ref aO, .int orr, .int ol, .int mp, .ref aG, .int pl, .int fa, .int fb, .ref aP, .ref aW, .ref aK])), (aO, .inl (cI, 1440, .inl fO)), (aG, .inl (cI, 1440, .inl fG)), (za, .inr (1, [.int zh, .int zl, .int zf, .int zp, .int zr, .int (nI b), .int zw, .ref la, .int zs, .ref wa])), (wa, .inl (cI, 1441, .inl fT))] sz (va_A [(a0, .inr (2, [.ref aZ, .int zc, .ref aO, .int orr, .int ol, .int mp, .ref aG, .int pl, .int fa, .int fb, .ref aP, .ref aW, .ref aK])), (aO, .inl (cI, 1440, .inl fO)), (aG, .inl (cI, 1440, .inl fG)), (za, .inr (1, [.int zh, .int zl, .int zf, .int zp, .int zr, .int (nI b), .int zw, .ref la, .int zs, .ref wa])), (wa, .inl (cI, 1441, .inl fT))] sz)) (va_Qv (fun (_ : Unit) => True) (fun (_ : Unit) (t : State) => va_P (dC, dI) vwCl [(a0, .inr (2, [.ref aZ, .int zc, .ref aO, .int orr, .int ol, .int mp, .ref aG, .int pl, .int fa, .int fb, .ref aP, .ref aW, .ref aK])), (aO, .inl (cI, 1440, .inl fO)), (aG, .inl (cI, 1440, .inl ((pzH fO fG zl zh zf zp mp zw fT b).2))), (za, .inr (1, [.int zh, .int zl, .int zf, .int zp, .int zr, .int (nI b), .int zw, .ref la, .int (nI (pzS fO fG zl zh zf zp mp zw fT b)), .ref wa])), (wa, .inl (cI, 1441, .inl (pzT fO fG zl zh zf zp mp zw fT b)))] t.heap) (va_A [(a0, .inr (2, [.ref aZ, .int zc, .ref aO, .int orr, .int ol, .int mp, .ref aG, .int pl, .int fa, .int fb, .ref aP, .ref aW, .ref aK])), (aO, .inl (cI, 1440, .inl fO)), (aG, .inl (cI, 1440, .inl fG)), (za, .inr (1, [.int zh, .int zl, .int zf, .int zp, .int zr, .int (nI b), .int zw, .ref la, .int zs, .ref wa])), (wa, .inl (cI, 1441, .inl fT))] sz)) 0 0 (va_A [(a0, .inr (2, [.ref aZ, .int zc, .ref aO, .int orr, .int ol, .int mp, .ref aG, .int pl, .int fa, .int fb, .ref aP, .ref aW, .ref aK])), (aO, .inl (cI, 1440, .inl fO)), (aG, .inl (cI, 1440, .inl fG)), (za, .inr (1, [.int zh, .int zl, .int zf, .int zp, .int zr, .int (nI b), .int zw, .ref la, .int zs, .ref wa])), (wa, .inl (cI, 1441, .inl fT))] sz) := by
  refine Met.ofW (cc := b_C_planZone) (maxL := 2) (ret := none) (by decide) rfl ?_
  intro p e s m args below meth c s₁ B hml hv
  obtain ⟨rfl, hsz, hP, hK, hD0, hE⟩ := hv
  have hx := B.exec
  have hb := B.bytes
  have hr := B.returns
  have hG : ∀ w ∈ GG, w.before _ s = true := fun w h => atoms_spec (ws := w_C_planZone) B.pre w (List.mem_cons_of_mem _ h)
  have hown : s.vm.findClass R_C = some m.cls := findClass_of_methodNamed B.named
  have hlocks := B.notSynchronized
  subst hsz
  have hD := hD0.self (sz := s.heap.size)
  generalize hAe : (va_A [(a0, .inr (2, [.ref aZ, .int zc, .ref aO, .int orr, .int ol, .int mp, .ref aG, .int pl, .int fa, .int fb, .ref aP, .ref aW, .ref aK])), (aO, .inl (cI, 1440, .inl fO)), (aG, .inl (cI, 1440, .inl fG)), (za, .inr (1, [.int zh, .int zl, .int zf, .int zp, .int zr, .int (nI b), .int zw, .ref la, .int zs, .ref wa])), (wa, .inl (cI, 1441, .inl fT))] s.heap.size) = A at hD hE ⊢
  have hA : ∀ q : Nat, s.heap.size ≤ q → A q := fun q h => by rw [← hAe]; exact Or.inr h
  have hS : va_S A s.heap s.heap [] := va_S.rf
  obtain ⟨H, hH⟩ : ∃ z, z = s.heap := ⟨_, rfl⟩
  rw [← hH] at hP
  have hS : va_S A s.heap H [] := by rw [hH]; exact hS
  rw [← hH]
  have hl9 := lv_entry ([.ref a0, .ref za]) (n := 2) (Nat.le_of_ble_eq_true rfl)
  rw [lg_entry_eq]
  generalize (lg_sl ([.ref a0, .ref za]) ++ List.replicate (2 - (lg_sl ([.ref a0, .ref za])).length) Slot.unset).toArray = ls at hl9 ⊢
  have hl9 : lv_has ls 2 [(0, .ref a0), (1, .ref za)] := hl9
  refine lv_aload_n hx hb d_C_planZone_0 rfl (lv_at hl9 1 rfl) ?_
  refine va_getN (D := (dC, dI)) (ci := 1) (v := .ref wa) (C := R_Z) (T := F_Z) (N := 10) hx hb hG i_Z hown hK hP 3 rfl rfl 9 (by decide) (hE.1.use k_198) (fun _ h9 => h9) rfl d_C_planZone_1 ?_
  refine lv_iconst (v := 0) hx hb d_C_planZone_4 (by decide) ?_
  refine lv_aload_n hx hb d_C_planZone_5 rfl (lv_at hl9 1 rfl) ?_
  refine va_getN (D := (dC, dI)) (ci := 1) (v := .int zf) (C := R_Z) (T := F_Z) (N := 10) hx hb hG i_Z hown hK hP 3 rfl rfl 2 (by decide) (hE.1.use k_184) (fun _ h9 => h9) rfl d_C_planZone_6 ?_
  refine va_iast hx hb hK hP hD hS 4 0 rfl rfl (vp_in_nI (n := 0) (N := 1441) (by decide) (by decide)) d_C_planZone_9 (fun H locs hP hD hS => ?_)
  have hP : va_P (dC, dI) vwCl [(a0, .inr (2, [.ref aZ, .int zc, .ref aO, .int orr, .int ol, .int mp, .ref aG, .int pl, .int fa, .int fb, .ref aP, .ref aW, .ref aK])), (aO, .inl (cI, 1440, .inl fO)), (aG, .inl (cI, 1440, .inl fG)), (za, .inr (1, [.int zh, .int zl, .int zf, .int zp, .int zr, .int (nI b), .int zw, .ref la, .int zs, .ref wa])), (wa, .inl (cI, 1441, .inl (upd fT (0 : Int32).toNatClampNeg zf)))] H := hP
  have hD : va_D A [(a0, .inr (2, [.ref aZ, .int zc, .ref aO, .int orr, .int ol, .int mp, .ref aG, .int pl, .int fa, .int fb, .ref aP, .ref aW, .ref aK])), (aO, .inl (cI, 1440, .inl fO)), (aG, .inl (cI, 1440, .inl fG)), (za, .inr (1, [.int zh, .int zl, .int zf, .int zp, .int zr, .int (nI b), .int zw, .ref la, .int zs, .ref wa])), (wa, .inl (cI, 1441, .inl (upd fT (0 : Int32).toNatClampNeg zf)))] := hD
  refine lv_aload_n hx hb d_C_planZone_10 rfl (lv_at hl9 0 rfl) ?_
  refine lv_aload_n hx hb d_C_planZone_11 rfl (lv_at hl9 1 rfl) ?_
  refine lv_iconst (v := 0) hx hb d_C_planZone_12 (by decide) ?_
  have e1 : (upd fT (0 : Int32).toNatClampNeg zf) = upd fT 0 zf := rfl
  rw [e1] at hP hD
  refine W.eq (g2 := F0 m 13 ls [.int (nI 0), .ref za, .ref a0]) rfl ?_
  have hPc := hP.sub (ws' := [(a0, .inr (2, [.ref aZ, .int zc, .ref aO, .int orr, .int ol, .int mp, .ref aG, .int pl, .int fa, .int fb, .ref aP, .ref aW, .ref aK])), (aO, .inl (cI, 1440, .inl fO)), (za, .inr (1, [.int zh, .int zl, .int zf, .int zp, .int zr, .int (nI b), .int zw, .ref la, .int zs, .ref wa])), (wa, .inl (cI, 1441, .inl (upd fT 0 zf)))]) [0, 1, 3, 4] rfl
  have hDc := hD.sub (ws' := [(a0, .inr (2, [.ref aZ, .int zc, .ref aO, .int orr, .int ol, .int mp, .ref aG, .int pl, .int fa, .int fb, .ref aP, .ref aW, .ref aK])), (aO, .inl (cI, 1440, .inl fO)), (za, .inr (1, [.int zh, .int zl, .int zf, .int zp, .int zr, .int (nI b), .int zw, .ref la, .int zs, .ref wa])), (wa, .inl (cI, 1441, .inl (upd fT 0 zf)))]) [0, 1, 3, 4] (by decide) rfl
  have hFc := va_free (wc := [(a0, .inr (2, [.ref aZ, .int zc, .ref aO, .int orr, .int ol, .int mp, .ref aG, .int pl, .int fa, .int fb, .ref aP, .ref aW, .ref aK])), (aO, .inl (cI, 1440, .inl fO)), (za, .inr (1, [.int zh, .int zl, .int zf, .int zp, .int zr, .int (nI b), .int zw, .ref la, .int zs, .ref wa])), (wa, .inl (cI, 1441, .inl (upd fT 0 zf)))]) hD hS hA [0, 1, 3, 4] rfl
  refine va_callv (va_runV (C := R_C) (As := [.ref za, .int (nI 0)]) (rest := []) ⟨hx, hb, hml, hown, hG⟩ (c_leaveUnheated l dC dI cI cJ cZ cB a0 aZ aO aG aP aW aK zc orr ol mp pl fa fb fO za la wa zh zl zf zp zr (nI b) zw zs (upd fT 0 zf) 0 H.size (by omega) hzl hzh) (cwV 2 hG g_C_186 rfl rfl rfl (by decide +kernel) ⟨Nat.le_of_ble_eq_true rfl, Nat.le_of_ble_eq_true rfl⟩) ⟨PC.blind, va_recv hK hP (ci := 2) (q0 := 0) rfl rfl, PC.of hPc hK hDc hE hS hFc⟩ rfl rfl hl9.1 rfl (lv_room (Nat.le_of_ble_eq_true rfl)) d_C_planZone_13 ⟨by first | exact Nat.le_of_ble_eq_true rfl | omega, by first | exact Nat.le_of_ble_eq_true rfl | omega⟩) hS (fun q _ h => hFc q h) hFc (fun u t H1 locs ht hvm hw hB hz1 hk1 hS => ?_)
  rw [ht] at hB
  obtain ⟨hP, hD⟩ := jset (wc := [(a0, .inr (2, [.ref aZ, .int zc, .ref aO, .int orr, .int ol, .int mp, .ref aG, .int pl, .int fa, .int fb, .ref aP, .ref aW, .ref aK])), (aO, .inl (cI, 1440, .inl fO)), (za, .inr (1, [.int zh, .int zl, .int zf, .int zp, .int zr, .int (nI b), .int zw, .ref la, .int zs, .ref wa])), (wa, .inl (cI, 1441, .inl (upd fT 0 zf)))]) (w1 := [(a0, .inr (2, [.ref aZ, .int zc, .ref aO, .int orr, .int ol, .int mp, .ref aG, .int pl, .int fa, .int fb, .ref aP, .ref aW, .ref aK])), (aO, .inl (cI, 1440, .inl fO)), (za, .inr (1, [.int zh, .int zl, .int zf, .int zp, .int zr, .int (nI b), .int zw, .ref la, .int zs, .ref wa])), (wa, .inl (cI, 1441, .inl (lu fO zl zh (upd fT 0 zf) 0 (1440 - 0))))]) [0, 1, 3, 4] rfl rfl hP hD hk1 hB
  have hP : va_P (dC, dI) vwCl [(a0, .inr (2, [.ref aZ, .int zc, .ref aO, .int orr, .int ol, .int mp, .ref aG, .int pl, .int fa, .int fb, .ref aP, .ref aW, .ref aK])), (aO, .inl (cI, 1440, .inl fO)), (aG, .inl (cI, 1440, .inl fG)), (za, .inr (1, [.int zh, .int zl, .int zf, .int zp, .int zr, .int (nI b), .int zw, .ref la, .int zs, .ref wa])), (wa, .inl (cI, 1441, .inl (lu fO zl zh (upd fT 0 zf) 0 (1440 - 0))))] H1 := hP
  have hD : va_D A [(a0, .inr (2, [.ref aZ, .int zc, .ref aO, .int orr, .int ol, .int mp, .ref aG, .int pl, .int fa, .int fb, .ref aP, .ref aW, .ref aK])), (aO, .inl (cI, 1440, .inl fO)), (aG, .inl (cI, 1440, .inl fG)), (za, .inr (1, [.int zh, .int zl, .int zf, .int zp, .int zr, .int (nI b), .int zw, .ref la, .int zs, .ref wa])), (wa, .inl (cI, 1441, .inl (lu fO zl zh (upd fT 0 zf) 0 (1440 - 0))))] := hD
  have e2 : lu fO zl zh (upd fT 0 zf) 0 (1440 - 0) = (pzT0 fO zl zh zf fT) := by simp only [pzT0, Nat.sub_zero]
  rw [e2] at hP hD
  refine lv_aload_n hx hb d_C_planZone_16 rfl (lv_at hl9 1 rfl) ?_
  refine lv_iconst (v := (-1)) hx hb d_C_planZone_17 (by decide) ?_
  refine va_putN (D := (dC, dI)) (ci := 1) (v := .int (-1)) (ty := .int) (C := R_Z) (T := F_Z) (N := 10) hx hb hG i_Z t_Z t_Z_ok n_Z hown hK hP hD hS 3 rfl rfl 8 (by decide) (hE.1.use k_196) (fun _ h9 => h9) rfl (by decide +kernel) rfl rfl (Nat.le_of_ble_eq_true rfl) d_C_planZone_18 (fun H locs hP hD hS => ?_)
  have hP : va_P (dC, dI) vwCl [(a0, .inr (2, [.ref aZ, .int zc, .ref aO, .int orr, .int ol, .int mp, .ref aG, .int pl, .int fa, .int fb, .ref aP, .ref aW, .ref aK])), (aO, .inl (cI, 1440, .inl fO)), (aG, .inl (cI, 1440, .inl fG)), (za, .inr (1, [.int zh, .int zl, .int zf, .int zp, .int zr, .int (nI b), .int zw, .ref la, .int (-1), .ref wa])), (wa, .inl (cI, 1441, .inl (pzT0 fO zl zh zf fT)))] H := hP
  have hD : va_D A [(a0, .inr (2, [.ref aZ, .int zc, .ref aO, .int orr, .int ol, .int mp, .ref aG, .int pl, .int fa, .int fb, .ref aP, .ref aW, .ref aK])), (aO, .inl (cI, 1440, .inl fO)), (aG, .inl (cI, 1440, .inl fG)), (za, .inr (1, [.int zh, .int zl, .int zf, .int zp, .int zr, .int (nI b), .int zw, .ref la, .int (-1), .ref wa])), (wa, .inl (cI, 1441, .inl (pzT0 fO zl zh zf fT)))] := hD
  refine lv_aload_n hx hb d_C_planZone_21 rfl (lv_at hl9 1 rfl) ?_
  have hPc := hP.sub (ws' := [(za, .inr (1, [.int zh, .int zl, .int zf, .int zp, .int zr, .int (nI b), .int zw, .ref la, .int (-1), .ref wa]))]) [3] rfl
  have hDc := hD.sub (ws' := [(za, .inr (1, [.int zh, .int zl, .int zf, .int zp, .int zr, .int (nI b), .int zw, .ref la, .int (-1), .ref wa]))]) [3] (by decide) rfl
  have hFc := va_A_nil hA hS.1
  refine va_calli (va_runVN (C := R_Z) (As := []) (rest := []) ⟨hx, hb, hml, hown, hG⟩ (c_wantsWarmth l dC dI cI cJ cZ cB za la wa zh zl zf zp zr (nI b) zw (-1) H.size ) ⟨va_cnB (host := "StartTimes") 0 hG g_C_100 rfl rfl rfl (hE.1.1 _ k_283 rfl) (hG _ k_8) (by decide +kernel) ⟨Nat.le_of_ble_eq_true rfl, Nat.le_of_ble_eq_true rfl⟩, hG _ k_285, hG _ ks_7⟩ ⟨PC.blind, va_recv hK hP (ci := 1) (q0 := 3) rfl rfl, PC.of hPc hK hDc hE hS hFc⟩ rfl rfl hl9.1 rfl (lv_room (Nat.le_of_ble_eq_true rfl)) d_C_planZone_22 ⟨by first | exact Nat.le_of_ble_eq_true rfl | omega, by first | exact Nat.le_of_ble_eq_true rfl | omega⟩) hS (fun q _ h => hFc q h) hFc (fun r4 u t H3 locs ht hvm hw hB hz1 hk1 hS => ?_)
  have hP := wp_kept hP hk1
  have hw : r4 = if (nI b) = -1 then 0 else 1 := hw
  subst hw
  have e3 : (if nI b = -1 then (0 : Int32) else 1) = 1 := if_neg (fun h => by have h9 := congrArg Int32.toInt h; rw [nI_toInt (by omega)] at h9; simp at h9)
  rw [e3]
  refine lv_if_eq (tgt := 51) hx hb d_C_planZone_25 (by decide) (fun c1 => ?_) (fun c1 => ?_)
  · exact absurd c1 (by decide)
  · refine lv_aload_n hx hb d_C_planZone_28 rfl (lv_at hl9 1 rfl) ?_
    refine lv_aload_n hx hb d_C_planZone_29 rfl (lv_at hl9 0 rfl) ?_
    refine lv_aload_n hx hb d_C_planZone_30 rfl (lv_at hl9 1 rfl) ?_
    have hPc := hP.sub (ws' := [(a0, .inr (2, [.ref aZ, .int zc, .ref aO, .int orr, .int ol, .int mp, .ref aG, .int pl, .int fa, .int fb, .ref aP, .ref aW, .ref aK])), (aO, .inl (cI, 1440, .inl fO)), (aG, .inl (cI, 1440, .inl fG)), (za, .inr (1, [.int zh, .int zl, .int zf, .int zp, .int zr, .int (nI b), .int zw, .ref la, .int (-1), .ref wa])), (wa, .inl (cI, 1441, .inl (pzT0 fO zl zh zf fT)))]) [0, 1, 2, 3, 4] rfl
    have hDc := hD.sub (ws' := [(a0, .inr (2, [.ref aZ, .int zc, .ref aO, .int orr, .int ol, .int mp, .ref aG, .int pl, .int fa, .int fb, .ref aP, .ref aW, .ref aK])), (aO, .inl (cI, 1440, .inl fO)), (aG, .inl (cI, 1440, .inl fG)), (za, .inr (1, [.int zh, .int zl, .int zf, .int zp, .int zr, .int (nI b), .int zw, .ref la, .int (-1), .ref wa])), (wa, .inl (cI, 1441, .inl (pzT0 fO zl zh zf fT)))]) [0, 1, 2, 3, 4] (by decide) rfl
    have hFc := va_A_nil hA hS.1
    refine va_calli (va_runV (C := R_C) (As := [.ref za]) (rest := [.ref za]) ⟨hx, hb, hml, hown, hG⟩ (c_latestStart l dC dI cI cJ cZ cB a0 aZ aO aG aP aW aK zc orr ol mp pl fa fb fO fG za la wa zh zl zf zp zr (nI b) zw (-1) (pzT0 fO zl zh zf fT) b H3.size hb1 hzl hzh) (cwV 1 hG g_C_190 rfl rfl rfl (by decide +kernel) ⟨Nat.le_of_ble_eq_true rfl, Nat.le_of_ble_eq_true rfl⟩) ⟨PC.blind, va_recv hK hP (ci := 2) (q0 := 0) rfl rfl, PC.of hPc hK hDc hE hS hFc⟩ rfl rfl hl9.1 rfl (lv_room (Nat.le_of_ble_eq_true rfl)) d_C_planZone_31 ⟨by first | exact Nat.le_of_ble_eq_true rfl | omega, by first | exact Nat.le_of_ble_eq_true rfl | omega⟩) hS (fun q _ h => hFc q h) hFc (fun r6 u t H5 locs ht hvm hw hB hz1 hk1 hS => ?_)
    have hP := wp_kept hP hk1
    have hw : r6 = nI (lst fO fG (pzT0 fO zl zh zf fT) zl zh zp mp zw b 11) := hw
    subst hw
    have e4 : lst fO fG (pzT0 fO zl zh zf fT) zl zh zp mp zw b 11 = (pzS fO fG zl zh zf zp mp zw fT b) := by simp only [pzS]
    rw [e4]
    have e5 : (pzS fO fG zl zh zf zp mp zw fT b) ≤ b := lst_le _ _ _ _ _ _ _ _ _ _
    refine va_putN (D := (dC, dI)) (ci := 1) (v := .int (nI (pzS fO fG zl zh zf zp mp zw fT b))) (ty := .int) (C := R_Z) (T := F_Z) (N := 10) hx hb hG i_Z t_Z t_Z_ok n_Z hown hK hP hD hS 3 rfl rfl 8 (by decide) (hE.1.use k_196) (fun _ h9 => h9) rfl (by decide +kernel) rfl rfl (Nat.le_of_ble_eq_true rfl) d_C_planZone_34 (fun H locs hP hD hS => ?_)
    have hP : va_P (dC, dI) vwCl [(a0, .inr (2, [.ref aZ, .int zc, .ref aO, .int orr, .int ol, .int mp, .ref aG, .int pl, .int fa, .int fb, .ref aP, .ref aW, .ref aK])), (aO, .inl (cI, 1440, .inl fO)), (aG, .inl (cI, 1440, .inl fG)), (za, .inr (1, [.int zh, .int zl, .int zf, .int zp, .int zr, .int (nI b), .int zw, .ref la, .int (nI (pzS fO fG zl zh zf zp mp zw fT b)), .ref wa])), (wa, .inl (cI, 1441, .inl (pzT0 fO zl zh zf fT)))] H := hP
    have hD : va_D A [(a0, .inr (2, [.ref aZ, .int zc, .ref aO, .int orr, .int ol, .int mp, .ref aG, .int pl, .int fa, .int fb, .ref aP, .ref aW, .ref aK])), (aO, .inl (cI, 1440, .inl fO)), (aG, .inl (cI, 1440, .inl fG)), (za, .inr (1, [.int zh, .int zl, .int zf, .int zp, .int zr, .int (nI b), .int zw, .ref la, .int (nI (pzS fO fG zl zh zf zp mp zw fT b)), .ref wa])), (wa, .inl (cI, 1441, .inl (pzT0 fO zl zh zf fT)))] := hD
    refine lv_aload_n hx hb d_C_planZone_37 rfl (lv_at hl9 0 rfl) ?_
    refine lv_aload_n hx hb d_C_planZone_38 rfl (lv_at hl9 1 rfl) ?_
    have hPc := hP.sub (ws' := [(a0, .inr (2, [.ref aZ, .int zc, .ref aO, .int orr, .int ol, .int mp, .ref aG, .int pl, .int fa, .int fb, .ref aP, .ref aW, .ref aK])), (aO, .inl (cI, 1440, .inl fO)), (aG, .inl (cI, 1440, .inl fG)), (za, .inr (1, [.int zh, .int zl, .int zf, .int zp, .int zr, .int (nI b), .int zw, .ref la, .int (nI (pzS fO fG zl zh zf zp mp zw fT b)), .ref wa])), (wa, .inl (cI, 1441, .inl (pzT0 fO zl zh zf fT)))]) [0, 1, 2, 3, 4] rfl
    have hDc := hD.sub (ws' := [(a0, .inr (2, [.ref aZ, .int zc, .ref aO, .int orr, .int ol, .int mp, .ref aG, .int pl, .int fa, .int fb, .ref aP, .ref aW, .ref aK])), (aO, .inl (cI, 1440, .inl fO)), (aG, .inl (cI, 1440, .inl fG)), (za, .inr (1, [.int zh, .int zl, .int zf, .int zp, .int zr, .int (nI b), .int zw, .ref la, .int (nI (pzS fO fG zl zh zf zp mp zw fT b)), .ref wa])), (wa, .inl (cI, 1441, .inl (pzT0 fO zl zh zf fT)))]) [0, 1, 2, 3, 4] (by decide) rfl
    have hFc := va_free (wc := [(a0, .inr (2, [.ref aZ, .int zc, .ref aO, .int orr, .int ol, .int mp, .ref aG, .int pl, .int fa, .int fb, .ref aP, .ref aW, .ref aK])), (aO, .inl (cI, 1440, .inl fO)), (aG, .inl (cI, 1440, .inl fG)), (za, .inr (1, [.int zh, .int zl, .int zf, .int zp, .int zr, .int (nI b), .int zw, .ref la, .int (nI (pzS fO fG zl zh zf zp mp zw fT b)), .ref wa])), (wa, .inl (cI, 1441, .inl (pzT0 fO zl zh zf fT)))]) hD hS hA [0, 1, 2, 3, 4] rfl
    refine va_callv (va_runV (C := R_C) (As := [.ref za]) (rest := []) ⟨hx, hb, hml, hown, hG⟩ (c_heatFromStart l dC dI cI cJ cZ cB a0 aZ aO aG aP aW aK zc orr ol mp pl fa fb fO fG za la wa zh zl zf zp zr (nI b) zw (nI (pzS fO fG zl zh zf zp mp zw fT b)) (pzT0 fO zl zh zf fT) (pzS fO fG zl zh zf zp mp zw fT b) b H.size e5 hb1 hzl hzh) (cwV 1 hG g_C_194 rfl rfl rfl (by decide +kernel) ⟨Nat.le_of_ble_eq_true rfl, Nat.le_of_ble_eq_true rfl⟩) ⟨PC.blind, va_recv hK hP (ci := 2) (q0 := 0) rfl rfl, PC.of hPc hK hDc hE hS hFc⟩ rfl rfl hl9.1 rfl (lv_room (Nat.le_of_ble_eq_true rfl)) d_C_planZone_39 ⟨by first | exact Nat.le_of_ble_eq_true rfl | omega, by first | exact Nat.le_of_ble_eq_true rfl | omega⟩) hS (fun q _ h => hFc q h) hFc (fun u t H7 locs ht hvm hw hB hz1 hk1 hS => ?_)
    rw [ht] at hB
    obtain ⟨hP, hD⟩ := jset (wc := [(a0, .inr (2, [.ref aZ, .int zc, .ref aO, .int orr, .int ol, .int mp, .ref aG, .int pl, .int fa, .int fb, .ref aP, .ref aW, .ref aK])), (aO, .inl (cI, 1440, .inl fO)), (aG, .inl (cI, 1440, .inl fG)), (za, .inr (1, [.int zh, .int zl, .int zf, .int zp, .int zr, .int (nI b), .int zw, .ref la, .int (nI (pzS fO fG zl zh zf zp mp zw fT b)), .ref wa])), (wa, .inl (cI, 1441, .inl (pzT0 fO zl zh zf fT)))]) (w1 := [(a0, .inr (2, [.ref aZ, .int zc, .ref aO, .int orr, .int ol, .int mp, .ref aG, .int pl, .int fa, .int fb, .ref aP, .ref aW, .ref aK])), (aO, .inl (cI, 1440, .inl fO)), (aG, .inl (cI, 1440, .inl ((hf fO zl zh zp mp (pzT0 fO zl zh zf fT) fG (pzS fO fG zl zh zf zp mp zw fT b) (b - (pzS fO fG zl zh zf zp mp zw fT b))).2))), (za, .inr (1, [.int zh, .int zl, .int zf, .int zp, .int zr, .int (nI b), .int zw, .ref la, .int (nI (pzS fO fG zl zh zf zp mp zw fT b)), .ref wa])), (wa, .inl (cI, 1441, .inl ((hf fO zl zh zp mp (pzT0 fO zl zh zf fT) fG (pzS fO fG zl zh zf zp mp zw fT b) (b - (pzS fO fG zl zh zf zp mp zw fT b))).1)))]) [0, 1, 2, 3, 4] rfl rfl hP hD hk1 hB
    have hP : va_P (dC, dI) vwCl [(a0, .inr (2, [.ref aZ, .int zc, .ref aO, .int orr, .int ol, .int mp, .ref aG, .int pl, .int fa, .int fb, .ref aP, .ref aW, .ref aK])), (aO, .inl (cI, 1440, .inl fO)), (aG, .inl (cI, 1440, .inl ((hf fO zl zh zp mp (pzT0 fO zl zh zf fT) fG (pzS fO fG zl zh zf zp mp zw fT b) (b - (pzS fO fG zl zh zf zp mp zw fT b))).2))), (za, .inr (1, [.int zh, .int zl, .int zf, .int zp, .int zr, .int (nI b), .int zw, .ref la, .int (nI (pzS fO fG zl zh zf zp mp zw fT b)), .ref wa])), (wa, .inl (cI, 1441, .inl ((hf fO zl zh zp mp (pzT0 fO zl zh zf fT) fG (pzS fO fG zl zh zf zp mp zw fT b) (b - (pzS fO fG zl zh zf zp mp zw fT b))).1)))] H7 := hP
    have hD : va_D A [(a0, .inr (2, [.ref aZ, .int zc, .ref aO, .int orr, .int ol, .int mp, .ref aG, .int pl, .int fa, .int fb, .ref aP, .ref aW, .ref aK])), (aO, .inl (cI, 1440, .inl fO)), (aG, .inl (cI, 1440, .inl ((hf fO zl zh zp mp (pzT0 fO zl zh zf fT) fG (pzS fO fG zl zh zf zp mp zw fT b) (b - (pzS fO fG zl zh zf zp mp zw fT b))).2))), (za, .inr (1, [.int zh, .int zl, .int zf, .int zp, .int zr, .int (nI b), .int zw, .ref la, .int (nI (pzS fO fG zl zh zf zp mp zw fT b)), .ref wa])), (wa, .inl (cI, 1441, .inl ((hf fO zl zh zp mp (pzT0 fO zl zh zf fT) fG (pzS fO fG zl zh zf zp mp zw fT b) (b - (pzS fO fG zl zh zf zp mp zw fT b))).1)))] := hD
    have e6 : hf fO zl zh zp mp (pzT0 fO zl zh zf fT) fG (pzS fO fG zl zh zf zp mp zw fT b) (b - (pzS fO fG zl zh zf zp mp zw fT b)) = (pzH fO fG zl zh zf zp mp zw fT b) := by simp only [pzH]
    rw [e6] at hP hD
    refine lv_aload_n hx hb d_C_planZone_42 rfl (lv_at hl9 0 rfl) ?_
    refine lv_aload_n hx hb d_C_planZone_43 rfl (lv_at hl9 1 rfl) ?_
    refine lv_aload_n hx hb d_C_planZone_44 rfl (lv_at hl9 1 rfl) ?_
    refine va_getN (D := (dC, dI)) (ci := 1) (v := .int (nI b)) (C := R_Z) (T := F_Z) (N := 10) hx hb hG i_Z hown hK hP 3 rfl rfl 5 (by decide) (hE.1.use k_190) (fun _ h9 => h9) rfl d_C_planZone_45 ?_
    have hPc := hP.sub (ws' := [(a0, .inr (2, [.ref aZ, .int zc, .ref aO, .int orr, .int ol, .int mp, .ref aG, .int pl, .int fa, .int fb, .ref aP, .ref aW, .ref aK])), (aO, .inl (cI, 1440, .inl fO)), (za, .inr (1, [.int zh, .int zl, .int zf, .int zp, .int zr, .int (nI b), .int zw, .ref la, .int (nI (pzS fO fG zl zh zf zp mp zw fT b)), .ref wa])), (wa, .inl (cI, 1441, .inl (((pzH fO fG zl zh zf zp mp zw fT b)).1)))]) [0, 1, 3, 4] rfl
    have hDc := hD.sub (ws' := [(a0, .inr (2, [.ref aZ, .int zc, .ref aO, .int orr, .int ol, .int mp, .ref aG, .int pl, .int fa, .int fb, .ref aP, .ref aW, .ref aK])), (aO, .inl (cI, 1440, .inl fO)), (za, .inr (1, [.int zh, .int zl, .int zf, .int zp, .int zr, .int (nI b), .int zw, .ref la, .int (nI (pzS fO fG zl zh zf zp mp zw fT b)), .ref wa])), (wa, .inl (cI, 1441, .inl (((pzH fO fG zl zh zf zp mp zw fT b)).1)))]) [0, 1, 3, 4] (by decide) rfl
    have hFc := va_free (wc := [(a0, .inr (2, [.ref aZ, .int zc, .ref aO, .int orr, .int ol, .int mp, .ref aG, .int pl, .int fa, .int fb, .ref aP, .ref aW, .ref aK])), (aO, .inl (cI, 1440, .inl fO)), (za, .inr (1, [.int zh, .int zl, .int zf, .int zp, .int zr, .int (nI b), .int zw, .ref la, .int (nI (pzS fO fG zl zh zf zp mp zw fT b)), .ref wa])), (wa, .inl (cI, 1441, .inl (((pzH fO fG zl zh zf zp mp zw fT b)).1)))]) hD hS hA [0, 1, 3, 4] rfl
    refine va_callv (va_runV (C := R_C) (As := [.ref za, .int (nI b)]) (rest := []) ⟨hx, hb, hml, hown, hG⟩ (c_leaveUnheated l dC dI cI cJ cZ cB a0 aZ aO aG aP aW aK zc orr ol mp pl fa fb fO za la wa zh zl zf zp zr (nI b) zw (nI (pzS fO fG zl zh zf zp mp zw fT b)) (((pzH fO fG zl zh zf zp mp zw fT b)).1) b H7.size (by omega) hzl hzh) (cwV 2 hG g_C_186 rfl rfl rfl (by decide +kernel) ⟨Nat.le_of_ble_eq_true rfl, Nat.le_of_ble_eq_true rfl⟩) ⟨PC.blind, va_recv hK hP (ci := 2) (q0 := 0) rfl rfl, PC.of hPc hK hDc hE hS hFc⟩ rfl rfl hl9.1 rfl (lv_room (Nat.le_of_ble_eq_true rfl)) d_C_planZone_48 ⟨by first | exact Nat.le_of_ble_eq_true rfl | omega, by first | exact Nat.le_of_ble_eq_true rfl | omega⟩) hS (fun q _ h => hFc q h) hFc (fun u t H9 locs ht hvm hw hB hz1 hk1 hS => ?_)
    rw [ht] at hB
    obtain ⟨hP, hD⟩ := jset (wc := [(a0, .inr (2, [.ref aZ, .int zc, .ref aO, .int orr, .int ol, .int mp, .ref aG, .int pl, .int fa, .int fb, .ref aP, .ref aW, .ref aK])), (aO, .inl (cI, 1440, .inl fO)), (za, .inr (1, [.int zh, .int zl, .int zf, .int zp, .int zr, .int (nI b), .int zw, .ref la, .int (nI (pzS fO fG zl zh zf zp mp zw fT b)), .ref wa])), (wa, .inl (cI, 1441, .inl (((pzH fO fG zl zh zf zp mp zw fT b)).1)))]) (w1 := [(a0, .inr (2, [.ref aZ, .int zc, .ref aO, .int orr, .int ol, .int mp, .ref aG, .int pl, .int fa, .int fb, .ref aP, .ref aW, .ref aK])), (aO, .inl (cI, 1440, .inl fO)), (za, .inr (1, [.int zh, .int zl, .int zf, .int zp, .int zr, .int (nI b), .int zw, .ref la, .int (nI (pzS fO fG zl zh zf zp mp zw fT b)), .ref wa])), (wa, .inl (cI, 1441, .inl (lu fO zl zh (((pzH fO fG zl zh zf zp mp zw fT b)).1) b (1440 - b))))]) [0, 1, 3, 4] rfl rfl hP hD hk1 hB
    have hP : va_P (dC, dI) vwCl [(a0, .inr (2, [.ref aZ, .int zc, .ref aO, .int orr, .int ol, .int mp, .ref aG, .int pl, .int fa, .int fb, .ref aP, .ref aW, .ref aK])), (aO, .inl (cI, 1440, .inl fO)), (aG, .inl (cI, 1440, .inl (((pzH fO fG zl zh zf zp mp zw fT b)).2))), (za, .inr (1, [.int zh, .int zl, .int zf, .int zp, .int zr, .int (nI b), .int zw, .ref la, .int (nI (pzS fO fG zl zh zf zp mp zw fT b)), .ref wa])), (wa, .inl (cI, 1441, .inl (lu fO zl zh (((pzH fO fG zl zh zf zp mp zw fT b)).1) b (1440 - b))))] H9 := hP
    have hD : va_D A [(a0, .inr (2, [.ref aZ, .int zc, .ref aO, .int orr, .int ol, .int mp, .ref aG, .int pl, .int fa, .int fb, .ref aP, .ref aW, .ref aK])), (aO, .inl (cI, 1440, .inl fO)), (aG, .inl (cI, 1440, .inl (((pzH fO fG zl zh zf zp mp zw fT b)).2))), (za, .inr (1, [.int zh, .int zl, .int zf, .int zp, .int zr, .int (nI b), .int zw, .ref la, .int (nI (pzS fO fG zl zh zf zp mp zw fT b)), .ref wa])), (wa, .inl (cI, 1441, .inl (lu fO zl zh (((pzH fO fG zl zh zf zp mp zw fT b)).1) b (1440 - b))))] := hD
    exact W.vret hx hb hr (fun t ht hW => ⟨⟨(), rfl, trivial, by have h9 := hP; rw [← ht] at h9; exact h9⟩, hS.F ht⟩) hS.2.2 d_C_planZone_51
end
section
/-- the remainders' chain, n of them at most -/
def cdv (d r : Int64) : Nat → Int64
  | 0 => d
  | n + 1 => if r = 0 then d else cdv r (d - d / r * r) n
def labs (x : Int64) : Int64 := if 0 < x then x else -x
def mill (a b : Int64) : Int64 := a / b * 1000000 + (a - a / b * b) * 1000000 / b
theorem g_E_34 : GoodIn GG (wsS R_E 34 y_E_commonDivisor w_E_commonDivisor) := goodG (List.forall_mem_append.mpr ⟨List.forall_mem_cons.mpr ⟨k_356, List.forall_mem_cons.mpr ⟨k_357, List.forall_mem_cons.mpr ⟨k_9, fun _ h => absurd h List.not_mem_nil⟩⟩⟩, List.forall_mem_cons.mpr ⟨k_358, fun _ h => h⟩⟩)
theorem g_E_16 : GoodIn GG (wsV R_E 16 R_E y_E_keepInLowestTerms w_E_keepInLowestTerms) := goodG (List.forall_mem_append.mpr ⟨List.forall_mem_cons.mpr ⟨k_349, List.forall_mem_cons.mpr ⟨k_351, List.forall_mem_cons.mpr ⟨ks_13, List.forall_mem_cons.mpr ⟨k_9, fun _ h => absurd h List.not_mem_nil⟩⟩⟩⟩, List.forall_mem_cons.mpr ⟨k_352, fun _ h => h⟩⟩)
theorem g_E_22 : GoodIn GG (wsV R_E 22 R_E y_E_millionths w_E_millionths) := goodG (List.forall_mem_append.mpr ⟨List.forall_mem_cons.mpr ⟨k_360, List.forall_mem_cons.mpr ⟨k_362, List.forall_mem_cons.mpr ⟨ks_14, List.forall_mem_cons.mpr ⟨k_9, fun _ h => absurd h List.not_mem_nil⟩⟩⟩⟩, List.forall_mem_cons.mpr ⟨k_363, fun _ h => h⟩⟩)
set_option maxHeartbeats 4000000 in
set_option maxRecDepth 100000 in
theorem c_commonDivisor (l : Launch) (dC : Nat → ClassId) (dI : Nat → Nat → Nat) (cI cJ cZ cB : ClassId) (x y : Int64) (sz : Nat) : Met l y_E_commonDivisor w_E_commonDivisor ({ frames := 0, cells := 0, slots := 0, locals := 0 }) (PC (dC, dI) (TY cI cJ cZ cB) [.long x, .long y] [] sz (va_A [] sz)) (va_Ql (fun (r : Int64) (_ : Unit) => r = cdv y x 100) (fun (_ : Unit) (_ : State) => True) (va_A [] sz)) 0 0 (va_A [] sz) := by
  refine Met.ofW (cc := b_E_commonDivisor) (maxL := 11) (ret := (some .long)) (by decide) rfl ?_
  intro p e s m args below meth c s₁ B hml hv
  obtain ⟨rfl, hsz, hP, hK, hD0, hE⟩ := hv
  have hx := B.exec
  have hb := B.bytes
  have hr := B.returns
  have hG : ∀ w ∈ GG, w.before _ s = true := fun w h => atoms_spec (ws := w_E_commonDivisor) B.pre w (List.mem_cons_of_mem _ h)
  have hown : s.vm.findClass R_E = some m.cls := findClass_of_methodNamed B.named
  have hlocks := B.notSynchronized
  subst hsz
  generalize hAe : (va_A [] s.heap.size) = A at hE ⊢
  have hA : ∀ q : Nat, s.heap.size ≤ q → A q := fun q h => by rw [← hAe]; exact Or.inr h
  have hS : va_S A s.heap s.heap [] := va_S.rf
  have hD := hD0
  obtain ⟨H, hH⟩ : ∃ z, z = s.heap := ⟨_, rfl⟩
  rw [← hH] at hP
  have hS : va_S A s.heap H [] := by rw [hH]; exact hS
  rw [← hH]
  have hl9 := lv_entry ([.long x, .long y]) (n := 11) (Nat.le_of_ble_eq_true rfl)
  rw [lg_entry_eq]
  generalize (lg_sl ([.long x, .long y]) ++ List.replicate (11 - (lg_sl ([.long x, .long y])).length) Slot.unset).toArray = ls at hl9 ⊢
  have hl9 : lv_has ls 11 [(0, .long x), (2, .long y)] := hl9
  refine lv_lload_n hx hb d_E_commonDivisor_0 rfl (lv_at hl9 1 rfl) ?_
  refine lv_lstore (lv' := [(4, .long y), (0, .long x), (2, .long y)]) hx hb d_E_commonDivisor_1 hl9 (by decide) rfl (fun ls hl9 => ?_)
  refine lv_lload_n hx hb d_E_commonDivisor_3 rfl (lv_at hl9 1 rfl) ?_
  refine lv_lstore (lv' := [(6, .long x), (4, .long y), (0, .long x), (2, .long y)]) hx hb d_E_commonDivisor_4 hl9 (by decide) rfl (fun ls hl9 => ?_)
  refine lv_iconst (v := 0) hx hb d_E_commonDivisor_6 (by decide) ?_
  refine lv_istore (lv' := [(8, .int 0), (6, .long x), (4, .long y), (0, .long x), (2, .long y)]) hx hb d_E_commonDivisor_7 hl9 (by decide) rfl (fun ls hl9 => ?_)
  have lp : ∀ (n : Nat) (i : Nat) (d q : Int64), i ≤ 100 → 101 ≤ i + n → cdv d q (100 - i) = cdv y x 100 → ∀ (H : Heap) (locs : List Loc) (ls : Array Slot), va_P (dC, dI) vwCl [] H → va_S A s.heap H locs → lv_has ls 11 [(4, .long d), (6, .long q), (8, .int (nI i))] → W p l e (headSpec w_E_commonDivisor ({ frames := 0, cells := 0, slots := 0, locals := 0 })).room s m ([.long x, .long y] : List Value).toArray below meth c H locs 0 0 (MQ below (va_Ql (fun (r : Int64) (_ : Unit) => r = cdv y x 100) (fun (_ : Unit) (_ : State) => True) A) ([.long x, .long y] : List Value).toArray s 0 0 A) (F0 m 9 ls []) := by
    intro n
    induction n with
    | zero =>
      intro i d q hi hin he
      exact absurd hin (by omega)
    | succ n ih =>
      intro i d q hi hin he H locs ls hP hS hl9
      refine lv_iload hx hb d_E_commonDivisor_9 (lv_at hl9 2 rfl) ?_
      refine lv_bipush (v := 100) hx hb d_E_commonDivisor_11 (by decide) ?_
      refine lv_icmp_ge (tgt := 44) hx hb d_E_commonDivisor_13 (by decide) (fun c1 => ?_) (fun c1 => ?_)
      · have e9 : 100 - i = 0 := by have := ge_of_c (i := i) (b := 100) (by omega) (by decide) c1; omega
        have e8 : d = cdv y x 100 := by rw [← he, e9]; rfl
        refine lv_lload hx hb d_E_commonDivisor_44 (lv_at hl9 0 rfl) ?_
        exact W.lret (v := d) hx hb hr (fun t ht hW => ⟨⟨d, (), rfl, e8, trivial⟩, hS.F ht⟩) hS.2.2 d_E_commonDivisor_46
      · have e9 : i < 100 := lt_of_c (b := 100) (by omega) (by decide) c1
        have e7 : 100 - i = (100 - (i + 1)) + 1 := by omega
        refine lv_lload hx hb d_E_commonDivisor_16 (lv_at hl9 1 rfl) ?_
        refine lv_lconst (v := 0) hx hb d_E_commonDivisor_18 (by decide) ?_
        refine W.lcmp hx hb d_E_commonDivisor_19 ?_
        refine lv_if_eq (tgt := 44) hx hb d_E_commonDivisor_20 (by decide) (fun c2 => ?_) (fun c2 => ?_)
        · have e8 : d = cdv y x 100 := by rw [← he, e7]; show d = if q = 0 then d else _; rw [if_pos ((lg_cmp_eq _ _).mp c2)]
          refine lv_lload hx hb d_E_commonDivisor_44 (lv_at hl9 0 rfl) ?_
          exact W.lret (v := d) hx hb hr (fun t ht hW => ⟨⟨d, (), rfl, e8, trivial⟩, hS.F ht⟩) hS.2.2 d_E_commonDivisor_46
        · have hq : ¬ q = 0 := fun h => c2 ((lg_cmp_eq _ _).mpr h)
          refine lv_lload hx hb d_E_commonDivisor_23 (lv_at hl9 0 rfl) ?_
          refine lv_lload hx hb d_E_commonDivisor_25 (lv_at hl9 1 rfl) ?_
          refine lv_lrem hx hb d_E_commonDivisor_27 (hq) ?_
          refine lv_lstore (lv' := [(9, .long (d - d / q * q)), (4, .long d), (6, .long q), (8, .int (nI i))]) hx hb d_E_commonDivisor_28 hl9 (by decide) rfl (fun ls hl9 => ?_)
          refine lv_lload hx hb d_E_commonDivisor_30 (lv_at hl9 2 rfl) ?_
          refine lv_lstore (lv' := [(4, .long q), (9, .long (d - d / q * q)), (6, .long q), (8, .int (nI i))]) hx hb d_E_commonDivisor_32 hl9 (by decide) rfl (fun ls hl9 => ?_)
          refine lv_lload hx hb d_E_commonDivisor_34 (lv_at hl9 1 rfl) ?_
          refine lv_lstore (lv' := [(6, .long (d - d / q * q)), (4, .long q), (9, .long (d - d / q * q)), (8, .int (nI i))]) hx hb d_E_commonDivisor_36 hl9 (by decide) rfl (fun ls hl9 => ?_)
          refine lv_iinc (v := ((nI i) + 1)) (lv' := [(8, .int ((nI i) + 1)), (6, .long (d - d / q * q)), (4, .long q), (9, .long (d - d / q * q))]) hx hb d_E_commonDivisor_38 hl9 (k := 3) rfl rfl (by decide) rfl (fun ls hl9 => ?_)
          refine lv_goto (tgt := 9) hx hb d_E_commonDivisor_41 (by decide) ?_
          rw [nI_1] at hl9
          exact ih (i + 1) q (d - d / q * q) (by omega) (by omega) (by rw [← he, e7]; show _ = if q = 0 then d else _; rw [if_neg hq]) _ _ ls hP hS (lv_sub hl9 [2, 1, 0] rfl)
  exact lp 101 0 y x (by omega) (by omega) rfl _ _ ls hP hS (lv_sub hl9 [2, 1, 0] rfl)
set_option maxHeartbeats 4000000 in
set_option maxRecDepth 100000 in
theorem c_keepInLowestTerms (l : Launch) (dC : Nat → ClassId) (dI : Nat → Nat → Nat) (cI cJ cZ cB : ClassId) (la : Nat) (ea eb x y g : Int64) (sz : Nat) (hgd : cdv y (labs x) 100 = g) (hg : ¬ g = 0) : Met l y_E_keepInLowestTerms w_E_keepInLowestTerms ({ frames := 1, cells := 0, slots := 0, locals := 30 }) (PC (dC, dI) (TY cI cJ cZ cB) [.ref la, .long x, .long y] [(la, .inr (0, [.long ea, .long eb]))] sz (va_A [(la, .inr (0, [.long ea, .long eb]))] sz)) (va_Qv (fun (_ : Unit) => True) (fun (_ : Unit) (t : State) => va_P (dC, dI) vwCl [(la, .inr (0, [.long (x / g), .long (y / g)]))] t.heap) (va_A [(la, .inr (0, [.long ea, .long eb]))] sz)) 0 0 (va_A [(la, .inr (0, [.long ea, .long eb]))] sz) := by
  refine Met.ofW (cc := b_E_keepInLowestTerms) (maxL := 7) (ret := none) (by decide) rfl ?_
  intro p e s m args below meth c s₁ B hml hv
  obtain ⟨rfl, hsz, hP, hK, hD0, hE⟩ := hv
  have hx := B.exec
  have hb := B.bytes
  have hr := B.returns
  have hG : ∀ w ∈ GG, w.before _ s = true := fun w h => atoms_spec (ws := w_E_keepInLowestTerms) B.pre w (List.mem_cons_of_mem _ h)
  have hown : s.vm.findClass R_E = some m.cls := findClass_of_methodNamed B.named
  have hlocks := B.notSynchronized
  subst hsz
  have hD := hD0.self (sz := s.heap.size)
  generalize hAe : (va_A [(la, .inr (0, [.long ea, .long eb]))] s.heap.size) = A at hD hE ⊢
  have hA : ∀ q : Nat, s.heap.size ≤ q → A q := fun q h => by rw [← hAe]; exact Or.inr h
  have hS : va_S A s.heap s.heap [] := va_S.rf
  obtain ⟨H, hH⟩ : ∃ z, z = s.heap := ⟨_, rfl⟩
  rw [← hH] at hP
  have hS : va_S A s.heap H [] := by rw [hH]; exact hS
  rw [← hH]
  have hl9 := lv_entry ([.ref la, .long x, .long y]) (n := 7) (Nat.le_of_ble_eq_true rfl)
  rw [lg_entry_eq]
  generalize (lg_sl ([.ref la, .long x, .long y]) ++ List.replicate (7 - (lg_sl ([.ref la, .long x, .long y])).length) Slot.unset).toArray = ls at hl9 ⊢
  have hl9 : lv_has ls 7 [(0, .ref la), (1, .long x), (3, .long y)] := hl9
  refine lv_lload_n hx hb d_E_keepInLowestTerms_0 rfl (lv_at hl9 1 rfl) ?_
  refine va_mabs_long hx hb (hml.trans hl9.1.symm) hown (hG _ k_353) (hG _ k_354) (hG _ k_10) (hG _ k_355) (Nat.le_of_ble_eq_true rfl) (Nat.le_of_ble_eq_true rfl) (Nat.le_of_ble_eq_true rfl) (Nat.le_of_ble_eq_true rfl) d_E_keepInLowestTerms_1 ?_
  refine W.eq (g2 := F0 m 4 ls [.long (labs x)]) rfl ?_
  refine lv_lload_n hx hb d_E_keepInLowestTerms_4 rfl (lv_at hl9 2 rfl) ?_
  have hPc := hP.sub (ws' := []) [] rfl
  have hDc := hD.sub (ws' := []) [] (by decide) rfl
  have hFc := va_A_nil hA hS.1
  refine va_calll (va_runS (As := [.long (labs x), .long y]) (rest := []) ⟨hx, hb, hml, hown, hG⟩ (c_commonDivisor l dC dI cI cJ cZ cB (labs x) y H.size ) (cwS 2 hG g_E_34 rfl rfl rfl (by decide +kernel) ⟨Nat.le_of_ble_eq_true rfl, Nat.le_of_ble_eq_true rfl⟩) ⟨PC.blind, PC.of hPc hK hDc hE hS hFc⟩ rfl rfl hl9.1 rfl (lv_room (Nat.le_of_ble_eq_true rfl)) d_E_keepInLowestTerms_5 ⟨by first | exact Nat.le_of_ble_eq_true rfl | omega, by first | exact Nat.le_of_ble_eq_true rfl | omega⟩) hS (fun q _ h => hFc q h) hFc (fun r2 u t H1 locs ht hvm hw hB hz1 hk1 hS => ?_)
  have hP := wp_kept hP hk1
  have hw : r2 = cdv y (labs x) 100 := hw
  subst hw
  rw [hgd]
  refine lv_lstore (lv' := [(5, .long g), (0, .ref la), (1, .long x), (3, .long y)]) hx hb d_E_keepInLowestTerms_8 hl9 (by decide) rfl (fun ls hl9 => ?_)
  refine lv_aload_n hx hb d_E_keepInLowestTerms_10 rfl (lv_at hl9 1 rfl) ?_
  refine lv_lload_n hx hb d_E_keepInLowestTerms_11 rfl (lv_at hl9 2 rfl) ?_
  refine lv_lload hx hb d_E_keepInLowestTerms_12 (lv_at hl9 0 rfl) ?_
  refine lv_ldiv hx hb d_E_keepInLowestTerms_14 (hg) ?_
  refine va_put (D := (dC, dI)) (ci := 0) (v := .long (x / g)) (ty := .long) (C := R_E) (T := F_E) (N := 2) hx hb hG i_E t_E t_E_ok n_E hown hK hP hD hS 0 rfl rfl 0 (by decide) (hG _ k_170) (fun _ h9 => h9) rfl (by decide +kernel) rfl rfl (Nat.le_of_ble_eq_true rfl) d_E_keepInLowestTerms_15 (fun H locs hP hD hS => ?_)
  have hP : va_P (dC, dI) vwCl [(la, .inr (0, [.long (x / g), .long eb]))] H := hP
  have hD : va_D A [(la, .inr (0, [.long (x / g), .long eb]))] := hD
  refine lv_aload_n hx hb d_E_keepInLowestTerms_18 rfl (lv_at hl9 1 rfl) ?_
  refine lv_lload_n hx hb d_E_keepInLowestTerms_19 rfl (lv_at hl9 3 rfl) ?_
  refine lv_lload hx hb d_E_keepInLowestTerms_20 (lv_at hl9 0 rfl) ?_
  refine lv_ldiv hx hb d_E_keepInLowestTerms_22 (hg) ?_
  refine va_put (D := (dC, dI)) (ci := 0) (v := .long (y / g)) (ty := .long) (C := R_E) (T := F_E) (N := 2) hx hb hG i_E t_E t_E_ok n_E hown hK hP hD hS 0 rfl rfl 1 (by decide) (hG _ k_172) (fun _ h9 => h9) rfl (by decide +kernel) rfl rfl (Nat.le_of_ble_eq_true rfl) d_E_keepInLowestTerms_23 (fun H locs hP hD hS => ?_)
  have hP : va_P (dC, dI) vwCl [(la, .inr (0, [.long (x / g), .long (y / g)]))] H := hP
  have hD : va_D A [(la, .inr (0, [.long (x / g), .long (y / g)]))] := hD
  exact W.vret hx hb hr (fun t ht hW => ⟨⟨(), rfl, trivial, by have h9 := hP; rw [← ht] at h9; exact h9⟩, hS.F ht⟩) hS.2.2 d_E_keepInLowestTerms_26
set_option maxHeartbeats 4000000 in
set_option maxRecDepth 100000 in
theorem c_millionths (l : Launch) (dC : Nat → ClassId) (dI : Nat → Nat → Nat) (cI cJ cZ cB : ClassId) (la : Nat) (ea eb : Int64) (sz : Nat) (hne : ¬ eb = 0) : Met l y_E_millionths w_E_millionths ({ frames := 0, cells := 0, slots := 0, locals := 0 }) (PC (dC, dI) (TY cI cJ cZ cB) [.ref la] [(la, .inr (0, [.long ea, .long eb]))] sz (va_A [] sz)) (va_Ql (fun (r : Int64) (_ : Unit) => r = mill ea eb) (fun (_ : Unit) (_ : State) => True) (va_A [] sz)) 0 0 (va_A [] sz) := by
  refine Met.ofW (cc := b_E_millionths) (maxL := 1) (ret := (some .long)) (by decide) rfl ?_
  intro p e s m args below meth c s₁ B hml hv
  obtain ⟨rfl, hsz, hP, hK, hD0, hE⟩ := hv
  have hx := B.exec
  have hb := B.bytes
  have hr := B.returns
  have hG : ∀ w ∈ GG, w.before _ s = true := fun w h => atoms_spec (ws := w_E_millionths) B.pre w (List.mem_cons_of_mem _ h)
  have hown : s.vm.findClass R_E = some m.cls := findClass_of_methodNamed B.named
  have hlocks := B.notSynchronized
  subst hsz
  generalize hAe : (va_A [] s.heap.size) = A at hE ⊢
  have hA : ∀ q : Nat, s.heap.size ≤ q → A q := fun q h => by rw [← hAe]; exact Or.inr h
  have hS : va_S A s.heap s.heap [] := va_S.rf
  have hD := hD0
  obtain ⟨H, hH⟩ : ∃ z, z = s.heap := ⟨_, rfl⟩
  rw [← hH] at hP
  have hS : va_S A s.heap H [] := by rw [hH]; exact hS
  rw [← hH]
  have hl9 := lv_entry ([.ref la]) (n := 1) (Nat.le_of_ble_eq_true rfl)
  rw [lg_entry_eq]
  generalize (lg_sl ([.ref la]) ++ List.replicate (1 - (lg_sl ([.ref la])).length) Slot.unset).toArray = ls at hl9 ⊢
  have hl9 : lv_has ls 1 [(0, .ref la)] := hl9
  refine lv_aload_n hx hb d_E_millionths_0 rfl (lv_at hl9 0 rfl) ?_
  refine va_get (D := (dC, dI)) (ci := 0) (v := .long ea) (C := R_E) (T := F_E) (N := 2) hx hb hG i_E hown hK hP 0 rfl rfl 0 (by decide) (hG _ k_170) (fun _ h9 => h9) rfl d_E_millionths_1 ?_
  refine lv_aload_n hx hb d_E_millionths_4 rfl (lv_at hl9 0 rfl) ?_
  refine va_get (D := (dC, dI)) (ci := 0) (v := .long eb) (C := R_E) (T := F_E) (N := 2) hx hb hG i_E hown hK hP 0 rfl rfl 1 (by decide) (hG _ k_172) (fun _ h9 => h9) rfl d_E_millionths_5 ?_
  refine lv_ldiv hx hb d_E_millionths_8 (hne) ?_
  refine lv_ldc2 (v := 1000000) hx hb hown (hG _ k_364) d_E_millionths_9 ?_
  refine lv_lmul hx hb d_E_millionths_12 ?_
  refine lv_aload_n hx hb d_E_millionths_13 rfl (lv_at hl9 0 rfl) ?_
  refine va_get (D := (dC, dI)) (ci := 0) (v := .long ea) (C := R_E) (T := F_E) (N := 2) hx hb hG i_E hown hK hP 0 rfl rfl 0 (by decide) (hG _ k_170) (fun _ h9 => h9) rfl d_E_millionths_14 ?_
  refine lv_aload_n hx hb d_E_millionths_17 rfl (lv_at hl9 0 rfl) ?_
  refine va_get (D := (dC, dI)) (ci := 0) (v := .long eb) (C := R_E) (T := F_E) (N := 2) hx hb hG i_E hown hK hP 0 rfl rfl 1 (by decide) (hG _ k_172) (fun _ h9 => h9) rfl d_E_millionths_18 ?_
  refine lv_lrem hx hb d_E_millionths_21 (hne) ?_
  refine lv_ldc2 (v := 1000000) hx hb hown (hG _ k_364) d_E_millionths_22 ?_
  refine lv_lmul hx hb d_E_millionths_25 ?_
  refine lv_aload_n hx hb d_E_millionths_26 rfl (lv_at hl9 0 rfl) ?_
  refine va_get (D := (dC, dI)) (ci := 0) (v := .long eb) (C := R_E) (T := F_E) (N := 2) hx hb hG i_E hown hK hP 0 rfl rfl 1 (by decide) (hG _ k_172) (fun _ h9 => h9) rfl d_E_millionths_27 ?_
  refine lv_ldiv hx hb d_E_millionths_30 (hne) ?_
  refine lv_ladd hx hb d_E_millionths_31 ?_
  exact W.lret (v := (((ea / eb) * 1000000) + (((ea - ea / eb * eb) * 1000000) / eb))) hx hb hr (fun t ht hW => ⟨⟨(((ea / eb) * 1000000) + (((ea - ea / eb * eb) * 1000000) / eb)), (), rfl, rfl, trivial⟩, hS.F ht⟩) hS.2.2 d_E_millionths_32
set_option maxHeartbeats 4000000 in
set_option maxRecDepth 100000 in
theorem c_wholeMinutes (l : Launch) (dC : Nat → ClassId) (dI : Nat → Nat → Nat) (cI cJ cZ cB : ClassId) (la : Nat) (ea eb : Int64) (sz : Nat) (hne : ¬ eb = 0) : Met l y_E_wholeMinutes w_E_wholeMinutes ({ frames := 0, cells := 0, slots := 0, locals := 0 }) (PC (dC, dI) (TY cI cJ cZ cB) [.ref la] [(la, .inr (0, [.long ea, .long eb]))] sz (va_A [] sz)) (va_Qi (fun (r : Int32) (_ : Unit) => r = (ea / eb).toInt32) (fun (_ : Unit) (_ : State) => True) (va_A [] sz)) 0 0 (va_A [] sz) := by
  refine Met.ofW (cc := b_E_wholeMinutes) (maxL := 1) (ret := (some .int)) (by decide) rfl ?_
  intro p e s m args below meth c s₁ B hml hv
  obtain ⟨rfl, hsz, hP, hK, hD0, hE⟩ := hv
  have hx := B.exec
  have hb := B.bytes
  have hr := B.returns
  have hG : ∀ w ∈ GG, w.before _ s = true := fun w h => atoms_spec (ws := w_E_wholeMinutes) B.pre w (List.mem_cons_of_mem _ h)
  have hown : s.vm.findClass R_E = some m.cls := findClass_of_methodNamed B.named
  have hlocks := B.notSynchronized
  subst hsz
  generalize hAe : (va_A [] s.heap.size) = A at hE ⊢
  have hA : ∀ q : Nat, s.heap.size ≤ q → A q := fun q h => by rw [← hAe]; exact Or.inr h
  have hS : va_S A s.heap s.heap [] := va_S.rf
  have hD := hD0
  obtain ⟨H, hH⟩ : ∃ z, z = s.heap := ⟨_, rfl⟩
  rw [← hH] at hP
  have hS : va_S A s.heap H [] := by rw [hH]; exact hS
  rw [← hH]
  have hl9 := lv_entry ([.ref la]) (n := 1) (Nat.le_of_ble_eq_true rfl)
  rw [lg_entry_eq]
  generalize (lg_sl ([.ref la]) ++ List.replicate (1 - (lg_sl ([.ref la])).length) Slot.unset).toArray = ls at hl9 ⊢
  have hl9 : lv_has ls 1 [(0, .ref la)] := hl9
  refine lv_aload_n hx hb d_E_wholeMinutes_0 rfl (lv_at hl9 0 rfl) ?_
  refine va_get (D := (dC, dI)) (ci := 0) (v := .long ea) (C := R_E) (T := F_E) (N := 2) hx hb hG i_E hown hK hP 0 rfl rfl 0 (by decide) (hG _ k_170) (fun _ h9 => h9) rfl d_E_wholeMinutes_1 ?_
  refine lv_aload_n hx hb d_E_wholeMinutes_4 rfl (lv_at hl9 0 rfl) ?_
  refine va_get (D := (dC, dI)) (ci := 0) (v := .long eb) (C := R_E) (T := F_E) (N := 2) hx hb hG i_E hown hK hP 0 rfl rfl 1 (by decide) (hG _ k_172) (fun _ h9 => h9) rfl d_E_wholeMinutes_5 ?_
  refine lv_ldiv hx hb d_E_wholeMinutes_8 (hne) ?_
  refine lv_l2i hx hb d_E_wholeMinutes_9 rfl ?_
  exact W.iret (v := (ea / eb).toInt32) hx hb hr (fun t ht hW => ⟨⟨(ea / eb).toInt32, (), rfl, rfl, trivial⟩, hS.F ht⟩) hS.2.2 d_E_wholeMinutes_10
set_option maxHeartbeats 4000000 in
set_option maxRecDepth 100000 in
theorem c_learn1 (l : Launch) (dC : Nat → ClassId) (dI : Nat → Nat → Nat) (cI cJ cZ cB : ClassId) (la : Nat) (ea eb : Int64) (mn fa fb : Int32) (x1 y1 g1 a1 b1 : Int64) (sz : Nat) (hx1 : ea * (fb - fa).toInt64 + mn.toInt64 * eb * fa.toInt64 = x1) (hy1 : eb * fb.toInt64 = y1) (hg1 : cdv y1 (labs x1) 100 = g1) (hn1 : ¬ g1 = 0) (ha1 : x1 / g1 = a1) (hb1 : y1 / g1 = b1) (hbig : b1 ≤ 1000000000) : Met l y_E_learn w_E_learn ({ frames := 2, cells := 0, slots := 0, locals := 56 }) (PC (dC, dI) (TY cI cJ cZ cB) [.ref la, .int mn, .int fa, .int fb] [(la, .inr (0, [.long ea, .long eb]))] sz (va_A [(la, .inr (0, [.long ea, .long eb]))] sz)) (va_Qv (fun (_ : Unit) => True) (fun (_ : Unit) (t : State) => va_P (dC, dI) vwCl [(la, .inr (0, [.long a1, .long b1]))] t.heap) (va_A [(la, .inr (0, [.long ea, .long eb]))] sz)) 0 0 (va_A [(la, .inr (0, [.long ea, .long eb]))] sz) := by
  refine Met.ofW (cc := b_E_learn) (maxL := 8) (ret := none) (by decide) rfl ?_
  intro p e s m args below meth c s₁ B hml hv
  obtain ⟨rfl, hsz, hP, hK, hD0, hE⟩ := hv
  have hx := B.exec
  have hb := B.bytes
  have hr := B.returns
  have hG : ∀ w ∈ GG, w.before _ s = true := fun w h => atoms_spec (ws := w_E_learn) B.pre w (List.mem_cons_of_mem _ h)
  have hown : s.vm.findClass R_E = some m.cls := findClass_of_methodNamed B.named
  have hlocks := B.notSynchronized
  subst hsz
  have hD := hD0.self (sz := s.heap.size)
  generalize hAe : (va_A [(la, .inr (0, [.long ea, .long eb]))] s.heap.size) = A at hD hE ⊢
  have hA : ∀ q : Nat, s.heap.size ≤ q → A q := fun q h => by rw [← hAe]; exact Or.inr h
  have hS : va_S A s.heap s.heap [] := va_S.rf
  obtain ⟨H, hH⟩ : ∃ z, z = s.heap := ⟨_, rfl⟩
  rw [← hH] at hP
  have hS : va_S A s.heap H [] := by rw [hH]; exact hS
  rw [← hH]
  have hl9 := lv_entry ([.ref la, .int mn, .int fa, .int fb]) (n := 8) (Nat.le_of_ble_eq_true rfl)
  rw [lg_entry_eq]
  generalize (lg_sl ([.ref la, .int mn, .int fa, .int fb]) ++ List.replicate (8 - (lg_sl ([.ref la, .int mn, .int fa, .int fb])).length) Slot.unset).toArray = ls at hl9 ⊢
  have hl9 : lv_has ls 8 [(0, .ref la), (1, .int mn), (2, .int fa), (3, .int fb)] := hl9
  refine lv_aload_n hx hb d_E_learn_0 rfl (lv_at hl9 0 rfl) ?_
  refine va_get (D := (dC, dI)) (ci := 0) (v := .long ea) (C := R_E) (T := F_E) (N := 2) hx hb hG i_E hown hK hP 0 rfl rfl 0 (by decide) (hG _ k_170) (fun _ h9 => h9) rfl d_E_learn_1 ?_
  refine lv_iload_n hx hb d_E_learn_4 rfl (lv_at hl9 3 rfl) ?_
  refine lv_iload_n hx hb d_E_learn_5 rfl (lv_at hl9 2 rfl) ?_
  refine lv_isub hx hb d_E_learn_6 ?_
  refine lv_i2l hx hb d_E_learn_7 rfl ?_
  refine lv_lmul hx hb d_E_learn_8 ?_
  refine lv_lstore (lv' := [(4, .long (ea * ((fb - fa).toInt64))), (0, .ref la), (1, .int mn), (2, .int fa), (3, .int fb)]) hx hb d_E_learn_9 hl9 (by decide) rfl (fun ls hl9 => ?_)
  refine lv_iload_n hx hb d_E_learn_11 rfl (lv_at hl9 2 rfl) ?_
  refine lv_i2l hx hb d_E_learn_12 rfl ?_
  refine lv_aload_n hx hb d_E_learn_13 rfl (lv_at hl9 1 rfl) ?_
  refine va_get (D := (dC, dI)) (ci := 0) (v := .long eb) (C := R_E) (T := F_E) (N := 2) hx hb hG i_E hown hK hP 0 rfl rfl 1 (by decide) (hG _ k_172) (fun _ h9 => h9) rfl d_E_learn_14 ?_
  refine lv_lmul hx hb d_E_learn_17 ?_
  refine lv_iload_n hx hb d_E_learn_18 rfl (lv_at hl9 3 rfl) ?_
  refine lv_i2l hx hb d_E_learn_19 rfl ?_
  refine lv_lmul hx hb d_E_learn_20 ?_
  refine lv_lstore (lv' := [(6, .long ((mn.toInt64 * eb) * fa.toInt64)), (4, .long (ea * ((fb - fa).toInt64))), (0, .ref la), (1, .int mn), (2, .int fa), (3, .int fb)]) hx hb d_E_learn_21 hl9 (by decide) rfl (fun ls hl9 => ?_)
  refine lv_aload_n hx hb d_E_learn_23 rfl (lv_at hl9 2 rfl) ?_
  refine lv_lload hx hb d_E_learn_24 (lv_at hl9 1 rfl) ?_
  refine lv_lload hx hb d_E_learn_26 (lv_at hl9 0 rfl) ?_
  refine lv_ladd hx hb d_E_learn_28 ?_
  refine lv_aload_n hx hb d_E_learn_29 rfl (lv_at hl9 2 rfl) ?_
  refine va_get (D := (dC, dI)) (ci := 0) (v := .long eb) (C := R_E) (T := F_E) (N := 2) hx hb hG i_E hown hK hP 0 rfl rfl 1 (by decide) (hG _ k_172) (fun _ h9 => h9) rfl d_E_learn_30 ?_
  refine lv_iload_n hx hb d_E_learn_33 rfl (lv_at hl9 5 rfl) ?_
  refine lv_i2l hx hb d_E_learn_34 rfl ?_
  refine lv_lmul hx hb d_E_learn_35 ?_
  rw [hx1, hy1]
  have hPc := hP.sub (ws' := [(la, .inr (0, [.long ea, .long eb]))]) [0] rfl
  have hDc := hD.sub (ws' := [(la, .inr (0, [.long ea, .long eb]))]) [0] (by decide) rfl
  have hFc := va_free (wc := [(la, .inr (0, [.long ea, .long eb]))]) hD hS hA [0] rfl
  refine va_callv (va_runV (C := R_E) (As := [.long x1, .long y1]) (rest := []) ⟨hx, hb, hml, hown, hG⟩ (c_keepInLowestTerms l dC dI cI cJ cZ cB la ea eb x1 y1 g1 H.size hg1 hn1) (cwV 2 hG g_E_16 rfl rfl rfl (by decide +kernel) ⟨Nat.le_of_ble_eq_true rfl, Nat.le_of_ble_eq_true rfl⟩) ⟨PC.blind, va_recv hK hP (ci := 0) (q0 := 0) rfl rfl, PC.of hPc hK hDc hE hS hFc⟩ rfl rfl hl9.1 rfl (lv_room (Nat.le_of_ble_eq_true rfl)) d_E_learn_36 ⟨by first | exact Nat.le_of_ble_eq_true rfl | omega, by first | exact Nat.le_of_ble_eq_true rfl | omega⟩) hS (fun q _ h => hFc q h) hFc (fun u t H1 locs ht hvm hw hB hz1 hk1 hS => ?_)
  rw [ht] at hB
  obtain ⟨hP, hD⟩ := jset (wc := [(la, .inr (0, [.long ea, .long eb]))]) (w1 := [(la, .inr (0, [.long (x1 / g1), .long (y1 / g1)]))]) [0] rfl rfl hP hD hk1 hB
  have hP : va_P (dC, dI) vwCl [(la, .inr (0, [.long (x1 / g1), .long (y1 / g1)]))] H1 := hP
  have hD : va_D A [(la, .inr (0, [.long (x1 / g1), .long (y1 / g1)]))] := hD
  rw [ha1, hb1] at hP hD
  refine lv_aload_n hx hb d_E_learn_39 rfl (lv_at hl9 2 rfl) ?_
  refine va_get (D := (dC, dI)) (ci := 0) (v := .long b1) (C := R_E) (T := F_E) (N := 2) hx hb hG i_E hown hK hP 0 rfl rfl 1 (by decide) (hG _ k_172) (fun _ h9 => h9) rfl d_E_learn_40 ?_
  refine lv_ldc2 (v := 1000000000) hx hb hown (hG _ k_359) d_E_learn_43 ?_
  refine W.lcmp hx hb d_E_learn_46 ?_
  refine lv_if_le (tgt := 61) hx hb d_E_learn_47 (by decide) (fun c1 => ?_) (fun c1 => ?_)
  · exact W.vret hx hb hr (fun t ht hW => ⟨⟨(), rfl, trivial, by have h9 := hP; rw [← ht] at h9; exact h9⟩, hS.F ht⟩) hS.2.2 d_E_learn_61
  · exact absurd ((lg_cmp_le _ _).mpr hbig) c1
set_option maxHeartbeats 4000000 in
set_option maxRecDepth 100000 in
theorem c_learn2 (l : Launch) (dC : Nat → ClassId) (dI : Nat → Nat → Nat) (cI cJ cZ cB : ClassId) (la : Nat) (ea eb : Int64) (mn fa fb : Int32) (x1 y1 g1 a1 b1 : Int64) (x2 g2 : Int64) (sz : Nat) (hx1 : ea * (fb - fa).toInt64 + mn.toInt64 * eb * fa.toInt64 = x1) (hy1 : eb * fb.toInt64 = y1) (hg1 : cdv y1 (labs x1) 100 = g1) (hn1 : ¬ g1 = 0) (ha1 : x1 / g1 = a1) (hb1 : y1 / g1 = b1) (hbig : ¬ b1 ≤ 1000000000) (hb0 : ¬ b1 = 0) (hx2 : mill a1 b1 = x2) (hg2 : cdv 1000000 (labs x2) 100 = g2) (hn2 : ¬ g2 = 0) : Met l y_E_learn w_E_learn ({ frames := 2, cells := 0, slots := 0, locals := 56 }) (PC (dC, dI) (TY cI cJ cZ cB) [.ref la, .int mn, .int fa, .int fb] [(la, .inr (0, [.long ea, .long eb]))] sz (va_A [(la, .inr (0, [.long ea, .long eb]))] sz)) (va_Qv (fun (_ : Unit) => True) (fun (_ : Unit) (t : State) => va_P (dC, dI) vwCl [(la, .inr (0, [.long (x2 / g2), .long (1000000 / g2)]))] t.heap) (va_A [(la, .inr (0, [.long ea, .long eb]))] sz)) 0 0 (va_A [(la, .inr (0, [.long ea, .long eb]))] sz) := by
  refine Met.ofW (cc := b_E_learn) (maxL := 8) (ret := none) (by decide) rfl ?_
  intro p e s m args below meth c s₁ B hml hv
  obtain ⟨rfl, hsz, hP, hK, hD0, hE⟩ := hv
  have hx := B.exec
  have hb := B.bytes
  have hr := B.returns
  have hG : ∀ w ∈ GG, w.before _ s = true := fun w h => atoms_spec (ws := w_E_learn) B.pre w (List.mem_cons_of_mem _ h)
  have hown : s.vm.findClass R_E = some m.cls := findClass_of_methodNamed B.named
  have hlocks := B.notSynchronized
  subst hsz
  have hD := hD0.self (sz := s.heap.size)
  generalize hAe : (va_A [(la, .inr (0, [.long ea, .long eb]))] s.heap.size) = A at hD hE ⊢
  have hA : ∀ q : Nat, s.heap.size ≤ q → A q := fun q h => by rw [← hAe]; exact Or.inr h
  have hS : va_S A s.heap s.heap [] := va_S.rf
  obtain ⟨H, hH⟩ : ∃ z, z = s.heap := ⟨_, rfl⟩
  rw [← hH] at hP
  have hS : va_S A s.heap H [] := by rw [hH]; exact hS
  rw [← hH]
  have hl9 := lv_entry ([.ref la, .int mn, .int fa, .int fb]) (n := 8) (Nat.le_of_ble_eq_true rfl)
  rw [lg_entry_eq]
  generalize (lg_sl ([.ref la, .int mn, .int fa, .int fb]) ++ List.replicate (8 - (lg_sl ([.ref la, .int mn, .int fa, .int fb])).length) Slot.unset).toArray = ls at hl9 ⊢
  have hl9 : lv_has ls 8 [(0, .ref la), (1, .int mn), (2, .int fa), (3, .int fb)] := hl9
  refine lv_aload_n hx hb d_E_learn_0 rfl (lv_at hl9 0 rfl) ?_
  refine va_get (D := (dC, dI)) (ci := 0) (v := .long ea) (C := R_E) (T := F_E) (N := 2) hx hb hG i_E hown hK hP 0 rfl rfl 0 (by decide) (hG _ k_170) (fun _ h9 => h9) rfl d_E_learn_1 ?_
  refine lv_iload_n hx hb d_E_learn_4 rfl (lv_at hl9 3 rfl) ?_
  refine lv_iload_n hx hb d_E_learn_5 rfl (lv_at hl9 2 rfl) ?_
  refine lv_isub hx hb d_E_learn_6 ?_
  refine lv_i2l hx hb d_E_learn_7 rfl ?_
  refine lv_lmul hx hb d_E_learn_8 ?_
  refine lv_lstore (lv' := [(4, .long (ea * ((fb - fa).toInt64))), (0, .ref la), (1, .int mn), (2, .int fa), (3, .int fb)]) hx hb d_E_learn_9 hl9 (by decide) rfl (fun ls hl9 => ?_)
  refine lv_iload_n hx hb d_E_learn_11 rfl (lv_at hl9 2 rfl) ?_
  refine lv_i2l hx hb d_E_learn_12 rfl ?_
  refine lv_aload_n hx hb d_E_learn_13 rfl (lv_at hl9 1 rfl) ?_
  refine va_get (D := (dC, dI)) (ci := 0) (v := .long eb) (C := R_E) (T := F_E) (N := 2) hx hb hG i_E hown hK hP 0 rfl rfl 1 (by decide) (hG _ k_172) (fun _ h9 => h9) rfl d_E_learn_14 ?_
  refine lv_lmul hx hb d_E_learn_17 ?_
  refine lv_iload_n hx hb d_E_learn_18 rfl (lv_at hl9 3 rfl) ?_
  refine lv_i2l hx hb d_E_learn_19 rfl ?_
  refine lv_lmul hx hb d_E_learn_20 ?_
  refine lv_lstore (lv' := [(6, .long ((mn.toInt64 * eb) * fa.toInt64)), (4, .long (ea * ((fb - fa).toInt64))), (0, .ref la), (1, .int mn), (2, .int fa), (3, .int fb)]) hx hb d_E_learn_21 hl9 (by decide) rfl (fun ls hl9 => ?_)
  refine lv_aload_n hx hb d_E_learn_23 rfl (lv_at hl9 2 rfl) ?_
  refine lv_lload hx hb d_E_learn_24 (lv_at hl9 1 rfl) ?_
  refine lv_lload hx hb d_E_learn_26 (lv_at hl9 0 rfl) ?_
  refine lv_ladd hx hb d_E_learn_28 ?_
  refine lv_aload_n hx hb d_E_learn_29 rfl (lv_at hl9 2 rfl) ?_
  refine va_get (D := (dC, dI)) (ci := 0) (v := .long eb) (C := R_E) (T := F_E) (N := 2) hx hb hG i_E hown hK hP 0 rfl rfl 1 (by decide) (hG _ k_172) (fun _ h9 => h9) rfl d_E_learn_30 ?_
  refine lv_iload_n hx hb d_E_learn_33 rfl (lv_at hl9 5 rfl) ?_
  refine lv_i2l hx hb d_E_learn_34 rfl ?_
  refine lv_lmul hx hb d_E_learn_35 ?_
  rw [hx1, hy1]
  have hPc := hP.sub (ws' := [(la, .inr (0, [.long ea, .long eb]))]) [0] rfl
  have hDc := hD.sub (ws' := [(la, .inr (0, [.long ea, .long eb]))]) [0] (by decide) rfl
  have hFc := va_free (wc := [(la, .inr (0, [.long ea, .long eb]))]) hD hS hA [0] rfl
  refine va_callv (va_runV (C := R_E) (As := [.long x1, .long y1]) (rest := []) ⟨hx, hb, hml, hown, hG⟩ (c_keepInLowestTerms l dC dI cI cJ cZ cB la ea eb x1 y1 g1 H.size hg1 hn1) (cwV 2 hG g_E_16 rfl rfl rfl (by decide +kernel) ⟨Nat.le_of_ble_eq_true rfl, Nat.le_of_ble_eq_true rfl⟩) ⟨PC.blind, va_recv hK hP (ci := 0) (q0 := 0) rfl rfl, PC.of hPc hK hDc hE hS hFc⟩ rfl rfl hl9.1 rfl (lv_room (Nat.le_of_ble_eq_true rfl)) d_E_learn_36 ⟨by first | exact Nat.le_of_ble_eq_true rfl | omega, by first | exact Nat.le_of_ble_eq_true rfl | omega⟩) hS (fun q _ h => hFc q h) hFc (fun u t H1 locs ht hvm hw hB hz1 hk1 hS => ?_)
  rw [ht] at hB
  obtain ⟨hP, hD⟩ := jset (wc := [(la, .inr (0, [.long ea, .long eb]))]) (w1 := [(la, .inr (0, [.long (x1 / g1), .long (y1 / g1)]))]) [0] rfl rfl hP hD hk1 hB
  have hP : va_P (dC, dI) vwCl [(la, .inr (0, [.long (x1 / g1), .long (y1 / g1)]))] H1 := hP
  have hD : va_D A [(la, .inr (0, [.long (x1 / g1), .long (y1 / g1)]))] := hD
  rw [ha1, hb1] at hP hD
  refine lv_aload_n hx hb d_E_learn_39 rfl (lv_at hl9 2 rfl) ?_
  refine va_get (D := (dC, dI)) (ci := 0) (v := .long b1) (C := R_E) (T := F_E) (N := 2) hx hb hG i_E hown hK hP 0 rfl rfl 1 (by decide) (hG _ k_172) (fun _ h9 => h9) rfl d_E_learn_40 ?_
  refine lv_ldc2 (v := 1000000000) hx hb hown (hG _ k_359) d_E_learn_43 ?_
  refine W.lcmp hx hb d_E_learn_46 ?_
  refine lv_if_le (tgt := 61) hx hb d_E_learn_47 (by decide) (fun c1 => ?_) (fun c1 => ?_)
  · exact absurd ((lg_cmp_le _ _).mp c1) hbig
  · refine lv_aload_n hx hb d_E_learn_50 rfl (lv_at hl9 2 rfl) ?_
    refine lv_aload_n hx hb d_E_learn_51 rfl (lv_at hl9 2 rfl) ?_
    have hPc := hP.sub (ws' := [(la, .inr (0, [.long a1, .long b1]))]) [0] rfl
    have hDc := hD.sub (ws' := [(la, .inr (0, [.long a1, .long b1]))]) [0] (by decide) rfl
    have hFc := va_A_nil hA hS.1
    refine va_calll (va_runV (C := R_E) (As := []) (rest := [.ref la]) ⟨hx, hb, hml, hown, hG⟩ (c_millionths l dC dI cI cJ cZ cB la a1 b1 H1.size hb0) (cwV 0 hG g_E_22 rfl rfl rfl (by decide +kernel) ⟨Nat.le_of_ble_eq_true rfl, Nat.le_of_ble_eq_true rfl⟩) ⟨PC.blind, va_recv hK hP (ci := 0) (q0 := 0) rfl rfl, PC.of hPc hK hDc hE hS hFc⟩ rfl rfl hl9.1 rfl (lv_room (Nat.le_of_ble_eq_true rfl)) d_E_learn_52 ⟨by first | exact Nat.le_of_ble_eq_true rfl | omega, by first | exact Nat.le_of_ble_eq_true rfl | omega⟩) hS (fun q _ h => hFc q h) hFc (fun r4 u t H3 locs ht hvm hw hB hz1 hk1 hS => ?_)
    have hP := wp_kept hP hk1
    have hw : r4 = mill a1 b1 := hw
    subst hw
    rw [hx2]
    refine lv_ldc2 (v := 1000000) hx hb hown (hG _ k_364) d_E_learn_55 ?_
    have hPc := hP.sub (ws' := [(la, .inr (0, [.long a1, .long b1]))]) [0] rfl
    have hDc := hD.sub (ws' := [(la, .inr (0, [.long a1, .long b1]))]) [0] (by decide) rfl
    have hFc := va_free (wc := [(la, .inr (0, [.long a1, .long b1]))]) hD hS hA [0] rfl
    refine va_callv (va_runV (C := R_E) (As := [.long x2, .long 1000000]) (rest := []) ⟨hx, hb, hml, hown, hG⟩ (c_keepInLowestTerms l dC dI cI cJ cZ cB la a1 b1 x2 1000000 g2 H3.size hg2 hn2) (cwV 2 hG g_E_16 rfl rfl rfl (by decide +kernel) ⟨Nat.le_of_ble_eq_true rfl, Nat.le_of_ble_eq_true rfl⟩) ⟨PC.blind, va_recv hK hP (ci := 0) (q0 := 0) rfl rfl, PC.of hPc hK hDc hE hS hFc⟩ rfl rfl hl9.1 rfl (lv_room (Nat.le_of_ble_eq_true rfl)) d_E_learn_58 ⟨by first | exact Nat.le_of_ble_eq_true rfl | omega, by first | exact Nat.le_of_ble_eq_true rfl | omega⟩) hS (fun q _ h => hFc q h) hFc (fun u t H5 locs ht hvm hw hB hz1 hk1 hS => ?_)
    rw [ht] at hB
    obtain ⟨hP, hD⟩ := jset (wc := [(la, .inr (0, [.long a1, .long b1]))]) (w1 := [(la, .inr (0, [.long (x2 / g2), .long (1000000 / g2)]))]) [0] rfl rfl hP hD hk1 hB
    have hP : va_P (dC, dI) vwCl [(la, .inr (0, [.long (x2 / g2), .long (1000000 / g2)]))] H5 := hP
    have hD : va_D A [(la, .inr (0, [.long (x2 / g2), .long (1000000 / g2)]))] := hD
    exact W.vret hx hb hr (fun t ht hW => ⟨⟨(), rfl, trivial, by have h9 := hP; rw [← ht] at h9; exact h9⟩, hS.F ht⟩) hS.2.2 d_E_learn_61
end
section
theorem g_Z_29 : GoodIn GG w_E_init := goodG (List.forall_mem_cons.mpr ⟨k_168, fun _ h => h⟩)
set_option maxHeartbeats 4000000 in
set_option maxRecDepth 100000 in
theorem c_E_init (l : Launch) (dC : Nat → ClassId) (dI : Nat → Nat → Nat) (cI cJ cZ cB : ClassId) (la : Nat) (ea eb : Int64) (sz : Nat) : Met l y_E_init w_E_init ({ frames := 1, cells := 0, slots := 0, locals := 12 }) (PC (dC, dI) (TY cI cJ cZ cB) [.ref la] [(la, .inr (0, [.long ea, .long eb]))] sz (va_A [(la, .inr (0, [.long ea, .long eb]))] sz)) (va_Qv (fun (_ : Unit) => True) (fun (_ : Unit) (t : State) => va_P (dC, dI) vwCl [(la, .inr (0, [.long 0, .long 1]))] t.heap) (va_A [(la, .inr (0, [.long ea, .long eb]))] sz)) 0 0 (va_A [(la, .inr (0, [.long ea, .long eb]))] sz) := by
  refine Met.ofW (cc := b_E_init) (maxL := 1) (ret := none) (by decide) rfl ?_
  intro p e s m args below meth c s₁ B hml hv
  obtain ⟨rfl, hsz, hP, hK, hD0, hE⟩ := hv
  have hx := B.exec
  have hb := B.bytes
  have hr := B.returns
  have hG : ∀ w ∈ GG, w.before _ s = true := fun w h => atoms_spec (ws := w_E_init) B.pre w (List.mem_cons_of_mem _ h)
  have hown : s.vm.findClass R_E = some m.cls := findClass_of_methodNamed B.named
  have hlocks := B.notSynchronized
  have hin : meth.name = "<init>" := (name_of_methodNamed B.named B.method).1
  subst hsz
  have hD := hD0.self (sz := s.heap.size)
  generalize hAe : (va_A [(la, .inr (0, [.long ea, .long eb]))] s.heap.size) = A at hD hE ⊢
  have hA : ∀ q : Nat, s.heap.size ≤ q → A q := fun q h => by rw [← hAe]; exact Or.inr h
  have hS : va_S A s.heap s.heap [] := va_S.rf
  obtain ⟨H, hH⟩ : ∃ z, z = s.heap := ⟨_, rfl⟩
  rw [← hH] at hP
  have hS : va_S A s.heap H [] := by rw [hH]; exact hS
  rw [← hH]
  have hl9 := lv_entry ([.ref la]) (n := 1) (Nat.le_of_ble_eq_true rfl)
  rw [lg_entry_eq]
  generalize (lg_sl ([.ref la]) ++ List.replicate (1 - (lg_sl ([.ref la])).length) Slot.unset).toArray = ls at hl9 ⊢
  have hl9 : lv_has ls 1 [(0, .ref la)] := hl9
  refine lv_aload_n hx hb d_E_init_0 rfl (lv_at hl9 0 rfl) ?_
  refine W.objInit hx hb hown (hG _ k_169) (hG _ k_17) (hG _ k_18) rfl (by rw [hml]; exact hl9.1) rfl d_E_init_1 (Nat.le_of_ble_eq_true rfl) (Nat.le_of_ble_eq_true rfl) ?_
  refine W.eq (g2 := F0 m 4 ls []) rfl ?_
  refine lv_aload_n hx hb d_E_init_4 rfl (lv_at hl9 0 rfl) ?_
  refine lv_lconst (v := 0) hx hb d_E_init_5 (by decide) ?_
  refine va_put (D := (dC, dI)) (ci := 0) (v := .long 0) (ty := .long) (C := R_E) (T := F_E) (N := 2) hx hb hG i_E t_E t_E_ok n_E hown hK hP hD hS 0 rfl rfl 0 (by decide) (hG _ k_170) (fun _ h9 => h9) rfl (by decide +kernel) rfl rfl (Nat.le_of_ble_eq_true rfl) d_E_init_6 (fun H locs hP hD hS => ?_)
  have hP : va_P (dC, dI) vwCl [(la, .inr (0, [.long 0, .long eb]))] H := hP
  have hD : va_D A [(la, .inr (0, [.long 0, .long eb]))] := hD
  refine lv_aload_n hx hb d_E_init_9 rfl (lv_at hl9 0 rfl) ?_
  refine lv_lconst (v := 1) hx hb d_E_init_10 (by decide) ?_
  refine va_put (D := (dC, dI)) (ci := 0) (v := .long 1) (ty := .long) (C := R_E) (T := F_E) (N := 2) hx hb hG i_E t_E t_E_ok n_E hown hK hP hD hS 0 rfl rfl 1 (by decide) (hG _ k_172) (fun _ h9 => h9) rfl (by decide +kernel) rfl rfl (Nat.le_of_ble_eq_true rfl) d_E_init_11 (fun H locs hP hD hS => ?_)
  have hP : va_P (dC, dI) vwCl [(la, .inr (0, [.long 0, .long 1]))] H := hP
  have hD : va_D A [(la, .inr (0, [.long 0, .long 1]))] := hD
  exact W.vret hx hb hr (fun t ht hW => ⟨⟨(), rfl, trivial, by have h9 := hP; rw [← ht] at h9; exact h9⟩, hS.F ht⟩) hS.2.2 d_E_init_14
set_option maxHeartbeats 4000000 in
set_option maxRecDepth 100000 in
theorem c_Z_init (l : Launch) (dC : Nat → ClassId) (dI : Nat → Nat → Nat) (cI cJ cZ cB : ClassId) (za : Nat) (h k : Int32) (sz : Nat) : Met l y_Z_init w_Z_init ({ frames := 2, cells := 2, slots := 1443, locals := 32 }) (PC (dC, dI) (TY cI cJ cZ cB) [.ref za, .int h, .int k] [(za, .inr (1, [.int 0, .int 0, .int 0, .int 0, .int 0, .int 0, .int 0, .null, .int 0, .null]))] sz (va_A [(za, .inr (1, [.int 0, .int 0, .int 0, .int 0, .int 0, .int 0, .int 0, .null, .int 0, .null]))] sz)) (va_Qv (fun (_ : Nat × Nat) => True) (fun (u : Nat × Nat) (t : State) => va_P (dC, dI) vwCl [(za, .inr (1, [.int h, .int k, .int 0, .int 1000, .int 0, .int (-1), .int 0, .ref u.1, .int (-1), .ref u.2])), (u.1, .inr (0, [.long 0, .long 1])), (u.2, .inl (cI, 1441, .inl (fun _ => 0)))] t.heap ∧ va_D (va_A [(za, .inr (1, [.int 0, .int 0, .int 0, .int 0, .int 0, .int 0, .int 0, .null, .int 0, .null]))] sz) [(za, .inr (1, [.int h, .int k, .int 0, .int 1000, .int 0, .int (-1), .int 0, .ref u.1, .int (-1), .ref u.2])), (u.1, .inr (0, [.long 0, .long 1])), (u.2, .inl (cI, 1441, .inl (fun _ => 0)))]) (va_A [(za, .inr (1, [.int 0, .int 0, .int 0, .int 0, .int 0, .int 0, .int 0, .null, .int 0, .null]))] sz)) 2 1443 (va_A [(za, .inr (1, [.int 0, .int 0, .int 0, .int 0, .int 0, .int 0, .int 0, .null, .int 0, .null]))] sz) := by
  refine Met.ofW (cc := b_Z_init) (maxL := 3) (ret := none) (by decide) rfl ?_
  intro p e s m args below meth c s₁ B hml hv
  obtain ⟨rfl, hsz, hP, hK, hD0, hE⟩ := hv
  have hx := B.exec
  have hb := B.bytes
  have hr := B.returns
  have hG : ∀ w ∈ GG, w.before _ s = true := fun w h => atoms_spec (ws := w_Z_init) B.pre w (List.mem_cons_of_mem _ h)
  have hown : s.vm.findClass R_Z = some m.cls := findClass_of_methodNamed B.named
  have hlocks := B.notSynchronized
  have hin : meth.name = "<init>" := (name_of_methodNamed B.named B.method).1
  subst hsz
  have hD := hD0.self (sz := s.heap.size)
  generalize hAe : (va_A [(za, .inr (1, [.int 0, .int 0, .int 0, .int 0, .int 0, .int 0, .int 0, .null, .int 0, .null]))] s.heap.size) = A at hD hE ⊢
  have hA : ∀ q : Nat, s.heap.size ≤ q → A q := fun q h => by rw [← hAe]; exact Or.inr h
  have hS : va_S A s.heap s.heap [] := va_S.rf
  obtain ⟨H, hH⟩ : ∃ z, z = s.heap := ⟨_, rfl⟩
  rw [← hH] at hP
  have hS : va_S A s.heap H [] := by rw [hH]; exact hS
  rw [← hH]
  have hl9 := lv_entry ([.ref za, .int h, .int k]) (n := 3) (Nat.le_of_ble_eq_true rfl)
  rw [lg_entry_eq]
  generalize (lg_sl ([.ref za, .int h, .int k]) ++ List.replicate (3 - (lg_sl ([.ref za, .int h, .int k])).length) Slot.unset).toArray = ls at hl9 ⊢
  have hl9 : lv_has ls 3 [(0, .ref za), (1, .int h), (2, .int k)] := hl9
  refine lv_aload_n hx hb d_Z_init_0 rfl (lv_at hl9 0 rfl) ?_
  refine W.objInit hx hb hown (hG _ k_163) (hG _ k_17) (hG _ k_18) rfl (by rw [hml]; exact hl9.1) rfl d_Z_init_1 (Nat.le_of_ble_eq_true rfl) (Nat.le_of_ble_eq_true rfl) ?_
  refine W.eq (g2 := F0 m 4 ls []) rfl ?_
  refine lv_aload_n hx hb d_Z_init_4 rfl (lv_at hl9 0 rfl) ?_
  refine lv_iconst (v := 0) hx hb d_Z_init_5 (by decide) ?_
  refine va_put (D := (dC, dI)) (ci := 1) (v := .int 0) (ty := .int) (C := R_Z) (T := F_Z) (N := 10) hx hb hG i_Z t_Z t_Z_ok n_Z hown hK hP hD hS 0 rfl rfl 2 (by decide) (hG _ k_183) (fun _ h9 => h9) rfl (by decide +kernel) rfl rfl (Nat.le_of_ble_eq_true rfl) d_Z_init_6 (fun H locs hP hD hS => ?_)
  have hP : va_P (dC, dI) vwCl [(za, .inr (1, [.int 0, .int 0, .int 0, .int 0, .int 0, .int 0, .int 0, .null, .int 0, .null]))] H := hP
  have hD : va_D A [(za, .inr (1, [.int 0, .int 0, .int 0, .int 0, .int 0, .int 0, .int 0, .null, .int 0, .null]))] := hD
  refine lv_aload_n hx hb d_Z_init_9 rfl (lv_at hl9 0 rfl) ?_
  refine lv_sipush (v := 1000) hx hb d_Z_init_10 (by decide) ?_
  refine va_put (D := (dC, dI)) (ci := 1) (v := .int 1000) (ty := .int) (C := R_Z) (T := F_Z) (N := 10) hx hb hG i_Z t_Z t_Z_ok n_Z hown hK hP hD hS 0 rfl rfl 3 (by decide) (hG _ k_185) (fun _ h9 => h9) rfl (by decide +kernel) rfl rfl (Nat.le_of_ble_eq_true rfl) d_Z_init_13 (fun H locs hP hD hS => ?_)
  have hP : va_P (dC, dI) vwCl [(za, .inr (1, [.int 0, .int 0, .int 0, .int 1000, .int 0, .int 0, .int 0, .null, .int 0, .null]))] H := hP
  have hD : va_D A [(za, .inr (1, [.int 0, .int 0, .int 0, .int 1000, .int 0, .int 0, .int 0, .null, .int 0, .null]))] := hD
  refine lv_aload_n hx hb d_Z_init_16 rfl (lv_at hl9 0 rfl) ?_
  refine lv_iconst (v := 0) hx hb d_Z_init_17 (by decide) ?_
  refine va_put (D := (dC, dI)) (ci := 1) (v := .int 0) (ty := .int) (C := R_Z) (T := F_Z) (N := 10) hx hb hG i_Z t_Z t_Z_ok n_Z hown hK hP hD hS 0 rfl rfl 4 (by decide) (hG _ k_187) (fun _ h9 => h9) rfl (by decide +kernel) rfl rfl (Nat.le_of_ble_eq_true rfl) d_Z_init_18 (fun H locs hP hD hS => ?_)
  have hP : va_P (dC, dI) vwCl [(za, .inr (1, [.int 0, .int 0, .int 0, .int 1000, .int 0, .int 0, .int 0, .null, .int 0, .null]))] H := hP
  have hD : va_D A [(za, .inr (1, [.int 0, .int 0, .int 0, .int 1000, .int 0, .int 0, .int 0, .null, .int 0, .null]))] := hD
  refine lv_aload_n hx hb d_Z_init_21 rfl (lv_at hl9 0 rfl) ?_
  refine lv_iconst (v := (-1)) hx hb d_Z_init_22 (by decide) ?_
  refine va_put (D := (dC, dI)) (ci := 1) (v := .int (-1)) (ty := .int) (C := R_Z) (T := F_Z) (N := 10) hx hb hG i_Z t_Z t_Z_ok n_Z hown hK hP hD hS 0 rfl rfl 5 (by decide) (hG _ k_189) (fun _ h9 => h9) rfl (by decide +kernel) rfl rfl (Nat.le_of_ble_eq_true rfl) d_Z_init_23 (fun H locs hP hD hS => ?_)
  have hP : va_P (dC, dI) vwCl [(za, .inr (1, [.int 0, .int 0, .int 0, .int 1000, .int 0, .int (-1), .int 0, .null, .int 0, .null]))] H := hP
  have hD : va_D A [(za, .inr (1, [.int 0, .int 0, .int 0, .int 1000, .int 0, .int (-1), .int 0, .null, .int 0, .null]))] := hD
  refine lv_aload_n hx hb d_Z_init_26 rfl (lv_at hl9 0 rfl) ?_
  refine lv_iconst (v := 0) hx hb d_Z_init_27 (by decide) ?_
  refine va_put (D := (dC, dI)) (ci := 1) (v := .int 0) (ty := .int) (C := R_Z) (T := F_Z) (N := 10) hx hb hG i_Z t_Z t_Z_ok n_Z hown hK hP hD hS 0 rfl rfl 6 (by decide) (hG _ k_191) (fun _ h9 => h9) rfl (by decide +kernel) rfl rfl (Nat.le_of_ble_eq_true rfl) d_Z_init_28 (fun H locs hP hD hS => ?_)
  have hP : va_P (dC, dI) vwCl [(za, .inr (1, [.int 0, .int 0, .int 0, .int 1000, .int 0, .int (-1), .int 0, .null, .int 0, .null]))] H := hP
  have hD : va_D A [(za, .inr (1, [.int 0, .int 0, .int 0, .int 1000, .int 0, .int (-1), .int 0, .null, .int 0, .null]))] := hD
  refine lv_aload_n hx hb d_Z_init_31 rfl (lv_at hl9 0 rfl) ?_
  refine va_new (ci := 0) (fs := [.long 0, .long 0]) (C := R_E) (T := F_E) (N := 2) hx hb hG i_E t_E t_E_ok hown (hG _ k_164) (hG _ k_165) (hG _ k_9) hK hP hD hS hA rfl (by decide +kernel) (by first | exact Nat.le_of_ble_eq_true rfl | omega) (by first | exact Nat.le_of_ble_eq_true rfl | omega) d_Z_init_32 (fun q1 H hP hD hS => ?_)
  have hP : va_P (dC, dI) vwCl [(za, .inr (1, [.int 0, .int 0, .int 0, .int 1000, .int 0, .int (-1), .int 0, .null, .int 0, .null])), (q1, .inr (0, [.long 0, .long 0]))] H := hP
  have hD : va_D A [(za, .inr (1, [.int 0, .int 0, .int 0, .int 1000, .int 0, .int (-1), .int 0, .null, .int 0, .null])), (q1, .inr (0, [.long 0, .long 0]))] := hD
  refine lv_dup hx hb d_Z_init_35 rfl ?_
  have hPc := hP.sub (ws' := [(q1, .inr (0, [.long 0, .long 0]))]) [1] rfl
  have hDc := hD.sub (ws' := [(q1, .inr (0, [.long 0, .long 0]))]) [1] (by decide) rfl
  have hFc := va_free (wc := [(q1, .inr (0, [.long 0, .long 0]))]) hD hS hA [1] rfl
  refine va_callv (va_runIN (As := []) (rest := [.ref q1, .ref za]) ⟨hx, hb, hml, hown, hG⟩ (c_E_init l dC dI cI cJ cZ cB q1 0 0 H.size ) ⟨va_cnB (host := "StartTimes") 0 hG g_Z_29 rfl rfl rfl (hE.1.1 _ k_166 rfl) (hG _ k_9) (by decide +kernel) ⟨Nat.le_of_ble_eq_true rfl, Nat.le_of_ble_eq_true rfl⟩, rfl, hG _ k_167⟩ ⟨PC.blind, PC.of hPc hK hDc hE hS hFc⟩ rfl rfl hl9.1 rfl (lv_room (Nat.le_of_ble_eq_true rfl)) d_Z_init_36 ⟨by first | exact Nat.le_of_ble_eq_true rfl | omega, by first | exact Nat.le_of_ble_eq_true rfl | omega⟩) hS (fun q _ h => hFc q h) hFc (fun u t H1 locs ht hvm hw hB hz1 hk1 hS => ?_)
  rw [ht] at hB
  obtain ⟨hP, hD⟩ := jset (wc := [(q1, .inr (0, [.long 0, .long 0]))]) (w1 := [(q1, .inr (0, [.long 0, .long 1]))]) [1] rfl rfl hP hD hk1 hB
  have hP : va_P (dC, dI) vwCl [(za, .inr (1, [.int 0, .int 0, .int 0, .int 1000, .int 0, .int (-1), .int 0, .null, .int 0, .null])), (q1, .inr (0, [.long 0, .long 1]))] H1 := hP
  have hD : va_D A [(za, .inr (1, [.int 0, .int 0, .int 0, .int 1000, .int 0, .int (-1), .int 0, .null, .int 0, .null])), (q1, .inr (0, [.long 0, .long 1]))] := hD
  refine va_putF (D := (dC, dI)) (ci := 1) (v := .ref q1) (ty := .object "StartTimes$Lesson") (C := R_Z) (T := F_Z) (N := 10) hx hb hG i_Z t_Z t_Z_ok n_Z hown hK hP hD hS 0 rfl rfl 7 (by decide) (hG _ k_193) (fun _ h9 => h9) rfl hin rfl (by decide +kernel) rfl rfl (Nat.le_of_ble_eq_true rfl) d_Z_init_39 (fun H locs hP hD hS => ?_)
  have hP : va_P (dC, dI) vwCl [(za, .inr (1, [.int 0, .int 0, .int 0, .int 1000, .int 0, .int (-1), .int 0, .ref q1, .int 0, .null])), (q1, .inr (0, [.long 0, .long 1]))] H := hP
  have hD : va_D A [(za, .inr (1, [.int 0, .int 0, .int 0, .int 1000, .int 0, .int (-1), .int 0, .ref q1, .int 0, .null])), (q1, .inr (0, [.long 0, .long 1]))] := hD
  refine lv_aload_n hx hb d_Z_init_42 rfl (lv_at hl9 0 rfl) ?_
  refine lv_iconst (v := (-1)) hx hb d_Z_init_43 (by decide) ?_
  refine va_put (D := (dC, dI)) (ci := 1) (v := .int (-1)) (ty := .int) (C := R_Z) (T := F_Z) (N := 10) hx hb hG i_Z t_Z t_Z_ok n_Z hown hK hP hD hS 0 rfl rfl 8 (by decide) (hG _ k_195) (fun _ h9 => h9) rfl (by decide +kernel) rfl rfl (Nat.le_of_ble_eq_true rfl) d_Z_init_44 (fun H locs hP hD hS => ?_)
  have hP : va_P (dC, dI) vwCl [(za, .inr (1, [.int 0, .int 0, .int 0, .int 1000, .int 0, .int (-1), .int 0, .ref q1, .int (-1), .null])), (q1, .inr (0, [.long 0, .long 1]))] H := hP
  have hD : va_D A [(za, .inr (1, [.int 0, .int 0, .int 0, .int 1000, .int 0, .int (-1), .int 0, .ref q1, .int (-1), .null])), (q1, .inr (0, [.long 0, .long 1]))] := hD
  refine lv_aload_n hx hb d_Z_init_47 rfl (lv_at hl9 0 rfl) ?_
  refine lv_sipush (v := 1441) hx hb d_Z_init_48 (by decide) ?_
  refine va_newa (atype := .int) hx hb (hG _ k_62) rfl hK hP hD hS hA (n := 1441) (N' := 1441) (a0 := (1441, .inl (fun _ => 0))) (fun _ => rfl) (by decide +kernel) (by decide +kernel) (by decide +kernel) (by first | exact Nat.le_of_ble_eq_true rfl | omega) (by first | exact Nat.le_of_ble_eq_true rfl | omega) d_Z_init_51 (fun q2 c9 H hK9 hP hD hS => ?_)
  have e9 : c9 = cI := ty_same hK9 (i := 0) (j := 4) rfl rfl
  rw [e9] at hP hD
  have hP : va_P (dC, dI) vwCl [(za, .inr (1, [.int 0, .int 0, .int 0, .int 1000, .int 0, .int (-1), .int 0, .ref q1, .int (-1), .null])), (q1, .inr (0, [.long 0, .long 1])), (q2, .inl (cI, 1441, .inl (fun _ => 0)))] H := hP
  have hD : va_D A [(za, .inr (1, [.int 0, .int 0, .int 0, .int 1000, .int 0, .int (-1), .int 0, .ref q1, .int (-1), .null])), (q1, .inr (0, [.long 0, .long 1])), (q2, .inl (cI, 1441, .inl (fun _ => 0)))] := hD
  refine va_putF (D := (dC, dI)) (ci := 1) (v := .ref q2) (ty := .array .int) (C := R_Z) (T := F_Z) (N := 10) hx hb hG i_Z t_Z t_Z_ok n_Z hown hK hP hD hS 0 rfl rfl 9 (by decide) (hG _ k_197) (fun _ h9 => h9) rfl hin rfl (by decide +kernel) rfl rfl (Nat.le_of_ble_eq_true rfl) d_Z_init_53 (fun H locs hP hD hS => ?_)
  have hP : va_P (dC, dI) vwCl [(za, .inr (1, [.int 0, .int 0, .int 0, .int 1000, .int 0, .int (-1), .int 0, .ref q1, .int (-1), .ref q2])), (q1, .inr (0, [.long 0, .long 1])), (q2, .inl (cI, 1441, .inl (fun _ => 0)))] H := hP
  have hD : va_D A [(za, .inr (1, [.int 0, .int 0, .int 0, .int 1000, .int 0, .int (-1), .int 0, .ref q1, .int (-1), .ref q2])), (q1, .inr (0, [.long 0, .long 1])), (q2, .inl (cI, 1441, .inl (fun _ => 0)))] := hD
  refine lv_aload_n hx hb d_Z_init_56 rfl (lv_at hl9 0 rfl) ?_
  refine lv_iload_n hx hb d_Z_init_57 rfl (lv_at hl9 1 rfl) ?_
  refine va_putF (D := (dC, dI)) (ci := 1) (v := .int h) (ty := .int) (C := R_Z) (T := F_Z) (N := 10) hx hb hG i_Z t_Z t_Z_ok n_Z hown hK hP hD hS 0 rfl rfl 0 (by decide) (hG _ k_179) (fun _ h9 => h9) rfl hin rfl (by decide +kernel) rfl rfl (Nat.le_of_ble_eq_true rfl) d_Z_init_58 (fun H locs hP hD hS => ?_)
  have hP : va_P (dC, dI) vwCl [(za, .inr (1, [.int h, .int 0, .int 0, .int 1000, .int 0, .int (-1), .int 0, .ref q1, .int (-1), .ref q2])), (q1, .inr (0, [.long 0, .long 1])), (q2, .inl (cI, 1441, .inl (fun _ => 0)))] H := hP
  have hD : va_D A [(za, .inr (1, [.int h, .int 0, .int 0, .int 1000, .int 0, .int (-1), .int 0, .ref q1, .int (-1), .ref q2])), (q1, .inr (0, [.long 0, .long 1])), (q2, .inl (cI, 1441, .inl (fun _ => 0)))] := hD
  refine lv_aload_n hx hb d_Z_init_61 rfl (lv_at hl9 0 rfl) ?_
  refine lv_iload_n hx hb d_Z_init_62 rfl (lv_at hl9 2 rfl) ?_
  refine va_putF (D := (dC, dI)) (ci := 1) (v := .int k) (ty := .int) (C := R_Z) (T := F_Z) (N := 10) hx hb hG i_Z t_Z t_Z_ok n_Z hown hK hP hD hS 0 rfl rfl 1 (by decide) (hG _ k_181) (fun _ h9 => h9) rfl hin rfl (by decide +kernel) rfl rfl (Nat.le_of_ble_eq_true rfl) d_Z_init_63 (fun H locs hP hD hS => ?_)
  have hP : va_P (dC, dI) vwCl [(za, .inr (1, [.int h, .int k, .int 0, .int 1000, .int 0, .int (-1), .int 0, .ref q1, .int (-1), .ref q2])), (q1, .inr (0, [.long 0, .long 1])), (q2, .inl (cI, 1441, .inl (fun _ => 0)))] H := hP
  have hD : va_D A [(za, .inr (1, [.int h, .int k, .int 0, .int 1000, .int 0, .int (-1), .int 0, .ref q1, .int (-1), .ref q2])), (q1, .inr (0, [.long 0, .long 1])), (q2, .inl (cI, 1441, .inl (fun _ => 0)))] := hD
  exact W.vret hx hb hr (fun t ht hW => ⟨⟨(q1, q2), rfl, trivial, ⟨by have h9 := hP; rw [← ht] at h9; exact h9, hD⟩⟩, hS.F ht⟩) hS.2.2 d_Z_init_66
set_option maxHeartbeats 4000000 in
set_option maxRecDepth 100000 in
theorem c_C_init (l : Launch) (dC : Nat → ClassId) (dI : Nat → Nat → Nat) (cI cJ cZ cB : ClassId) (a0 : Nat) (sz : Nat) : Met l y_C_init w_C_init ({ frames := 1, cells := 6, slots := 4958, locals := 12 }) (PC (dC, dI) (TY cI cJ cZ cB) [.ref a0] [(a0, .inr (2, [.null, .int 0, .null, .int 0, .int 0, .int 0, .null, .int 0, .int 0, .int 0, .null, .null, .null]))] sz (va_A [(a0, .inr (2, [.null, .int 0, .null, .int 0, .int 0, .int 0, .null, .int 0, .int 0, .int 0, .null, .null, .null]))] sz)) (va_Qv (fun (_ : Nat × Nat × Nat × Nat × Nat × Nat) => True) (fun (u : Nat × Nat × Nat × Nat × Nat × Nat) (t : State) => va_P (dC, dI) vwCl [(a0, .inr (2, [.ref u.1, .int 0, .ref u.2.1, .int 0, .int (-1), .int 100000, .ref u.2.2.1, .int 0, .int 1, .int 2, .ref u.2.2.2.1, .ref u.2.2.2.2.1, .ref u.2.2.2.2.2])), (u.1, .inl (cZ, 6, .inr (.inr (.inr (.inr (fun _ => none)))))), (u.2.1, .inl (cI, 1440, .inl (fun _ => 0))), (u.2.2.1, .inl (cI, 1440, .inl (fun _ => 0))), (u.2.2.2.1, .inl (cI, 24, .inl (fun _ => 0))), (u.2.2.2.2.1, .inl (cI, 1024, .inl (fun _ => 0))), (u.2.2.2.2.2, .inl (cJ, 1024, .inr (.inl (fun _ => 0))))] t.heap ∧ va_D (va_A [(a0, .inr (2, [.null, .int 0, .null, .int 0, .int 0, .int 0, .null, .int 0, .int 0, .int 0, .null, .null, .null]))] sz) [(a0, .inr (2, [.ref u.1, .int 0, .ref u.2.1, .int 0, .int (-1), .int 100000, .ref u.2.2.1, .int 0, .int 1, .int 2, .ref u.2.2.2.1, .ref u.2.2.2.2.1, .ref u.2.2.2.2.2])), (u.1, .inl (cZ, 6, .inr (.inr (.inr (.inr (fun _ => none)))))), (u.2.1, .inl (cI, 1440, .inl (fun _ => 0))), (u.2.2.1, .inl (cI, 1440, .inl (fun _ => 0))), (u.2.2.2.1, .inl (cI, 24, .inl (fun _ => 0))), (u.2.2.2.2.1, .inl (cI, 1024, .inl (fun _ => 0))), (u.2.2.2.2.2, .inl (cJ, 1024, .inr (.inl (fun _ => 0))))]) (va_A [(a0, .inr (2, [.null, .int 0, .null, .int 0, .int 0, .int 0, .null, .int 0, .int 0, .int 0, .null, .null, .null]))] sz)) 6 4958 (va_A [(a0, .inr (2, [.null, .int 0, .null, .int 0, .int 0, .int 0, .null, .int 0, .int 0, .int 0, .null, .null, .null]))] sz) := by
  refine Met.ofW (cc := b_C_init) (maxL := 1) (ret := none) (by decide) rfl ?_
  intro p e s m args below meth c s₁ B hml hv
  obtain ⟨rfl, hsz, hP, hK, hD0, hE⟩ := hv
  have hx := B.exec
  have hb := B.bytes
  have hr := B.returns
  have hG : ∀ w ∈ GG, w.before _ s = true := fun w h => atoms_spec (ws := w_C_init) B.pre w (List.mem_cons_of_mem _ h)
  have hown : s.vm.findClass R_C = some m.cls := findClass_of_methodNamed B.named
  have hlocks := B.notSynchronized
  have hin : meth.name = "<init>" := (name_of_methodNamed B.named B.method).1
  subst hsz
  have hD := hD0.self (sz := s.heap.size)
  generalize hAe : (va_A [(a0, .inr (2, [.null, .int 0, .null, .int 0, .int 0, .int 0, .null, .int 0, .int 0, .int 0, .null, .null, .null]))] s.heap.size) = A at hD hE ⊢
  have hA : ∀ q : Nat, s.heap.size ≤ q → A q := fun q h => by rw [← hAe]; exact Or.inr h
  have hS : va_S A s.heap s.heap [] := va_S.rf
  obtain ⟨H, hH⟩ : ∃ z, z = s.heap := ⟨_, rfl⟩
  rw [← hH] at hP
  have hS : va_S A s.heap H [] := by rw [hH]; exact hS
  rw [← hH]
  have hl9 := lv_entry ([.ref a0]) (n := 1) (Nat.le_of_ble_eq_true rfl)
  rw [lg_entry_eq]
  generalize (lg_sl ([.ref a0]) ++ List.replicate (1 - (lg_sl ([.ref a0])).length) Slot.unset).toArray = ls at hl9 ⊢
  have hl9 : lv_has ls 1 [(0, .ref a0)] := hl9
  refine lv_aload_n hx hb d_C_init_0 rfl (lv_at hl9 0 rfl) ?_
  refine W.objInit hx hb hown (hG _ k_16) (hG _ k_17) (hG _ k_18) rfl (by rw [hml]; exact hl9.1) rfl d_C_init_1 (Nat.le_of_ble_eq_true rfl) (Nat.le_of_ble_eq_true rfl) ?_
  refine W.eq (g2 := F0 m 4 ls []) rfl ?_
  refine lv_aload_n hx hb d_C_init_4 rfl (lv_at hl9 0 rfl) ?_
  refine lv_bipush (v := 6) hx hb d_C_init_5 (by decide) ?_
  refine va_newq hx hb hown (hG _ k_19) hE.1.2.2 hK hP hD hS hA (n := 6) (N' := 6) (by decide +kernel) (by decide +kernel) (by decide +kernel) (by first | exact Nat.le_of_ble_eq_true rfl | omega) (by first | exact Nat.le_of_ble_eq_true rfl | omega) d_C_init_7 (fun q1 c9 H hK9 hP hD hS => ?_)
  have e9 : c9 = cZ := ty_same hK9 (i := 2) (j := 4) rfl rfl
  rw [e9] at hP hD
  have hP : va_P (dC, dI) vwCl [(a0, .inr (2, [.null, .int 0, .null, .int 0, .int 0, .int 0, .null, .int 0, .int 0, .int 0, .null, .null, .null])), (q1, .inl (cZ, 6, .inr (.inr (.inr (.inr (fun _ => none))))))] H := hP
  have hD : va_D A [(a0, .inr (2, [.null, .int 0, .null, .int 0, .int 0, .int 0, .null, .int 0, .int 0, .int 0, .null, .null, .null])), (q1, .inl (cZ, 6, .inr (.inr (.inr (.inr (fun _ => none))))))] := hD
  refine va_putF (D := (dC, dI)) (ci := 2) (v := .ref q1) (ty := .array (.object "StartTimes$Zone")) (C := R_C) (T := F_C) (N := 13) hx hb hG i_C t_C t_C_ok n_C hown hK hP hD hS 0 rfl rfl 0 (by decide) (hG _ k_22) (fun _ h9 => h9) rfl hin rfl (by decide +kernel) rfl rfl (Nat.le_of_ble_eq_true rfl) d_C_init_10 (fun H locs hP hD hS => ?_)
  have hP : va_P (dC, dI) vwCl [(a0, .inr (2, [.ref q1, .int 0, .null, .int 0, .int 0, .int 0, .null, .int 0, .int 0, .int 0, .null, .null, .null])), (q1, .inl (cZ, 6, .inr (.inr (.inr (.inr (fun _ => none))))))] H := hP
  have hD : va_D A [(a0, .inr (2, [.ref q1, .int 0, .null, .int 0, .int 0, .int 0, .null, .int 0, .int 0, .int 0, .null, .null, .null])), (q1, .inl (cZ, 6, .inr (.inr (.inr (.inr (fun _ => none))))))] := hD
  refine lv_aload_n hx hb d_C_init_13 rfl (lv_at hl9 0 rfl) ?_
  refine lv_iconst (v := 0) hx hb d_C_init_14 (by decide) ?_
  refine va_put (D := (dC, dI)) (ci := 2) (v := .int 0) (ty := .int) (C := R_C) (T := F_C) (N := 13) hx hb hG i_C t_C t_C_ok n_C hown hK hP hD hS 0 rfl rfl 1 (by decide) (hG _ k_23) (fun _ h9 => h9) rfl (by decide +kernel) rfl rfl (Nat.le_of_ble_eq_true rfl) d_C_init_15 (fun H locs hP hD hS => ?_)
  have hP : va_P (dC, dI) vwCl [(a0, .inr (2, [.ref q1, .int 0, .null, .int 0, .int 0, .int 0, .null, .int 0, .int 0, .int 0, .null, .null, .null])), (q1, .inl (cZ, 6, .inr (.inr (.inr (.inr (fun _ => none))))))] H := hP
  have hD : va_D A [(a0, .inr (2, [.ref q1, .int 0, .null, .int 0, .int 0, .int 0, .null, .int 0, .int 0, .int 0, .null, .null, .null])), (q1, .inl (cZ, 6, .inr (.inr (.inr (.inr (fun _ => none))))))] := hD
  refine lv_aload_n hx hb d_C_init_18 rfl (lv_at hl9 0 rfl) ?_
  refine lv_sipush (v := 1440) hx hb d_C_init_19 (by decide) ?_
  refine va_newa (atype := .int) hx hb (hG _ k_62) rfl hK hP hD hS hA (n := 1440) (N' := 1440) (a0 := (1440, .inl (fun _ => 0))) (fun _ => rfl) (by decide +kernel) (by decide +kernel) (by decide +kernel) (by first | exact Nat.le_of_ble_eq_true rfl | omega) (by first | exact Nat.le_of_ble_eq_true rfl | omega) d_C_init_22 (fun q2 c9 H hK9 hP hD hS => ?_)
  have e9 : c9 = cI := ty_same hK9 (i := 0) (j := 4) rfl rfl
  rw [e9] at hP hD
  have hP : va_P (dC, dI) vwCl [(a0, .inr (2, [.ref q1, .int 0, .null, .int 0, .int 0, .int 0, .null, .int 0, .int 0, .int 0, .null, .null, .null])), (q1, .inl (cZ, 6, .inr (.inr (.inr (.inr (fun _ => none)))))), (q2, .inl (cI, 1440, .inl (fun _ => 0)))] H := hP
  have hD : va_D A [(a0, .inr (2, [.ref q1, .int 0, .null, .int 0, .int 0, .int 0, .null, .int 0, .int 0, .int 0, .null, .null, .null])), (q1, .inl (cZ, 6, .inr (.inr (.inr (.inr (fun _ => none)))))), (q2, .inl (cI, 1440, .inl (fun _ => 0)))] := hD
  refine va_putF (D := (dC, dI)) (ci := 2) (v := .ref q2) (ty := .array .int) (C := R_C) (T := F_C) (N := 13) hx hb hG i_C t_C t_C_ok n_C hown hK hP hD hS 0 rfl rfl 2 (by decide) (hG _ k_24) (fun _ h9 => h9) rfl hin rfl (by decide +kernel) rfl rfl (Nat.le_of_ble_eq_true rfl) d_C_init_24 (fun H locs hP hD hS => ?_)
  have hP : va_P (dC, dI) vwCl [(a0, .inr (2, [.ref q1, .int 0, .ref q2, .int 0, .int 0, .int 0, .null, .int 0, .int 0, .int 0, .null, .null, .null])), (q1, .inl (cZ, 6, .inr (.inr (.inr (.inr (fun _ => none)))))), (q2, .inl (cI, 1440, .inl (fun _ => 0)))] H := hP
  have hD : va_D A [(a0, .inr (2, [.ref q1, .int 0, .ref q2, .int 0, .int 0, .int 0, .null, .int 0, .int 0, .int 0, .null, .null, .null])), (q1, .inl (cZ, 6, .inr (.inr (.inr (.inr (fun _ => none)))))), (q2, .inl (cI, 1440, .inl (fun _ => 0)))] := hD
  refine lv_aload_n hx hb d_C_init_27 rfl (lv_at hl9 0 rfl) ?_
  refine lv_iconst (v := 0) hx hb d_C_init_28 (by decide) ?_
  refine va_put (D := (dC, dI)) (ci := 2) (v := .int 0) (ty := .int) (C := R_C) (T := F_C) (N := 13) hx hb hG i_C t_C t_C_ok n_C hown hK hP hD hS 0 rfl rfl 3 (by decide) (hG _ k_25) (fun _ h9 => h9) rfl (by decide +kernel) rfl rfl (Nat.le_of_ble_eq_true rfl) d_C_init_29 (fun H locs hP hD hS => ?_)
  have hP : va_P (dC, dI) vwCl [(a0, .inr (2, [.ref q1, .int 0, .ref q2, .int 0, .int 0, .int 0, .null, .int 0, .int 0, .int 0, .null, .null, .null])), (q1, .inl (cZ, 6, .inr (.inr (.inr (.inr (fun _ => none)))))), (q2, .inl (cI, 1440, .inl (fun _ => 0)))] H := hP
  have hD : va_D A [(a0, .inr (2, [.ref q1, .int 0, .ref q2, .int 0, .int 0, .int 0, .null, .int 0, .int 0, .int 0, .null, .null, .null])), (q1, .inl (cZ, 6, .inr (.inr (.inr (.inr (fun _ => none)))))), (q2, .inl (cI, 1440, .inl (fun _ => 0)))] := hD
  refine lv_aload_n hx hb d_C_init_32 rfl (lv_at hl9 0 rfl) ?_
  refine lv_iconst (v := (-1)) hx hb d_C_init_33 (by decide) ?_
  refine va_put (D := (dC, dI)) (ci := 2) (v := .int (-1)) (ty := .int) (C := R_C) (T := F_C) (N := 13) hx hb hG i_C t_C t_C_ok n_C hown hK hP hD hS 0 rfl rfl 4 (by decide) (hG _ k_26) (fun _ h9 => h9) rfl (by decide +kernel) rfl rfl (Nat.le_of_ble_eq_true rfl) d_C_init_34 (fun H locs hP hD hS => ?_)
  have hP : va_P (dC, dI) vwCl [(a0, .inr (2, [.ref q1, .int 0, .ref q2, .int 0, .int (-1), .int 0, .null, .int 0, .int 0, .int 0, .null, .null, .null])), (q1, .inl (cZ, 6, .inr (.inr (.inr (.inr (fun _ => none)))))), (q2, .inl (cI, 1440, .inl (fun _ => 0)))] H := hP
  have hD : va_D A [(a0, .inr (2, [.ref q1, .int 0, .ref q2, .int 0, .int (-1), .int 0, .null, .int 0, .int 0, .int 0, .null, .null, .null])), (q1, .inl (cZ, 6, .inr (.inr (.inr (.inr (fun _ => none)))))), (q2, .inl (cI, 1440, .inl (fun _ => 0)))] := hD
  refine lv_aload_n hx hb d_C_init_37 rfl (lv_at hl9 0 rfl) ?_
  refine lv_ldc (v := 100000) hx hb hown (hG _ k_21) d_C_init_38 ?_
  refine va_put (D := (dC, dI)) (ci := 2) (v := .int 100000) (ty := .int) (C := R_C) (T := F_C) (N := 13) hx hb hG i_C t_C t_C_ok n_C hown hK hP hD hS 0 rfl rfl 5 (by decide) (hG _ k_27) (fun _ h9 => h9) rfl (by decide +kernel) rfl rfl (Nat.le_of_ble_eq_true rfl) d_C_init_40 (fun H locs hP hD hS => ?_)
  have hP : va_P (dC, dI) vwCl [(a0, .inr (2, [.ref q1, .int 0, .ref q2, .int 0, .int (-1), .int 100000, .null, .int 0, .int 0, .int 0, .null, .null, .null])), (q1, .inl (cZ, 6, .inr (.inr (.inr (.inr (fun _ => none)))))), (q2, .inl (cI, 1440, .inl (fun _ => 0)))] H := hP
  have hD : va_D A [(a0, .inr (2, [.ref q1, .int 0, .ref q2, .int 0, .int (-1), .int 100000, .null, .int 0, .int 0, .int 0, .null, .null, .null])), (q1, .inl (cZ, 6, .inr (.inr (.inr (.inr (fun _ => none)))))), (q2, .inl (cI, 1440, .inl (fun _ => 0)))] := hD
  refine lv_aload_n hx hb d_C_init_43 rfl (lv_at hl9 0 rfl) ?_
  refine lv_sipush (v := 1440) hx hb d_C_init_44 (by decide) ?_
  refine va_newa (atype := .int) hx hb (hG _ k_62) rfl hK hP hD hS hA (n := 1440) (N' := 1440) (a0 := (1440, .inl (fun _ => 0))) (fun _ => rfl) (by decide +kernel) (by decide +kernel) (by decide +kernel) (by first | exact Nat.le_of_ble_eq_true rfl | omega) (by first | exact Nat.le_of_ble_eq_true rfl | omega) d_C_init_47 (fun q3 c9 H hK9 hP hD hS => ?_)
  have e9 : c9 = cI := ty_same hK9 (i := 0) (j := 4) rfl rfl
  rw [e9] at hP hD
  have hP : va_P (dC, dI) vwCl [(a0, .inr (2, [.ref q1, .int 0, .ref q2, .int 0, .int (-1), .int 100000, .null, .int 0, .int 0, .int 0, .null, .null, .null])), (q1, .inl (cZ, 6, .inr (.inr (.inr (.inr (fun _ => none)))))), (q2, .inl (cI, 1440, .inl (fun _ => 0))), (q3, .inl (cI, 1440, .inl (fun _ => 0)))] H := hP
  have hD : va_D A [(a0, .inr (2, [.ref q1, .int 0, .ref q2, .int 0, .int (-1), .int 100000, .null, .int 0, .int 0, .int 0, .null, .null, .null])), (q1, .inl (cZ, 6, .inr (.inr (.inr (.inr (fun _ => none)))))), (q2, .inl (cI, 1440, .inl (fun _ => 0))), (q3, .inl (cI, 1440, .inl (fun _ => 0)))] := hD
  refine va_putF (D := (dC, dI)) (ci := 2) (v := .ref q3) (ty := .array .int) (C := R_C) (T := F_C) (N := 13) hx hb hG i_C t_C t_C_ok n_C hown hK hP hD hS 0 rfl rfl 6 (by decide) (hG _ k_28) (fun _ h9 => h9) rfl hin rfl (by decide +kernel) rfl rfl (Nat.le_of_ble_eq_true rfl) d_C_init_49 (fun H locs hP hD hS => ?_)
  have hP : va_P (dC, dI) vwCl [(a0, .inr (2, [.ref q1, .int 0, .ref q2, .int 0, .int (-1), .int 100000, .ref q3, .int 0, .int 0, .int 0, .null, .null, .null])), (q1, .inl (cZ, 6, .inr (.inr (.inr (.inr (fun _ => none)))))), (q2, .inl (cI, 1440, .inl (fun _ => 0))), (q3, .inl (cI, 1440, .inl (fun _ => 0)))] H := hP
  have hD : va_D A [(a0, .inr (2, [.ref q1, .int 0, .ref q2, .int 0, .int (-1), .int 100000, .ref q3, .int 0, .int 0, .int 0, .null, .null, .null])), (q1, .inl (cZ, 6, .inr (.inr (.inr (.inr (fun _ => none)))))), (q2, .inl (cI, 1440, .inl (fun _ => 0))), (q3, .inl (cI, 1440, .inl (fun _ => 0)))] := hD
  refine lv_aload_n hx hb d_C_init_52 rfl (lv_at hl9 0 rfl) ?_
  refine lv_iconst (v := 0) hx hb d_C_init_53 (by decide) ?_
  refine va_put (D := (dC, dI)) (ci := 2) (v := .int 0) (ty := .boolean) (C := R_C) (T := F_C) (N := 13) hx hb hG i_C t_C t_C_ok n_C hown hK hP hD hS 0 rfl rfl 7 (by decide) (hG _ k_29) (fun _ h9 => h9) rfl (by decide +kernel) rfl rfl (Nat.le_of_ble_eq_true rfl) d_C_init_54 (fun H locs hP hD hS => ?_)
  have hP : va_P (dC, dI) vwCl [(a0, .inr (2, [.ref q1, .int 0, .ref q2, .int 0, .int (-1), .int 100000, .ref q3, .int 0, .int 0, .int 0, .null, .null, .null])), (q1, .inl (cZ, 6, .inr (.inr (.inr (.inr (fun _ => none)))))), (q2, .inl (cI, 1440, .inl (fun _ => 0))), (q3, .inl (cI, 1440, .inl (fun _ => 0)))] H := hP
  have hD : va_D A [(a0, .inr (2, [.ref q1, .int 0, .ref q2, .int 0, .int (-1), .int 100000, .ref q3, .int 0, .int 0, .int 0, .null, .null, .null])), (q1, .inl (cZ, 6, .inr (.inr (.inr (.inr (fun _ => none)))))), (q2, .inl (cI, 1440, .inl (fun _ => 0))), (q3, .inl (cI, 1440, .inl (fun _ => 0)))] := hD
  refine lv_aload_n hx hb d_C_init_57 rfl (lv_at hl9 0 rfl) ?_
  refine lv_iconst (v := 1) hx hb d_C_init_58 (by decide) ?_
  refine va_put (D := (dC, dI)) (ci := 2) (v := .int 1) (ty := .int) (C := R_C) (T := F_C) (N := 13) hx hb hG i_C t_C t_C_ok n_C hown hK hP hD hS 0 rfl rfl 8 (by decide) (hG _ k_30) (fun _ h9 => h9) rfl (by decide +kernel) rfl rfl (Nat.le_of_ble_eq_true rfl) d_C_init_59 (fun H locs hP hD hS => ?_)
  have hP : va_P (dC, dI) vwCl [(a0, .inr (2, [.ref q1, .int 0, .ref q2, .int 0, .int (-1), .int 100000, .ref q3, .int 0, .int 1, .int 0, .null, .null, .null])), (q1, .inl (cZ, 6, .inr (.inr (.inr (.inr (fun _ => none)))))), (q2, .inl (cI, 1440, .inl (fun _ => 0))), (q3, .inl (cI, 1440, .inl (fun _ => 0)))] H := hP
  have hD : va_D A [(a0, .inr (2, [.ref q1, .int 0, .ref q2, .int 0, .int (-1), .int 100000, .ref q3, .int 0, .int 1, .int 0, .null, .null, .null])), (q1, .inl (cZ, 6, .inr (.inr (.inr (.inr (fun _ => none)))))), (q2, .inl (cI, 1440, .inl (fun _ => 0))), (q3, .inl (cI, 1440, .inl (fun _ => 0)))] := hD
  refine lv_aload_n hx hb d_C_init_62 rfl (lv_at hl9 0 rfl) ?_
  refine lv_iconst (v := 2) hx hb d_C_init_63 (by decide) ?_
  refine va_put (D := (dC, dI)) (ci := 2) (v := .int 2) (ty := .int) (C := R_C) (T := F_C) (N := 13) hx hb hG i_C t_C t_C_ok n_C hown hK hP hD hS 0 rfl rfl 9 (by decide) (hG _ k_31) (fun _ h9 => h9) rfl (by decide +kernel) rfl rfl (Nat.le_of_ble_eq_true rfl) d_C_init_64 (fun H locs hP hD hS => ?_)
  have hP : va_P (dC, dI) vwCl [(a0, .inr (2, [.ref q1, .int 0, .ref q2, .int 0, .int (-1), .int 100000, .ref q3, .int 0, .int 1, .int 2, .null, .null, .null])), (q1, .inl (cZ, 6, .inr (.inr (.inr (.inr (fun _ => none)))))), (q2, .inl (cI, 1440, .inl (fun _ => 0))), (q3, .inl (cI, 1440, .inl (fun _ => 0)))] H := hP
  have hD : va_D A [(a0, .inr (2, [.ref q1, .int 0, .ref q2, .int 0, .int (-1), .int 100000, .ref q3, .int 0, .int 1, .int 2, .null, .null, .null])), (q1, .inl (cZ, 6, .inr (.inr (.inr (.inr (fun _ => none)))))), (q2, .inl (cI, 1440, .inl (fun _ => 0))), (q3, .inl (cI, 1440, .inl (fun _ => 0)))] := hD
  refine lv_aload_n hx hb d_C_init_67 rfl (lv_at hl9 0 rfl) ?_
  refine lv_bipush (v := 24) hx hb d_C_init_68 (by decide) ?_
  refine va_newa (atype := .int) hx hb (hG _ k_62) rfl hK hP hD hS hA (n := 24) (N' := 24) (a0 := (24, .inl (fun _ => 0))) (fun _ => rfl) (by decide +kernel) (by decide +kernel) (by decide +kernel) (by first | exact Nat.le_of_ble_eq_true rfl | omega) (by first | exact Nat.le_of_ble_eq_true rfl | omega) d_C_init_70 (fun q4 c9 H hK9 hP hD hS => ?_)
  have e9 : c9 = cI := ty_same hK9 (i := 0) (j := 4) rfl rfl
  rw [e9] at hP hD
  have hP : va_P (dC, dI) vwCl [(a0, .inr (2, [.ref q1, .int 0, .ref q2, .int 0, .int (-1), .int 100000, .ref q3, .int 0, .int 1, .int 2, .null, .null, .null])), (q1, .inl (cZ, 6, .inr (.inr (.inr (.inr (fun _ => none)))))), (q2, .inl (cI, 1440, .inl (fun _ => 0))), (q3, .inl (cI, 1440, .inl (fun _ => 0))), (q4, .inl (cI, 24, .inl (fun _ => 0)))] H := hP
  have hD : va_D A [(a0, .inr (2, [.ref q1, .int 0, .ref q2, .int 0, .int (-1), .int 100000, .ref q3, .int 0, .int 1, .int 2, .null, .null, .null])), (q1, .inl (cZ, 6, .inr (.inr (.inr (.inr (fun _ => none)))))), (q2, .inl (cI, 1440, .inl (fun _ => 0))), (q3, .inl (cI, 1440, .inl (fun _ => 0))), (q4, .inl (cI, 24, .inl (fun _ => 0)))] := hD
  refine va_putF (D := (dC, dI)) (ci := 2) (v := .ref q4) (ty := .array .int) (C := R_C) (T := F_C) (N := 13) hx hb hG i_C t_C t_C_ok n_C hown hK hP hD hS 0 rfl rfl 10 (by decide) (hG _ k_32) (fun _ h9 => h9) rfl hin rfl (by decide +kernel) rfl rfl (Nat.le_of_ble_eq_true rfl) d_C_init_72 (fun H locs hP hD hS => ?_)
  have hP : va_P (dC, dI) vwCl [(a0, .inr (2, [.ref q1, .int 0, .ref q2, .int 0, .int (-1), .int 100000, .ref q3, .int 0, .int 1, .int 2, .ref q4, .null, .null])), (q1, .inl (cZ, 6, .inr (.inr (.inr (.inr (fun _ => none)))))), (q2, .inl (cI, 1440, .inl (fun _ => 0))), (q3, .inl (cI, 1440, .inl (fun _ => 0))), (q4, .inl (cI, 24, .inl (fun _ => 0)))] H := hP
  have hD : va_D A [(a0, .inr (2, [.ref q1, .int 0, .ref q2, .int 0, .int (-1), .int 100000, .ref q3, .int 0, .int 1, .int 2, .ref q4, .null, .null])), (q1, .inl (cZ, 6, .inr (.inr (.inr (.inr (fun _ => none)))))), (q2, .inl (cI, 1440, .inl (fun _ => 0))), (q3, .inl (cI, 1440, .inl (fun _ => 0))), (q4, .inl (cI, 24, .inl (fun _ => 0)))] := hD
  refine lv_aload_n hx hb d_C_init_75 rfl (lv_at hl9 0 rfl) ?_
  refine lv_sipush (v := 1024) hx hb d_C_init_76 (by decide) ?_
  refine va_newa (atype := .int) hx hb (hG _ k_62) rfl hK hP hD hS hA (n := 1024) (N' := 1024) (a0 := (1024, .inl (fun _ => 0))) (fun _ => rfl) (by decide +kernel) (by decide +kernel) (by decide +kernel) (by first | exact Nat.le_of_ble_eq_true rfl | omega) (by first | exact Nat.le_of_ble_eq_true rfl | omega) d_C_init_79 (fun q5 c9 H hK9 hP hD hS => ?_)
  have e9 : c9 = cI := ty_same hK9 (i := 0) (j := 4) rfl rfl
  rw [e9] at hP hD
  have hP : va_P (dC, dI) vwCl [(a0, .inr (2, [.ref q1, .int 0, .ref q2, .int 0, .int (-1), .int 100000, .ref q3, .int 0, .int 1, .int 2, .ref q4, .null, .null])), (q1, .inl (cZ, 6, .inr (.inr (.inr (.inr (fun _ => none)))))), (q2, .inl (cI, 1440, .inl (fun _ => 0))), (q3, .inl (cI, 1440, .inl (fun _ => 0))), (q4, .inl (cI, 24, .inl (fun _ => 0))), (q5, .inl (cI, 1024, .inl (fun _ => 0)))] H := hP
  have hD : va_D A [(a0, .inr (2, [.ref q1, .int 0, .ref q2, .int 0, .int (-1), .int 100000, .ref q3, .int 0, .int 1, .int 2, .ref q4, .null, .null])), (q1, .inl (cZ, 6, .inr (.inr (.inr (.inr (fun _ => none)))))), (q2, .inl (cI, 1440, .inl (fun _ => 0))), (q3, .inl (cI, 1440, .inl (fun _ => 0))), (q4, .inl (cI, 24, .inl (fun _ => 0))), (q5, .inl (cI, 1024, .inl (fun _ => 0)))] := hD
  refine va_putF (D := (dC, dI)) (ci := 2) (v := .ref q5) (ty := .array .int) (C := R_C) (T := F_C) (N := 13) hx hb hG i_C t_C t_C_ok n_C hown hK hP hD hS 0 rfl rfl 11 (by decide) (hG _ k_33) (fun _ h9 => h9) rfl hin rfl (by decide +kernel) rfl rfl (Nat.le_of_ble_eq_true rfl) d_C_init_81 (fun H locs hP hD hS => ?_)
  have hP : va_P (dC, dI) vwCl [(a0, .inr (2, [.ref q1, .int 0, .ref q2, .int 0, .int (-1), .int 100000, .ref q3, .int 0, .int 1, .int 2, .ref q4, .ref q5, .null])), (q1, .inl (cZ, 6, .inr (.inr (.inr (.inr (fun _ => none)))))), (q2, .inl (cI, 1440, .inl (fun _ => 0))), (q3, .inl (cI, 1440, .inl (fun _ => 0))), (q4, .inl (cI, 24, .inl (fun _ => 0))), (q5, .inl (cI, 1024, .inl (fun _ => 0)))] H := hP
  have hD : va_D A [(a0, .inr (2, [.ref q1, .int 0, .ref q2, .int 0, .int (-1), .int 100000, .ref q3, .int 0, .int 1, .int 2, .ref q4, .ref q5, .null])), (q1, .inl (cZ, 6, .inr (.inr (.inr (.inr (fun _ => none)))))), (q2, .inl (cI, 1440, .inl (fun _ => 0))), (q3, .inl (cI, 1440, .inl (fun _ => 0))), (q4, .inl (cI, 24, .inl (fun _ => 0))), (q5, .inl (cI, 1024, .inl (fun _ => 0)))] := hD
  refine lv_aload_n hx hb d_C_init_84 rfl (lv_at hl9 0 rfl) ?_
  refine lv_sipush (v := 1024) hx hb d_C_init_85 (by decide) ?_
  refine va_newa (atype := .long) hx hb (hG _ k_63) rfl hK hP hD hS hA (n := 1024) (N' := 1024) (a0 := (1024, .inr (.inl (fun _ => 0)))) (fun _ => rfl) (by decide +kernel) (by decide +kernel) (by decide +kernel) (by first | exact Nat.le_of_ble_eq_true rfl | omega) (by first | exact Nat.le_of_ble_eq_true rfl | omega) d_C_init_88 (fun q6 c9 H hK9 hP hD hS => ?_)
  have e9 : c9 = cJ := ty_same hK9 (i := 1) (j := 4) rfl rfl
  rw [e9] at hP hD
  have hP : va_P (dC, dI) vwCl [(a0, .inr (2, [.ref q1, .int 0, .ref q2, .int 0, .int (-1), .int 100000, .ref q3, .int 0, .int 1, .int 2, .ref q4, .ref q5, .null])), (q1, .inl (cZ, 6, .inr (.inr (.inr (.inr (fun _ => none)))))), (q2, .inl (cI, 1440, .inl (fun _ => 0))), (q3, .inl (cI, 1440, .inl (fun _ => 0))), (q4, .inl (cI, 24, .inl (fun _ => 0))), (q5, .inl (cI, 1024, .inl (fun _ => 0))), (q6, .inl (cJ, 1024, .inr (.inl (fun _ => 0))))] H := hP
  have hD : va_D A [(a0, .inr (2, [.ref q1, .int 0, .ref q2, .int 0, .int (-1), .int 100000, .ref q3, .int 0, .int 1, .int 2, .ref q4, .ref q5, .null])), (q1, .inl (cZ, 6, .inr (.inr (.inr (.inr (fun _ => none)))))), (q2, .inl (cI, 1440, .inl (fun _ => 0))), (q3, .inl (cI, 1440, .inl (fun _ => 0))), (q4, .inl (cI, 24, .inl (fun _ => 0))), (q5, .inl (cI, 1024, .inl (fun _ => 0))), (q6, .inl (cJ, 1024, .inr (.inl (fun _ => 0))))] := hD
  refine va_putF (D := (dC, dI)) (ci := 2) (v := .ref q6) (ty := .array .long) (C := R_C) (T := F_C) (N := 13) hx hb hG i_C t_C t_C_ok n_C hown hK hP hD hS 0 rfl rfl 12 (by decide) (hG _ k_34) (fun _ h9 => h9) rfl hin rfl (by decide +kernel) rfl rfl (Nat.le_of_ble_eq_true rfl) d_C_init_90 (fun H locs hP hD hS => ?_)
  have hP : va_P (dC, dI) vwCl [(a0, .inr (2, [.ref q1, .int 0, .ref q2, .int 0, .int (-1), .int 100000, .ref q3, .int 0, .int 1, .int 2, .ref q4, .ref q5, .ref q6])), (q1, .inl (cZ, 6, .inr (.inr (.inr (.inr (fun _ => none)))))), (q2, .inl (cI, 1440, .inl (fun _ => 0))), (q3, .inl (cI, 1440, .inl (fun _ => 0))), (q4, .inl (cI, 24, .inl (fun _ => 0))), (q5, .inl (cI, 1024, .inl (fun _ => 0))), (q6, .inl (cJ, 1024, .inr (.inl (fun _ => 0))))] H := hP
  have hD : va_D A [(a0, .inr (2, [.ref q1, .int 0, .ref q2, .int 0, .int (-1), .int 100000, .ref q3, .int 0, .int 1, .int 2, .ref q4, .ref q5, .ref q6])), (q1, .inl (cZ, 6, .inr (.inr (.inr (.inr (fun _ => none)))))), (q2, .inl (cI, 1440, .inl (fun _ => 0))), (q3, .inl (cI, 1440, .inl (fun _ => 0))), (q4, .inl (cI, 24, .inl (fun _ => 0))), (q5, .inl (cI, 1024, .inl (fun _ => 0))), (q6, .inl (cJ, 1024, .inr (.inl (fun _ => 0))))] := hD
  exact W.vret hx hb hr (fun t ht hW => ⟨⟨(q1, q2, q3, q4, q5, q6), rfl, trivial, ⟨by have h9 := hP; rw [← ht] at h9; exact h9, hD⟩⟩, hS.F ht⟩) hS.2.2 d_C_init_93
end
section
theorem nI_self {x : Int32} (h : ¬ x < 0) : x = nI x.toNatClampNeg := by
  obtain ⟨j, hj, rfl⟩ := nI_of h
  rw [nI_clamp hj]
theorem in_bd {x hi : Int32} {n : Nat} (h : ¬ (x < 0 ∨ hi < x)) (hh : hi.toInt < n) : vp_in x n := by
  refine vp_in_iff.mpr ?_
  have h1 : ¬ x < 0 := fun q => h (Or.inl q)
  have h2 : ¬ hi < x := fun q => h (Or.inr q)
  rw [Int32.lt_iff_toInt_lt] at h1 h2
  rw [Int32.toInt_zero] at h1
  omega
theorem clamp_lt {x hi : Int32} {n : Nat} (h : ¬ (x < 0 ∨ hi < x)) (hh : hi.toInt < n) : x.toNatClampNeg < n := by
  have h1 : ¬ x < 0 := fun q => h (Or.inl q)
  have h2 : ¬ hi < x := fun q => h (Or.inr q)
  obtain ⟨j, hj, rfl⟩ := nI_of h1
  rw [nI_clamp hj]
  rw [Int32.lt_iff_toInt_lt, nI_toInt hj] at h2
  omega
/-- from place a on, n places are x -/
def fillO (f : Nat → Int32) (a : Nat) (x : Int32) : Nat → Nat → Int32
  | 0 => f
  | n + 1 => upd (fillO f a x n) (a + n) x
theorem g_C_56 : GoodIn GG (wsS R_C 56 y_C_checkBounds w_C_checkBounds) := goodG (List.forall_mem_append.mpr ⟨List.forall_mem_cons.mpr ⟨k_73, List.forall_mem_cons.mpr ⟨k_74, List.forall_mem_cons.mpr ⟨k_1, fun _ h => absurd h List.not_mem_nil⟩⟩⟩, List.forall_mem_cons.mpr ⟨k_75, fun _ h => h⟩⟩)
set_option maxHeartbeats 4000000 in
set_option maxRecDepth 100000 in
theorem c_machine (l : Launch) (dC : Nat → ClassId) (dI : Nat → Nat → Nat) (cI cJ cZ cB : ClassId) (hl : l.stackTraces = false) (a0 aZ aO aG aP aW aK : Nat) (zc orr ol mp pl fa fb : Int32) (v : Int32) (sz : Nat) : vx_Met l y_C_machine w_C_machine ({ frames := 7, cells := 1, slots := 6, locals := 104 }) (PC (dC, dI) (TY cI cJ cZ cB) [.ref a0, .int v] [(a0, .inr (2, [.ref aZ, .int zc, .ref aO, .int orr, .int ol, .int mp, .ref aG, .int pl, .int fa, .int fb, .ref aP, .ref aW, .ref aK]))] sz (va_A [(a0, .inr (2, [.ref aZ, .int zc, .ref aO, .int orr, .int ol, .int mp, .ref aG, .int pl, .int fa, .int fb, .ref aP, .ref aW, .ref aK]))] sz)) (va_Qi (fun (r : Int32) (_ : Unit) => r = mp ∧ ¬ (v < 0 ∨ 1000000 < v)) (fun (_ : Unit) (t : State) => va_P (dC, dI) vwCl [(a0, .inr (2, [.ref aZ, .int zc, .ref aO, .int orr, .int ol, .int v, .ref aG, .int 0, .int fa, .int fb, .ref aP, .ref aW, .ref aK]))] t.heap) (va_A [(a0, .inr (2, [.ref aZ, .int zc, .ref aO, .int orr, .int ol, .int mp, .ref aG, .int pl, .int fa, .int fb, .ref aP, .ref aW, .ref aK]))] sz)) (vx_X (fun (_ : Unit) => True) (fun (E : String) (_ : Unit) (t : State) => (E = "java/lang/IllegalArgumentException" ∧ (v < 0 ∨ 1000000 < v)) ∧ va_P (dC, dI) vwCl [(a0, .inr (2, [.ref aZ, .int zc, .ref aO, .int orr, .int ol, .int mp, .ref aG, .int pl, .int fa, .int fb, .ref aP, .ref aW, .ref aK]))] t.heap) (va_A [(a0, .inr (2, [.ref aZ, .int zc, .ref aO, .int orr, .int ol, .int mp, .ref aG, .int pl, .int fa, .int fb, .ref aP, .ref aW, .ref aK]))] sz)) 1 6 (va_A [(a0, .inr (2, [.ref aZ, .int zc, .ref aO, .int orr, .int ol, .int mp, .ref aG, .int pl, .int fa, .int fb, .ref aP, .ref aW, .ref aK]))] sz) := by
  refine vx_ofW (cc := b_C_machine) (maxL := 3) (ret := (some .int)) (by decide) rfl ?_
  intro p e s m args below meth c s₁ B hml hnx hv
  obtain ⟨rfl, hsz, hP, hK, hD0, hE⟩ := hv
  have hx := B.exec
  have hb := B.bytes
  have hr := B.returns
  have hG : ∀ w ∈ GG, w.before _ s = true := fun w h => atoms_spec (ws := w_C_machine) B.pre w (List.mem_cons_of_mem _ h)
  have hown : s.vm.findClass R_C = some m.cls := findClass_of_methodNamed B.named
  have hlocks := B.notSynchronized
  subst hsz
  have hD := hD0.self (sz := s.heap.size)
  generalize hAe : (va_A [(a0, .inr (2, [.ref aZ, .int zc, .ref aO, .int orr, .int ol, .int mp, .ref aG, .int pl, .int fa, .int fb, .ref aP, .ref aW, .ref aK]))] s.heap.size) = A at hD hE ⊢
  have hA : ∀ q : Nat, s.heap.size ≤ q → A q := fun q h => by rw [← hAe]; exact Or.inr h
  have hS : va_S A s.heap s.heap [] := va_S.rf
  obtain ⟨H, hH⟩ : ∃ z, z = s.heap := ⟨_, rfl⟩
  rw [← hH] at hP
  have hS : va_S A s.heap H [] := by rw [hH]; exact hS
  rw [← hH]
  have hl9 := lv_entry ([.ref a0, .int v]) (n := 3) (Nat.le_of_ble_eq_true rfl)
  rw [lg_entry_eq]
  generalize (lg_sl ([.ref a0, .int v]) ++ List.replicate (3 - (lg_sl ([.ref a0, .int v])).length) Slot.unset).toArray = ls at hl9 ⊢
  have hl9 : lv_has ls 3 [(0, .ref a0), (1, .int v)] := hl9
  refine lv_iload_n hx hb d_C_machine_0 rfl (lv_at hl9 1 rfl) ?_
  refine lv_iconst (v := 0) hx hb d_C_machine_1 (by decide) ?_
  refine lv_ldc (v := 1000000) hx hb hown (hG _ k_255) d_C_machine_2 ?_
  have hPc := hP.sub (ws' := []) [] rfl
  have hDc := hD.sub (ws' := []) [] (by decide) rfl
  have hFc := va_A_nil hA hS.1
  refine vx_callv (vx_runS (As := [.int v, .int 0, .int 1000000]) (rest := []) ⟨hx, hb, hml, hown, hG⟩ (c_checkBounds l dC dI cI cJ cZ cB hl v 0 1000000 H.size ) (cwS 3 hG g_C_56 rfl rfl rfl (by decide +kernel) ⟨Nat.le_of_ble_eq_true rfl, Nat.le_of_ble_eq_true rfl⟩) ⟨PC.blind, PC.of hPc hK hDc hE hS hFc⟩ rfl rfl hl9.1 rfl (lv_room (Nat.le_of_ble_eq_true rfl)) d_C_machine_4 ⟨by first | exact Nat.le_of_ble_eq_true rfl | omega, by first | exact Nat.le_of_ble_eq_true rfl | omega⟩) hS (fun q _ h => hFc q h) hFc (fun q _ h => hFc q h) (fun E ce q9 u t H1 locs ht hvm hpx hB hz1 hk1 hS hce hcv hcl => ?_) (fun u t H1 locs ht hvm hw hB hz1 hk1 hS => ?_)
  · exact vx_out (fun x hx => (hnx x hx).elim) hlocks hce hcv hcl (fun t ht ha => ⟨(), trivial, ⟨hB, by have h9 := wp_kept hP hk1; rw [← ht] at h9; exact h9⟩, hS.F ht⟩) hS.2.2 (by first | exact Nat.le_of_ble_eq_true rfl | omega) (by first | exact Nat.le_of_ble_eq_true rfl | omega)
  have hw := hw
  have hP := wp_kept hP hk1
  have hq3 : ¬ (v < 0 ∨ 1000000 < v) := hw
  refine lv_aload_n hx hb d_C_machine_7 rfl (lv_at hl9 0 rfl) ?_
  refine va_get (D := (dC, dI)) (ci := 2) (v := .int mp) (C := R_C) (T := F_C) (N := 13) hx hb hG i_C hown hK hP 0 rfl rfl 5 (by decide) (hG _ k_27) (fun _ h9 => h9) rfl d_C_machine_8 ?_
  refine lv_istore_n (lv' := [(2, .int mp), (0, .ref a0), (1, .int v)]) hx hb d_C_machine_11 rfl hl9 (by decide) rfl (fun ls hl9 => ?_)
  refine lv_aload_n hx hb d_C_machine_12 rfl (lv_at hl9 1 rfl) ?_
  refine lv_iload_n hx hb d_C_machine_13 rfl (lv_at hl9 2 rfl) ?_
  refine va_put (D := (dC, dI)) (ci := 2) (v := .int v) (ty := .int) (C := R_C) (T := F_C) (N := 13) hx hb hG i_C t_C t_C_ok n_C hown hK hP hD hS 0 rfl rfl 5 (by decide) (hG _ k_27) (fun _ h9 => h9) rfl (by decide +kernel) rfl rfl (Nat.le_of_ble_eq_true rfl) d_C_machine_14 (fun H locs hP hD hS => ?_)
  have hP : va_P (dC, dI) vwCl [(a0, .inr (2, [.ref aZ, .int zc, .ref aO, .int orr, .int ol, .int v, .ref aG, .int pl, .int fa, .int fb, .ref aP, .ref aW, .ref aK]))] H := hP
  have hD : va_D A [(a0, .inr (2, [.ref aZ, .int zc, .ref aO, .int orr, .int ol, .int v, .ref aG, .int pl, .int fa, .int fb, .ref aP, .ref aW, .ref aK]))] := hD
  refine lv_aload_n hx hb d_C_machine_17 rfl (lv_at hl9 1 rfl) ?_
  refine lv_iconst (v := 0) hx hb d_C_machine_18 (by decide) ?_
  refine va_put (D := (dC, dI)) (ci := 2) (v := .int 0) (ty := .boolean) (C := R_C) (T := F_C) (N := 13) hx hb hG i_C t_C t_C_ok n_C hown hK hP hD hS 0 rfl rfl 7 (by decide) (hG _ k_29) (fun _ h9 => h9) rfl (by decide +kernel) rfl rfl (Nat.le_of_ble_eq_true rfl) d_C_machine_19 (fun H locs hP hD hS => ?_)
  have hP : va_P (dC, dI) vwCl [(a0, .inr (2, [.ref aZ, .int zc, .ref aO, .int orr, .int ol, .int v, .ref aG, .int 0, .int fa, .int fb, .ref aP, .ref aW, .ref aK]))] H := hP
  have hD : va_D A [(a0, .inr (2, [.ref aZ, .int zc, .ref aO, .int orr, .int ol, .int v, .ref aG, .int 0, .int fa, .int fb, .ref aP, .ref aW, .ref aK]))] := hD
  refine lv_iload_n hx hb d_C_machine_22 rfl (lv_at hl9 0 rfl) ?_
  refine vx_ret ?_
  exact W.iret (v := mp) hx hb hr (fun t ht hW => ⟨⟨mp, (), rfl, ⟨rfl, hw⟩, by have h9 := hP; rw [← ht] at h9; exact h9⟩, hS.F ht⟩) hS.2.2 d_C_machine_23
set_option maxHeartbeats 4000000 in
set_option maxRecDepth 100000 in
theorem c_fade (l : Launch) (dC : Nat → ClassId) (dI : Nat → Nat → Nat) (cI cJ cZ cB : ClassId) (hl : l.stackTraces = false) (a0 aZ aO aG aP aW aK : Nat) (zc orr ol mp pl fa fb : Int32) (x y : Int32) (sz : Nat) : vx_Met l y_C_fade w_C_fade ({ frames := 7, cells := 2, slots := 12, locals := 104 }) (PC (dC, dI) (TY cI cJ cZ cB) [.ref a0, .int x, .int y] [(a0, .inr (2, [.ref aZ, .int zc, .ref aO, .int orr, .int ol, .int mp, .ref aG, .int pl, .int fa, .int fb, .ref aP, .ref aW, .ref aK]))] sz (va_A [(a0, .inr (2, [.ref aZ, .int zc, .ref aO, .int orr, .int ol, .int mp, .ref aG, .int pl, .int fa, .int fb, .ref aP, .ref aW, .ref aK]))] sz)) (va_Qv (fun (_ : Unit) => ¬ ((y < 1 ∨ 100 < y) ∨ (x < 0 ∨ y < x))) (fun (_ : Unit) (t : State) => va_P (dC, dI) vwCl [(a0, .inr (2, [.ref aZ, .int zc, .ref aO, .int orr, .int ol, .int mp, .ref aG, .int pl, .int x, .int y, .ref aP, .ref aW, .ref aK]))] t.heap) (va_A [(a0, .inr (2, [.ref aZ, .int zc, .ref aO, .int orr, .int ol, .int mp, .ref aG, .int pl, .int fa, .int fb, .ref aP, .ref aW, .ref aK]))] sz)) (vx_X (fun (_ : Unit) => True) (fun (E : String) (_ : Unit) (t : State) => (E = "java/lang/IllegalArgumentException" ∧ ((y < 1 ∨ 100 < y) ∨ (x < 0 ∨ y < x))) ∧ va_P (dC, dI) vwCl [(a0, .inr (2, [.ref aZ, .int zc, .ref aO, .int orr, .int ol, .int mp, .ref aG, .int pl, .int fa, .int fb, .ref aP, .ref aW, .ref aK]))] t.heap) (va_A [(a0, .inr (2, [.ref aZ, .int zc, .ref aO, .int orr, .int ol, .int mp, .ref aG, .int pl, .int fa, .int fb, .ref aP, .ref aW, .ref aK]))] sz)) 2 12 (va_A [(a0, .inr (2, [.ref aZ, .int zc, .ref aO, .int orr, .int ol, .int mp, .ref aG, .int pl, .int fa, .int fb, .ref aP, .ref aW, .ref aK]))] sz) := by
  refine vx_ofW (cc := b_C_fade) (maxL := 3) (ret := none) (by decide) rfl ?_
  intro p e s m args below meth c s₁ B hml hnx hv
  obtain ⟨rfl, hsz, hP, hK, hD0, hE⟩ := hv
  have hx := B.exec
  have hb := B.bytes
  have hr := B.returns
  have hG : ∀ w ∈ GG, w.before _ s = true := fun w h => atoms_spec (ws := w_C_fade) B.pre w (List.mem_cons_of_mem _ h)
  have hown : s.vm.findClass R_C = some m.cls := findClass_of_methodNamed B.named
  have hlocks := B.notSynchronized
  subst hsz
  have hD := hD0.self (sz := s.heap.size)
  generalize hAe : (va_A [(a0, .inr (2, [.ref aZ, .int zc, .ref aO, .int orr, .int ol, .int mp, .ref aG, .int pl, .int fa, .int fb, .ref aP, .ref aW, .ref aK]))] s.heap.size) = A at hD hE ⊢
  have hA : ∀ q : Nat, s.heap.size ≤ q → A q := fun q h => by rw [← hAe]; exact Or.inr h
  have hS : va_S A s.heap s.heap [] := va_S.rf
  obtain ⟨H, hH⟩ : ∃ z, z = s.heap := ⟨_, rfl⟩
  rw [← hH] at hP
  have hS : va_S A s.heap H [] := by rw [hH]; exact hS
  rw [← hH]
  have hl9 := lv_entry ([.ref a0, .int x, .int y]) (n := 3) (Nat.le_of_ble_eq_true rfl)
  rw [lg_entry_eq]
  generalize (lg_sl ([.ref a0, .int x, .int y]) ++ List.replicate (3 - (lg_sl ([.ref a0, .int x, .int y])).length) Slot.unset).toArray = ls at hl9 ⊢
  have hl9 : lv_has ls 3 [(0, .ref a0), (1, .int x), (2, .int y)] := hl9
  refine lv_iload_n hx hb d_C_fade_0 rfl (lv_at hl9 2 rfl) ?_
  refine lv_iconst (v := 1) hx hb d_C_fade_1 (by decide) ?_
  refine lv_bipush (v := 100) hx hb d_C_fade_2 (by decide) ?_
  have hPc := hP.sub (ws' := []) [] rfl
  have hDc := hD.sub (ws' := []) [] (by decide) rfl
  have hFc := va_A_nil hA hS.1
  refine vx_callv (vx_runS (As := [.int y, .int 1, .int 100]) (rest := []) ⟨hx, hb, hml, hown, hG⟩ (c_checkBounds l dC dI cI cJ cZ cB hl y 1 100 H.size ) (cwS 3 hG g_C_56 rfl rfl rfl (by decide +kernel) ⟨Nat.le_of_ble_eq_true rfl, Nat.le_of_ble_eq_true rfl⟩) ⟨PC.blind, PC.of hPc hK hDc hE hS hFc⟩ rfl rfl hl9.1 rfl (lv_room (Nat.le_of_ble_eq_true rfl)) d_C_fade_4 ⟨by first | exact Nat.le_of_ble_eq_true rfl | omega, by first | exact Nat.le_of_ble_eq_true rfl | omega⟩) hS (fun q _ h => hFc q h) hFc (fun q _ h => hFc q h) (fun E ce q9 u t H1 locs ht hvm hpx hB hz1 hk1 hS hce hcv hcl => ?_) (fun u t H1 locs ht hvm hw hB hz1 hk1 hS => ?_)
  · exact vx_out (fun x hx => (hnx x hx).elim) hlocks hce hcv hcl (fun t ht ha => ⟨(), trivial, ⟨⟨hB.1, Or.inl hB.2⟩, by have h9 := wp_kept hP hk1; rw [← ht] at h9; exact h9⟩, hS.F ht⟩) hS.2.2 (by first | exact Nat.le_of_ble_eq_true rfl | omega) (by first | exact Nat.le_of_ble_eq_true rfl | omega)
  have hw := hw
  have hP := wp_kept hP hk1
  have hq3 : ¬ (y < 1 ∨ 100 < y) := hw
  have hw1 := hw
  refine lv_iload_n hx hb d_C_fade_7 rfl (lv_at hl9 1 rfl) ?_
  refine lv_iconst (v := 0) hx hb d_C_fade_8 (by decide) ?_
  refine lv_iload_n hx hb d_C_fade_9 rfl (lv_at hl9 2 rfl) ?_
  have hPc := hP.sub (ws' := []) [] rfl
  have hDc := hD.sub (ws' := []) [] (by decide) rfl
  have hFc := va_A_nil hA hS.1
  refine vx_callv (vx_runS (As := [.int x, .int 0, .int y]) (rest := []) ⟨hx, hb, hml, hown, hG⟩ (c_checkBounds l dC dI cI cJ cZ cB hl x 0 y H1.size ) (cwS 3 hG g_C_56 rfl rfl rfl (by decide +kernel) ⟨Nat.le_of_ble_eq_true rfl, Nat.le_of_ble_eq_true rfl⟩) ⟨PC.blind, PC.of hPc hK hDc hE hS hFc⟩ rfl rfl hl9.1 rfl (lv_room (Nat.le_of_ble_eq_true rfl)) d_C_fade_10 ⟨by first | exact Nat.le_of_ble_eq_true rfl | omega, by first | exact Nat.le_of_ble_eq_true rfl | omega⟩) hS (fun q _ h => hFc q h) hFc (fun q _ h => hFc q h) (fun E ce q9 u t H4 locs ht hvm hpx hB hz1 hk1 hS hce hcv hcl => ?_) (fun u t H4 locs ht hvm hw hB hz1 hk1 hS => ?_)
  · exact vx_out (fun x hx => (hnx x hx).elim) hlocks hce hcv hcl (fun t ht ha => ⟨(), trivial, ⟨⟨hB.1, Or.inr hB.2⟩, by have h9 := wp_kept hP hk1; rw [← ht] at h9; exact h9⟩, hS.F ht⟩) hS.2.2 (by first | exact Nat.le_of_ble_eq_true rfl | omega) (by first | exact Nat.le_of_ble_eq_true rfl | omega)
  have hw := hw
  have hP := wp_kept hP hk1
  have hq6 : ¬ (x < 0 ∨ y < x) := hw
  refine lv_aload_n hx hb d_C_fade_13 rfl (lv_at hl9 0 rfl) ?_
  refine lv_iload_n hx hb d_C_fade_14 rfl (lv_at hl9 1 rfl) ?_
  refine va_put (D := (dC, dI)) (ci := 2) (v := .int x) (ty := .int) (C := R_C) (T := F_C) (N := 13) hx hb hG i_C t_C t_C_ok n_C hown hK hP hD hS 0 rfl rfl 8 (by decide) (hG _ k_30) (fun _ h9 => h9) rfl (by decide +kernel) rfl rfl (Nat.le_of_ble_eq_true rfl) d_C_fade_15 (fun H locs hP hD hS => ?_)
  have hP : va_P (dC, dI) vwCl [(a0, .inr (2, [.ref aZ, .int zc, .ref aO, .int orr, .int ol, .int mp, .ref aG, .int pl, .int x, .int fb, .ref aP, .ref aW, .ref aK]))] H := hP
  have hD : va_D A [(a0, .inr (2, [.ref aZ, .int zc, .ref aO, .int orr, .int ol, .int mp, .ref aG, .int pl, .int x, .int fb, .ref aP, .ref aW, .ref aK]))] := hD
  refine lv_aload_n hx hb d_C_fade_18 rfl (lv_at hl9 0 rfl) ?_
  refine lv_iload_n hx hb d_C_fade_19 rfl (lv_at hl9 2 rfl) ?_
  refine va_put (D := (dC, dI)) (ci := 2) (v := .int y) (ty := .int) (C := R_C) (T := F_C) (N := 13) hx hb hG i_C t_C t_C_ok n_C hown hK hP hD hS 0 rfl rfl 9 (by decide) (hG _ k_31) (fun _ h9 => h9) rfl (by decide +kernel) rfl rfl (Nat.le_of_ble_eq_true rfl) d_C_fade_20 (fun H locs hP hD hS => ?_)
  have hP : va_P (dC, dI) vwCl [(a0, .inr (2, [.ref aZ, .int zc, .ref aO, .int orr, .int ol, .int mp, .ref aG, .int pl, .int x, .int y, .ref aP, .ref aW, .ref aK]))] H := hP
  have hD : va_D A [(a0, .inr (2, [.ref aZ, .int zc, .ref aO, .int orr, .int ol, .int mp, .ref aG, .int pl, .int x, .int y, .ref aP, .ref aW, .ref aK]))] := hD
  refine vx_ret ?_
  exact W.vret hx hb hr (fun t ht hW => ⟨⟨(), rfl, fun h => h.elim hw1 hw, by have h9 := hP; rw [← ht] at h9; exact h9⟩, hS.F ht⟩) hS.2.2 d_C_fade_23
set_option maxHeartbeats 4000000 in
set_option maxRecDepth 100000 in
theorem c_price (l : Launch) (dC : Nat → ClassId) (dI : Nat → Nat → Nat) (cI cJ cZ cB : ClassId) (hl : l.stackTraces = false) (a0 aZ aO aG aP aW aK : Nat) (zc orr ol mp pl fa fb : Int32) (fP : Nat → Int32) (x y : Int32) (sz : Nat) : vx_Met l y_C_price w_C_price ({ frames := 7, cells := 2, slots := 12, locals := 104 }) (PC (dC, dI) (TY cI cJ cZ cB) [.ref a0, .int x, .int y] [(a0, .inr (2, [.ref aZ, .int zc, .ref aO, .int orr, .int ol, .int mp, .ref aG, .int pl, .int fa, .int fb, .ref aP, .ref aW, .ref aK])), (aP, .inl (cI, 24, .inl fP))] sz (va_A [(a0, .inr (2, [.ref aZ, .int zc, .ref aO, .int orr, .int ol, .int mp, .ref aG, .int pl, .int fa, .int fb, .ref aP, .ref aW, .ref aK])), (aP, .inl (cI, 24, .inl fP))] sz)) (va_Qi (fun (r : Int32) (_ : Unit) => r = fP x.toNatClampNeg ∧ ¬ ((x < 0 ∨ 23 < x) ∨ (y < 0 ∨ 1000 < y))) (fun (_ : Unit) (t : State) => va_P (dC, dI) vwCl [(a0, .inr (2, [.ref aZ, .int zc, .ref aO, .int orr, .int ol, .int mp, .ref aG, .int pl, .int fa, .int fb, .ref aP, .ref aW, .ref aK])), (aP, .inl (cI, 24, .inl (upd fP x.toNatClampNeg y)))] t.heap) (va_A [(a0, .inr (2, [.ref aZ, .int zc, .ref aO, .int orr, .int ol, .int mp, .ref aG, .int pl, .int fa, .int fb, .ref aP, .ref aW, .ref aK])), (aP, .inl (cI, 24, .inl fP))] sz)) (vx_X (fun (_ : Unit) => True) (fun (E : String) (_ : Unit) (t : State) => (E = "java/lang/IllegalArgumentException" ∧ ((x < 0 ∨ 23 < x) ∨ (y < 0 ∨ 1000 < y))) ∧ va_P (dC, dI) vwCl [(a0, .inr (2, [.ref aZ, .int zc, .ref aO, .int orr, .int ol, .int mp, .ref aG, .int pl, .int fa, .int fb, .ref aP, .ref aW, .ref aK])), (aP, .inl (cI, 24, .inl fP))] t.heap) (va_A [(a0, .inr (2, [.ref aZ, .int zc, .ref aO, .int orr, .int ol, .int mp, .ref aG, .int pl, .int fa, .int fb, .ref aP, .ref aW, .ref aK])), (aP, .inl (cI, 24, .inl fP))] sz)) 2 12 (va_A [(a0, .inr (2, [.ref aZ, .int zc, .ref aO, .int orr, .int ol, .int mp, .ref aG, .int pl, .int fa, .int fb, .ref aP, .ref aW, .ref aK])), (aP, .inl (cI, 24, .inl fP))] sz) := by
  refine vx_ofW (cc := b_C_price) (maxL := 4) (ret := (some .int)) (by decide) rfl ?_
  intro p e s m args below meth c s₁ B hml hnx hv
  obtain ⟨rfl, hsz, hP, hK, hD0, hE⟩ := hv
  have hx := B.exec
  have hb := B.bytes
  have hr := B.returns
  have hG : ∀ w ∈ GG, w.before _ s = true := fun w h => atoms_spec (ws := w_C_price) B.pre w (List.mem_cons_of_mem _ h)
  have hown : s.vm.findClass R_C = some m.cls := findClass_of_methodNamed B.named
  have hlocks := B.notSynchronized
  subst hsz
  have hD := hD0.self (sz := s.heap.size)
  generalize hAe : (va_A [(a0, .inr (2, [.ref aZ, .int zc, .ref aO, .int orr, .int ol, .int mp, .ref aG, .int pl, .int fa, .int fb, .ref aP, .ref aW, .ref aK])), (aP, .inl (cI, 24, .inl fP))] s.heap.size) = A at hD hE ⊢
  have hA : ∀ q : Nat, s.heap.size ≤ q → A q := fun q h => by rw [← hAe]; exact Or.inr h
  have hS : va_S A s.heap s.heap [] := va_S.rf
  obtain ⟨H, hH⟩ : ∃ z, z = s.heap := ⟨_, rfl⟩
  rw [← hH] at hP
  have hS : va_S A s.heap H [] := by rw [hH]; exact hS
  rw [← hH]
  have hl9 := lv_entry ([.ref a0, .int x, .int y]) (n := 4) (Nat.le_of_ble_eq_true rfl)
  rw [lg_entry_eq]
  generalize (lg_sl ([.ref a0, .int x, .int y]) ++ List.replicate (4 - (lg_sl ([.ref a0, .int x, .int y])).length) Slot.unset).toArray = ls at hl9 ⊢
  have hl9 : lv_has ls 4 [(0, .ref a0), (1, .int x), (2, .int y)] := hl9
  refine lv_iload_n hx hb d_C_price_0 rfl (lv_at hl9 1 rfl) ?_
  refine lv_iconst (v := 0) hx hb d_C_price_1 (by decide) ?_
  refine lv_bipush (v := 23) hx hb d_C_price_2 (by decide) ?_
  have hPc := hP.sub (ws' := []) [] rfl
  have hDc := hD.sub (ws' := []) [] (by decide) rfl
  have hFc := va_A_nil hA hS.1
  refine vx_callv (vx_runS (As := [.int x, .int 0, .int 23]) (rest := []) ⟨hx, hb, hml, hown, hG⟩ (c_checkBounds l dC dI cI cJ cZ cB hl x 0 23 H.size ) (cwS 3 hG g_C_56 rfl rfl rfl (by decide +kernel) ⟨Nat.le_of_ble_eq_true rfl, Nat.le_of_ble_eq_true rfl⟩) ⟨PC.blind, PC.of hPc hK hDc hE hS hFc⟩ rfl rfl hl9.1 rfl (lv_room (Nat.le_of_ble_eq_true rfl)) d_C_price_4 ⟨by first | exact Nat.le_of_ble_eq_true rfl | omega, by first | exact Nat.le_of_ble_eq_true rfl | omega⟩) hS (fun q _ h => hFc q h) hFc (fun q _ h => hFc q h) (fun E ce q9 u t H1 locs ht hvm hpx hB hz1 hk1 hS hce hcv hcl => ?_) (fun u t H1 locs ht hvm hw hB hz1 hk1 hS => ?_)
  · exact vx_out (fun x hx => (hnx x hx).elim) hlocks hce hcv hcl (fun t ht ha => ⟨(), trivial, ⟨⟨hB.1, Or.inl hB.2⟩, by have h9 := wp_kept hP hk1; rw [← ht] at h9; exact h9⟩, hS.F ht⟩) hS.2.2 (by first | exact Nat.le_of_ble_eq_true rfl | omega) (by first | exact Nat.le_of_ble_eq_true rfl | omega)
  have hw := hw
  have hP := wp_kept hP hk1
  have hq3 : ¬ (x < 0 ∨ 23 < x) := hw
  have hw1 := hw
  have hin : vp_in x 24 := in_bd hw1 (by decide)
  refine lv_iload_n hx hb d_C_price_7 rfl (lv_at hl9 2 rfl) ?_
  refine lv_iconst (v := 0) hx hb d_C_price_8 (by decide) ?_
  refine lv_sipush (v := 1000) hx hb d_C_price_9 (by decide) ?_
  have hPc := hP.sub (ws' := []) [] rfl
  have hDc := hD.sub (ws' := []) [] (by decide) rfl
  have hFc := va_A_nil hA hS.1
  refine vx_callv (vx_runS (As := [.int y, .int 0, .int 1000]) (rest := []) ⟨hx, hb, hml, hown, hG⟩ (c_checkBounds l dC dI cI cJ cZ cB hl y 0 1000 H1.size ) (cwS 3 hG g_C_56 rfl rfl rfl (by decide +kernel) ⟨Nat.le_of_ble_eq_true rfl, Nat.le_of_ble_eq_true rfl⟩) ⟨PC.blind, PC.of hPc hK hDc hE hS hFc⟩ rfl rfl hl9.1 rfl (lv_room (Nat.le_of_ble_eq_true rfl)) d_C_price_12 ⟨by first | exact Nat.le_of_ble_eq_true rfl | omega, by first | exact Nat.le_of_ble_eq_true rfl | omega⟩) hS (fun q _ h => hFc q h) hFc (fun q _ h => hFc q h) (fun E ce q9 u t H4 locs ht hvm hpx hB hz1 hk1 hS hce hcv hcl => ?_) (fun u t H4 locs ht hvm hw hB hz1 hk1 hS => ?_)
  · exact vx_out (fun x hx => (hnx x hx).elim) hlocks hce hcv hcl (fun t ht ha => ⟨(), trivial, ⟨⟨hB.1, Or.inr hB.2⟩, by have h9 := wp_kept hP hk1; rw [← ht] at h9; exact h9⟩, hS.F ht⟩) hS.2.2 (by first | exact Nat.le_of_ble_eq_true rfl | omega) (by first | exact Nat.le_of_ble_eq_true rfl | omega)
  have hw := hw
  have hP := wp_kept hP hk1
  have hq6 : ¬ (y < 0 ∨ 1000 < y) := hw
  refine lv_aload_n hx hb d_C_price_15 rfl (lv_at hl9 0 rfl) ?_
  refine va_get (D := (dC, dI)) (ci := 2) (v := .ref aP) (C := R_C) (T := F_C) (N := 13) hx hb hG i_C hown hK hP 0 rfl rfl 10 (by decide) (hG _ k_32) (fun _ h9 => h9) rfl d_C_price_16 ?_
  refine lv_iload_n hx hb d_C_price_19 rfl (lv_at hl9 1 rfl) ?_
  refine va_iald hx hb hK hP 1 0 rfl rfl (hin) d_C_price_20 ?_
  refine lv_istore_n (lv' := [(3, .int (fP x.toNatClampNeg)), (0, .ref a0), (1, .int x), (2, .int y)]) hx hb d_C_price_21 rfl hl9 (by decide) rfl (fun ls hl9 => ?_)
  refine lv_aload_n hx hb d_C_price_22 rfl (lv_at hl9 1 rfl) ?_
  refine va_get (D := (dC, dI)) (ci := 2) (v := .ref aP) (C := R_C) (T := F_C) (N := 13) hx hb hG i_C hown hK hP 0 rfl rfl 10 (by decide) (hG _ k_32) (fun _ h9 => h9) rfl d_C_price_23 ?_
  refine lv_iload_n hx hb d_C_price_26 rfl (lv_at hl9 2 rfl) ?_
  refine lv_iload_n hx hb d_C_price_27 rfl (lv_at hl9 3 rfl) ?_
  refine va_iast hx hb hK hP hD hS 1 0 rfl rfl (hin) d_C_price_28 (fun H locs hP hD hS => ?_)
  have hP : va_P (dC, dI) vwCl [(a0, .inr (2, [.ref aZ, .int zc, .ref aO, .int orr, .int ol, .int mp, .ref aG, .int pl, .int fa, .int fb, .ref aP, .ref aW, .ref aK])), (aP, .inl (cI, 24, .inl (upd fP x.toNatClampNeg y)))] H := hP
  have hD : va_D A [(a0, .inr (2, [.ref aZ, .int zc, .ref aO, .int orr, .int ol, .int mp, .ref aG, .int pl, .int fa, .int fb, .ref aP, .ref aW, .ref aK])), (aP, .inl (cI, 24, .inl (upd fP x.toNatClampNeg y)))] := hD
  refine lv_iload_n hx hb d_C_price_29 rfl (lv_at hl9 0 rfl) ?_
  refine vx_ret ?_
  exact W.iret (v := (fP x.toNatClampNeg)) hx hb hr (fun t ht hW => ⟨⟨(fP x.toNatClampNeg), (), rfl, ⟨rfl, fun h => h.elim hw1 hw⟩, by have h9 := hP; rw [← ht] at h9; exact h9⟩, hS.F ht⟩) hS.2.2 d_C_price_30
set_option maxHeartbeats 4000000 in
set_option maxRecDepth 100000 in
theorem c_outside (l : Launch) (dC : Nat → ClassId) (dI : Nat → Nat → Nat) (cI cJ cZ cB : ClassId) (hl : l.stackTraces = false) (a0 aZ aO aG aP aW aK : Nat) (zc orr ol mp pl fa fb : Int32) (fO : Nat → Int32) (x y : Int32) (sz : Nat) : vx_Met l y_C_outside w_C_outside ({ frames := 7, cells := 3, slots := 18, locals := 104 }) (PC (dC, dI) (TY cI cJ cZ cB) [.ref a0, .int x, .int y] [(a0, .inr (2, [.ref aZ, .int zc, .ref aO, .int orr, .int ol, .int mp, .ref aG, .int pl, .int fa, .int fb, .ref aP, .ref aW, .ref aK])), (aO, .inl (cI, 1440, .inl fO))] sz (va_A [(a0, .inr (2, [.ref aZ, .int zc, .ref aO, .int orr, .int ol, .int mp, .ref aG, .int pl, .int fa, .int fb, .ref aP, .ref aW, .ref aK])), (aO, .inl (cI, 1440, .inl fO))] sz)) (va_Qi (fun (r : Int32) (_ : Unit) => r = orr + 1 ∧ ¬ ((x < 0 ∨ 1439 < x) ∨ (y < (-10000) ∨ 10000 < y)) ∧ ¬ (24 ≤ orr ∨ x ≤ ol)) (fun (_ : Unit) (t : State) => va_P (dC, dI) vwCl [(a0, .inr (2, [.ref aZ, .int zc, .ref aO, .int (orr + 1), .int x, .int mp, .ref aG, .int 0, .int fa, .int fb, .ref aP, .ref aW, .ref aK])), (aO, .inl (cI, 1440, .inl (fillO fO x.toNatClampNeg y (1440 - x.toNatClampNeg))))] t.heap) (va_A [(a0, .inr (2, [.ref aZ, .int zc, .ref aO, .int orr, .int ol, .int mp, .ref aG, .int pl, .int fa, .int fb, .ref aP, .ref aW, .ref aK])), (aO, .inl (cI, 1440, .inl fO))] sz)) (vx_X (fun (_ : Unit) => True) (fun (E : String) (_ : Unit) (t : State) => ((E = "java/lang/IllegalArgumentException" ∧ ((x < 0 ∨ 1439 < x) ∨ (y < (-10000) ∨ 10000 < y))) ∨ (E = "java/lang/IllegalStateException" ∧ ¬ ((x < 0 ∨ 1439 < x) ∨ (y < (-10000) ∨ 10000 < y)) ∧ (24 ≤ orr ∨ x ≤ ol))) ∧ va_P (dC, dI) vwCl [(a0, .inr (2, [.ref aZ, .int zc, .ref aO, .int orr, .int ol, .int mp, .ref aG, .int pl, .int fa, .int fb, .ref aP, .ref aW, .ref aK])), (aO, .inl (cI, 1440, .inl fO))] t.heap) (va_A [(a0, .inr (2, [.ref aZ, .int zc, .ref aO, .int orr, .int ol, .int mp, .ref aG, .int pl, .int fa, .int fb, .ref aP, .ref aW, .ref aK])), (aO, .inl (cI, 1440, .inl fO))] sz)) 3 18 (va_A [(a0, .inr (2, [.ref aZ, .int zc, .ref aO, .int orr, .int ol, .int mp, .ref aG, .int pl, .int fa, .int fb, .ref aP, .ref aW, .ref aK])), (aO, .inl (cI, 1440, .inl fO))] sz) := by
  refine vx_ofW (cc := b_C_outside) (maxL := 4) (ret := (some .int)) (by decide) rfl ?_
  intro p e s m args below meth c s₁ B hml hnx hv
  obtain ⟨rfl, hsz, hP, hK, hD0, hE⟩ := hv
  have hx := B.exec
  have hb := B.bytes
  have hr := B.returns
  have hG : ∀ w ∈ GG, w.before _ s = true := fun w h => atoms_spec (ws := w_C_outside) B.pre w (List.mem_cons_of_mem _ h)
  have hown : s.vm.findClass R_C = some m.cls := findClass_of_methodNamed B.named
  have hlocks := B.notSynchronized
  subst hsz
  have hD := hD0.self (sz := s.heap.size)
  generalize hAe : (va_A [(a0, .inr (2, [.ref aZ, .int zc, .ref aO, .int orr, .int ol, .int mp, .ref aG, .int pl, .int fa, .int fb, .ref aP, .ref aW, .ref aK])), (aO, .inl (cI, 1440, .inl fO))] s.heap.size) = A at hD hE ⊢
  have hA : ∀ q : Nat, s.heap.size ≤ q → A q := fun q h => by rw [← hAe]; exact Or.inr h
  have hS : va_S A s.heap s.heap [] := va_S.rf
  obtain ⟨H, hH⟩ : ∃ z, z = s.heap := ⟨_, rfl⟩
  rw [← hH] at hP
  have hS : va_S A s.heap H [] := by rw [hH]; exact hS
  rw [← hH]
  have hl9 := lv_entry ([.ref a0, .int x, .int y]) (n := 4) (Nat.le_of_ble_eq_true rfl)
  rw [lg_entry_eq]
  generalize (lg_sl ([.ref a0, .int x, .int y]) ++ List.replicate (4 - (lg_sl ([.ref a0, .int x, .int y])).length) Slot.unset).toArray = ls at hl9 ⊢
  have hl9 : lv_has ls 4 [(0, .ref a0), (1, .int x), (2, .int y)] := hl9
  refine lv_iload_n hx hb d_C_outside_0 rfl (lv_at hl9 1 rfl) ?_
  refine lv_iconst (v := 0) hx hb d_C_outside_1 (by decide) ?_
  refine lv_sipush (v := 1439) hx hb d_C_outside_2 (by decide) ?_
  have hPc := hP.sub (ws' := []) [] rfl
  have hDc := hD.sub (ws' := []) [] (by decide) rfl
  have hFc := va_A_nil hA hS.1
  refine vx_callv (vx_runS (As := [.int x, .int 0, .int 1439]) (rest := []) ⟨hx, hb, hml, hown, hG⟩ (c_checkBounds l dC dI cI cJ cZ cB hl x 0 1439 H.size ) (cwS 3 hG g_C_56 rfl rfl rfl (by decide +kernel) ⟨Nat.le_of_ble_eq_true rfl, Nat.le_of_ble_eq_true rfl⟩) ⟨PC.blind, PC.of hPc hK hDc hE hS hFc⟩ rfl rfl hl9.1 rfl (lv_room (Nat.le_of_ble_eq_true rfl)) d_C_outside_5 ⟨by first | exact Nat.le_of_ble_eq_true rfl | omega, by first | exact Nat.le_of_ble_eq_true rfl | omega⟩) hS (fun q _ h => hFc q h) hFc (fun q _ h => hFc q h) (fun E ce q9 u t H1 locs ht hvm hpx hB hz1 hk1 hS hce hcv hcl => ?_) (fun u t H1 locs ht hvm hw hB hz1 hk1 hS => ?_)
  · exact vx_out (fun x hx => (hnx x hx).elim) hlocks hce hcv hcl (fun t ht ha => ⟨(), trivial, ⟨Or.inl ⟨hB.1, Or.inl hB.2⟩, by have h9 := wp_kept hP hk1; rw [← ht] at h9; exact h9⟩, hS.F ht⟩) hS.2.2 (by first | exact Nat.le_of_ble_eq_true rfl | omega) (by first | exact Nat.le_of_ble_eq_true rfl | omega)
  have hw := hw
  have hP := wp_kept hP hk1
  have hq3 : ¬ (x < 0 ∨ 1439 < x) := hw
  have hw1 := hw
  refine lv_iload_n hx hb d_C_outside_8 rfl (lv_at hl9 2 rfl) ?_
  refine lv_sipush (v := (-10000)) hx hb d_C_outside_9 (by decide) ?_
  refine lv_sipush (v := 10000) hx hb d_C_outside_12 (by decide) ?_
  have hPc := hP.sub (ws' := []) [] rfl
  have hDc := hD.sub (ws' := []) [] (by decide) rfl
  have hFc := va_A_nil hA hS.1
  refine vx_callv (vx_runS (As := [.int y, .int (-10000), .int 10000]) (rest := []) ⟨hx, hb, hml, hown, hG⟩ (c_checkBounds l dC dI cI cJ cZ cB hl y (-10000) 10000 H1.size ) (cwS 3 hG g_C_56 rfl rfl rfl (by decide +kernel) ⟨Nat.le_of_ble_eq_true rfl, Nat.le_of_ble_eq_true rfl⟩) ⟨PC.blind, PC.of hPc hK hDc hE hS hFc⟩ rfl rfl hl9.1 rfl (lv_room (Nat.le_of_ble_eq_true rfl)) d_C_outside_15 ⟨by first | exact Nat.le_of_ble_eq_true rfl | omega, by first | exact Nat.le_of_ble_eq_true rfl | omega⟩) hS (fun q _ h => hFc q h) hFc (fun q _ h => hFc q h) (fun E ce q9 u t H4 locs ht hvm hpx hB hz1 hk1 hS hce hcv hcl => ?_) (fun u t H4 locs ht hvm hw hB hz1 hk1 hS => ?_)
  · exact vx_out (fun x hx => (hnx x hx).elim) hlocks hce hcv hcl (fun t ht ha => ⟨(), trivial, ⟨Or.inl ⟨hB.1, Or.inr hB.2⟩, by have h9 := wp_kept hP hk1; rw [← ht] at h9; exact h9⟩, hS.F ht⟩) hS.2.2 (by first | exact Nat.le_of_ble_eq_true rfl | omega) (by first | exact Nat.le_of_ble_eq_true rfl | omega)
  have hw := hw
  have hP := wp_kept hP hk1
  have hq6 : ¬ (y < (-10000) ∨ 10000 < y) := hw
  have hw2 : ¬ ((x < 0 ∨ 1439 < x) ∨ (y < (-10000) ∨ 10000 < y)) := fun h => h.elim hw1 hw
  refine lv_aload_n hx hb d_C_outside_18 rfl (lv_at hl9 0 rfl) ?_
  refine va_get (D := (dC, dI)) (ci := 2) (v := .int orr) (C := R_C) (T := F_C) (N := 13) hx hb hG i_C hown hK hP 0 rfl rfl 3 (by decide) (hG _ k_25) (fun _ h9 => h9) rfl d_C_outside_19 ?_
  refine lv_bipush (v := 24) hx hb d_C_outside_22 (by decide) ?_
  refine lv_icmp_lt (tgt := 37) hx hb d_C_outside_24 (by decide) (fun c1 => ?_) (fun c1 => ?_)
  · refine lv_iload_n hx hb d_C_outside_37 rfl (lv_at hl9 1 rfl) ?_
    refine lv_aload_n hx hb d_C_outside_38 rfl (lv_at hl9 0 rfl) ?_
    refine va_get (D := (dC, dI)) (ci := 2) (v := .int ol) (C := R_C) (T := F_C) (N := 13) hx hb hG i_C hown hK hP 0 rfl rfl 4 (by decide) (hG _ k_26) (fun _ h9 => h9) rfl d_C_outside_39 ?_
    refine lv_icmp_gt (tgt := 55) hx hb d_C_outside_42 (by decide) (fun c2 => ?_) (fun c2 => ?_)
    · have hx0 : ¬ x < 0 := fun q => hw1 (Or.inl q)
      obtain ⟨a, ea⟩ : ∃ a, a = x.toNatClampNeg := ⟨_, rfl⟩
      have ex : x = nI a := by rw [ea]; exact nI_self hx0
      have ha : a < 1440 := by rw [ea]; exact clamp_lt hw1 (by decide)
      have hfin : ∀ z : Nat → Int32, z = fillO fO a y (1440 - a) → z = (fillO fO x.toNatClampNeg y (1440 - x.toNatClampNeg)) := fun z hz => by rw [hz, ea]
      refine lv_iload_n hx hb d_C_outside_55 rfl (lv_at hl9 1 rfl) ?_
      refine lv_istore_n (lv' := [(3, .int x), (0, .ref a0), (1, .int x), (2, .int y)]) hx hb d_C_outside_56 rfl hl9 (by decide) rfl (fun ls hl9 => ?_)
      have lp : ∀ (n : Nat) (i : Nat), a ≤ i → i ≤ 1440 → 1441 ≤ i + n → ∀ (H : Heap) (locs : List Loc) (ls : Array Slot), va_P (dC, dI) vwCl [(a0, .inr (2, [.ref aZ, .int zc, .ref aO, .int orr, .int ol, .int mp, .ref aG, .int pl, .int fa, .int fb, .ref aP, .ref aW, .ref aK])), (aO, .inl (cI, 1440, .inl (fillO fO a y (i - a))))] H → va_D A [(a0, .inr (2, [.ref aZ, .int zc, .ref aO, .int orr, .int ol, .int mp, .ref aG, .int pl, .int fa, .int fb, .ref aP, .ref aW, .ref aK])), (aO, .inl (cI, 1440, .inl (fillO fO a y (i - a))))] → va_S A s.heap H locs → lv_has ls 4 [(3, .int (nI i)), (0, .ref a0), (1, .int x), (2, .int y)] → W p l e (headSpec w_C_outside ({ frames := 7, cells := 3, slots := 18, locals := 104 })).room s m ([.ref a0, .int x, .int y] : List Value).toArray below meth c H locs 2 12 (vx_MQ below (va_Qi (fun (r : Int32) (_ : Unit) => r = orr + 1 ∧ ¬ ((x < 0 ∨ 1439 < x) ∨ (y < (-10000) ∨ 10000 < y)) ∧ ¬ (24 ≤ orr ∨ x ≤ ol)) (fun (_ : Unit) (t : State) => va_P (dC, dI) vwCl [(a0, .inr (2, [.ref aZ, .int zc, .ref aO, .int (orr + 1), .int x, .int mp, .ref aG, .int 0, .int fa, .int fb, .ref aP, .ref aW, .ref aK])), (aO, .inl (cI, 1440, .inl (fillO fO x.toNatClampNeg y (1440 - x.toNatClampNeg))))] t.heap) A) (vx_X (fun (_ : Unit) => True) (fun (E : String) (_ : Unit) (t : State) => ((E = "java/lang/IllegalArgumentException" ∧ ((x < 0 ∨ 1439 < x) ∨ (y < (-10000) ∨ 10000 < y))) ∨ (E = "java/lang/IllegalStateException" ∧ ¬ ((x < 0 ∨ 1439 < x) ∨ (y < (-10000) ∨ 10000 < y)) ∧ (24 ≤ orr ∨ x ≤ ol))) ∧ va_P (dC, dI) vwCl [(a0, .inr (2, [.ref aZ, .int zc, .ref aO, .int orr, .int ol, .int mp, .ref aG, .int pl, .int fa, .int fb, .ref aP, .ref aW, .ref aK])), (aO, .inl (cI, 1440, .inl fO))] t.heap) A) ([.ref a0, .int x, .int y] : List Value).toArray s 3 18 A) (F0 m 57 ls []) := by
        intro n
        induction n with
        | zero =>
          intro i hai hib hin
          exact absurd hin (by omega)
        | succ n ih =>
          intro i hai hib hin H locs ls hP hD hS hl9
          refine lv_iload_n hx hb d_C_outside_57 rfl (lv_at hl9 0 rfl) ?_
          refine lv_sipush (v := 1440) hx hb d_C_outside_58 (by decide) ?_
          refine lv_icmp_ge (tgt := 77) hx hb d_C_outside_61 (by decide) (fun c3 => ?_) (fun c3 => ?_)
          · have e9 : i = 1440 := by have := ge_of_c (i := i) (b := 1440) (by omega) (by decide) c3; omega
            subst e9
            rw [hfin _ rfl] at hP hD
            refine lv_aload_n hx hb d_C_outside_77 rfl (lv_at hl9 1 rfl) ?_
            refine lv_iload_n hx hb d_C_outside_78 rfl (lv_at hl9 2 rfl) ?_
            refine va_put (D := (dC, dI)) (ci := 2) (v := .int x) (ty := .int) (C := R_C) (T := F_C) (N := 13) hx hb hG i_C t_C t_C_ok n_C hown hK hP hD hS 0 rfl rfl 4 (by decide) (hG _ k_26) (fun _ h9 => h9) rfl (by decide +kernel) rfl rfl (Nat.le_of_ble_eq_true rfl) d_C_outside_79 (fun H locs hP hD hS => ?_)
            have hP : va_P (dC, dI) vwCl [(a0, .inr (2, [.ref aZ, .int zc, .ref aO, .int orr, .int x, .int mp, .ref aG, .int pl, .int fa, .int fb, .ref aP, .ref aW, .ref aK])), (aO, .inl (cI, 1440, .inl (fillO fO x.toNatClampNeg y (1440 - x.toNatClampNeg))))] H := hP
            have hD : va_D A [(a0, .inr (2, [.ref aZ, .int zc, .ref aO, .int orr, .int x, .int mp, .ref aG, .int pl, .int fa, .int fb, .ref aP, .ref aW, .ref aK])), (aO, .inl (cI, 1440, .inl (fillO fO x.toNatClampNeg y (1440 - x.toNatClampNeg))))] := hD
            refine lv_aload_n hx hb d_C_outside_82 rfl (lv_at hl9 1 rfl) ?_
            refine lv_dup hx hb d_C_outside_83 rfl ?_
            refine va_get (D := (dC, dI)) (ci := 2) (v := .int orr) (C := R_C) (T := F_C) (N := 13) hx hb hG i_C hown hK hP 0 rfl rfl 3 (by decide) (hG _ k_25) (fun _ h9 => h9) rfl d_C_outside_84 ?_
            refine lv_iconst (v := 1) hx hb d_C_outside_87 (by decide) ?_
            refine lv_iadd hx hb d_C_outside_88 ?_
            refine va_put (D := (dC, dI)) (ci := 2) (v := .int (orr + 1)) (ty := .int) (C := R_C) (T := F_C) (N := 13) hx hb hG i_C t_C t_C_ok n_C hown hK hP hD hS 0 rfl rfl 3 (by decide) (hG _ k_25) (fun _ h9 => h9) rfl (by decide +kernel) rfl rfl (Nat.le_of_ble_eq_true rfl) d_C_outside_89 (fun H locs hP hD hS => ?_)
            have hP : va_P (dC, dI) vwCl [(a0, .inr (2, [.ref aZ, .int zc, .ref aO, .int (orr + 1), .int x, .int mp, .ref aG, .int pl, .int fa, .int fb, .ref aP, .ref aW, .ref aK])), (aO, .inl (cI, 1440, .inl (fillO fO x.toNatClampNeg y (1440 - x.toNatClampNeg))))] H := hP
            have hD : va_D A [(a0, .inr (2, [.ref aZ, .int zc, .ref aO, .int (orr + 1), .int x, .int mp, .ref aG, .int pl, .int fa, .int fb, .ref aP, .ref aW, .ref aK])), (aO, .inl (cI, 1440, .inl (fillO fO x.toNatClampNeg y (1440 - x.toNatClampNeg))))] := hD
            refine lv_aload_n hx hb d_C_outside_92 rfl (lv_at hl9 1 rfl) ?_
            refine lv_iconst (v := 0) hx hb d_C_outside_93 (by decide) ?_
            refine va_put (D := (dC, dI)) (ci := 2) (v := .int 0) (ty := .boolean) (C := R_C) (T := F_C) (N := 13) hx hb hG i_C t_C t_C_ok n_C hown hK hP hD hS 0 rfl rfl 7 (by decide) (hG _ k_29) (fun _ h9 => h9) rfl (by decide +kernel) rfl rfl (Nat.le_of_ble_eq_true rfl) d_C_outside_94 (fun H locs hP hD hS => ?_)
            have hP : va_P (dC, dI) vwCl [(a0, .inr (2, [.ref aZ, .int zc, .ref aO, .int (orr + 1), .int x, .int mp, .ref aG, .int 0, .int fa, .int fb, .ref aP, .ref aW, .ref aK])), (aO, .inl (cI, 1440, .inl (fillO fO x.toNatClampNeg y (1440 - x.toNatClampNeg))))] H := hP
            have hD : va_D A [(a0, .inr (2, [.ref aZ, .int zc, .ref aO, .int (orr + 1), .int x, .int mp, .ref aG, .int 0, .int fa, .int fb, .ref aP, .ref aW, .ref aK])), (aO, .inl (cI, 1440, .inl (fillO fO x.toNatClampNeg y (1440 - x.toNatClampNeg))))] := hD
            refine lv_aload_n hx hb d_C_outside_97 rfl (lv_at hl9 1 rfl) ?_
            refine va_get (D := (dC, dI)) (ci := 2) (v := .int (orr + 1)) (C := R_C) (T := F_C) (N := 13) hx hb hG i_C hown hK hP 0 rfl rfl 3 (by decide) (hG _ k_25) (fun _ h9 => h9) rfl d_C_outside_98 ?_
            refine vx_ret ?_
            refine W.widen (k := 3) (n := 18) (by omega) (by omega) ?_
            exact W.iret (v := (orr + 1)) hx hb hr (fun t ht hW => ⟨⟨(orr + 1), (), rfl, ⟨rfl, hw2, fun h => h.elim (fun h => Int32.not_le.mpr c1 h) (fun h => Int32.not_le.mpr c2 h)⟩, by have h9 := hP; rw [← ht] at h9; exact h9⟩, hS.F ht⟩) hS.2.2 d_C_outside_101
          · have e9 : i < 1440 := lt_of_c (b := 1440) (by omega) (by decide) c3
            have hin1 : vp_in (nI i) 1440 := vp_in_nI (by omega) (by omega)
            refine lv_aload_n hx hb d_C_outside_64 rfl (lv_at hl9 1 rfl) ?_
            refine va_get (D := (dC, dI)) (ci := 2) (v := .ref aO) (C := R_C) (T := F_C) (N := 13) hx hb hG i_C hown hK hP 0 rfl rfl 2 (by decide) (hG _ k_24) (fun _ h9 => h9) rfl d_C_outside_65 ?_
            refine lv_iload_n hx hb d_C_outside_68 rfl (lv_at hl9 0 rfl) ?_
            refine lv_iload_n hx hb d_C_outside_69 rfl (lv_at hl9 3 rfl) ?_
            refine va_iast hx hb hK hP hD hS 1 0 rfl rfl (hin1) d_C_outside_70 (fun H locs hP hD hS => ?_)
            have hP : va_P (dC, dI) vwCl [(a0, .inr (2, [.ref aZ, .int zc, .ref aO, .int orr, .int ol, .int mp, .ref aG, .int pl, .int fa, .int fb, .ref aP, .ref aW, .ref aK])), (aO, .inl (cI, 1440, .inl (upd (fillO fO a y (i - a)) (nI i).toNatClampNeg y)))] H := hP
            have hD : va_D A [(a0, .inr (2, [.ref aZ, .int zc, .ref aO, .int orr, .int ol, .int mp, .ref aG, .int pl, .int fa, .int fb, .ref aP, .ref aW, .ref aK])), (aO, .inl (cI, 1440, .inl (upd (fillO fO a y (i - a)) (nI i).toNatClampNeg y)))] := hD
            refine lv_iinc (v := ((nI i) + 1)) (lv' := [(3, .int ((nI i) + 1)), (0, .ref a0), (1, .int x), (2, .int y)]) hx hb d_C_outside_71 hl9 (k := 0) rfl rfl (by decide) rfl (fun ls hl9 => ?_)
            refine lv_goto (tgt := 57) hx hb d_C_outside_74 (by decide) ?_
            have e8 : (upd (fillO fO a y (i - a)) (nI i).toNatClampNeg y) = (fillO fO a y (i + 1 - a)) := by rw [nI_clamp (n := i) (by omega), show i + 1 - a = (i - a) + 1 by omega]; show _ = upd (fillO fO a y (i - a)) (a + (i - a)) y; rw [show a + (i - a) = i by omega]
            rw [e8] at hP hD
            rw [nI_1] at hl9
            exact ih (i + 1) (by omega) (by omega) (by omega) _ _ ls hP hD hS (lv_sub hl9 [0, 1, 2, 3] rfl)
      have e7 : fO = fillO fO a y (a - a) := by rw [Nat.sub_self]; rfl
      have hP : va_P (dC, dI) vwCl [(a0, .inr (2, [.ref aZ, .int zc, .ref aO, .int orr, .int ol, .int mp, .ref aG, .int pl, .int fa, .int fb, .ref aP, .ref aW, .ref aK])), (aO, .inl (cI, 1440, .inl (fillO fO a y (a - a))))] H4 := by rw [← e7]; exact hP
      have hD : va_D A [(a0, .inr (2, [.ref aZ, .int zc, .ref aO, .int orr, .int ol, .int mp, .ref aG, .int pl, .int fa, .int fb, .ref aP, .ref aW, .ref aK])), (aO, .inl (cI, 1440, .inl (fillO fO a y (a - a))))] := by rw [← e7]; exact hD
      have hl9 : lv_has ls 4 [(3, .int (nI a)), (0, .ref a0), (1, .int x), (2, .int y)] := by rw [← ex]; exact hl9
      exact lp (1441 - a) a (Nat.le_refl a) (by omega) (by omega) _ _ ls hP hD hS (lv_sub hl9 [0, 1, 2, 3] rfl)
    · obtain ⟨sa, hsa⟩ := hE.1.2.1 (91, "a row is at that minute or behind it") (by decide)
      exact vx_throwS (own := R_C) (cls := "java/lang/IllegalStateException") (names := ["java/lang/RuntimeException", "java/lang/Exception"]) hx hb hl hown (by decide +kernel) (by decide +kernel) (hG _ k_143) (hG _ k_7) hsa (fun w h => (at_ISE w h).elim (hG w) (fun h => hE.1.use h.1 h.2)) ot_ISE hE.2.1 hE.2.2 hS (hl9.1.trans hml.symm) d_C_outside_45 d_C_outside_48 d_C_outside_49 d_C_outside_51 d_C_outside_54 (fun x hx => (hnx x hx).elim) (Nat.le_of_ble_eq_true rfl) (Nat.le_of_ble_eq_true rfl) (by first | exact Nat.le_of_ble_eq_true rfl | omega) (by first | exact Nat.le_of_ble_eq_true rfl | omega) hlocks (fun t ha hsz hk => ⟨(), trivial, ⟨Or.inr ⟨rfl, hw2, Or.inr (Int32.not_lt.mp c2)⟩, hP.kept (fun k q hq => hk q.1 (hP k q hq).lt)⟩, Nat.le_trans hS.1 hsz, fun q h1 h2 => (hk q (Nat.lt_of_lt_of_le h1 hS.1)).trans (hS.2.1 q h1 h2)⟩) hS.2.2 (by first | exact Nat.le_of_ble_eq_true rfl | omega) (by first | exact Nat.le_of_ble_eq_true rfl | omega)
  · obtain ⟨sa, hsa⟩ := hE.1.2.1 (89, "there are 24 rows") (by decide)
    exact vx_throwS (own := R_C) (cls := "java/lang/IllegalStateException") (names := ["java/lang/RuntimeException", "java/lang/Exception"]) hx hb hl hown (by decide +kernel) (by decide +kernel) (hG _ k_143) (hG _ k_7) hsa (fun w h => (at_ISE w h).elim (hG w) (fun h => hE.1.use h.1 h.2)) ot_ISE hE.2.1 hE.2.2 hS (hl9.1.trans hml.symm) d_C_outside_27 d_C_outside_30 d_C_outside_31 d_C_outside_33 d_C_outside_36 (fun x hx => (hnx x hx).elim) (Nat.le_of_ble_eq_true rfl) (Nat.le_of_ble_eq_true rfl) (by first | exact Nat.le_of_ble_eq_true rfl | omega) (by first | exact Nat.le_of_ble_eq_true rfl | omega) hlocks (fun t ha hsz hk => ⟨(), trivial, ⟨Or.inr ⟨rfl, hw2, Or.inl (Int32.not_lt.mp c1)⟩, hP.kept (fun k q hq => hk q.1 (hP k q hq).lt)⟩, Nat.le_trans hS.1 hsz, fun q h1 h2 => (hk q (Nat.lt_of_lt_of_le h1 hS.1)).trans (hS.2.1 q h1 h2)⟩) hS.2.2 (by first | exact Nat.le_of_ble_eq_true rfl | omega) (by first | exact Nat.le_of_ble_eq_true rfl | omega)
end
section
section CQ
variable {p : Program} {l : Launch} {e : Env} {R : Room} {s : State} {m : MethodId} {args : Array Value} {below : List Frame} {meth : Method} {c : Code} {H : Heap} {locs : List Loc} {cells slots : Nat} {Q : State → Prop}
variable {mc ms : Nat} {free : Addr → Prop} {A0 A1 : Nat → Prop} {H0 : Heap} {a : Array Value} {pc : Nat} {ls : Array Slot} {st0 rest : List Value}
/-- as vx_calli, the answer being a reference or null -/
theorem vx_callq {S SX : Type} {post : Option Nat → S → Prop} {px : SX → Prop} {B : S → State → Prop} {BX : String → SX → State → Prop} {AX : Nat → Prop} (hr : vx_Run p l e R s m args below meth c H locs cells slots mc ms (F0 m pc ls st0) rest (va_Qq post B A1 a) (vx_X px BX AX) free) (hS : va_S A0 H0 H locs) (hA : ∀ q, q < H.size → A1 q → A0 q) (hf : ∀ q, free q → A0 q) (hAX : ∀ q, q < H.size → AX q → A0 q)
    (kx : ∀ (E : String) (ce : Cell) (q9 : Addr) (u : SX) (t : State) (H1 : Heap) (locs1 : List Loc), t.heap = H1 → s.vm.Alike t.vm → px u → BX E u t → H.size ≤ H1.size → (∀ q : Nat, q < H.size → ¬ AX q → H1[q]? = H[q]?) → va_S A0 H0 H1 locs1 → H1[q9]? = some ce → ce.vm = .none → s.vm.findClass E = some ce.cls → vx_W p l e R s m args below meth c H1 locs1 (cells + mc) (slots + ms) Q (F0 m pc ls rest) q9)
    (kk : ∀ (r : Option Nat) (u : S) (t : State) (H1 : Heap) (locs1 : List Loc), t.heap = H1 → s.vm.Alike t.vm → post r u → B u t → H.size ≤ H1.size → (∀ q : Nat, q < H.size → ¬ A1 q → H1[q]? = H[q]?) → va_S A0 H0 H1 locs1 → W p l e R s m args below meth c H1 locs1 (cells + mc) (slots + ms) Q (F0 m (pc + 3) ls (va_rf r :: rest))) : W p l e R s m args below meth c H locs cells slots Q (F0 m pc ls st0) := by
  intro T hT X
  rcases hr T hT X with ⟨v, st₀, t, T', L, h0, X', hL, e1, e2, ⟨⟨r, u, hv, hp, hb⟩, hF⟩, st⟩ | ⟨q, st₀, t, T', L, E, ce, h0, X', hL, e1, e2, ⟨u, hp, hb, hF⟩, hce, hcv, hcl, st⟩
  · cases hv
    obtain ⟨k1, k2, k3⟩ := vx_keep h0 e1 hS hA hf hL hF
    obtain ⟨t2, a1, b1⟩ := kk r u t T'.heap (locs ++ L) e1.symm (by rw [← e2]; exact X'.warmed.alike) hp hb k1 k2 k3 T' rfl X'
    exact ⟨t2, st t2 a1, b1⟩
  · obtain ⟨k1, k2, k3⟩ := vx_keep h0 e1 hS hAX hf hL hF
    obtain ⟨t2, a1, b1⟩ := kx E ce q u t T'.heap (locs ++ L) e1.symm (by rw [← e2]; exact X'.warmed.alike) hp hb k1 k2 k3 (by rw [e1]; exact hce) hcv hcl T' rfl X'
    exact ⟨t2, st.trans a1, b1⟩
end CQ
def okset (what v : Int32) : Prop := (what = 0 ∧ ¬ (v < (-10000) ∨ 10000 < v)) ∨ (what = 1 ∧ ¬ (v < 0 ∨ 100000 < v)) ∨ (what = 2 ∧ ¬ (v < 0 ∨ 9 < v))
theorem w2_of {what : Int32} (h : ¬ (what < 0 ∨ 2 < what)) (h0 : ¬ what = 0) (h1 : ¬ what = 1) : what = 2 := by
  have a1 : ¬ what < 0 := fun q => h (Or.inl q)
  have a2 : ¬ 2 < what := fun q => h (Or.inr q)
  obtain ⟨j, hj, rfl⟩ := nI_of a1
  rw [show (2 : Int32) = nI 2 from rfl, nI_ltI (by decide) hj] at a2
  rcases (show j = 0 ∨ j = 1 ∨ j = 2 by omega) with rfl | rfl | rfl
  · exact absurd rfl h0
  · exact absurd rfl h1
  · rfl
theorem g_C_70 : GoodIn GG (wsV R_C 70 R_C y_C_knownZone w_C_knownZone) := goodG (List.forall_mem_append.mpr ⟨List.forall_mem_cons.mpr ⟨k_227, List.forall_mem_cons.mpr ⟨k_229, List.forall_mem_cons.mpr ⟨ks_1, List.forall_mem_cons.mpr ⟨k_1, fun _ h => absurd h List.not_mem_nil⟩⟩⟩⟩, List.forall_mem_cons.mpr ⟨k_230, fun _ h => h⟩⟩)
theorem g_C_114 : GoodIn GG w_E_learn := goodG (List.forall_mem_cons.mpr ⟨k_348, fun _ h => h⟩)
theorem g_C_94 : GoodIn GG (wsV R_C 94 R_C y_C_plannedZone w_C_plannedZone) := goodG (List.forall_mem_append.mpr ⟨List.forall_mem_cons.mpr ⟨k_263, List.forall_mem_cons.mpr ⟨k_265, List.forall_mem_cons.mpr ⟨ks_2, List.forall_mem_cons.mpr ⟨k_1, fun _ h => absurd h List.not_mem_nil⟩⟩⟩⟩, List.forall_mem_cons.mpr ⟨k_266, fun _ h => h⟩⟩)
set_option maxHeartbeats 4000000 in
set_option maxRecDepth 100000 in
theorem c_knownZone (l : Launch) (dC : Nat → ClassId) (dI : Nat → Nat → Nat) (cI cJ cZ cB : ClassId) (a0 aZ aO aG aP aW aK : Nat) (zc orr ol mp pl fa fb : Int32) (fZ : Nat → Option Nat) (nz k za : Nat) (sz : Nat) (hk : k < nz) (hn : nz ≤ 6) (hz : fZ k = some za) : Met l y_C_knownZone w_C_knownZone ({ frames := 6, cells := 0, slots := 0, locals := 82 }) (PC (dC, dI) (TY cI cJ cZ cB) [.ref a0, .int (nI k)] [(a0, .inr (2, [.ref aZ, .int (nI nz), .ref aO, .int orr, .int ol, .int mp, .ref aG, .int pl, .int fa, .int fb, .ref aP, .ref aW, .ref aK])), (aZ, .inl (cZ, 6, .inr (.inr (.inr (.inr fZ)))))] sz (va_A [] sz)) (va_Qq (fun (r : Option Nat) (_ : Unit) => r = some za) (fun (_ : Unit) (_ : State) => True) (va_A [] sz)) 0 0 (va_A [] sz) := by
  refine Met.ofW (cc := b_C_knownZone) (maxL := 2) (ret := (some (.object "StartTimes$Zone"))) (by decide) rfl ?_
  intro p e s m args below meth c s₁ B hml hv
  obtain ⟨rfl, hsz, hP, hK, hD0, hE⟩ := hv
  have hx := B.exec
  have hb := B.bytes
  have hr := B.returns
  have hG : ∀ w ∈ GG, w.before _ s = true := fun w h => atoms_spec (ws := w_C_knownZone) B.pre w (List.mem_cons_of_mem _ h)
  have hown : s.vm.findClass R_C = some m.cls := findClass_of_methodNamed B.named
  have hlocks := B.notSynchronized
  subst hsz
  generalize hAe : (va_A [] s.heap.size) = A at hE ⊢
  have hA : ∀ q : Nat, s.heap.size ≤ q → A q := fun q h => by rw [← hAe]; exact Or.inr h
  have hS : va_S A s.heap s.heap [] := va_S.rf
  have hD := hD0
  obtain ⟨H, hH⟩ : ∃ z, z = s.heap := ⟨_, rfl⟩
  rw [← hH] at hP
  have hS : va_S A s.heap H [] := by rw [hH]; exact hS
  rw [← hH]
  have hl9 := lv_entry ([.ref a0, .int (nI k)]) (n := 2) (Nat.le_of_ble_eq_true rfl)
  rw [lg_entry_eq]
  generalize (lg_sl ([.ref a0, .int (nI k)]) ++ List.replicate (2 - (lg_sl ([.ref a0, .int (nI k)])).length) Slot.unset).toArray = ls at hl9 ⊢
  have hl9 : lv_has ls 2 [(0, .ref a0), (1, .int (nI k))] := hl9
  refine lv_iload_n hx hb d_C_knownZone_0 rfl (lv_at hl9 1 rfl) ?_
  refine lv_if_lt (tgt := 12) hx hb d_C_knownZone_1 (by decide) (fun c1 => ?_) (fun c1 => ?_)
  · exact absurd c1 (nI_pos (by omega))
  · refine lv_iload_n hx hb d_C_knownZone_4 rfl (lv_at hl9 1 rfl) ?_
    refine lv_aload_n hx hb d_C_knownZone_5 rfl (lv_at hl9 0 rfl) ?_
    refine va_get (D := (dC, dI)) (ci := 2) (v := .int (nI nz)) (C := R_C) (T := F_C) (N := 13) hx hb hG i_C hown hK hP 0 rfl rfl 1 (by decide) (hG _ k_23) (fun _ h9 => h9) rfl d_C_knownZone_6 ?_
    refine lv_icmp_lt (tgt := 22) hx hb d_C_knownZone_9 (by decide) (fun c2 => ?_) (fun c2 => ?_)
    · have hin : vp_in (nI k) 6 := vp_in_nI (by omega) (by omega)
      refine lv_aload_n hx hb d_C_knownZone_22 rfl (lv_at hl9 0 rfl) ?_
      refine va_get (D := (dC, dI)) (ci := 2) (v := .ref aZ) (C := R_C) (T := F_C) (N := 13) hx hb hG i_C hown hK hP 0 rfl rfl 0 (by decide) (hG _ k_22) (fun _ h9 => h9) rfl d_C_knownZone_23 ?_
      refine lv_iload_n hx hb d_C_knownZone_26 rfl (lv_at hl9 1 rfl) ?_
      refine va_aldq hx hb hK hP 1 2 rfl rfl (hin) d_C_knownZone_27 ?_
      have e1 : fZ (nI k).toNatClampNeg = some za := by rw [nI_clamp (by omega)]; exact hz
      rw [e1]
      exact W.aret hx hb hr (Or.inl ⟨_, rfl⟩) (va_rf_or (some za)) (fun t ht hW => ⟨⟨(some za), (), rfl, rfl, trivial⟩, hS.F ht⟩) hS.2.2 d_C_knownZone_28
    · exact absurd (nI_lt hk (by omega)) c2
set_option maxHeartbeats 4000000 in
set_option maxRecDepth 100000 in
theorem c_knownZoneX (l : Launch) (dC : Nat → ClassId) (dI : Nat → Nat → Nat) (cI cJ cZ cB : ClassId) (hl : l.stackTraces = false) (a0 aZ aO aG aP aW aK : Nat) (zc orr ol mp pl fa fb : Int32) (fZ : Nat → Option Nat) (nz : Nat) (x : Int32) (sz : Nat) (hx0 : x < 0 ∨ nI nz ≤ x) : vx_Met l y_C_knownZone w_C_knownZone ({ frames := 6, cells := 1, slots := 6, locals := 82 }) (PC (dC, dI) (TY cI cJ cZ cB) [.ref a0, .int x] [(a0, .inr (2, [.ref aZ, .int (nI nz), .ref aO, .int orr, .int ol, .int mp, .ref aG, .int pl, .int fa, .int fb, .ref aP, .ref aW, .ref aK])), (aZ, .inl (cZ, 6, .inr (.inr (.inr (.inr fZ)))))] sz (va_A [] sz)) (va_Qq (fun (r : Option Nat) (_ : Unit) => False) (fun (_ : Unit) (_ : State) => True) (va_A [] sz)) (vx_X (fun (_ : Unit) => True) (fun (E : String) (_ : Unit) (_ : State) => E = "java/lang/IllegalArgumentException") (va_A [] sz)) 1 6 (va_A [] sz) := by
  refine vx_ofW (cc := b_C_knownZone) (maxL := 2) (ret := (some (.object "StartTimes$Zone"))) (by decide) rfl ?_
  intro p e s m args below meth c s₁ B hml hnx hv
  obtain ⟨rfl, hsz, hP, hK, hD0, hE⟩ := hv
  have hx := B.exec
  have hb := B.bytes
  have hr := B.returns
  have hG : ∀ w ∈ GG, w.before _ s = true := fun w h => atoms_spec (ws := w_C_knownZone) B.pre w (List.mem_cons_of_mem _ h)
  have hown : s.vm.findClass R_C = some m.cls := findClass_of_methodNamed B.named
  have hlocks := B.notSynchronized
  subst hsz
  generalize hAe : (va_A [] s.heap.size) = A at hE ⊢
  have hA : ∀ q : Nat, s.heap.size ≤ q → A q := fun q h => by rw [← hAe]; exact Or.inr h
  have hS : va_S A s.heap s.heap [] := va_S.rf
  have hD := hD0
  obtain ⟨H, hH⟩ : ∃ z, z = s.heap := ⟨_, rfl⟩
  rw [← hH] at hP
  have hS : va_S A s.heap H [] := by rw [hH]; exact hS
  rw [← hH]
  have hl9 := lv_entry ([.ref a0, .int x]) (n := 2) (Nat.le_of_ble_eq_true rfl)
  rw [lg_entry_eq]
  generalize (lg_sl ([.ref a0, .int x]) ++ List.replicate (2 - (lg_sl ([.ref a0, .int x])).length) Slot.unset).toArray = ls at hl9 ⊢
  have hl9 : lv_has ls 2 [(0, .ref a0), (1, .int x)] := hl9
  refine lv_iload_n hx hb d_C_knownZone_0 rfl (lv_at hl9 1 rfl) ?_
  refine lv_if_lt (tgt := 12) hx hb d_C_knownZone_1 (by decide) (fun c1 => ?_) (fun c1 => ?_)
  · obtain ⟨sa, hsa⟩ := hE.1.2.1 (171, "there is no such zone") (by decide)
    exact vx_throwS (own := R_C) (cls := "java/lang/IllegalArgumentException") (names := ["java/lang/RuntimeException", "java/lang/Exception"]) hx hb hl hown (by decide +kernel) (by decide +kernel) (hG _ k_76) (hG _ k_6) hsa (fun w h => (at_IAE w h).elim (hG w) (fun h => hE.1.use h.1 h.2)) ot_IAE hE.2.1 hE.2.2 hS (hl9.1.trans hml.symm) d_C_knownZone_12 d_C_knownZone_15 d_C_knownZone_16 d_C_knownZone_18 d_C_knownZone_21 (fun x hx => (hnx x hx).elim) (Nat.le_of_ble_eq_true rfl) (Nat.le_of_ble_eq_true rfl) (by first | exact Nat.le_of_ble_eq_true rfl | omega) (by first | exact Nat.le_of_ble_eq_true rfl | omega) hlocks (fun t ha hsz hk => ⟨(), trivial, rfl, Nat.le_trans hS.1 hsz, fun q h1 h2 => (hk q (Nat.lt_of_lt_of_le h1 hS.1)).trans (hS.2.1 q h1 h2)⟩) hS.2.2 (by first | exact Nat.le_of_ble_eq_true rfl | omega) (by first | exact Nat.le_of_ble_eq_true rfl | omega)
  · refine lv_iload_n hx hb d_C_knownZone_4 rfl (lv_at hl9 1 rfl) ?_
    refine lv_aload_n hx hb d_C_knownZone_5 rfl (lv_at hl9 0 rfl) ?_
    refine va_get (D := (dC, dI)) (ci := 2) (v := .int (nI nz)) (C := R_C) (T := F_C) (N := 13) hx hb hG i_C hown hK hP 0 rfl rfl 1 (by decide) (hG _ k_23) (fun _ h9 => h9) rfl d_C_knownZone_6 ?_
    refine lv_icmp_lt (tgt := 22) hx hb d_C_knownZone_9 (by decide) (fun c2 => ?_) (fun c2 => ?_)
    · exact absurd hx0 (fun h => h.elim c1 (fun h => Int32.not_le.mpr c2 h))
    · obtain ⟨sa, hsa⟩ := hE.1.2.1 (171, "there is no such zone") (by decide)
      exact vx_throwS (own := R_C) (cls := "java/lang/IllegalArgumentException") (names := ["java/lang/RuntimeException", "java/lang/Exception"]) hx hb hl hown (by decide +kernel) (by decide +kernel) (hG _ k_76) (hG _ k_6) hsa (fun w h => (at_IAE w h).elim (hG w) (fun h => hE.1.use h.1 h.2)) ot_IAE hE.2.1 hE.2.2 hS (hl9.1.trans hml.symm) d_C_knownZone_12 d_C_knownZone_15 d_C_knownZone_16 d_C_knownZone_18 d_C_knownZone_21 (fun x hx => (hnx x hx).elim) (Nat.le_of_ble_eq_true rfl) (Nat.le_of_ble_eq_true rfl) (by first | exact Nat.le_of_ble_eq_true rfl | omega) (by first | exact Nat.le_of_ble_eq_true rfl | omega) hlocks (fun t ha hsz hk => ⟨(), trivial, rfl, Nat.le_trans hS.1 hsz, fun q h1 h2 => (hk q (Nat.lt_of_lt_of_le h1 hS.1)).trans (hS.2.1 q h1 h2)⟩) hS.2.2 (by first | exact Nat.le_of_ble_eq_true rfl | omega) (by first | exact Nat.le_of_ble_eq_true rfl | omega)
set_option maxHeartbeats 4000000 in
set_option maxRecDepth 100000 in
theorem c_checkQuarters (l : Launch) (dC : Nat → ClassId) (dI : Nat → Nat → Nat) (cI cJ cZ cB : ClassId) (hl : l.stackTraces = false) (x y : Int32) (sz : Nat) : vx_Met l y_C_checkQuarters w_C_checkQuarters ({ frames := 7, cells := 2, slots := 12, locals := 104 }) (PC (dC, dI) (TY cI cJ cZ cB) [.int x, .int y] [] sz (va_A [] sz)) (va_Qv (fun (_ : Unit) => ¬ ((x < 1 ∨ 10 < x) ∨ (y < 1 ∨ 30 < y))) (fun (_ : Unit) (_ : State) => True) (va_A [] sz)) (vx_X (fun (_ : Unit) => True) (fun (E : String) (_ : Unit) (_ : State) => E = "java/lang/IllegalArgumentException" ∧ ((x < 1 ∨ 10 < x) ∨ (y < 1 ∨ 30 < y))) (va_A [] sz)) 2 12 (va_A [] sz) := by
  refine vx_ofW (cc := b_C_checkQuarters) (maxL := 2) (ret := none) (by decide) rfl ?_
  intro p e s m args below meth c s₁ B hml hnx hv
  obtain ⟨rfl, hsz, hP, hK, hD0, hE⟩ := hv
  have hx := B.exec
  have hb := B.bytes
  have hr := B.returns
  have hG : ∀ w ∈ GG, w.before _ s = true := fun w h => atoms_spec (ws := w_C_checkQuarters) B.pre w (List.mem_cons_of_mem _ h)
  have hown : s.vm.findClass R_C = some m.cls := findClass_of_methodNamed B.named
  have hlocks := B.notSynchronized
  subst hsz
  generalize hAe : (va_A [] s.heap.size) = A at hE ⊢
  have hA : ∀ q : Nat, s.heap.size ≤ q → A q := fun q h => by rw [← hAe]; exact Or.inr h
  have hS : va_S A s.heap s.heap [] := va_S.rf
  have hD := hD0
  obtain ⟨H, hH⟩ : ∃ z, z = s.heap := ⟨_, rfl⟩
  rw [← hH] at hP
  have hS : va_S A s.heap H [] := by rw [hH]; exact hS
  rw [← hH]
  have hl9 := lv_entry ([.int x, .int y]) (n := 2) (Nat.le_of_ble_eq_true rfl)
  rw [lg_entry_eq]
  generalize (lg_sl ([.int x, .int y]) ++ List.replicate (2 - (lg_sl ([.int x, .int y])).length) Slot.unset).toArray = ls at hl9 ⊢
  have hl9 : lv_has ls 2 [(0, .int x), (1, .int y)] := hl9
  refine lv_iload_n hx hb d_C_checkQuarters_0 rfl (lv_at hl9 0 rfl) ?_
  refine lv_iconst (v := 1) hx hb d_C_checkQuarters_1 (by decide) ?_
  refine lv_bipush (v := 10) hx hb d_C_checkQuarters_2 (by decide) ?_
  have hPc := hP.sub (ws' := []) [] rfl
  have hDc := hD.sub (ws' := []) [] (by decide) rfl
  have hFc := va_A_nil hA hS.1
  refine vx_callv (vx_runS (As := [.int x, .int 1, .int 10]) (rest := []) ⟨hx, hb, hml, hown, hG⟩ (c_checkBounds l dC dI cI cJ cZ cB hl x 1 10 H.size ) (cwS 3 hG g_C_56 rfl rfl rfl (by decide +kernel) ⟨Nat.le_of_ble_eq_true rfl, Nat.le_of_ble_eq_true rfl⟩) ⟨PC.blind, PC.of hPc hK hDc hE hS hFc⟩ rfl rfl hl9.1 rfl (lv_room (Nat.le_of_ble_eq_true rfl)) d_C_checkQuarters_4 ⟨by first | exact Nat.le_of_ble_eq_true rfl | omega, by first | exact Nat.le_of_ble_eq_true rfl | omega⟩) hS (fun q _ h => hFc q h) hFc (fun q _ h => hFc q h) (fun E ce q9 u t H1 locs ht hvm hpx hB hz1 hk1 hS hce hcv hcl => ?_) (fun u t H1 locs ht hvm hw hB hz1 hk1 hS => ?_)
  · exact vx_out (fun x hx => (hnx x hx).elim) hlocks hce hcv hcl (fun t ht ha => ⟨(), trivial, ⟨hB.1, Or.inl hB.2⟩, hS.F ht⟩) hS.2.2 (by first | exact Nat.le_of_ble_eq_true rfl | omega) (by first | exact Nat.le_of_ble_eq_true rfl | omega)
  have hw := hw
  have hP := wp_kept hP hk1
  have hq3 : ¬ (x < 1 ∨ 10 < x) := hw
  have hw1 := hw
  refine lv_iload_n hx hb d_C_checkQuarters_7 rfl (lv_at hl9 1 rfl) ?_
  refine lv_iconst (v := 1) hx hb d_C_checkQuarters_8 (by decide) ?_
  refine lv_bipush (v := 30) hx hb d_C_checkQuarters_9 (by decide) ?_
  have hPc := hP.sub (ws' := []) [] rfl
  have hDc := hD.sub (ws' := []) [] (by decide) rfl
  have hFc := va_A_nil hA hS.1
  refine vx_callv (vx_runS (As := [.int y, .int 1, .int 30]) (rest := []) ⟨hx, hb, hml, hown, hG⟩ (c_checkBounds l dC dI cI cJ cZ cB hl y 1 30 H1.size ) (cwS 3 hG g_C_56 rfl rfl rfl (by decide +kernel) ⟨Nat.le_of_ble_eq_true rfl, Nat.le_of_ble_eq_true rfl⟩) ⟨PC.blind, PC.of hPc hK hDc hE hS hFc⟩ rfl rfl hl9.1 rfl (lv_room (Nat.le_of_ble_eq_true rfl)) d_C_checkQuarters_11 ⟨by first | exact Nat.le_of_ble_eq_true rfl | omega, by first | exact Nat.le_of_ble_eq_true rfl | omega⟩) hS (fun q _ h => hFc q h) hFc (fun q _ h => hFc q h) (fun E ce q9 u t H4 locs ht hvm hpx hB hz1 hk1 hS hce hcv hcl => ?_) (fun u t H4 locs ht hvm hw hB hz1 hk1 hS => ?_)
  · exact vx_out (fun x hx => (hnx x hx).elim) hlocks hce hcv hcl (fun t ht ha => ⟨(), trivial, ⟨hB.1, Or.inr hB.2⟩, hS.F ht⟩) hS.2.2 (by first | exact Nat.le_of_ble_eq_true rfl | omega) (by first | exact Nat.le_of_ble_eq_true rfl | omega)
  have hw := hw
  have hP := wp_kept hP hk1
  have hq6 : ¬ (y < 1 ∨ 30 < y) := hw
  refine vx_ret ?_
  exact W.vret hx hb hr (fun t ht hW => ⟨⟨(), rfl, fun h => h.elim hw1 hw, trivial⟩, hS.F ht⟩) hS.2.2 d_C_checkQuarters_14
set_option maxHeartbeats 4000000 in
set_option maxRecDepth 100000 in
theorem c_checkWants (l : Launch) (dC : Nat → ClassId) (dI : Nat → Nat → Nat) (cI cJ cZ cB : ClassId) (hl : l.stackTraces = false) (za la wa : Nat) (zh zl zf zp zr zm zw zs : Int32) (sz : Nat) : vx_Met l y_C_checkWants w_C_checkWants ({ frames := 6, cells := 1, slots := 6, locals := 82 }) (PC (dC, dI) (TY cI cJ cZ cB) [.ref za] [(za, .inr (1, [.int zh, .int zl, .int zf, .int zp, .int zr, .int zm, .int zw, .ref la, .int zs, .ref wa]))] sz (va_A [] sz)) (va_Qv (fun (_ : Unit) => ¬ zm = -1) (fun (_ : Unit) (_ : State) => True) (va_A [] sz)) (vx_X (fun (_ : Unit) => True) (fun (E : String) (_ : Unit) (_ : State) => E = "java/lang/IllegalStateException" ∧ zm = -1) (va_A [] sz)) 1 6 (va_A [] sz) := by
  refine vx_ofW (cc := b_C_checkWants) (maxL := 1) (ret := none) (by decide) rfl ?_
  intro p e s m args below meth c s₁ B hml hnx hv
  obtain ⟨rfl, hsz, hP, hK, hD0, hE⟩ := hv
  have hx := B.exec
  have hb := B.bytes
  have hr := B.returns
  have hG : ∀ w ∈ GG, w.before _ s = true := fun w h => atoms_spec (ws := w_C_checkWants) B.pre w (List.mem_cons_of_mem _ h)
  have hown : s.vm.findClass R_C = some m.cls := findClass_of_methodNamed B.named
  have hlocks := B.notSynchronized
  subst hsz
  generalize hAe : (va_A [] s.heap.size) = A at hE ⊢
  have hA : ∀ q : Nat, s.heap.size ≤ q → A q := fun q h => by rw [← hAe]; exact Or.inr h
  have hS : va_S A s.heap s.heap [] := va_S.rf
  have hD := hD0
  obtain ⟨H, hH⟩ : ∃ z, z = s.heap := ⟨_, rfl⟩
  rw [← hH] at hP
  have hS : va_S A s.heap H [] := by rw [hH]; exact hS
  rw [← hH]
  have hl9 := lv_entry ([.ref za]) (n := 1) (Nat.le_of_ble_eq_true rfl)
  rw [lg_entry_eq]
  generalize (lg_sl ([.ref za]) ++ List.replicate (1 - (lg_sl ([.ref za])).length) Slot.unset).toArray = ls at hl9 ⊢
  have hl9 : lv_has ls 1 [(0, .ref za)] := hl9
  refine lv_aload_n hx hb d_C_checkWants_0 rfl (lv_at hl9 0 rfl) ?_
  have hPc := hP.sub (ws' := [(za, .inr (1, [.int zh, .int zl, .int zf, .int zp, .int zr, .int zm, .int zw, .ref la, .int zs, .ref wa]))]) [0] rfl
  have hDc := hD.sub (ws' := [(za, .inr (1, [.int zh, .int zl, .int zf, .int zp, .int zr, .int zm, .int zw, .ref la, .int zs, .ref wa]))]) [0] (by decide) rfl
  have hFc := va_A_nil hA hS.1
  refine va_calli (va_runVN (C := R_Z) (As := []) (rest := []) ⟨hx, hb, hml, hown, hG⟩ (c_wantsWarmth l dC dI cI cJ cZ cB za la wa zh zl zf zp zr zm zw zs H.size ) ⟨va_cnB (host := "StartTimes") 0 hG g_C_100 rfl rfl rfl (hE.1.1 _ k_283 rfl) (hG _ k_8) (by decide +kernel) ⟨Nat.le_of_ble_eq_true rfl, Nat.le_of_ble_eq_true rfl⟩, hG _ k_285, hG _ ks_7⟩ ⟨PC.blind, va_recv hK hP (ci := 1) (q0 := 0) rfl rfl, PC.of hPc hK hDc hE hS hFc⟩ rfl rfl hl9.1 rfl (lv_room (Nat.le_of_ble_eq_true rfl)) d_C_checkWants_1 ⟨by first | exact Nat.le_of_ble_eq_true rfl | omega, by first | exact Nat.le_of_ble_eq_true rfl | omega⟩) hS (fun q _ h => hFc q h) hFc (fun r2 u t H1 locs ht hvm hw hB hz1 hk1 hS => ?_)
  have hP := wp_kept hP hk1
  have hw : r2 = if zm = -1 then 0 else 1 := hw
  subst hw
  by_cases hz : zm = -1
  · rw [if_pos hz]
    refine lv_if_ne (tgt := 17) hx hb d_C_checkWants_4 (by decide) (fun c1 => ?_) (fun c1 => ?_)
    · exact absurd rfl c1
    · obtain ⟨sa, hsa⟩ := hE.1.2.1 (169, "the zone wants nothing") (by decide)
      exact vx_throwS (own := R_C) (cls := "java/lang/IllegalStateException") (names := ["java/lang/RuntimeException", "java/lang/Exception"]) hx hb hl hown (by decide +kernel) (by decide +kernel) (hG _ k_143) (hG _ k_7) hsa (fun w h => (at_ISE w h).elim (hG w) (fun h => hE.1.use h.1 h.2)) ot_ISE hE.2.1 hE.2.2 hS (hl9.1.trans hml.symm) d_C_checkWants_7 d_C_checkWants_10 d_C_checkWants_11 d_C_checkWants_13 d_C_checkWants_16 (fun x hx => (hnx x hx).elim) (Nat.le_of_ble_eq_true rfl) (Nat.le_of_ble_eq_true rfl) (by first | exact Nat.le_of_ble_eq_true rfl | omega) (by first | exact Nat.le_of_ble_eq_true rfl | omega) hlocks (fun t ha hsz hk => ⟨(), trivial, ⟨rfl, hz⟩, Nat.le_trans hS.1 hsz, fun q h1 h2 => (hk q (Nat.lt_of_lt_of_le h1 hS.1)).trans (hS.2.1 q h1 h2)⟩) hS.2.2 (by first | exact Nat.le_of_ble_eq_true rfl | omega) (by first | exact Nat.le_of_ble_eq_true rfl | omega)
  · rw [if_neg hz]
    refine lv_if_ne (tgt := 17) hx hb d_C_checkWants_4 (by decide) (fun c1 => ?_) (fun c1 => ?_)
    · refine vx_ret ?_
      refine W.widen (k := 1) (n := 6) (by omega) (by omega) ?_
      exact W.vret hx hb hr (fun t ht hW => ⟨⟨(), rfl, hz, trivial⟩, hS.F ht⟩) hS.2.2 d_C_checkWants_17
    · exact absurd c1 (by decide)
set_option maxHeartbeats 4000000 in
set_option maxRecDepth 100000 in
theorem c_set (l : Launch) (dC : Nat → ClassId) (dI : Nat → Nat → Nat) (cI cJ cZ cB : ClassId) (hl : l.stackTraces = false) (a0 aZ aO aG aP aW aK : Nat) (zc orr ol mp pl fa fb : Int32) (fZ : Nat → Option Nat) (za la wa : Nat) (zh zl zf zp zr zm zw zs : Int32) (nz k : Nat) (what v : Int32) (sz : Nat) (hk : k < nz) (hn : nz ≤ 6) (hz : fZ k = some za) : vx_Met l y_C_set w_C_set ({ frames := 7, cells := 3, slots := 18, locals := 104 }) (PC (dC, dI) (TY cI cJ cZ cB) [.ref a0, .int (nI k), .int what, .int v] [(a0, .inr (2, [.ref aZ, .int (nI nz), .ref aO, .int orr, .int ol, .int mp, .ref aG, .int pl, .int fa, .int fb, .ref aP, .ref aW, .ref aK])), (aZ, .inl (cZ, 6, .inr (.inr (.inr (.inr fZ))))), (za, .inr (1, [.int zh, .int zl, .int zf, .int zp, .int zr, .int zm, .int zw, .ref la, .int zs, .ref wa]))] sz (va_A [(a0, .inr (2, [.ref aZ, .int (nI nz), .ref aO, .int orr, .int ol, .int mp, .ref aG, .int pl, .int fa, .int fb, .ref aP, .ref aW, .ref aK])), (aZ, .inl (cZ, 6, .inr (.inr (.inr (.inr fZ))))), (za, .inr (1, [.int zh, .int zl, .int zf, .int zp, .int zr, .int zm, .int zw, .ref la, .int zs, .ref wa]))] sz)) (va_Qi (fun (r : Int32) (_ : Unit) => r = (if what = 0 then zf else if what = 1 then zp else zr) ∧ okset what v) (fun (_ : Unit) (t : State) => va_P (dC, dI) vwCl [(a0, .inr (2, [.ref aZ, .int (nI nz), .ref aO, .int orr, .int ol, .int mp, .ref aG, .int 0, .int fa, .int fb, .ref aP, .ref aW, .ref aK])), (aZ, .inl (cZ, 6, .inr (.inr (.inr (.inr fZ))))), (za, .inr (1, [.int zh, .int zl, .int (if what = 0 then v else zf), .int (if what = 1 then v else zp), .int (if what = 2 then v else zr), .int zm, .int zw, .ref la, .int zs, .ref wa]))] t.heap) (va_A [(a0, .inr (2, [.ref aZ, .int (nI nz), .ref aO, .int orr, .int ol, .int mp, .ref aG, .int pl, .int fa, .int fb, .ref aP, .ref aW, .ref aK])), (aZ, .inl (cZ, 6, .inr (.inr (.inr (.inr fZ))))), (za, .inr (1, [.int zh, .int zl, .int zf, .int zp, .int zr, .int zm, .int zw, .ref la, .int zs, .ref wa]))] sz)) (vx_X (fun (_ : Unit) => True) (fun (E : String) (_ : Unit) (t : State) => (E = "java/lang/IllegalArgumentException" ∧ ¬ okset what v) ∧ va_P (dC, dI) vwCl [(a0, .inr (2, [.ref aZ, .int (nI nz), .ref aO, .int orr, .int ol, .int mp, .ref aG, .int pl, .int fa, .int fb, .ref aP, .ref aW, .ref aK])), (aZ, .inl (cZ, 6, .inr (.inr (.inr (.inr fZ))))), (za, .inr (1, [.int zh, .int zl, .int zf, .int zp, .int zr, .int zm, .int zw, .ref la, .int zs, .ref wa]))] t.heap) (va_A [(a0, .inr (2, [.ref aZ, .int (nI nz), .ref aO, .int orr, .int ol, .int mp, .ref aG, .int pl, .int fa, .int fb, .ref aP, .ref aW, .ref aK])), (aZ, .inl (cZ, 6, .inr (.inr (.inr (.inr fZ))))), (za, .inr (1, [.int zh, .int zl, .int zf, .int zp, .int zr, .int zm, .int zw, .ref la, .int zs, .ref wa]))] sz)) 3 18 (va_A [(a0, .inr (2, [.ref aZ, .int (nI nz), .ref aO, .int orr, .int ol, .int mp, .ref aG, .int pl, .int fa, .int fb, .ref aP, .ref aW, .ref aK])), (aZ, .inl (cZ, 6, .inr (.inr (.inr (.inr fZ))))), (za, .inr (1, [.int zh, .int zl, .int zf, .int zp, .int zr, .int zm, .int zw, .ref la, .int zs, .ref wa]))] sz) := by
  refine vx_ofW (cc := b_C_set) (maxL := 6) (ret := (some .int)) (by decide) rfl ?_
  intro p e s m args below meth c s₁ B hml hnx hv
  obtain ⟨rfl, hsz, hP, hK, hD0, hE⟩ := hv
  have hx := B.exec
  have hb := B.bytes
  have hr := B.returns
  have hG : ∀ w ∈ GG, w.before _ s = true := fun w h => atoms_spec (ws := w_C_set) B.pre w (List.mem_cons_of_mem _ h)
  have hown : s.vm.findClass R_C = some m.cls := findClass_of_methodNamed B.named
  have hlocks := B.notSynchronized
  subst hsz
  have hD := hD0.self (sz := s.heap.size)
  generalize hAe : (va_A [(a0, .inr (2, [.ref aZ, .int (nI nz), .ref aO, .int orr, .int ol, .int mp, .ref aG, .int pl, .int fa, .int fb, .ref aP, .ref aW, .ref aK])), (aZ, .inl (cZ, 6, .inr (.inr (.inr (.inr fZ))))), (za, .inr (1, [.int zh, .int zl, .int zf, .int zp, .int zr, .int zm, .int zw, .ref la, .int zs, .ref wa]))] s.heap.size) = A at hD hE ⊢
  have hA : ∀ q : Nat, s.heap.size ≤ q → A q := fun q h => by rw [← hAe]; exact Or.inr h
  have hS : va_S A s.heap s.heap [] := va_S.rf
  obtain ⟨H, hH⟩ : ∃ z, z = s.heap := ⟨_, rfl⟩
  rw [← hH] at hP
  have hS : va_S A s.heap H [] := by rw [hH]; exact hS
  rw [← hH]
  have hl9 := lv_entry ([.ref a0, .int (nI k), .int what, .int v]) (n := 6) (Nat.le_of_ble_eq_true rfl)
  rw [lg_entry_eq]
  generalize (lg_sl ([.ref a0, .int (nI k), .int what, .int v]) ++ List.replicate (6 - (lg_sl ([.ref a0, .int (nI k), .int what, .int v])).length) Slot.unset).toArray = ls at hl9 ⊢
  have hl9 : lv_has ls 6 [(0, .ref a0), (1, .int (nI k)), (2, .int what), (3, .int v)] := hl9
  refine lv_aload_n hx hb d_C_set_0 rfl (lv_at hl9 0 rfl) ?_
  refine lv_iload_n hx hb d_C_set_1 rfl (lv_at hl9 1 rfl) ?_
  have hPc := hP.sub (ws' := [(a0, .inr (2, [.ref aZ, .int (nI nz), .ref aO, .int orr, .int ol, .int mp, .ref aG, .int pl, .int fa, .int fb, .ref aP, .ref aW, .ref aK])), (aZ, .inl (cZ, 6, .inr (.inr (.inr (.inr fZ)))))]) [0, 1] rfl
  have hDc := hD.sub (ws' := [(a0, .inr (2, [.ref aZ, .int (nI nz), .ref aO, .int orr, .int ol, .int mp, .ref aG, .int pl, .int fa, .int fb, .ref aP, .ref aW, .ref aK])), (aZ, .inl (cZ, 6, .inr (.inr (.inr (.inr fZ)))))]) [0, 1] (by decide) rfl
  have hFc := va_A_nil hA hS.1
  refine va_callq (va_runV (C := R_C) (As := [.int (nI k)]) (rest := []) ⟨hx, hb, hml, hown, hG⟩ (c_knownZone l dC dI cI cJ cZ cB a0 aZ aO aG aP aW aK (nI nz) orr ol mp pl fa fb fZ nz k za H.size hk hn hz) (cwV 1 hG g_C_70 rfl rfl rfl (by decide +kernel) ⟨Nat.le_of_ble_eq_true rfl, Nat.le_of_ble_eq_true rfl⟩) ⟨PC.blind, va_recv hK hP (ci := 2) (q0 := 0) rfl rfl, PC.of hPc hK hDc hE hS hFc⟩ rfl rfl hl9.1 rfl (lv_room (Nat.le_of_ble_eq_true rfl)) d_C_set_2 ⟨by first | exact Nat.le_of_ble_eq_true rfl | omega, by first | exact Nat.le_of_ble_eq_true rfl | omega⟩) hS (fun q _ h => hFc q h) hFc (fun r2 u t H1 locs ht hvm hw hB hz1 hk1 hS => ?_)
  have hP := wp_kept hP hk1
  have hw : r2 = some za := hw
  subst hw
  refine W.eq (g2 := F0 m 5 ls [.ref za]) rfl ?_
  refine lv_astore (lv' := [(4, .ref za), (0, .ref a0), (1, .int (nI k)), (2, .int what), (3, .int v)]) hx hb d_C_set_5 hl9 (by decide) rfl (fun ls hl9 => ?_)
  refine lv_iload_n hx hb d_C_set_7 rfl (lv_at hl9 3 rfl) ?_
  refine lv_iconst (v := 0) hx hb d_C_set_8 (by decide) ?_
  refine lv_iconst (v := 2) hx hb d_C_set_9 (by decide) ?_
  have hPc := hP.sub (ws' := []) [] rfl
  have hDc := hD.sub (ws' := []) [] (by decide) rfl
  have hFc := va_A_nil hA hS.1
  refine vx_callv (vx_runS (As := [.int what, .int 0, .int 2]) (rest := []) ⟨hx, hb, hml, hown, hG⟩ (c_checkBounds l dC dI cI cJ cZ cB hl what 0 2 H1.size ) (cwS 3 hG g_C_56 rfl rfl rfl (by decide +kernel) ⟨Nat.le_of_ble_eq_true rfl, Nat.le_of_ble_eq_true rfl⟩) ⟨PC.blind, PC.of hPc hK hDc hE hS hFc⟩ rfl rfl hl9.1 rfl (lv_room (Nat.le_of_ble_eq_true rfl)) d_C_set_10 ⟨by first | exact Nat.le_of_ble_eq_true rfl | omega, by first | exact Nat.le_of_ble_eq_true rfl | omega⟩) hS (fun q _ h => hFc q h) hFc (fun q _ h => hFc q h) (fun E ce q9 u t H3 locs ht hvm hpx hB hz1 hk1 hS hce hcv hcl => ?_) (fun u t H3 locs ht hvm hw hB hz1 hk1 hS => ?_)
  · exact vx_out (fun x hx => (hnx x hx).elim) hlocks hce hcv hcl (fun t ht ha => ⟨(), trivial, ⟨⟨hB.1, fun h => h.elim (fun h => hB.2.elim (fun q => by rw [h.1] at q; exact absurd q (by decide)) (fun q => by rw [h.1] at q; exact absurd q (by decide))) (fun h => h.elim (fun h => hB.2.elim (fun q => by rw [h.1] at q; exact absurd q (by decide)) (fun q => by rw [h.1] at q; exact absurd q (by decide))) (fun h => hB.2.elim (fun q => by rw [h.1] at q; exact absurd q (by decide)) (fun q => by rw [h.1] at q; exact absurd q (by decide))))⟩, by have h9 := wp_kept hP hk1; rw [← ht] at h9; exact h9⟩, hS.F ht⟩) hS.2.2 (by first | exact Nat.le_of_ble_eq_true rfl | omega) (by first | exact Nat.le_of_ble_eq_true rfl | omega)
  have hw := hw
  have hP := wp_kept hP hk1
  have hq5 : ¬ (what < 0 ∨ 2 < what) := hw
  have hw1 := hw
  refine lv_iload_n hx hb d_C_set_13 rfl (lv_at hl9 3 rfl) ?_
  refine lv_if_ne (tgt := 43) hx hb d_C_set_14 (by decide) (fun c1 => ?_) (fun c1 => ?_)
  · refine lv_iload_n hx hb d_C_set_43 rfl (lv_at hl9 3 rfl) ?_
    refine lv_iconst (v := 1) hx hb d_C_set_44 (by decide) ?_
    refine lv_icmp_ne (tgt := 71) hx hb d_C_set_45 (by decide) (fun c2 => ?_) (fun c2 => ?_)
    · have e2 : what = 2 := w2_of hw1 c1 c2
      refine lv_iload_n hx hb d_C_set_71 rfl (lv_at hl9 4 rfl) ?_
      refine lv_iconst (v := 0) hx hb d_C_set_72 (by decide) ?_
      refine lv_bipush (v := 9) hx hb d_C_set_73 (by decide) ?_
      have hPc := hP.sub (ws' := []) [] rfl
      have hDc := hD.sub (ws' := []) [] (by decide) rfl
      have hFc := va_A_nil hA hS.1
      refine vx_callv (vx_runS (As := [.int v, .int 0, .int 9]) (rest := []) ⟨hx, hb, hml, hown, hG⟩ (c_checkBounds l dC dI cI cJ cZ cB hl v 0 9 H3.size ) (cwS 3 hG g_C_56 rfl rfl rfl (by decide +kernel) ⟨Nat.le_of_ble_eq_true rfl, Nat.le_of_ble_eq_true rfl⟩) ⟨PC.blind, PC.of hPc hK hDc hE hS hFc⟩ rfl rfl hl9.1 rfl (lv_room (Nat.le_of_ble_eq_true rfl)) d_C_set_75 ⟨by first | exact Nat.le_of_ble_eq_true rfl | omega, by first | exact Nat.le_of_ble_eq_true rfl | omega⟩) hS (fun q _ h => hFc q h) hFc (fun q _ h => hFc q h) (fun E ce q9 u t H6 locs ht hvm hpx hB hz1 hk1 hS hce hcv hcl => ?_) (fun u t H6 locs ht hvm hw hB hz1 hk1 hS => ?_)
      · exact vx_out (fun x hx => (hnx x hx).elim) hlocks hce hcv hcl (fun t ht ha => ⟨(), trivial, ⟨⟨hB.1, fun h => h.elim (fun h => c1 h.1) (fun h => h.elim (fun h => c2 h.1) (fun h => h.2 hB.2))⟩, by have h9 := wp_kept hP hk1; rw [← ht] at h9; exact h9⟩, hS.F ht⟩) hS.2.2 (by first | exact Nat.le_of_ble_eq_true rfl | omega) (by first | exact Nat.le_of_ble_eq_true rfl | omega)
      have hw := hw
      have hP := wp_kept hP hk1
      have hq8 : ¬ (v < 0 ∨ 9 < v) := hw
      have hw2 : okset what v := Or.inr (Or.inr ⟨e2, hw⟩)
      refine lv_aload hx hb d_C_set_78 (lv_at hl9 0 rfl) ?_
      refine va_getN (D := (dC, dI)) (ci := 1) (v := .int zr) (C := R_Z) (T := F_Z) (N := 10) hx hb hG i_Z hown hK hP 2 rfl rfl 4 (by decide) (hE.1.use k_188) (fun _ h9 => h9) rfl d_C_set_80 ?_
      refine lv_istore (lv' := [(5, .int zr), (4, .ref za), (0, .ref a0), (1, .int (nI k)), (2, .int what), (3, .int v)]) hx hb d_C_set_83 hl9 (by decide) rfl (fun ls hl9 => ?_)
      refine lv_aload hx hb d_C_set_85 (lv_at hl9 1 rfl) ?_
      refine lv_iload_n hx hb d_C_set_87 rfl (lv_at hl9 5 rfl) ?_
      refine va_putN (D := (dC, dI)) (ci := 1) (v := .int v) (ty := .int) (C := R_Z) (T := F_Z) (N := 10) hx hb hG i_Z t_Z t_Z_ok n_Z hown hK hP hD hS 2 rfl rfl 4 (by decide) (hE.1.use k_188) (fun _ h9 => h9) rfl (by decide +kernel) rfl rfl (Nat.le_of_ble_eq_true rfl) d_C_set_88 (fun H locs hP hD hS => ?_)
      have hP : va_P (dC, dI) vwCl [(a0, .inr (2, [.ref aZ, .int (nI nz), .ref aO, .int orr, .int ol, .int mp, .ref aG, .int pl, .int fa, .int fb, .ref aP, .ref aW, .ref aK])), (aZ, .inl (cZ, 6, .inr (.inr (.inr (.inr fZ))))), (za, .inr (1, [.int zh, .int zl, .int zf, .int zp, .int v, .int zm, .int zw, .ref la, .int zs, .ref wa]))] H := hP
      have hD : va_D A [(a0, .inr (2, [.ref aZ, .int (nI nz), .ref aO, .int orr, .int ol, .int mp, .ref aG, .int pl, .int fa, .int fb, .ref aP, .ref aW, .ref aK])), (aZ, .inl (cZ, 6, .inr (.inr (.inr (.inr fZ))))), (za, .inr (1, [.int zh, .int zl, .int zf, .int zp, .int v, .int zm, .int zw, .ref la, .int zs, .ref wa]))] := hD
      refine lv_aload_n hx hb d_C_set_91 rfl (lv_at hl9 2 rfl) ?_
      refine lv_iconst (v := 0) hx hb d_C_set_92 (by decide) ?_
      refine va_put (D := (dC, dI)) (ci := 2) (v := .int 0) (ty := .boolean) (C := R_C) (T := F_C) (N := 13) hx hb hG i_C t_C t_C_ok n_C hown hK hP hD hS 0 rfl rfl 7 (by decide) (hG _ k_29) (fun _ h9 => h9) rfl (by decide +kernel) rfl rfl (Nat.le_of_ble_eq_true rfl) d_C_set_93 (fun H locs hP hD hS => ?_)
      have hP : va_P (dC, dI) vwCl [(a0, .inr (2, [.ref aZ, .int (nI nz), .ref aO, .int orr, .int ol, .int mp, .ref aG, .int 0, .int fa, .int fb, .ref aP, .ref aW, .ref aK])), (aZ, .inl (cZ, 6, .inr (.inr (.inr (.inr fZ))))), (za, .inr (1, [.int zh, .int zl, .int zf, .int zp, .int v, .int zm, .int zw, .ref la, .int zs, .ref wa]))] H := hP
      have hD : va_D A [(a0, .inr (2, [.ref aZ, .int (nI nz), .ref aO, .int orr, .int ol, .int mp, .ref aG, .int 0, .int fa, .int fb, .ref aP, .ref aW, .ref aK])), (aZ, .inl (cZ, 6, .inr (.inr (.inr (.inr fZ))))), (za, .inr (1, [.int zh, .int zl, .int zf, .int zp, .int v, .int zm, .int zw, .ref la, .int zs, .ref wa]))] := hD
      refine lv_iload hx hb d_C_set_96 (lv_at hl9 0 rfl) ?_
      have hP : va_P (dC, dI) vwCl [(a0, .inr (2, [.ref aZ, .int (nI nz), .ref aO, .int orr, .int ol, .int mp, .ref aG, .int 0, .int fa, .int fb, .ref aP, .ref aW, .ref aK])), (aZ, .inl (cZ, 6, .inr (.inr (.inr (.inr fZ))))), (za, .inr (1, [.int zh, .int zl, .int (if what = 0 then v else zf), .int (if what = 1 then v else zp), .int (if what = 2 then v else zr), .int zm, .int zw, .ref la, .int zs, .ref wa]))] H := by rw [if_neg c1, if_neg c2, if_pos e2]; exact hP
      refine vx_ret ?_
      refine W.widen (k := 3) (n := 18) (by omega) (by omega) ?_
      exact W.iret (v := zr) hx hb hr (fun t ht hW => ⟨⟨zr, (), rfl, ⟨by rw [if_neg c1, if_neg c2], hw2⟩, by have h9 := hP; rw [← ht] at h9; exact h9⟩, hS.F ht⟩) hS.2.2 d_C_set_98
    · have n2 : ¬ what = 2 := by rw [c2]; decide
      refine lv_iload_n hx hb d_C_set_48 rfl (lv_at hl9 4 rfl) ?_
      refine lv_iconst (v := 0) hx hb d_C_set_49 (by decide) ?_
      refine lv_ldc (v := 100000) hx hb hown (hG _ k_21) d_C_set_50 ?_
      have hPc := hP.sub (ws' := []) [] rfl
      have hDc := hD.sub (ws' := []) [] (by decide) rfl
      have hFc := va_A_nil hA hS.1
      refine vx_callv (vx_runS (As := [.int v, .int 0, .int 100000]) (rest := []) ⟨hx, hb, hml, hown, hG⟩ (c_checkBounds l dC dI cI cJ cZ cB hl v 0 100000 H3.size ) (cwS 3 hG g_C_56 rfl rfl rfl (by decide +kernel) ⟨Nat.le_of_ble_eq_true rfl, Nat.le_of_ble_eq_true rfl⟩) ⟨PC.blind, PC.of hPc hK hDc hE hS hFc⟩ rfl rfl hl9.1 rfl (lv_room (Nat.le_of_ble_eq_true rfl)) d_C_set_52 ⟨by first | exact Nat.le_of_ble_eq_true rfl | omega, by first | exact Nat.le_of_ble_eq_true rfl | omega⟩) hS (fun q _ h => hFc q h) hFc (fun q _ h => hFc q h) (fun E ce q9 u t H9 locs ht hvm hpx hB hz1 hk1 hS hce hcv hcl => ?_) (fun u t H9 locs ht hvm hw hB hz1 hk1 hS => ?_)
      · exact vx_out (fun x hx => (hnx x hx).elim) hlocks hce hcv hcl (fun t ht ha => ⟨(), trivial, ⟨⟨hB.1, fun h => h.elim (fun h => c1 h.1) (fun h => h.elim (fun h => h.2 hB.2) (fun h => n2 h.1))⟩, by have h9 := wp_kept hP hk1; rw [← ht] at h9; exact h9⟩, hS.F ht⟩) hS.2.2 (by first | exact Nat.le_of_ble_eq_true rfl | omega) (by first | exact Nat.le_of_ble_eq_true rfl | omega)
      have hw := hw
      have hP := wp_kept hP hk1
      have hq11 : ¬ (v < 0 ∨ 100000 < v) := hw
      have hw2 : okset what v := Or.inr (Or.inl ⟨c2, hw⟩)
      refine lv_aload hx hb d_C_set_55 (lv_at hl9 0 rfl) ?_
      refine va_getN (D := (dC, dI)) (ci := 1) (v := .int zp) (C := R_Z) (T := F_Z) (N := 10) hx hb hG i_Z hown hK hP 2 rfl rfl 3 (by decide) (hE.1.use k_186) (fun _ h9 => h9) rfl d_C_set_57 ?_
      refine lv_istore (lv' := [(5, .int zp), (4, .ref za), (0, .ref a0), (1, .int (nI k)), (2, .int what), (3, .int v)]) hx hb d_C_set_60 hl9 (by decide) rfl (fun ls hl9 => ?_)
      refine lv_aload hx hb d_C_set_62 (lv_at hl9 1 rfl) ?_
      refine lv_iload_n hx hb d_C_set_64 rfl (lv_at hl9 5 rfl) ?_
      refine va_putN (D := (dC, dI)) (ci := 1) (v := .int v) (ty := .int) (C := R_Z) (T := F_Z) (N := 10) hx hb hG i_Z t_Z t_Z_ok n_Z hown hK hP hD hS 2 rfl rfl 3 (by decide) (hE.1.use k_186) (fun _ h9 => h9) rfl (by decide +kernel) rfl rfl (Nat.le_of_ble_eq_true rfl) d_C_set_65 (fun H locs hP hD hS => ?_)
      have hP : va_P (dC, dI) vwCl [(a0, .inr (2, [.ref aZ, .int (nI nz), .ref aO, .int orr, .int ol, .int mp, .ref aG, .int pl, .int fa, .int fb, .ref aP, .ref aW, .ref aK])), (aZ, .inl (cZ, 6, .inr (.inr (.inr (.inr fZ))))), (za, .inr (1, [.int zh, .int zl, .int zf, .int v, .int zr, .int zm, .int zw, .ref la, .int zs, .ref wa]))] H := hP
      have hD : va_D A [(a0, .inr (2, [.ref aZ, .int (nI nz), .ref aO, .int orr, .int ol, .int mp, .ref aG, .int pl, .int fa, .int fb, .ref aP, .ref aW, .ref aK])), (aZ, .inl (cZ, 6, .inr (.inr (.inr (.inr fZ))))), (za, .inr (1, [.int zh, .int zl, .int zf, .int v, .int zr, .int zm, .int zw, .ref la, .int zs, .ref wa]))] := hD
      refine lv_goto (tgt := 91) hx hb d_C_set_68 (by decide) ?_
      refine lv_aload_n hx hb d_C_set_91 rfl (lv_at hl9 2 rfl) ?_
      refine lv_iconst (v := 0) hx hb d_C_set_92 (by decide) ?_
      refine va_put (D := (dC, dI)) (ci := 2) (v := .int 0) (ty := .boolean) (C := R_C) (T := F_C) (N := 13) hx hb hG i_C t_C t_C_ok n_C hown hK hP hD hS 0 rfl rfl 7 (by decide) (hG _ k_29) (fun _ h9 => h9) rfl (by decide +kernel) rfl rfl (Nat.le_of_ble_eq_true rfl) d_C_set_93 (fun H locs hP hD hS => ?_)
      have hP : va_P (dC, dI) vwCl [(a0, .inr (2, [.ref aZ, .int (nI nz), .ref aO, .int orr, .int ol, .int mp, .ref aG, .int 0, .int fa, .int fb, .ref aP, .ref aW, .ref aK])), (aZ, .inl (cZ, 6, .inr (.inr (.inr (.inr fZ))))), (za, .inr (1, [.int zh, .int zl, .int zf, .int v, .int zr, .int zm, .int zw, .ref la, .int zs, .ref wa]))] H := hP
      have hD : va_D A [(a0, .inr (2, [.ref aZ, .int (nI nz), .ref aO, .int orr, .int ol, .int mp, .ref aG, .int 0, .int fa, .int fb, .ref aP, .ref aW, .ref aK])), (aZ, .inl (cZ, 6, .inr (.inr (.inr (.inr fZ))))), (za, .inr (1, [.int zh, .int zl, .int zf, .int v, .int zr, .int zm, .int zw, .ref la, .int zs, .ref wa]))] := hD
      refine lv_iload hx hb d_C_set_96 (lv_at hl9 0 rfl) ?_
      have hP : va_P (dC, dI) vwCl [(a0, .inr (2, [.ref aZ, .int (nI nz), .ref aO, .int orr, .int ol, .int mp, .ref aG, .int 0, .int fa, .int fb, .ref aP, .ref aW, .ref aK])), (aZ, .inl (cZ, 6, .inr (.inr (.inr (.inr fZ))))), (za, .inr (1, [.int zh, .int zl, .int (if what = 0 then v else zf), .int (if what = 1 then v else zp), .int (if what = 2 then v else zr), .int zm, .int zw, .ref la, .int zs, .ref wa]))] H := by rw [if_neg c1, if_pos c2, if_neg n2]; exact hP
      refine vx_ret ?_
      refine W.widen (k := 3) (n := 18) (by omega) (by omega) ?_
      exact W.iret (v := zp) hx hb hr (fun t ht hW => ⟨⟨zp, (), rfl, ⟨by rw [if_neg c1, if_pos c2], hw2⟩, by have h9 := hP; rw [← ht] at h9; exact h9⟩, hS.F ht⟩) hS.2.2 d_C_set_98
  · have n1 : ¬ what = 1 := by rw [c1]; decide
    have n2 : ¬ what = 2 := by rw [c1]; decide
    refine lv_iload_n hx hb d_C_set_17 rfl (lv_at hl9 4 rfl) ?_
    refine lv_sipush (v := (-10000)) hx hb d_C_set_18 (by decide) ?_
    refine lv_sipush (v := 10000) hx hb d_C_set_21 (by decide) ?_
    have hPc := hP.sub (ws' := []) [] rfl
    have hDc := hD.sub (ws' := []) [] (by decide) rfl
    have hFc := va_A_nil hA hS.1
    refine vx_callv (vx_runS (As := [.int v, .int (-10000), .int 10000]) (rest := []) ⟨hx, hb, hml, hown, hG⟩ (c_checkBounds l dC dI cI cJ cZ cB hl v (-10000) 10000 H3.size ) (cwS 3 hG g_C_56 rfl rfl rfl (by decide +kernel) ⟨Nat.le_of_ble_eq_true rfl, Nat.le_of_ble_eq_true rfl⟩) ⟨PC.blind, PC.of hPc hK hDc hE hS hFc⟩ rfl rfl hl9.1 rfl (lv_room (Nat.le_of_ble_eq_true rfl)) d_C_set_24 ⟨by first | exact Nat.le_of_ble_eq_true rfl | omega, by first | exact Nat.le_of_ble_eq_true rfl | omega⟩) hS (fun q _ h => hFc q h) hFc (fun q _ h => hFc q h) (fun E ce q9 u t H12 locs ht hvm hpx hB hz1 hk1 hS hce hcv hcl => ?_) (fun u t H12 locs ht hvm hw hB hz1 hk1 hS => ?_)
    · exact vx_out (fun x hx => (hnx x hx).elim) hlocks hce hcv hcl (fun t ht ha => ⟨(), trivial, ⟨⟨hB.1, fun h => h.elim (fun h => h.2 hB.2) (fun h => h.elim (fun h => n1 h.1) (fun h => n2 h.1))⟩, by have h9 := wp_kept hP hk1; rw [← ht] at h9; exact h9⟩, hS.F ht⟩) hS.2.2 (by first | exact Nat.le_of_ble_eq_true rfl | omega) (by first | exact Nat.le_of_ble_eq_true rfl | omega)
    have hw := hw
    have hP := wp_kept hP hk1
    have hq14 : ¬ (v < (-10000) ∨ 10000 < v) := hw
    have hw2 : okset what v := Or.inl ⟨c1, hw⟩
    refine lv_aload hx hb d_C_set_27 (lv_at hl9 0 rfl) ?_
    refine va_getN (D := (dC, dI)) (ci := 1) (v := .int zf) (C := R_Z) (T := F_Z) (N := 10) hx hb hG i_Z hown hK hP 2 rfl rfl 2 (by decide) (hE.1.use k_184) (fun _ h9 => h9) rfl d_C_set_29 ?_
    refine lv_istore (lv' := [(5, .int zf), (4, .ref za), (0, .ref a0), (1, .int (nI k)), (2, .int what), (3, .int v)]) hx hb d_C_set_32 hl9 (by decide) rfl (fun ls hl9 => ?_)
    refine lv_aload hx hb d_C_set_34 (lv_at hl9 1 rfl) ?_
    refine lv_iload_n hx hb d_C_set_36 rfl (lv_at hl9 5 rfl) ?_
    refine va_putN (D := (dC, dI)) (ci := 1) (v := .int v) (ty := .int) (C := R_Z) (T := F_Z) (N := 10) hx hb hG i_Z t_Z t_Z_ok n_Z hown hK hP hD hS 2 rfl rfl 2 (by decide) (hE.1.use k_184) (fun _ h9 => h9) rfl (by decide +kernel) rfl rfl (Nat.le_of_ble_eq_true rfl) d_C_set_37 (fun H locs hP hD hS => ?_)
    have hP : va_P (dC, dI) vwCl [(a0, .inr (2, [.ref aZ, .int (nI nz), .ref aO, .int orr, .int ol, .int mp, .ref aG, .int pl, .int fa, .int fb, .ref aP, .ref aW, .ref aK])), (aZ, .inl (cZ, 6, .inr (.inr (.inr (.inr fZ))))), (za, .inr (1, [.int zh, .int zl, .int v, .int zp, .int zr, .int zm, .int zw, .ref la, .int zs, .ref wa]))] H := hP
    have hD : va_D A [(a0, .inr (2, [.ref aZ, .int (nI nz), .ref aO, .int orr, .int ol, .int mp, .ref aG, .int pl, .int fa, .int fb, .ref aP, .ref aW, .ref aK])), (aZ, .inl (cZ, 6, .inr (.inr (.inr (.inr fZ))))), (za, .inr (1, [.int zh, .int zl, .int v, .int zp, .int zr, .int zm, .int zw, .ref la, .int zs, .ref wa]))] := hD
    refine lv_goto (tgt := 91) hx hb d_C_set_40 (by decide) ?_
    refine lv_aload_n hx hb d_C_set_91 rfl (lv_at hl9 2 rfl) ?_
    refine lv_iconst (v := 0) hx hb d_C_set_92 (by decide) ?_
    refine va_put (D := (dC, dI)) (ci := 2) (v := .int 0) (ty := .boolean) (C := R_C) (T := F_C) (N := 13) hx hb hG i_C t_C t_C_ok n_C hown hK hP hD hS 0 rfl rfl 7 (by decide) (hG _ k_29) (fun _ h9 => h9) rfl (by decide +kernel) rfl rfl (Nat.le_of_ble_eq_true rfl) d_C_set_93 (fun H locs hP hD hS => ?_)
    have hP : va_P (dC, dI) vwCl [(a0, .inr (2, [.ref aZ, .int (nI nz), .ref aO, .int orr, .int ol, .int mp, .ref aG, .int 0, .int fa, .int fb, .ref aP, .ref aW, .ref aK])), (aZ, .inl (cZ, 6, .inr (.inr (.inr (.inr fZ))))), (za, .inr (1, [.int zh, .int zl, .int v, .int zp, .int zr, .int zm, .int zw, .ref la, .int zs, .ref wa]))] H := hP
    have hD : va_D A [(a0, .inr (2, [.ref aZ, .int (nI nz), .ref aO, .int orr, .int ol, .int mp, .ref aG, .int 0, .int fa, .int fb, .ref aP, .ref aW, .ref aK])), (aZ, .inl (cZ, 6, .inr (.inr (.inr (.inr fZ))))), (za, .inr (1, [.int zh, .int zl, .int v, .int zp, .int zr, .int zm, .int zw, .ref la, .int zs, .ref wa]))] := hD
    refine lv_iload hx hb d_C_set_96 (lv_at hl9 0 rfl) ?_
    have hP : va_P (dC, dI) vwCl [(a0, .inr (2, [.ref aZ, .int (nI nz), .ref aO, .int orr, .int ol, .int mp, .ref aG, .int 0, .int fa, .int fb, .ref aP, .ref aW, .ref aK])), (aZ, .inl (cZ, 6, .inr (.inr (.inr (.inr fZ))))), (za, .inr (1, [.int zh, .int zl, .int (if what = 0 then v else zf), .int (if what = 1 then v else zp), .int (if what = 2 then v else zr), .int zm, .int zw, .ref la, .int zs, .ref wa]))] H := by rw [if_pos c1, if_neg n1, if_neg n2]; exact hP
    refine vx_ret ?_
    refine W.widen (k := 3) (n := 18) (by omega) (by omega) ?_
    exact W.iret (v := zf) hx hb hr (fun t ht hW => ⟨⟨zf, (), rfl, ⟨by rw [if_pos c1], hw2⟩, by have h9 := hP; rw [← ht] at h9; exact h9⟩, hS.F ht⟩) hS.2.2 d_C_set_98
set_option maxHeartbeats 4000000 in
set_option maxRecDepth 100000 in
theorem c_want (l : Launch) (dC : Nat → ClassId) (dI : Nat → Nat → Nat) (cI cJ cZ cB : ClassId) (hl : l.stackTraces = false) (a0 aZ aO aG aP aW aK : Nat) (zc orr ol mp pl fa fb : Int32) (fZ : Nat → Option Nat) (za la wa : Nat) (zh zl zf zp zr zm zw zs : Int32) (nz k : Nat) (x y : Int32) (sz : Nat) (hk : k < nz) (hn : nz ≤ 6) (hz : fZ k = some za) : vx_Met l y_C_want w_C_want ({ frames := 7, cells := 2, slots := 12, locals := 104 }) (PC (dC, dI) (TY cI cJ cZ cB) [.ref a0, .int (nI k), .int x, .int y] [(a0, .inr (2, [.ref aZ, .int (nI nz), .ref aO, .int orr, .int ol, .int mp, .ref aG, .int pl, .int fa, .int fb, .ref aP, .ref aW, .ref aK])), (aZ, .inl (cZ, 6, .inr (.inr (.inr (.inr fZ))))), (za, .inr (1, [.int zh, .int zl, .int zf, .int zp, .int zr, .int zm, .int zw, .ref la, .int zs, .ref wa]))] sz (va_A [(a0, .inr (2, [.ref aZ, .int (nI nz), .ref aO, .int orr, .int ol, .int mp, .ref aG, .int pl, .int fa, .int fb, .ref aP, .ref aW, .ref aK])), (aZ, .inl (cZ, 6, .inr (.inr (.inr (.inr fZ))))), (za, .inr (1, [.int zh, .int zl, .int zf, .int zp, .int zr, .int zm, .int zw, .ref la, .int zs, .ref wa]))] sz)) (va_Qv (fun (_ : Unit) => ¬ ((x < (-1) ∨ 1439 < x) ∨ (y < (-10000) ∨ 10000 < y))) (fun (_ : Unit) (t : State) => va_P (dC, dI) vwCl [(a0, .inr (2, [.ref aZ, .int (nI nz), .ref aO, .int orr, .int ol, .int mp, .ref aG, .int 0, .int fa, .int fb, .ref aP, .ref aW, .ref aK])), (aZ, .inl (cZ, 6, .inr (.inr (.inr (.inr fZ))))), (za, .inr (1, [.int zh, .int zl, .int zf, .int zp, .int zr, .int x, .int y, .ref la, .int zs, .ref wa]))] t.heap) (va_A [(a0, .inr (2, [.ref aZ, .int (nI nz), .ref aO, .int orr, .int ol, .int mp, .ref aG, .int pl, .int fa, .int fb, .ref aP, .ref aW, .ref aK])), (aZ, .inl (cZ, 6, .inr (.inr (.inr (.inr fZ))))), (za, .inr (1, [.int zh, .int zl, .int zf, .int zp, .int zr, .int zm, .int zw, .ref la, .int zs, .ref wa]))] sz)) (vx_X (fun (_ : Unit) => True) (fun (E : String) (_ : Unit) (t : State) => (E = "java/lang/IllegalArgumentException" ∧ ((x < (-1) ∨ 1439 < x) ∨ (y < (-10000) ∨ 10000 < y))) ∧ va_P (dC, dI) vwCl [(a0, .inr (2, [.ref aZ, .int (nI nz), .ref aO, .int orr, .int ol, .int mp, .ref aG, .int pl, .int fa, .int fb, .ref aP, .ref aW, .ref aK])), (aZ, .inl (cZ, 6, .inr (.inr (.inr (.inr fZ))))), (za, .inr (1, [.int zh, .int zl, .int zf, .int zp, .int zr, .int zm, .int zw, .ref la, .int zs, .ref wa]))] t.heap) (va_A [(a0, .inr (2, [.ref aZ, .int (nI nz), .ref aO, .int orr, .int ol, .int mp, .ref aG, .int pl, .int fa, .int fb, .ref aP, .ref aW, .ref aK])), (aZ, .inl (cZ, 6, .inr (.inr (.inr (.inr fZ))))), (za, .inr (1, [.int zh, .int zl, .int zf, .int zp, .int zr, .int zm, .int zw, .ref la, .int zs, .ref wa]))] sz)) 2 12 (va_A [(a0, .inr (2, [.ref aZ, .int (nI nz), .ref aO, .int orr, .int ol, .int mp, .ref aG, .int pl, .int fa, .int fb, .ref aP, .ref aW, .ref aK])), (aZ, .inl (cZ, 6, .inr (.inr (.inr (.inr fZ))))), (za, .inr (1, [.int zh, .int zl, .int zf, .int zp, .int zr, .int zm, .int zw, .ref la, .int zs, .ref wa]))] sz) := by
  refine vx_ofW (cc := b_C_want) (maxL := 5) (ret := none) (by decide) rfl ?_
  intro p e s m args below meth c s₁ B hml hnx hv
  obtain ⟨rfl, hsz, hP, hK, hD0, hE⟩ := hv
  have hx := B.exec
  have hb := B.bytes
  have hr := B.returns
  have hG : ∀ w ∈ GG, w.before _ s = true := fun w h => atoms_spec (ws := w_C_want) B.pre w (List.mem_cons_of_mem _ h)
  have hown : s.vm.findClass R_C = some m.cls := findClass_of_methodNamed B.named
  have hlocks := B.notSynchronized
  subst hsz
  have hD := hD0.self (sz := s.heap.size)
  generalize hAe : (va_A [(a0, .inr (2, [.ref aZ, .int (nI nz), .ref aO, .int orr, .int ol, .int mp, .ref aG, .int pl, .int fa, .int fb, .ref aP, .ref aW, .ref aK])), (aZ, .inl (cZ, 6, .inr (.inr (.inr (.inr fZ))))), (za, .inr (1, [.int zh, .int zl, .int zf, .int zp, .int zr, .int zm, .int zw, .ref la, .int zs, .ref wa]))] s.heap.size) = A at hD hE ⊢
  have hA : ∀ q : Nat, s.heap.size ≤ q → A q := fun q h => by rw [← hAe]; exact Or.inr h
  have hS : va_S A s.heap s.heap [] := va_S.rf
  obtain ⟨H, hH⟩ : ∃ z, z = s.heap := ⟨_, rfl⟩
  rw [← hH] at hP
  have hS : va_S A s.heap H [] := by rw [hH]; exact hS
  rw [← hH]
  have hl9 := lv_entry ([.ref a0, .int (nI k), .int x, .int y]) (n := 5) (Nat.le_of_ble_eq_true rfl)
  rw [lg_entry_eq]
  generalize (lg_sl ([.ref a0, .int (nI k), .int x, .int y]) ++ List.replicate (5 - (lg_sl ([.ref a0, .int (nI k), .int x, .int y])).length) Slot.unset).toArray = ls at hl9 ⊢
  have hl9 : lv_has ls 5 [(0, .ref a0), (1, .int (nI k)), (2, .int x), (3, .int y)] := hl9
  refine lv_aload_n hx hb d_C_want_0 rfl (lv_at hl9 0 rfl) ?_
  refine lv_iload_n hx hb d_C_want_1 rfl (lv_at hl9 1 rfl) ?_
  have hPc := hP.sub (ws' := [(a0, .inr (2, [.ref aZ, .int (nI nz), .ref aO, .int orr, .int ol, .int mp, .ref aG, .int pl, .int fa, .int fb, .ref aP, .ref aW, .ref aK])), (aZ, .inl (cZ, 6, .inr (.inr (.inr (.inr fZ)))))]) [0, 1] rfl
  have hDc := hD.sub (ws' := [(a0, .inr (2, [.ref aZ, .int (nI nz), .ref aO, .int orr, .int ol, .int mp, .ref aG, .int pl, .int fa, .int fb, .ref aP, .ref aW, .ref aK])), (aZ, .inl (cZ, 6, .inr (.inr (.inr (.inr fZ)))))]) [0, 1] (by decide) rfl
  have hFc := va_A_nil hA hS.1
  refine va_callq (va_runV (C := R_C) (As := [.int (nI k)]) (rest := []) ⟨hx, hb, hml, hown, hG⟩ (c_knownZone l dC dI cI cJ cZ cB a0 aZ aO aG aP aW aK (nI nz) orr ol mp pl fa fb fZ nz k za H.size hk hn hz) (cwV 1 hG g_C_70 rfl rfl rfl (by decide +kernel) ⟨Nat.le_of_ble_eq_true rfl, Nat.le_of_ble_eq_true rfl⟩) ⟨PC.blind, va_recv hK hP (ci := 2) (q0 := 0) rfl rfl, PC.of hPc hK hDc hE hS hFc⟩ rfl rfl hl9.1 rfl (lv_room (Nat.le_of_ble_eq_true rfl)) d_C_want_2 ⟨by first | exact Nat.le_of_ble_eq_true rfl | omega, by first | exact Nat.le_of_ble_eq_true rfl | omega⟩) hS (fun q _ h => hFc q h) hFc (fun r2 u t H1 locs ht hvm hw hB hz1 hk1 hS => ?_)
  have hP := wp_kept hP hk1
  have hw : r2 = some za := hw
  subst hw
  refine W.eq (g2 := F0 m 5 ls [.ref za]) rfl ?_
  refine lv_astore (lv' := [(4, .ref za), (0, .ref a0), (1, .int (nI k)), (2, .int x), (3, .int y)]) hx hb d_C_want_5 hl9 (by decide) rfl (fun ls hl9 => ?_)
  refine lv_iload_n hx hb d_C_want_7 rfl (lv_at hl9 3 rfl) ?_
  refine lv_iconst (v := (-1)) hx hb d_C_want_8 (by decide) ?_
  refine lv_sipush (v := 1439) hx hb d_C_want_9 (by decide) ?_
  have hPc := hP.sub (ws' := []) [] rfl
  have hDc := hD.sub (ws' := []) [] (by decide) rfl
  have hFc := va_A_nil hA hS.1
  refine vx_callv (vx_runS (As := [.int x, .int (-1), .int 1439]) (rest := []) ⟨hx, hb, hml, hown, hG⟩ (c_checkBounds l dC dI cI cJ cZ cB hl x (-1) 1439 H1.size ) (cwS 3 hG g_C_56 rfl rfl rfl (by decide +kernel) ⟨Nat.le_of_ble_eq_true rfl, Nat.le_of_ble_eq_true rfl⟩) ⟨PC.blind, PC.of hPc hK hDc hE hS hFc⟩ rfl rfl hl9.1 rfl (lv_room (Nat.le_of_ble_eq_true rfl)) d_C_want_12 ⟨by first | exact Nat.le_of_ble_eq_true rfl | omega, by first | exact Nat.le_of_ble_eq_true rfl | omega⟩) hS (fun q _ h => hFc q h) hFc (fun q _ h => hFc q h) (fun E ce q9 u t H3 locs ht hvm hpx hB hz1 hk1 hS hce hcv hcl => ?_) (fun u t H3 locs ht hvm hw hB hz1 hk1 hS => ?_)
  · exact vx_out (fun x hx => (hnx x hx).elim) hlocks hce hcv hcl (fun t ht ha => ⟨(), trivial, ⟨⟨hB.1, Or.inl hB.2⟩, by have h9 := wp_kept hP hk1; rw [← ht] at h9; exact h9⟩, hS.F ht⟩) hS.2.2 (by first | exact Nat.le_of_ble_eq_true rfl | omega) (by first | exact Nat.le_of_ble_eq_true rfl | omega)
  have hw := hw
  have hP := wp_kept hP hk1
  have hq5 : ¬ (x < (-1) ∨ 1439 < x) := hw
  have hw1 := hw
  refine lv_iload_n hx hb d_C_want_15 rfl (lv_at hl9 4 rfl) ?_
  refine lv_sipush (v := (-10000)) hx hb d_C_want_16 (by decide) ?_
  refine lv_sipush (v := 10000) hx hb d_C_want_19 (by decide) ?_
  have hPc := hP.sub (ws' := []) [] rfl
  have hDc := hD.sub (ws' := []) [] (by decide) rfl
  have hFc := va_A_nil hA hS.1
  refine vx_callv (vx_runS (As := [.int y, .int (-10000), .int 10000]) (rest := []) ⟨hx, hb, hml, hown, hG⟩ (c_checkBounds l dC dI cI cJ cZ cB hl y (-10000) 10000 H3.size ) (cwS 3 hG g_C_56 rfl rfl rfl (by decide +kernel) ⟨Nat.le_of_ble_eq_true rfl, Nat.le_of_ble_eq_true rfl⟩) ⟨PC.blind, PC.of hPc hK hDc hE hS hFc⟩ rfl rfl hl9.1 rfl (lv_room (Nat.le_of_ble_eq_true rfl)) d_C_want_22 ⟨by first | exact Nat.le_of_ble_eq_true rfl | omega, by first | exact Nat.le_of_ble_eq_true rfl | omega⟩) hS (fun q _ h => hFc q h) hFc (fun q _ h => hFc q h) (fun E ce q9 u t H6 locs ht hvm hpx hB hz1 hk1 hS hce hcv hcl => ?_) (fun u t H6 locs ht hvm hw hB hz1 hk1 hS => ?_)
  · exact vx_out (fun x hx => (hnx x hx).elim) hlocks hce hcv hcl (fun t ht ha => ⟨(), trivial, ⟨⟨hB.1, Or.inr hB.2⟩, by have h9 := wp_kept hP hk1; rw [← ht] at h9; exact h9⟩, hS.F ht⟩) hS.2.2 (by first | exact Nat.le_of_ble_eq_true rfl | omega) (by first | exact Nat.le_of_ble_eq_true rfl | omega)
  have hw := hw
  have hP := wp_kept hP hk1
  have hq8 : ¬ (y < (-10000) ∨ 10000 < y) := hw
  have hw2 := hw
  refine lv_aload hx hb d_C_want_25 (lv_at hl9 0 rfl) ?_
  refine lv_iload_n hx hb d_C_want_27 rfl (lv_at hl9 3 rfl) ?_
  refine va_putN (D := (dC, dI)) (ci := 1) (v := .int x) (ty := .int) (C := R_Z) (T := F_Z) (N := 10) hx hb hG i_Z t_Z t_Z_ok n_Z hown hK hP hD hS 2 rfl rfl 5 (by decide) (hE.1.use k_190) (fun _ h9 => h9) rfl (by decide +kernel) rfl rfl (Nat.le_of_ble_eq_true rfl) d_C_want_28 (fun H locs hP hD hS => ?_)
  have hP : va_P (dC, dI) vwCl [(a0, .inr (2, [.ref aZ, .int (nI nz), .ref aO, .int orr, .int ol, .int mp, .ref aG, .int pl, .int fa, .int fb, .ref aP, .ref aW, .ref aK])), (aZ, .inl (cZ, 6, .inr (.inr (.inr (.inr fZ))))), (za, .inr (1, [.int zh, .int zl, .int zf, .int zp, .int zr, .int x, .int zw, .ref la, .int zs, .ref wa]))] H := hP
  have hD : va_D A [(a0, .inr (2, [.ref aZ, .int (nI nz), .ref aO, .int orr, .int ol, .int mp, .ref aG, .int pl, .int fa, .int fb, .ref aP, .ref aW, .ref aK])), (aZ, .inl (cZ, 6, .inr (.inr (.inr (.inr fZ))))), (za, .inr (1, [.int zh, .int zl, .int zf, .int zp, .int zr, .int x, .int zw, .ref la, .int zs, .ref wa]))] := hD
  refine lv_aload hx hb d_C_want_31 (lv_at hl9 0 rfl) ?_
  refine lv_iload_n hx hb d_C_want_33 rfl (lv_at hl9 4 rfl) ?_
  refine va_putN (D := (dC, dI)) (ci := 1) (v := .int y) (ty := .int) (C := R_Z) (T := F_Z) (N := 10) hx hb hG i_Z t_Z t_Z_ok n_Z hown hK hP hD hS 2 rfl rfl 6 (by decide) (hE.1.use k_192) (fun _ h9 => h9) rfl (by decide +kernel) rfl rfl (Nat.le_of_ble_eq_true rfl) d_C_want_34 (fun H locs hP hD hS => ?_)
  have hP : va_P (dC, dI) vwCl [(a0, .inr (2, [.ref aZ, .int (nI nz), .ref aO, .int orr, .int ol, .int mp, .ref aG, .int pl, .int fa, .int fb, .ref aP, .ref aW, .ref aK])), (aZ, .inl (cZ, 6, .inr (.inr (.inr (.inr fZ))))), (za, .inr (1, [.int zh, .int zl, .int zf, .int zp, .int zr, .int x, .int y, .ref la, .int zs, .ref wa]))] H := hP
  have hD : va_D A [(a0, .inr (2, [.ref aZ, .int (nI nz), .ref aO, .int orr, .int ol, .int mp, .ref aG, .int pl, .int fa, .int fb, .ref aP, .ref aW, .ref aK])), (aZ, .inl (cZ, 6, .inr (.inr (.inr (.inr fZ))))), (za, .inr (1, [.int zh, .int zl, .int zf, .int zp, .int zr, .int x, .int y, .ref la, .int zs, .ref wa]))] := hD
  refine lv_aload_n hx hb d_C_want_37 rfl (lv_at hl9 1 rfl) ?_
  refine lv_iconst (v := 0) hx hb d_C_want_38 (by decide) ?_
  refine va_put (D := (dC, dI)) (ci := 2) (v := .int 0) (ty := .boolean) (C := R_C) (T := F_C) (N := 13) hx hb hG i_C t_C t_C_ok n_C hown hK hP hD hS 0 rfl rfl 7 (by decide) (hG _ k_29) (fun _ h9 => h9) rfl (by decide +kernel) rfl rfl (Nat.le_of_ble_eq_true rfl) d_C_want_39 (fun H locs hP hD hS => ?_)
  have hP : va_P (dC, dI) vwCl [(a0, .inr (2, [.ref aZ, .int (nI nz), .ref aO, .int orr, .int ol, .int mp, .ref aG, .int 0, .int fa, .int fb, .ref aP, .ref aW, .ref aK])), (aZ, .inl (cZ, 6, .inr (.inr (.inr (.inr fZ))))), (za, .inr (1, [.int zh, .int zl, .int zf, .int zp, .int zr, .int x, .int y, .ref la, .int zs, .ref wa]))] H := hP
  have hD : va_D A [(a0, .inr (2, [.ref aZ, .int (nI nz), .ref aO, .int orr, .int ol, .int mp, .ref aG, .int 0, .int fa, .int fb, .ref aP, .ref aW, .ref aK])), (aZ, .inl (cZ, 6, .inr (.inr (.inr (.inr fZ))))), (za, .inr (1, [.int zh, .int zl, .int zf, .int zp, .int zr, .int x, .int y, .ref la, .int zs, .ref wa]))] := hD
  refine vx_ret ?_
  exact W.vret hx hb hr (fun t ht hW => ⟨⟨(), rfl, fun h => h.elim hw1 hw2, by have h9 := hP; rw [← ht] at h9; exact h9⟩, hS.F ht⟩) hS.2.2 d_C_want_42
set_option maxHeartbeats 4000000 in
set_option maxRecDepth 100000 in
theorem c_lesson (l : Launch) (dC : Nat → ClassId) (dI : Nat → Nat → Nat) (cI cJ cZ cB : ClassId) (hl : l.stackTraces = false) (a0 aZ aO aG aP aW aK : Nat) (zc orr ol mp pl fa fb : Int32) (fZ : Nat → Option Nat) (za la wa : Nat) (zh zl zf zp zr zm zw zs : Int32) (ea eb : Int64) (nz k : Nat) (x : Int32) (sz : Nat) (hk : k < nz) (hn : nz ≤ 6) (hz : fZ k = some za) : vx_Met l y_C_lesson w_C_lesson ({ frames := 7, cells := 1, slots := 6, locals := 104 }) (PC (dC, dI) (TY cI cJ cZ cB) [.ref a0, .int (nI k), .int x] [(a0, .inr (2, [.ref aZ, .int (nI nz), .ref aO, .int orr, .int ol, .int mp, .ref aG, .int pl, .int fa, .int fb, .ref aP, .ref aW, .ref aK])), (aZ, .inl (cZ, 6, .inr (.inr (.inr (.inr fZ))))), (za, .inr (1, [.int zh, .int zl, .int zf, .int zp, .int zr, .int zm, .int zw, .ref la, .int zs, .ref wa])), (la, .inr (0, [.long ea, .long eb]))] sz (va_A [] sz)) (va_Ql (fun (r : Int64) (_ : Unit) => r = (if x = 0 then ea else eb) ∧ ¬ (x < 0 ∨ 1 < x)) (fun (_ : Unit) (_ : State) => True) (va_A [] sz)) (vx_X (fun (_ : Unit) => True) (fun (E : String) (_ : Unit) (_ : State) => E = "java/lang/IllegalArgumentException" ∧ (x < 0 ∨ 1 < x)) (va_A [] sz)) 1 6 (va_A [] sz) := by
  refine vx_ofW (cc := b_C_lesson) (maxL := 4) (ret := (some .long)) (by decide) rfl ?_
  intro p e s m args below meth c s₁ B hml hnx hv
  obtain ⟨rfl, hsz, hP, hK, hD0, hE⟩ := hv
  have hx := B.exec
  have hb := B.bytes
  have hr := B.returns
  have hG : ∀ w ∈ GG, w.before _ s = true := fun w h => atoms_spec (ws := w_C_lesson) B.pre w (List.mem_cons_of_mem _ h)
  have hown : s.vm.findClass R_C = some m.cls := findClass_of_methodNamed B.named
  have hlocks := B.notSynchronized
  subst hsz
  generalize hAe : (va_A [] s.heap.size) = A at hE ⊢
  have hA : ∀ q : Nat, s.heap.size ≤ q → A q := fun q h => by rw [← hAe]; exact Or.inr h
  have hS : va_S A s.heap s.heap [] := va_S.rf
  have hD := hD0
  obtain ⟨H, hH⟩ : ∃ z, z = s.heap := ⟨_, rfl⟩
  rw [← hH] at hP
  have hS : va_S A s.heap H [] := by rw [hH]; exact hS
  rw [← hH]
  have hl9 := lv_entry ([.ref a0, .int (nI k), .int x]) (n := 4) (Nat.le_of_ble_eq_true rfl)
  rw [lg_entry_eq]
  generalize (lg_sl ([.ref a0, .int (nI k), .int x]) ++ List.replicate (4 - (lg_sl ([.ref a0, .int (nI k), .int x])).length) Slot.unset).toArray = ls at hl9 ⊢
  have hl9 : lv_has ls 4 [(0, .ref a0), (1, .int (nI k)), (2, .int x)] := hl9
  refine lv_aload_n hx hb d_C_lesson_0 rfl (lv_at hl9 0 rfl) ?_
  refine lv_iload_n hx hb d_C_lesson_1 rfl (lv_at hl9 1 rfl) ?_
  have hPc := hP.sub (ws' := [(a0, .inr (2, [.ref aZ, .int (nI nz), .ref aO, .int orr, .int ol, .int mp, .ref aG, .int pl, .int fa, .int fb, .ref aP, .ref aW, .ref aK])), (aZ, .inl (cZ, 6, .inr (.inr (.inr (.inr fZ)))))]) [0, 1] rfl
  have hDc := hD.sub (ws' := [(a0, .inr (2, [.ref aZ, .int (nI nz), .ref aO, .int orr, .int ol, .int mp, .ref aG, .int pl, .int fa, .int fb, .ref aP, .ref aW, .ref aK])), (aZ, .inl (cZ, 6, .inr (.inr (.inr (.inr fZ)))))]) [0, 1] (by decide) rfl
  have hFc := va_A_nil hA hS.1
  refine va_callq (va_runV (C := R_C) (As := [.int (nI k)]) (rest := []) ⟨hx, hb, hml, hown, hG⟩ (c_knownZone l dC dI cI cJ cZ cB a0 aZ aO aG aP aW aK (nI nz) orr ol mp pl fa fb fZ nz k za H.size hk hn hz) (cwV 1 hG g_C_70 rfl rfl rfl (by decide +kernel) ⟨Nat.le_of_ble_eq_true rfl, Nat.le_of_ble_eq_true rfl⟩) ⟨PC.blind, va_recv hK hP (ci := 2) (q0 := 0) rfl rfl, PC.of hPc hK hDc hE hS hFc⟩ rfl rfl hl9.1 rfl (lv_room (Nat.le_of_ble_eq_true rfl)) d_C_lesson_2 ⟨by first | exact Nat.le_of_ble_eq_true rfl | omega, by first | exact Nat.le_of_ble_eq_true rfl | omega⟩) hS (fun q _ h => hFc q h) hFc (fun r2 u t H1 locs ht hvm hw hB hz1 hk1 hS => ?_)
  have hP := wp_kept hP hk1
  have hw : r2 = some za := hw
  subst hw
  refine W.eq (g2 := F0 m 5 ls [.ref za]) rfl ?_
  refine lv_astore_n (lv' := [(3, .ref za), (0, .ref a0), (1, .int (nI k)), (2, .int x)]) hx hb d_C_lesson_5 rfl hl9 (by decide) rfl (fun ls hl9 => ?_)
  refine lv_iload_n hx hb d_C_lesson_6 rfl (lv_at hl9 3 rfl) ?_
  refine lv_iconst (v := 0) hx hb d_C_lesson_7 (by decide) ?_
  refine lv_iconst (v := 1) hx hb d_C_lesson_8 (by decide) ?_
  have hPc := hP.sub (ws' := []) [] rfl
  have hDc := hD.sub (ws' := []) [] (by decide) rfl
  have hFc := va_A_nil hA hS.1
  refine vx_callv (vx_runS (As := [.int x, .int 0, .int 1]) (rest := []) ⟨hx, hb, hml, hown, hG⟩ (c_checkBounds l dC dI cI cJ cZ cB hl x 0 1 H1.size ) (cwS 3 hG g_C_56 rfl rfl rfl (by decide +kernel) ⟨Nat.le_of_ble_eq_true rfl, Nat.le_of_ble_eq_true rfl⟩) ⟨PC.blind, PC.of hPc hK hDc hE hS hFc⟩ rfl rfl hl9.1 rfl (lv_room (Nat.le_of_ble_eq_true rfl)) d_C_lesson_9 ⟨by first | exact Nat.le_of_ble_eq_true rfl | omega, by first | exact Nat.le_of_ble_eq_true rfl | omega⟩) hS (fun q _ h => hFc q h) hFc (fun q _ h => hFc q h) (fun E ce q9 u t H3 locs ht hvm hpx hB hz1 hk1 hS hce hcv hcl => ?_) (fun u t H3 locs ht hvm hw hB hz1 hk1 hS => ?_)
  · exact vx_out (fun x hx => (hnx x hx).elim) hlocks hce hcv hcl (fun t ht ha => ⟨(), trivial, hB, hS.F ht⟩) hS.2.2 (by first | exact Nat.le_of_ble_eq_true rfl | omega) (by first | exact Nat.le_of_ble_eq_true rfl | omega)
  have hw := hw
  have hP := wp_kept hP hk1
  have hq5 : ¬ (x < 0 ∨ 1 < x) := hw
  have hw1 := hw
  refine lv_iload_n hx hb d_C_lesson_12 rfl (lv_at hl9 3 rfl) ?_
  refine lv_if_ne (tgt := 26) hx hb d_C_lesson_13 (by decide) (fun c1 => ?_) (fun c1 => ?_)
  · refine lv_aload_n hx hb d_C_lesson_26 rfl (lv_at hl9 0 rfl) ?_
    refine va_getN (D := (dC, dI)) (ci := 1) (v := .ref la) (C := R_Z) (T := F_Z) (N := 10) hx hb hG i_Z hown hK hP 2 rfl rfl 7 (by decide) (hE.1.use k_194) (fun _ h9 => h9) rfl d_C_lesson_27 ?_
    refine va_getN (D := (dC, dI)) (ci := 0) (v := .long eb) (C := R_E) (T := F_E) (N := 2) hx hb hG i_E hown hK hP 3 rfl rfl 1 (by decide) (hE.1.use k_173) (fun _ h9 => h9) rfl d_C_lesson_30 ?_
    refine vx_ret ?_
    exact W.lret (v := eb) hx hb hr (fun t ht hW => ⟨⟨eb, (), rfl, ⟨by rw [if_neg c1], hw1⟩, trivial⟩, hS.F ht⟩) hS.2.2 d_C_lesson_33
  · refine lv_aload_n hx hb d_C_lesson_16 rfl (lv_at hl9 0 rfl) ?_
    refine va_getN (D := (dC, dI)) (ci := 1) (v := .ref la) (C := R_Z) (T := F_Z) (N := 10) hx hb hG i_Z hown hK hP 2 rfl rfl 7 (by decide) (hE.1.use k_194) (fun _ h9 => h9) rfl d_C_lesson_17 ?_
    refine va_getN (D := (dC, dI)) (ci := 0) (v := .long ea) (C := R_E) (T := F_E) (N := 2) hx hb hG i_E hown hK hP 3 rfl rfl 0 (by decide) (hE.1.use k_171) (fun _ h9 => h9) rfl d_C_lesson_20 ?_
    refine lv_goto (tgt := 33) hx hb d_C_lesson_23 (by decide) ?_
    refine vx_ret ?_
    exact W.lret (v := ea) hx hb hr (fun t ht hW => ⟨⟨ea, (), rfl, ⟨by rw [if_pos c1], hw1⟩, trivial⟩, hS.F ht⟩) hS.2.2 d_C_lesson_33
set_option maxHeartbeats 4000000 in
set_option maxRecDepth 100000 in
theorem c_day1 (l : Launch) (dC : Nat → ClassId) (dI : Nat → Nat → Nat) (cI cJ cZ cB : ClassId) (hl : l.stackTraces = false) (a0 aZ aO aG aP aW aK : Nat) (zc orr ol mp pl fa fb : Int32) (fZ : Nat → Option Nat) (za la wa : Nat) (zh zl zf zp zr zm zw zs : Int32) (ea eb : Int64) (nz k : Nat) (mn : Int32) (x1 y1 g1 a1 b1 : Int64) (sz : Nat) (hk : k < nz) (hn : nz ≤ 6) (hz : fZ k = some za) (hx1 : ea * (fb - fa).toInt64 + mn.toInt64 * eb * fa.toInt64 = x1) (hy1 : eb * fb.toInt64 = y1) (hg1 : cdv y1 (labs x1) 100 = g1) (hn1 : ¬ g1 = 0) (ha1 : x1 / g1 = a1) (hb1 : y1 / g1 = b1) (hbig : b1 ≤ 1000000000) : vx_Met l y_C_day w_C_day ({ frames := 7, cells := 1, slots := 6, locals := 104 }) (PC (dC, dI) (TY cI cJ cZ cB) [.ref a0, .int (nI k), .int mn] [(a0, .inr (2, [.ref aZ, .int (nI nz), .ref aO, .int orr, .int ol, .int mp, .ref aG, .int pl, .int fa, .int fb, .ref aP, .ref aW, .ref aK])), (aZ, .inl (cZ, 6, .inr (.inr (.inr (.inr fZ))))), (za, .inr (1, [.int zh, .int zl, .int zf, .int zp, .int zr, .int zm, .int zw, .ref la, .int zs, .ref wa])), (la, .inr (0, [.long ea, .long eb]))] sz (va_A [(a0, .inr (2, [.ref aZ, .int (nI nz), .ref aO, .int orr, .int ol, .int mp, .ref aG, .int pl, .int fa, .int fb, .ref aP, .ref aW, .ref aK])), (aZ, .inl (cZ, 6, .inr (.inr (.inr (.inr fZ))))), (za, .inr (1, [.int zh, .int zl, .int zf, .int zp, .int zr, .int zm, .int zw, .ref la, .int zs, .ref wa])), (la, .inr (0, [.long ea, .long eb]))] sz)) (va_Qv (fun (_ : Unit) => ¬ (mn < (-1440) ∨ 1440 < mn)) (fun (_ : Unit) (t : State) => va_P (dC, dI) vwCl [(a0, .inr (2, [.ref aZ, .int (nI nz), .ref aO, .int orr, .int ol, .int mp, .ref aG, .int pl, .int fa, .int fb, .ref aP, .ref aW, .ref aK])), (aZ, .inl (cZ, 6, .inr (.inr (.inr (.inr fZ))))), (za, .inr (1, [.int zh, .int zl, .int zf, .int zp, .int zr, .int zm, .int zw, .ref la, .int zs, .ref wa])), (la, .inr (0, [.long a1, .long b1]))] t.heap) (va_A [(a0, .inr (2, [.ref aZ, .int (nI nz), .ref aO, .int orr, .int ol, .int mp, .ref aG, .int pl, .int fa, .int fb, .ref aP, .ref aW, .ref aK])), (aZ, .inl (cZ, 6, .inr (.inr (.inr (.inr fZ))))), (za, .inr (1, [.int zh, .int zl, .int zf, .int zp, .int zr, .int zm, .int zw, .ref la, .int zs, .ref wa])), (la, .inr (0, [.long ea, .long eb]))] sz)) (vx_X (fun (_ : Unit) => True) (fun (E : String) (_ : Unit) (t : State) => (E = "java/lang/IllegalArgumentException" ∧ (mn < (-1440) ∨ 1440 < mn)) ∧ va_P (dC, dI) vwCl [(a0, .inr (2, [.ref aZ, .int (nI nz), .ref aO, .int orr, .int ol, .int mp, .ref aG, .int pl, .int fa, .int fb, .ref aP, .ref aW, .ref aK])), (aZ, .inl (cZ, 6, .inr (.inr (.inr (.inr fZ))))), (za, .inr (1, [.int zh, .int zl, .int zf, .int zp, .int zr, .int zm, .int zw, .ref la, .int zs, .ref wa])), (la, .inr (0, [.long ea, .long eb]))] t.heap) (va_A [(a0, .inr (2, [.ref aZ, .int (nI nz), .ref aO, .int orr, .int ol, .int mp, .ref aG, .int pl, .int fa, .int fb, .ref aP, .ref aW, .ref aK])), (aZ, .inl (cZ, 6, .inr (.inr (.inr (.inr fZ))))), (za, .inr (1, [.int zh, .int zl, .int zf, .int zp, .int zr, .int zm, .int zw, .ref la, .int zs, .ref wa])), (la, .inr (0, [.long ea, .long eb]))] sz)) 1 6 (va_A [(a0, .inr (2, [.ref aZ, .int (nI nz), .ref aO, .int orr, .int ol, .int mp, .ref aG, .int pl, .int fa, .int fb, .ref aP, .ref aW, .ref aK])), (aZ, .inl (cZ, 6, .inr (.inr (.inr (.inr fZ))))), (za, .inr (1, [.int zh, .int zl, .int zf, .int zp, .int zr, .int zm, .int zw, .ref la, .int zs, .ref wa])), (la, .inr (0, [.long ea, .long eb]))] sz) := by
  refine vx_ofW (cc := b_C_day) (maxL := 4) (ret := none) (by decide) rfl ?_
  intro p e s m args below meth c s₁ B hml hnx hv
  obtain ⟨rfl, hsz, hP, hK, hD0, hE⟩ := hv
  have hx := B.exec
  have hb := B.bytes
  have hr := B.returns
  have hG : ∀ w ∈ GG, w.before _ s = true := fun w h => atoms_spec (ws := w_C_day) B.pre w (List.mem_cons_of_mem _ h)
  have hown : s.vm.findClass R_C = some m.cls := findClass_of_methodNamed B.named
  have hlocks := B.notSynchronized
  subst hsz
  have hD := hD0.self (sz := s.heap.size)
  generalize hAe : (va_A [(a0, .inr (2, [.ref aZ, .int (nI nz), .ref aO, .int orr, .int ol, .int mp, .ref aG, .int pl, .int fa, .int fb, .ref aP, .ref aW, .ref aK])), (aZ, .inl (cZ, 6, .inr (.inr (.inr (.inr fZ))))), (za, .inr (1, [.int zh, .int zl, .int zf, .int zp, .int zr, .int zm, .int zw, .ref la, .int zs, .ref wa])), (la, .inr (0, [.long ea, .long eb]))] s.heap.size) = A at hD hE ⊢
  have hA : ∀ q : Nat, s.heap.size ≤ q → A q := fun q h => by rw [← hAe]; exact Or.inr h
  have hS : va_S A s.heap s.heap [] := va_S.rf
  obtain ⟨H, hH⟩ : ∃ z, z = s.heap := ⟨_, rfl⟩
  rw [← hH] at hP
  have hS : va_S A s.heap H [] := by rw [hH]; exact hS
  rw [← hH]
  have hl9 := lv_entry ([.ref a0, .int (nI k), .int mn]) (n := 4) (Nat.le_of_ble_eq_true rfl)
  rw [lg_entry_eq]
  generalize (lg_sl ([.ref a0, .int (nI k), .int mn]) ++ List.replicate (4 - (lg_sl ([.ref a0, .int (nI k), .int mn])).length) Slot.unset).toArray = ls at hl9 ⊢
  have hl9 : lv_has ls 4 [(0, .ref a0), (1, .int (nI k)), (2, .int mn)] := hl9
  refine lv_aload_n hx hb d_C_day_0 rfl (lv_at hl9 0 rfl) ?_
  refine lv_iload_n hx hb d_C_day_1 rfl (lv_at hl9 1 rfl) ?_
  have hPc := hP.sub (ws' := [(a0, .inr (2, [.ref aZ, .int (nI nz), .ref aO, .int orr, .int ol, .int mp, .ref aG, .int pl, .int fa, .int fb, .ref aP, .ref aW, .ref aK])), (aZ, .inl (cZ, 6, .inr (.inr (.inr (.inr fZ)))))]) [0, 1] rfl
  have hDc := hD.sub (ws' := [(a0, .inr (2, [.ref aZ, .int (nI nz), .ref aO, .int orr, .int ol, .int mp, .ref aG, .int pl, .int fa, .int fb, .ref aP, .ref aW, .ref aK])), (aZ, .inl (cZ, 6, .inr (.inr (.inr (.inr fZ)))))]) [0, 1] (by decide) rfl
  have hFc := va_A_nil hA hS.1
  refine va_callq (va_runV (C := R_C) (As := [.int (nI k)]) (rest := []) ⟨hx, hb, hml, hown, hG⟩ (c_knownZone l dC dI cI cJ cZ cB a0 aZ aO aG aP aW aK (nI nz) orr ol mp pl fa fb fZ nz k za H.size hk hn hz) (cwV 1 hG g_C_70 rfl rfl rfl (by decide +kernel) ⟨Nat.le_of_ble_eq_true rfl, Nat.le_of_ble_eq_true rfl⟩) ⟨PC.blind, va_recv hK hP (ci := 2) (q0 := 0) rfl rfl, PC.of hPc hK hDc hE hS hFc⟩ rfl rfl hl9.1 rfl (lv_room (Nat.le_of_ble_eq_true rfl)) d_C_day_2 ⟨by first | exact Nat.le_of_ble_eq_true rfl | omega, by first | exact Nat.le_of_ble_eq_true rfl | omega⟩) hS (fun q _ h => hFc q h) hFc (fun r2 u t H1 locs ht hvm hw hB hz1 hk1 hS => ?_)
  have hP := wp_kept hP hk1
  have hw : r2 = some za := hw
  subst hw
  refine W.eq (g2 := F0 m 5 ls [.ref za]) rfl ?_
  refine lv_astore_n (lv' := [(3, .ref za), (0, .ref a0), (1, .int (nI k)), (2, .int mn)]) hx hb d_C_day_5 rfl hl9 (by decide) rfl (fun ls hl9 => ?_)
  refine lv_iload_n hx hb d_C_day_6 rfl (lv_at hl9 3 rfl) ?_
  refine lv_sipush (v := (-1440)) hx hb d_C_day_7 (by decide) ?_
  refine lv_sipush (v := 1440) hx hb d_C_day_10 (by decide) ?_
  have hPc := hP.sub (ws' := []) [] rfl
  have hDc := hD.sub (ws' := []) [] (by decide) rfl
  have hFc := va_A_nil hA hS.1
  refine vx_callv (vx_runS (As := [.int mn, .int (-1440), .int 1440]) (rest := []) ⟨hx, hb, hml, hown, hG⟩ (c_checkBounds l dC dI cI cJ cZ cB hl mn (-1440) 1440 H1.size ) (cwS 3 hG g_C_56 rfl rfl rfl (by decide +kernel) ⟨Nat.le_of_ble_eq_true rfl, Nat.le_of_ble_eq_true rfl⟩) ⟨PC.blind, PC.of hPc hK hDc hE hS hFc⟩ rfl rfl hl9.1 rfl (lv_room (Nat.le_of_ble_eq_true rfl)) d_C_day_13 ⟨by first | exact Nat.le_of_ble_eq_true rfl | omega, by first | exact Nat.le_of_ble_eq_true rfl | omega⟩) hS (fun q _ h => hFc q h) hFc (fun q _ h => hFc q h) (fun E ce q9 u t H3 locs ht hvm hpx hB hz1 hk1 hS hce hcv hcl => ?_) (fun u t H3 locs ht hvm hw hB hz1 hk1 hS => ?_)
  · exact vx_out (fun x hx => (hnx x hx).elim) hlocks hce hcv hcl (fun t ht ha => ⟨(), trivial, ⟨hB, by have h9 := wp_kept hP hk1; rw [← ht] at h9; exact h9⟩, hS.F ht⟩) hS.2.2 (by first | exact Nat.le_of_ble_eq_true rfl | omega) (by first | exact Nat.le_of_ble_eq_true rfl | omega)
  have hw := hw
  have hP := wp_kept hP hk1
  have hq5 : ¬ (mn < (-1440) ∨ 1440 < mn) := hw
  have hw1 := hw
  refine lv_aload_n hx hb d_C_day_16 rfl (lv_at hl9 0 rfl) ?_
  refine va_getN (D := (dC, dI)) (ci := 1) (v := .ref la) (C := R_Z) (T := F_Z) (N := 10) hx hb hG i_Z hown hK hP 2 rfl rfl 7 (by decide) (hE.1.use k_194) (fun _ h9 => h9) rfl d_C_day_17 ?_
  refine lv_iload_n hx hb d_C_day_20 rfl (lv_at hl9 3 rfl) ?_
  refine lv_aload_n hx hb d_C_day_21 rfl (lv_at hl9 1 rfl) ?_
  refine va_get (D := (dC, dI)) (ci := 2) (v := .int fa) (C := R_C) (T := F_C) (N := 13) hx hb hG i_C hown hK hP 0 rfl rfl 8 (by decide) (hG _ k_30) (fun _ h9 => h9) rfl d_C_day_22 ?_
  refine lv_aload_n hx hb d_C_day_25 rfl (lv_at hl9 1 rfl) ?_
  refine va_get (D := (dC, dI)) (ci := 2) (v := .int fb) (C := R_C) (T := F_C) (N := 13) hx hb hG i_C hown hK hP 0 rfl rfl 9 (by decide) (hG _ k_31) (fun _ h9 => h9) rfl d_C_day_26 ?_
  have hPc := hP.sub (ws' := [(la, .inr (0, [.long ea, .long eb]))]) [3] rfl
  have hDc := hD.sub (ws' := [(la, .inr (0, [.long ea, .long eb]))]) [3] (by decide) rfl
  have hFc := va_free (wc := [(la, .inr (0, [.long ea, .long eb]))]) hD hS hA [3] rfl
  refine va_callv (va_runVN (C := R_E) (As := [.int mn, .int fa, .int fb]) (rest := []) ⟨hx, hb, hml, hown, hG⟩ (c_learn1 l dC dI cI cJ cZ cB la ea eb mn fa fb x1 y1 g1 a1 b1 H3.size hx1 hy1 hg1 hn1 ha1 hb1 hbig) ⟨va_cnB (host := "StartTimes") 3 hG g_C_114 rfl rfl rfl (hE.1.1 _ k_345 rfl) (hG _ k_9) (by decide +kernel) ⟨Nat.le_of_ble_eq_true rfl, Nat.le_of_ble_eq_true rfl⟩, hG _ k_347, hG _ ks_12⟩ ⟨PC.blind, va_recv hK hP (ci := 0) (q0 := 3) rfl rfl, PC.of hPc hK hDc hE hS hFc⟩ rfl rfl hl9.1 rfl (lv_room (Nat.le_of_ble_eq_true rfl)) d_C_day_29 ⟨by first | exact Nat.le_of_ble_eq_true rfl | omega, by first | exact Nat.le_of_ble_eq_true rfl | omega⟩) hS (fun q _ h => hFc q h) hFc (fun u t H6 locs ht hvm hw hB hz1 hk1 hS => ?_)
  rw [ht] at hB
  obtain ⟨hP, hD⟩ := jset (wc := [(la, .inr (0, [.long ea, .long eb]))]) (w1 := [(la, .inr (0, [.long a1, .long b1]))]) [3] rfl rfl hP hD hk1 hB
  have hP : va_P (dC, dI) vwCl [(a0, .inr (2, [.ref aZ, .int (nI nz), .ref aO, .int orr, .int ol, .int mp, .ref aG, .int pl, .int fa, .int fb, .ref aP, .ref aW, .ref aK])), (aZ, .inl (cZ, 6, .inr (.inr (.inr (.inr fZ))))), (za, .inr (1, [.int zh, .int zl, .int zf, .int zp, .int zr, .int zm, .int zw, .ref la, .int zs, .ref wa])), (la, .inr (0, [.long a1, .long b1]))] H6 := hP
  have hD : va_D A [(a0, .inr (2, [.ref aZ, .int (nI nz), .ref aO, .int orr, .int ol, .int mp, .ref aG, .int pl, .int fa, .int fb, .ref aP, .ref aW, .ref aK])), (aZ, .inl (cZ, 6, .inr (.inr (.inr (.inr fZ))))), (za, .inr (1, [.int zh, .int zl, .int zf, .int zp, .int zr, .int zm, .int zw, .ref la, .int zs, .ref wa])), (la, .inr (0, [.long a1, .long b1]))] := hD
  refine vx_ret ?_
  exact W.vret hx hb hr (fun t ht hW => ⟨⟨(), rfl, hw1, by have h9 := hP; rw [← ht] at h9; exact h9⟩, hS.F ht⟩) hS.2.2 d_C_day_32
set_option maxHeartbeats 4000000 in
set_option maxRecDepth 100000 in
theorem c_day2 (l : Launch) (dC : Nat → ClassId) (dI : Nat → Nat → Nat) (cI cJ cZ cB : ClassId) (hl : l.stackTraces = false) (a0 aZ aO aG aP aW aK : Nat) (zc orr ol mp pl fa fb : Int32) (fZ : Nat → Option Nat) (za la wa : Nat) (zh zl zf zp zr zm zw zs : Int32) (ea eb : Int64) (nz k : Nat) (mn : Int32) (x1 y1 g1 a1 b1 : Int64) (x2 g2 : Int64) (sz : Nat) (hk : k < nz) (hn : nz ≤ 6) (hz : fZ k = some za) (hx1 : ea * (fb - fa).toInt64 + mn.toInt64 * eb * fa.toInt64 = x1) (hy1 : eb * fb.toInt64 = y1) (hg1 : cdv y1 (labs x1) 100 = g1) (hn1 : ¬ g1 = 0) (ha1 : x1 / g1 = a1) (hb1 : y1 / g1 = b1) (hbig : ¬ b1 ≤ 1000000000) (hb0 : ¬ b1 = 0) (hx2 : mill a1 b1 = x2) (hg2 : cdv 1000000 (labs x2) 100 = g2) (hn2 : ¬ g2 = 0) : vx_Met l y_C_day w_C_day ({ frames := 7, cells := 1, slots := 6, locals := 104 }) (PC (dC, dI) (TY cI cJ cZ cB) [.ref a0, .int (nI k), .int mn] [(a0, .inr (2, [.ref aZ, .int (nI nz), .ref aO, .int orr, .int ol, .int mp, .ref aG, .int pl, .int fa, .int fb, .ref aP, .ref aW, .ref aK])), (aZ, .inl (cZ, 6, .inr (.inr (.inr (.inr fZ))))), (za, .inr (1, [.int zh, .int zl, .int zf, .int zp, .int zr, .int zm, .int zw, .ref la, .int zs, .ref wa])), (la, .inr (0, [.long ea, .long eb]))] sz (va_A [(a0, .inr (2, [.ref aZ, .int (nI nz), .ref aO, .int orr, .int ol, .int mp, .ref aG, .int pl, .int fa, .int fb, .ref aP, .ref aW, .ref aK])), (aZ, .inl (cZ, 6, .inr (.inr (.inr (.inr fZ))))), (za, .inr (1, [.int zh, .int zl, .int zf, .int zp, .int zr, .int zm, .int zw, .ref la, .int zs, .ref wa])), (la, .inr (0, [.long ea, .long eb]))] sz)) (va_Qv (fun (_ : Unit) => ¬ (mn < (-1440) ∨ 1440 < mn)) (fun (_ : Unit) (t : State) => va_P (dC, dI) vwCl [(a0, .inr (2, [.ref aZ, .int (nI nz), .ref aO, .int orr, .int ol, .int mp, .ref aG, .int pl, .int fa, .int fb, .ref aP, .ref aW, .ref aK])), (aZ, .inl (cZ, 6, .inr (.inr (.inr (.inr fZ))))), (za, .inr (1, [.int zh, .int zl, .int zf, .int zp, .int zr, .int zm, .int zw, .ref la, .int zs, .ref wa])), (la, .inr (0, [.long (x2 / g2), .long (1000000 / g2)]))] t.heap) (va_A [(a0, .inr (2, [.ref aZ, .int (nI nz), .ref aO, .int orr, .int ol, .int mp, .ref aG, .int pl, .int fa, .int fb, .ref aP, .ref aW, .ref aK])), (aZ, .inl (cZ, 6, .inr (.inr (.inr (.inr fZ))))), (za, .inr (1, [.int zh, .int zl, .int zf, .int zp, .int zr, .int zm, .int zw, .ref la, .int zs, .ref wa])), (la, .inr (0, [.long ea, .long eb]))] sz)) (vx_X (fun (_ : Unit) => True) (fun (E : String) (_ : Unit) (t : State) => (E = "java/lang/IllegalArgumentException" ∧ (mn < (-1440) ∨ 1440 < mn)) ∧ va_P (dC, dI) vwCl [(a0, .inr (2, [.ref aZ, .int (nI nz), .ref aO, .int orr, .int ol, .int mp, .ref aG, .int pl, .int fa, .int fb, .ref aP, .ref aW, .ref aK])), (aZ, .inl (cZ, 6, .inr (.inr (.inr (.inr fZ))))), (za, .inr (1, [.int zh, .int zl, .int zf, .int zp, .int zr, .int zm, .int zw, .ref la, .int zs, .ref wa])), (la, .inr (0, [.long ea, .long eb]))] t.heap) (va_A [(a0, .inr (2, [.ref aZ, .int (nI nz), .ref aO, .int orr, .int ol, .int mp, .ref aG, .int pl, .int fa, .int fb, .ref aP, .ref aW, .ref aK])), (aZ, .inl (cZ, 6, .inr (.inr (.inr (.inr fZ))))), (za, .inr (1, [.int zh, .int zl, .int zf, .int zp, .int zr, .int zm, .int zw, .ref la, .int zs, .ref wa])), (la, .inr (0, [.long ea, .long eb]))] sz)) 1 6 (va_A [(a0, .inr (2, [.ref aZ, .int (nI nz), .ref aO, .int orr, .int ol, .int mp, .ref aG, .int pl, .int fa, .int fb, .ref aP, .ref aW, .ref aK])), (aZ, .inl (cZ, 6, .inr (.inr (.inr (.inr fZ))))), (za, .inr (1, [.int zh, .int zl, .int zf, .int zp, .int zr, .int zm, .int zw, .ref la, .int zs, .ref wa])), (la, .inr (0, [.long ea, .long eb]))] sz) := by
  refine vx_ofW (cc := b_C_day) (maxL := 4) (ret := none) (by decide) rfl ?_
  intro p e s m args below meth c s₁ B hml hnx hv
  obtain ⟨rfl, hsz, hP, hK, hD0, hE⟩ := hv
  have hx := B.exec
  have hb := B.bytes
  have hr := B.returns
  have hG : ∀ w ∈ GG, w.before _ s = true := fun w h => atoms_spec (ws := w_C_day) B.pre w (List.mem_cons_of_mem _ h)
  have hown : s.vm.findClass R_C = some m.cls := findClass_of_methodNamed B.named
  have hlocks := B.notSynchronized
  subst hsz
  have hD := hD0.self (sz := s.heap.size)
  generalize hAe : (va_A [(a0, .inr (2, [.ref aZ, .int (nI nz), .ref aO, .int orr, .int ol, .int mp, .ref aG, .int pl, .int fa, .int fb, .ref aP, .ref aW, .ref aK])), (aZ, .inl (cZ, 6, .inr (.inr (.inr (.inr fZ))))), (za, .inr (1, [.int zh, .int zl, .int zf, .int zp, .int zr, .int zm, .int zw, .ref la, .int zs, .ref wa])), (la, .inr (0, [.long ea, .long eb]))] s.heap.size) = A at hD hE ⊢
  have hA : ∀ q : Nat, s.heap.size ≤ q → A q := fun q h => by rw [← hAe]; exact Or.inr h
  have hS : va_S A s.heap s.heap [] := va_S.rf
  obtain ⟨H, hH⟩ : ∃ z, z = s.heap := ⟨_, rfl⟩
  rw [← hH] at hP
  have hS : va_S A s.heap H [] := by rw [hH]; exact hS
  rw [← hH]
  have hl9 := lv_entry ([.ref a0, .int (nI k), .int mn]) (n := 4) (Nat.le_of_ble_eq_true rfl)
  rw [lg_entry_eq]
  generalize (lg_sl ([.ref a0, .int (nI k), .int mn]) ++ List.replicate (4 - (lg_sl ([.ref a0, .int (nI k), .int mn])).length) Slot.unset).toArray = ls at hl9 ⊢
  have hl9 : lv_has ls 4 [(0, .ref a0), (1, .int (nI k)), (2, .int mn)] := hl9
  refine lv_aload_n hx hb d_C_day_0 rfl (lv_at hl9 0 rfl) ?_
  refine lv_iload_n hx hb d_C_day_1 rfl (lv_at hl9 1 rfl) ?_
  have hPc := hP.sub (ws' := [(a0, .inr (2, [.ref aZ, .int (nI nz), .ref aO, .int orr, .int ol, .int mp, .ref aG, .int pl, .int fa, .int fb, .ref aP, .ref aW, .ref aK])), (aZ, .inl (cZ, 6, .inr (.inr (.inr (.inr fZ)))))]) [0, 1] rfl
  have hDc := hD.sub (ws' := [(a0, .inr (2, [.ref aZ, .int (nI nz), .ref aO, .int orr, .int ol, .int mp, .ref aG, .int pl, .int fa, .int fb, .ref aP, .ref aW, .ref aK])), (aZ, .inl (cZ, 6, .inr (.inr (.inr (.inr fZ)))))]) [0, 1] (by decide) rfl
  have hFc := va_A_nil hA hS.1
  refine va_callq (va_runV (C := R_C) (As := [.int (nI k)]) (rest := []) ⟨hx, hb, hml, hown, hG⟩ (c_knownZone l dC dI cI cJ cZ cB a0 aZ aO aG aP aW aK (nI nz) orr ol mp pl fa fb fZ nz k za H.size hk hn hz) (cwV 1 hG g_C_70 rfl rfl rfl (by decide +kernel) ⟨Nat.le_of_ble_eq_true rfl, Nat.le_of_ble_eq_true rfl⟩) ⟨PC.blind, va_recv hK hP (ci := 2) (q0 := 0) rfl rfl, PC.of hPc hK hDc hE hS hFc⟩ rfl rfl hl9.1 rfl (lv_room (Nat.le_of_ble_eq_true rfl)) d_C_day_2 ⟨by first | exact Nat.le_of_ble_eq_true rfl | omega, by first | exact Nat.le_of_ble_eq_true rfl | omega⟩) hS (fun q _ h => hFc q h) hFc (fun r2 u t H1 locs ht hvm hw hB hz1 hk1 hS => ?_)
  have hP := wp_kept hP hk1
  have hw : r2 = some za := hw
  subst hw
  refine W.eq (g2 := F0 m 5 ls [.ref za]) rfl ?_
  refine lv_astore_n (lv' := [(3, .ref za), (0, .ref a0), (1, .int (nI k)), (2, .int mn)]) hx hb d_C_day_5 rfl hl9 (by decide) rfl (fun ls hl9 => ?_)
  refine lv_iload_n hx hb d_C_day_6 rfl (lv_at hl9 3 rfl) ?_
  refine lv_sipush (v := (-1440)) hx hb d_C_day_7 (by decide) ?_
  refine lv_sipush (v := 1440) hx hb d_C_day_10 (by decide) ?_
  have hPc := hP.sub (ws' := []) [] rfl
  have hDc := hD.sub (ws' := []) [] (by decide) rfl
  have hFc := va_A_nil hA hS.1
  refine vx_callv (vx_runS (As := [.int mn, .int (-1440), .int 1440]) (rest := []) ⟨hx, hb, hml, hown, hG⟩ (c_checkBounds l dC dI cI cJ cZ cB hl mn (-1440) 1440 H1.size ) (cwS 3 hG g_C_56 rfl rfl rfl (by decide +kernel) ⟨Nat.le_of_ble_eq_true rfl, Nat.le_of_ble_eq_true rfl⟩) ⟨PC.blind, PC.of hPc hK hDc hE hS hFc⟩ rfl rfl hl9.1 rfl (lv_room (Nat.le_of_ble_eq_true rfl)) d_C_day_13 ⟨by first | exact Nat.le_of_ble_eq_true rfl | omega, by first | exact Nat.le_of_ble_eq_true rfl | omega⟩) hS (fun q _ h => hFc q h) hFc (fun q _ h => hFc q h) (fun E ce q9 u t H3 locs ht hvm hpx hB hz1 hk1 hS hce hcv hcl => ?_) (fun u t H3 locs ht hvm hw hB hz1 hk1 hS => ?_)
  · exact vx_out (fun x hx => (hnx x hx).elim) hlocks hce hcv hcl (fun t ht ha => ⟨(), trivial, ⟨hB, by have h9 := wp_kept hP hk1; rw [← ht] at h9; exact h9⟩, hS.F ht⟩) hS.2.2 (by first | exact Nat.le_of_ble_eq_true rfl | omega) (by first | exact Nat.le_of_ble_eq_true rfl | omega)
  have hw := hw
  have hP := wp_kept hP hk1
  have hq5 : ¬ (mn < (-1440) ∨ 1440 < mn) := hw
  have hw1 := hw
  refine lv_aload_n hx hb d_C_day_16 rfl (lv_at hl9 0 rfl) ?_
  refine va_getN (D := (dC, dI)) (ci := 1) (v := .ref la) (C := R_Z) (T := F_Z) (N := 10) hx hb hG i_Z hown hK hP 2 rfl rfl 7 (by decide) (hE.1.use k_194) (fun _ h9 => h9) rfl d_C_day_17 ?_
  refine lv_iload_n hx hb d_C_day_20 rfl (lv_at hl9 3 rfl) ?_
  refine lv_aload_n hx hb d_C_day_21 rfl (lv_at hl9 1 rfl) ?_
  refine va_get (D := (dC, dI)) (ci := 2) (v := .int fa) (C := R_C) (T := F_C) (N := 13) hx hb hG i_C hown hK hP 0 rfl rfl 8 (by decide) (hG _ k_30) (fun _ h9 => h9) rfl d_C_day_22 ?_
  refine lv_aload_n hx hb d_C_day_25 rfl (lv_at hl9 1 rfl) ?_
  refine va_get (D := (dC, dI)) (ci := 2) (v := .int fb) (C := R_C) (T := F_C) (N := 13) hx hb hG i_C hown hK hP 0 rfl rfl 9 (by decide) (hG _ k_31) (fun _ h9 => h9) rfl d_C_day_26 ?_
  have hPc := hP.sub (ws' := [(la, .inr (0, [.long ea, .long eb]))]) [3] rfl
  have hDc := hD.sub (ws' := [(la, .inr (0, [.long ea, .long eb]))]) [3] (by decide) rfl
  have hFc := va_free (wc := [(la, .inr (0, [.long ea, .long eb]))]) hD hS hA [3] rfl
  refine va_callv (va_runVN (C := R_E) (As := [.int mn, .int fa, .int fb]) (rest := []) ⟨hx, hb, hml, hown, hG⟩ (c_learn2 l dC dI cI cJ cZ cB la ea eb mn fa fb x1 y1 g1 a1 b1 x2 g2 H3.size hx1 hy1 hg1 hn1 ha1 hb1 hbig hb0 hx2 hg2 hn2) ⟨va_cnB (host := "StartTimes") 3 hG g_C_114 rfl rfl rfl (hE.1.1 _ k_345 rfl) (hG _ k_9) (by decide +kernel) ⟨Nat.le_of_ble_eq_true rfl, Nat.le_of_ble_eq_true rfl⟩, hG _ k_347, hG _ ks_12⟩ ⟨PC.blind, va_recv hK hP (ci := 0) (q0 := 3) rfl rfl, PC.of hPc hK hDc hE hS hFc⟩ rfl rfl hl9.1 rfl (lv_room (Nat.le_of_ble_eq_true rfl)) d_C_day_29 ⟨by first | exact Nat.le_of_ble_eq_true rfl | omega, by first | exact Nat.le_of_ble_eq_true rfl | omega⟩) hS (fun q _ h => hFc q h) hFc (fun u t H6 locs ht hvm hw hB hz1 hk1 hS => ?_)
  rw [ht] at hB
  obtain ⟨hP, hD⟩ := jset (wc := [(la, .inr (0, [.long ea, .long eb]))]) (w1 := [(la, .inr (0, [.long (x2 / g2), .long (1000000 / g2)]))]) [3] rfl rfl hP hD hk1 hB
  have hP : va_P (dC, dI) vwCl [(a0, .inr (2, [.ref aZ, .int (nI nz), .ref aO, .int orr, .int ol, .int mp, .ref aG, .int pl, .int fa, .int fb, .ref aP, .ref aW, .ref aK])), (aZ, .inl (cZ, 6, .inr (.inr (.inr (.inr fZ))))), (za, .inr (1, [.int zh, .int zl, .int zf, .int zp, .int zr, .int zm, .int zw, .ref la, .int zs, .ref wa])), (la, .inr (0, [.long (x2 / g2), .long (1000000 / g2)]))] H6 := hP
  have hD : va_D A [(a0, .inr (2, [.ref aZ, .int (nI nz), .ref aO, .int orr, .int ol, .int mp, .ref aG, .int pl, .int fa, .int fb, .ref aP, .ref aW, .ref aK])), (aZ, .inl (cZ, 6, .inr (.inr (.inr (.inr fZ))))), (za, .inr (1, [.int zh, .int zl, .int zf, .int zp, .int zr, .int zm, .int zw, .ref la, .int zs, .ref wa])), (la, .inr (0, [.long (x2 / g2), .long (1000000 / g2)]))] := hD
  refine vx_ret ?_
  exact W.vret hx hb hr (fun t ht hW => ⟨⟨(), rfl, hw1, by have h9 := hP; rw [← ht] at h9; exact h9⟩, hS.F ht⟩) hS.2.2 d_C_day_32
set_option maxHeartbeats 4000000 in
set_option maxRecDepth 100000 in
theorem c_setX (l : Launch) (dC : Nat → ClassId) (dI : Nat → Nat → Nat) (cI cJ cZ cB : ClassId) (hl : l.stackTraces = false) (a0 aZ aO aG aP aW aK : Nat) (zc orr ol mp pl fa fb : Int32) (fZ : Nat → Option Nat) (nz : Nat) (x : Int32) (y z : Int32) (sz : Nat) (hx0 : x < 0 ∨ nI nz ≤ x) : vx_Met l y_C_set w_C_set ({ frames := 7, cells := 1, slots := 6, locals := 103 }) (PC (dC, dI) (TY cI cJ cZ cB) [.ref a0, .int x, .int y, .int z] [(a0, .inr (2, [.ref aZ, .int (nI nz), .ref aO, .int orr, .int ol, .int mp, .ref aG, .int pl, .int fa, .int fb, .ref aP, .ref aW, .ref aK])), (aZ, .inl (cZ, 6, .inr (.inr (.inr (.inr fZ)))))] sz (va_A [] sz)) (va_Qi (fun (r : Int32) (_ : Unit) => False) (fun (_ : Unit) (_ : State) => True) (va_A [] sz)) (vx_X (fun (_ : Unit) => True) (fun (E : String) (_ : Unit) (_ : State) => E = "java/lang/IllegalArgumentException") (va_A [] sz)) 1 6 (va_A [] sz) := by
  refine vx_ofW (cc := b_C_set) (maxL := 6) (ret := (some .int)) (by decide) rfl ?_
  intro p e s m args below meth c s₁ B hml hnx hv
  obtain ⟨rfl, hsz, hP, hK, hD0, hE⟩ := hv
  have hx := B.exec
  have hb := B.bytes
  have hr := B.returns
  have hG : ∀ w ∈ GG, w.before _ s = true := fun w h => atoms_spec (ws := w_C_set) B.pre w (List.mem_cons_of_mem _ h)
  have hown : s.vm.findClass R_C = some m.cls := findClass_of_methodNamed B.named
  have hlocks := B.notSynchronized
  subst hsz
  generalize hAe : (va_A [] s.heap.size) = A at hE ⊢
  have hA : ∀ q : Nat, s.heap.size ≤ q → A q := fun q h => by rw [← hAe]; exact Or.inr h
  have hS : va_S A s.heap s.heap [] := va_S.rf
  have hD := hD0
  obtain ⟨H, hH⟩ : ∃ z, z = s.heap := ⟨_, rfl⟩
  rw [← hH] at hP
  have hS : va_S A s.heap H [] := by rw [hH]; exact hS
  rw [← hH]
  have hl9 := lv_entry ([.ref a0, .int x, .int y, .int z]) (n := 6) (Nat.le_of_ble_eq_true rfl)
  rw [lg_entry_eq]
  generalize (lg_sl ([.ref a0, .int x, .int y, .int z]) ++ List.replicate (6 - (lg_sl ([.ref a0, .int x, .int y, .int z])).length) Slot.unset).toArray = ls at hl9 ⊢
  have hl9 : lv_has ls 6 [(0, .ref a0), (1, .int x), (2, .int y), (3, .int z)] := hl9
  refine lv_aload_n hx hb d_C_set_0 rfl (lv_at hl9 0 rfl) ?_
  refine lv_iload_n hx hb d_C_set_1 rfl (lv_at hl9 1 rfl) ?_
  have hPc := hP.sub (ws' := [(a0, .inr (2, [.ref aZ, .int (nI nz), .ref aO, .int orr, .int ol, .int mp, .ref aG, .int pl, .int fa, .int fb, .ref aP, .ref aW, .ref aK])), (aZ, .inl (cZ, 6, .inr (.inr (.inr (.inr fZ)))))]) [0, 1] rfl
  have hDc := hD.sub (ws' := [(a0, .inr (2, [.ref aZ, .int (nI nz), .ref aO, .int orr, .int ol, .int mp, .ref aG, .int pl, .int fa, .int fb, .ref aP, .ref aW, .ref aK])), (aZ, .inl (cZ, 6, .inr (.inr (.inr (.inr fZ)))))]) [0, 1] (by decide) rfl
  have hFc := va_A_nil hA hS.1
  refine vx_callq (vx_runV (C := R_C) (As := [.int x]) (rest := []) ⟨hx, hb, hml, hown, hG⟩ (c_knownZoneX l dC dI cI cJ cZ cB hl a0 aZ aO aG aP aW aK (nI nz) orr ol mp pl fa fb fZ nz x H.size hx0) (cwV 1 hG g_C_70 rfl rfl rfl (by decide +kernel) ⟨Nat.le_of_ble_eq_true rfl, Nat.le_of_ble_eq_true rfl⟩) ⟨PC.blind, va_recv hK hP (ci := 2) (q0 := 0) rfl rfl, PC.of hPc hK hDc hE hS hFc⟩ rfl rfl hl9.1 rfl (lv_room (Nat.le_of_ble_eq_true rfl)) d_C_set_2 ⟨by first | exact Nat.le_of_ble_eq_true rfl | omega, by first | exact Nat.le_of_ble_eq_true rfl | omega⟩) hS (fun q _ h => hFc q h) hFc (fun q _ h => hFc q h) (fun E ce q9 u t H1 locs ht hvm hpx hB hz1 hk1 hS hce hcv hcl => ?_) (fun r2 u t H1 locs ht hvm hw hB hz1 hk1 hS => ?_)
  · exact vx_out (fun x hx => (hnx x hx).elim) hlocks hce hcv hcl (fun t ht ha => ⟨(), trivial, hB, hS.F ht⟩) hS.2.2 (by first | exact Nat.le_of_ble_eq_true rfl | omega) (by first | exact Nat.le_of_ble_eq_true rfl | omega)
  have hw := hw
  exact hw.elim
set_option maxHeartbeats 4000000 in
set_option maxRecDepth 100000 in
theorem c_wantX (l : Launch) (dC : Nat → ClassId) (dI : Nat → Nat → Nat) (cI cJ cZ cB : ClassId) (hl : l.stackTraces = false) (a0 aZ aO aG aP aW aK : Nat) (zc orr ol mp pl fa fb : Int32) (fZ : Nat → Option Nat) (nz : Nat) (x : Int32) (y z : Int32) (sz : Nat) (hx0 : x < 0 ∨ nI nz ≤ x) : vx_Met l y_C_want w_C_want ({ frames := 7, cells := 1, slots := 6, locals := 103 }) (PC (dC, dI) (TY cI cJ cZ cB) [.ref a0, .int x, .int y, .int z] [(a0, .inr (2, [.ref aZ, .int (nI nz), .ref aO, .int orr, .int ol, .int mp, .ref aG, .int pl, .int fa, .int fb, .ref aP, .ref aW, .ref aK])), (aZ, .inl (cZ, 6, .inr (.inr (.inr (.inr fZ)))))] sz (va_A [] sz)) (va_Qv (fun (_ : Unit) => False) (fun (_ : Unit) (_ : State) => True) (va_A [] sz)) (vx_X (fun (_ : Unit) => True) (fun (E : String) (_ : Unit) (_ : State) => E = "java/lang/IllegalArgumentException") (va_A [] sz)) 1 6 (va_A [] sz) := by
  refine vx_ofW (cc := b_C_want) (maxL := 5) (ret := none) (by decide) rfl ?_
  intro p e s m args below meth c s₁ B hml hnx hv
  obtain ⟨rfl, hsz, hP, hK, hD0, hE⟩ := hv
  have hx := B.exec
  have hb := B.bytes
  have hr := B.returns
  have hG : ∀ w ∈ GG, w.before _ s = true := fun w h => atoms_spec (ws := w_C_want) B.pre w (List.mem_cons_of_mem _ h)
  have hown : s.vm.findClass R_C = some m.cls := findClass_of_methodNamed B.named
  have hlocks := B.notSynchronized
  subst hsz
  generalize hAe : (va_A [] s.heap.size) = A at hE ⊢
  have hA : ∀ q : Nat, s.heap.size ≤ q → A q := fun q h => by rw [← hAe]; exact Or.inr h
  have hS : va_S A s.heap s.heap [] := va_S.rf
  have hD := hD0
  obtain ⟨H, hH⟩ : ∃ z, z = s.heap := ⟨_, rfl⟩
  rw [← hH] at hP
  have hS : va_S A s.heap H [] := by rw [hH]; exact hS
  rw [← hH]
  have hl9 := lv_entry ([.ref a0, .int x, .int y, .int z]) (n := 5) (Nat.le_of_ble_eq_true rfl)
  rw [lg_entry_eq]
  generalize (lg_sl ([.ref a0, .int x, .int y, .int z]) ++ List.replicate (5 - (lg_sl ([.ref a0, .int x, .int y, .int z])).length) Slot.unset).toArray = ls at hl9 ⊢
  have hl9 : lv_has ls 5 [(0, .ref a0), (1, .int x), (2, .int y), (3, .int z)] := hl9
  refine lv_aload_n hx hb d_C_want_0 rfl (lv_at hl9 0 rfl) ?_
  refine lv_iload_n hx hb d_C_want_1 rfl (lv_at hl9 1 rfl) ?_
  have hPc := hP.sub (ws' := [(a0, .inr (2, [.ref aZ, .int (nI nz), .ref aO, .int orr, .int ol, .int mp, .ref aG, .int pl, .int fa, .int fb, .ref aP, .ref aW, .ref aK])), (aZ, .inl (cZ, 6, .inr (.inr (.inr (.inr fZ)))))]) [0, 1] rfl
  have hDc := hD.sub (ws' := [(a0, .inr (2, [.ref aZ, .int (nI nz), .ref aO, .int orr, .int ol, .int mp, .ref aG, .int pl, .int fa, .int fb, .ref aP, .ref aW, .ref aK])), (aZ, .inl (cZ, 6, .inr (.inr (.inr (.inr fZ)))))]) [0, 1] (by decide) rfl
  have hFc := va_A_nil hA hS.1
  refine vx_callq (vx_runV (C := R_C) (As := [.int x]) (rest := []) ⟨hx, hb, hml, hown, hG⟩ (c_knownZoneX l dC dI cI cJ cZ cB hl a0 aZ aO aG aP aW aK (nI nz) orr ol mp pl fa fb fZ nz x H.size hx0) (cwV 1 hG g_C_70 rfl rfl rfl (by decide +kernel) ⟨Nat.le_of_ble_eq_true rfl, Nat.le_of_ble_eq_true rfl⟩) ⟨PC.blind, va_recv hK hP (ci := 2) (q0 := 0) rfl rfl, PC.of hPc hK hDc hE hS hFc⟩ rfl rfl hl9.1 rfl (lv_room (Nat.le_of_ble_eq_true rfl)) d_C_want_2 ⟨by first | exact Nat.le_of_ble_eq_true rfl | omega, by first | exact Nat.le_of_ble_eq_true rfl | omega⟩) hS (fun q _ h => hFc q h) hFc (fun q _ h => hFc q h) (fun E ce q9 u t H1 locs ht hvm hpx hB hz1 hk1 hS hce hcv hcl => ?_) (fun r2 u t H1 locs ht hvm hw hB hz1 hk1 hS => ?_)
  · exact vx_out (fun x hx => (hnx x hx).elim) hlocks hce hcv hcl (fun t ht ha => ⟨(), trivial, hB, hS.F ht⟩) hS.2.2 (by first | exact Nat.le_of_ble_eq_true rfl | omega) (by first | exact Nat.le_of_ble_eq_true rfl | omega)
  have hw := hw
  exact hw.elim
set_option maxHeartbeats 4000000 in
set_option maxRecDepth 100000 in
theorem c_dayX (l : Launch) (dC : Nat → ClassId) (dI : Nat → Nat → Nat) (cI cJ cZ cB : ClassId) (hl : l.stackTraces = false) (a0 aZ aO aG aP aW aK : Nat) (zc orr ol mp pl fa fb : Int32) (fZ : Nat → Option Nat) (nz : Nat) (x : Int32) (y : Int32) (sz : Nat) (hx0 : x < 0 ∨ nI nz ≤ x) : vx_Met l y_C_day w_C_day ({ frames := 7, cells := 1, slots := 6, locals := 103 }) (PC (dC, dI) (TY cI cJ cZ cB) [.ref a0, .int x, .int y] [(a0, .inr (2, [.ref aZ, .int (nI nz), .ref aO, .int orr, .int ol, .int mp, .ref aG, .int pl, .int fa, .int fb, .ref aP, .ref aW, .ref aK])), (aZ, .inl (cZ, 6, .inr (.inr (.inr (.inr fZ)))))] sz (va_A [] sz)) (va_Qv (fun (_ : Unit) => False) (fun (_ : Unit) (_ : State) => True) (va_A [] sz)) (vx_X (fun (_ : Unit) => True) (fun (E : String) (_ : Unit) (_ : State) => E = "java/lang/IllegalArgumentException") (va_A [] sz)) 1 6 (va_A [] sz) := by
  refine vx_ofW (cc := b_C_day) (maxL := 4) (ret := none) (by decide) rfl ?_
  intro p e s m args below meth c s₁ B hml hnx hv
  obtain ⟨rfl, hsz, hP, hK, hD0, hE⟩ := hv
  have hx := B.exec
  have hb := B.bytes
  have hr := B.returns
  have hG : ∀ w ∈ GG, w.before _ s = true := fun w h => atoms_spec (ws := w_C_day) B.pre w (List.mem_cons_of_mem _ h)
  have hown : s.vm.findClass R_C = some m.cls := findClass_of_methodNamed B.named
  have hlocks := B.notSynchronized
  subst hsz
  generalize hAe : (va_A [] s.heap.size) = A at hE ⊢
  have hA : ∀ q : Nat, s.heap.size ≤ q → A q := fun q h => by rw [← hAe]; exact Or.inr h
  have hS : va_S A s.heap s.heap [] := va_S.rf
  have hD := hD0
  obtain ⟨H, hH⟩ : ∃ z, z = s.heap := ⟨_, rfl⟩
  rw [← hH] at hP
  have hS : va_S A s.heap H [] := by rw [hH]; exact hS
  rw [← hH]
  have hl9 := lv_entry ([.ref a0, .int x, .int y]) (n := 4) (Nat.le_of_ble_eq_true rfl)
  rw [lg_entry_eq]
  generalize (lg_sl ([.ref a0, .int x, .int y]) ++ List.replicate (4 - (lg_sl ([.ref a0, .int x, .int y])).length) Slot.unset).toArray = ls at hl9 ⊢
  have hl9 : lv_has ls 4 [(0, .ref a0), (1, .int x), (2, .int y)] := hl9
  refine lv_aload_n hx hb d_C_day_0 rfl (lv_at hl9 0 rfl) ?_
  refine lv_iload_n hx hb d_C_day_1 rfl (lv_at hl9 1 rfl) ?_
  have hPc := hP.sub (ws' := [(a0, .inr (2, [.ref aZ, .int (nI nz), .ref aO, .int orr, .int ol, .int mp, .ref aG, .int pl, .int fa, .int fb, .ref aP, .ref aW, .ref aK])), (aZ, .inl (cZ, 6, .inr (.inr (.inr (.inr fZ)))))]) [0, 1] rfl
  have hDc := hD.sub (ws' := [(a0, .inr (2, [.ref aZ, .int (nI nz), .ref aO, .int orr, .int ol, .int mp, .ref aG, .int pl, .int fa, .int fb, .ref aP, .ref aW, .ref aK])), (aZ, .inl (cZ, 6, .inr (.inr (.inr (.inr fZ)))))]) [0, 1] (by decide) rfl
  have hFc := va_A_nil hA hS.1
  refine vx_callq (vx_runV (C := R_C) (As := [.int x]) (rest := []) ⟨hx, hb, hml, hown, hG⟩ (c_knownZoneX l dC dI cI cJ cZ cB hl a0 aZ aO aG aP aW aK (nI nz) orr ol mp pl fa fb fZ nz x H.size hx0) (cwV 1 hG g_C_70 rfl rfl rfl (by decide +kernel) ⟨Nat.le_of_ble_eq_true rfl, Nat.le_of_ble_eq_true rfl⟩) ⟨PC.blind, va_recv hK hP (ci := 2) (q0 := 0) rfl rfl, PC.of hPc hK hDc hE hS hFc⟩ rfl rfl hl9.1 rfl (lv_room (Nat.le_of_ble_eq_true rfl)) d_C_day_2 ⟨by first | exact Nat.le_of_ble_eq_true rfl | omega, by first | exact Nat.le_of_ble_eq_true rfl | omega⟩) hS (fun q _ h => hFc q h) hFc (fun q _ h => hFc q h) (fun E ce q9 u t H1 locs ht hvm hpx hB hz1 hk1 hS hce hcv hcl => ?_) (fun r2 u t H1 locs ht hvm hw hB hz1 hk1 hS => ?_)
  · exact vx_out (fun x hx => (hnx x hx).elim) hlocks hce hcv hcl (fun t ht ha => ⟨(), trivial, hB, hS.F ht⟩) hS.2.2 (by first | exact Nat.le_of_ble_eq_true rfl | omega) (by first | exact Nat.le_of_ble_eq_true rfl | omega)
  have hw := hw
  exact hw.elim
set_option maxHeartbeats 4000000 in
set_option maxRecDepth 100000 in
theorem c_lessonX (l : Launch) (dC : Nat → ClassId) (dI : Nat → Nat → Nat) (cI cJ cZ cB : ClassId) (hl : l.stackTraces = false) (a0 aZ aO aG aP aW aK : Nat) (zc orr ol mp pl fa fb : Int32) (fZ : Nat → Option Nat) (nz : Nat) (x : Int32) (y : Int32) (sz : Nat) (hx0 : x < 0 ∨ nI nz ≤ x) : vx_Met l y_C_lesson w_C_lesson ({ frames := 7, cells := 1, slots := 6, locals := 103 }) (PC (dC, dI) (TY cI cJ cZ cB) [.ref a0, .int x, .int y] [(a0, .inr (2, [.ref aZ, .int (nI nz), .ref aO, .int orr, .int ol, .int mp, .ref aG, .int pl, .int fa, .int fb, .ref aP, .ref aW, .ref aK])), (aZ, .inl (cZ, 6, .inr (.inr (.inr (.inr fZ)))))] sz (va_A [] sz)) (va_Ql (fun (r : Int64) (_ : Unit) => False) (fun (_ : Unit) (_ : State) => True) (va_A [] sz)) (vx_X (fun (_ : Unit) => True) (fun (E : String) (_ : Unit) (_ : State) => E = "java/lang/IllegalArgumentException") (va_A [] sz)) 1 6 (va_A [] sz) := by
  refine vx_ofW (cc := b_C_lesson) (maxL := 4) (ret := (some .long)) (by decide) rfl ?_
  intro p e s m args below meth c s₁ B hml hnx hv
  obtain ⟨rfl, hsz, hP, hK, hD0, hE⟩ := hv
  have hx := B.exec
  have hb := B.bytes
  have hr := B.returns
  have hG : ∀ w ∈ GG, w.before _ s = true := fun w h => atoms_spec (ws := w_C_lesson) B.pre w (List.mem_cons_of_mem _ h)
  have hown : s.vm.findClass R_C = some m.cls := findClass_of_methodNamed B.named
  have hlocks := B.notSynchronized
  subst hsz
  generalize hAe : (va_A [] s.heap.size) = A at hE ⊢
  have hA : ∀ q : Nat, s.heap.size ≤ q → A q := fun q h => by rw [← hAe]; exact Or.inr h
  have hS : va_S A s.heap s.heap [] := va_S.rf
  have hD := hD0
  obtain ⟨H, hH⟩ : ∃ z, z = s.heap := ⟨_, rfl⟩
  rw [← hH] at hP
  have hS : va_S A s.heap H [] := by rw [hH]; exact hS
  rw [← hH]
  have hl9 := lv_entry ([.ref a0, .int x, .int y]) (n := 4) (Nat.le_of_ble_eq_true rfl)
  rw [lg_entry_eq]
  generalize (lg_sl ([.ref a0, .int x, .int y]) ++ List.replicate (4 - (lg_sl ([.ref a0, .int x, .int y])).length) Slot.unset).toArray = ls at hl9 ⊢
  have hl9 : lv_has ls 4 [(0, .ref a0), (1, .int x), (2, .int y)] := hl9
  refine lv_aload_n hx hb d_C_lesson_0 rfl (lv_at hl9 0 rfl) ?_
  refine lv_iload_n hx hb d_C_lesson_1 rfl (lv_at hl9 1 rfl) ?_
  have hPc := hP.sub (ws' := [(a0, .inr (2, [.ref aZ, .int (nI nz), .ref aO, .int orr, .int ol, .int mp, .ref aG, .int pl, .int fa, .int fb, .ref aP, .ref aW, .ref aK])), (aZ, .inl (cZ, 6, .inr (.inr (.inr (.inr fZ)))))]) [0, 1] rfl
  have hDc := hD.sub (ws' := [(a0, .inr (2, [.ref aZ, .int (nI nz), .ref aO, .int orr, .int ol, .int mp, .ref aG, .int pl, .int fa, .int fb, .ref aP, .ref aW, .ref aK])), (aZ, .inl (cZ, 6, .inr (.inr (.inr (.inr fZ)))))]) [0, 1] (by decide) rfl
  have hFc := va_A_nil hA hS.1
  refine vx_callq (vx_runV (C := R_C) (As := [.int x]) (rest := []) ⟨hx, hb, hml, hown, hG⟩ (c_knownZoneX l dC dI cI cJ cZ cB hl a0 aZ aO aG aP aW aK (nI nz) orr ol mp pl fa fb fZ nz x H.size hx0) (cwV 1 hG g_C_70 rfl rfl rfl (by decide +kernel) ⟨Nat.le_of_ble_eq_true rfl, Nat.le_of_ble_eq_true rfl⟩) ⟨PC.blind, va_recv hK hP (ci := 2) (q0 := 0) rfl rfl, PC.of hPc hK hDc hE hS hFc⟩ rfl rfl hl9.1 rfl (lv_room (Nat.le_of_ble_eq_true rfl)) d_C_lesson_2 ⟨by first | exact Nat.le_of_ble_eq_true rfl | omega, by first | exact Nat.le_of_ble_eq_true rfl | omega⟩) hS (fun q _ h => hFc q h) hFc (fun q _ h => hFc q h) (fun E ce q9 u t H1 locs ht hvm hpx hB hz1 hk1 hS hce hcv hcl => ?_) (fun r2 u t H1 locs ht hvm hw hB hz1 hk1 hS => ?_)
  · exact vx_out (fun x hx => (hnx x hx).elim) hlocks hce hcv hcl (fun t ht ha => ⟨(), trivial, hB, hS.F ht⟩) hS.2.2 (by first | exact Nat.le_of_ble_eq_true rfl | omega) (by first | exact Nat.le_of_ble_eq_true rfl | omega)
  have hw := hw
  exact hw.elim
set_option maxHeartbeats 4000000 in
set_option maxRecDepth 100000 in
theorem c_cheapestX (l : Launch) (dC : Nat → ClassId) (dI : Nat → Nat → Nat) (cI cJ cZ cB : ClassId) (hl : l.stackTraces = false) (a0 aZ aO aG aP aW aK : Nat) (zc orr ol mp pl fa fb : Int32) (fZ : Nat → Option Nat) (nz : Nat) (x : Int32) (y z : Int32) (sz : Nat) (hx0 : x < 0 ∨ nI nz ≤ x) : vx_Met l y_C_cheapest w_C_cheapest ({ frames := 7, cells := 1, slots := 6, locals := 103 }) (PC (dC, dI) (TY cI cJ cZ cB) [.ref a0, .int x, .int y, .int z] [(a0, .inr (2, [.ref aZ, .int (nI nz), .ref aO, .int orr, .int ol, .int mp, .ref aG, .int pl, .int fa, .int fb, .ref aP, .ref aW, .ref aK])), (aZ, .inl (cZ, 6, .inr (.inr (.inr (.inr fZ)))))] sz (va_A [] sz)) (va_Qi (fun (r : Int32) (_ : Unit) => False) (fun (_ : Unit) (_ : State) => True) (va_A [] sz)) (vx_X (fun (_ : Unit) => True) (fun (E : String) (_ : Unit) (_ : State) => E = "java/lang/IllegalArgumentException") (va_A [] sz)) 1 6 (va_A [] sz) := by
  refine vx_ofW (cc := b_C_cheapest) (maxL := 8) (ret := (some .int)) (by decide) rfl ?_
  intro p e s m args below meth c s₁ B hml hnx hv
  obtain ⟨rfl, hsz, hP, hK, hD0, hE⟩ := hv
  have hx := B.exec
  have hb := B.bytes
  have hr := B.returns
  have hG : ∀ w ∈ GG, w.before _ s = true := fun w h => atoms_spec (ws := w_C_cheapest) B.pre w (List.mem_cons_of_mem _ h)
  have hown : s.vm.findClass R_C = some m.cls := findClass_of_methodNamed B.named
  have hlocks := B.notSynchronized
  subst hsz
  generalize hAe : (va_A [] s.heap.size) = A at hE ⊢
  have hA : ∀ q : Nat, s.heap.size ≤ q → A q := fun q h => by rw [← hAe]; exact Or.inr h
  have hS : va_S A s.heap s.heap [] := va_S.rf
  have hD := hD0
  obtain ⟨H, hH⟩ : ∃ z, z = s.heap := ⟨_, rfl⟩
  rw [← hH] at hP
  have hS : va_S A s.heap H [] := by rw [hH]; exact hS
  rw [← hH]
  have hl9 := lv_entry ([.ref a0, .int x, .int y, .int z]) (n := 8) (Nat.le_of_ble_eq_true rfl)
  rw [lg_entry_eq]
  generalize (lg_sl ([.ref a0, .int x, .int y, .int z]) ++ List.replicate (8 - (lg_sl ([.ref a0, .int x, .int y, .int z])).length) Slot.unset).toArray = ls at hl9 ⊢
  have hl9 : lv_has ls 8 [(0, .ref a0), (1, .int x), (2, .int y), (3, .int z)] := hl9
  refine lv_aload_n hx hb d_C_cheapest_0 rfl (lv_at hl9 0 rfl) ?_
  refine lv_iload_n hx hb d_C_cheapest_1 rfl (lv_at hl9 1 rfl) ?_
  have hPc := hP.sub (ws' := [(a0, .inr (2, [.ref aZ, .int (nI nz), .ref aO, .int orr, .int ol, .int mp, .ref aG, .int pl, .int fa, .int fb, .ref aP, .ref aW, .ref aK])), (aZ, .inl (cZ, 6, .inr (.inr (.inr (.inr fZ)))))]) [0, 1] rfl
  have hDc := hD.sub (ws' := [(a0, .inr (2, [.ref aZ, .int (nI nz), .ref aO, .int orr, .int ol, .int mp, .ref aG, .int pl, .int fa, .int fb, .ref aP, .ref aW, .ref aK])), (aZ, .inl (cZ, 6, .inr (.inr (.inr (.inr fZ)))))]) [0, 1] (by decide) rfl
  have hFc := va_A_nil hA hS.1
  refine vx_callq (vx_runV (C := R_C) (As := [.int x]) (rest := []) ⟨hx, hb, hml, hown, hG⟩ (c_knownZoneX l dC dI cI cJ cZ cB hl a0 aZ aO aG aP aW aK (nI nz) orr ol mp pl fa fb fZ nz x H.size hx0) (cwV 1 hG g_C_70 rfl rfl rfl (by decide +kernel) ⟨Nat.le_of_ble_eq_true rfl, Nat.le_of_ble_eq_true rfl⟩) ⟨PC.blind, va_recv hK hP (ci := 2) (q0 := 0) rfl rfl, PC.of hPc hK hDc hE hS hFc⟩ rfl rfl hl9.1 rfl (lv_room (Nat.le_of_ble_eq_true rfl)) d_C_cheapest_2 ⟨by first | exact Nat.le_of_ble_eq_true rfl | omega, by first | exact Nat.le_of_ble_eq_true rfl | omega⟩) hS (fun q _ h => hFc q h) hFc (fun q _ h => hFc q h) (fun E ce q9 u t H1 locs ht hvm hpx hB hz1 hk1 hS hce hcv hcl => ?_) (fun r2 u t H1 locs ht hvm hw hB hz1 hk1 hS => ?_)
  · exact vx_out (fun x hx => (hnx x hx).elim) hlocks hce hcv hcl (fun t ht ha => ⟨(), trivial, hB, hS.F ht⟩) hS.2.2 (by first | exact Nat.le_of_ble_eq_true rfl | omega) (by first | exact Nat.le_of_ble_eq_true rfl | omega)
  have hw := hw
  exact hw.elim
set_option maxHeartbeats 4000000 in
set_option maxRecDepth 100000 in
theorem c_costsX (l : Launch) (dC : Nat → ClassId) (dI : Nat → Nat → Nat) (cI cJ cZ cB : ClassId) (hl : l.stackTraces = false) (a0 aZ aO aG aP aW aK : Nat) (zc orr ol mp pl fa fb : Int32) (fZ : Nat → Option Nat) (nz : Nat) (x : Int32) (y z t9 : Int32) (sz : Nat) (hx0 : x < 0 ∨ nI nz ≤ x) : vx_Met l y_C_costs w_C_costs ({ frames := 7, cells := 1, slots := 6, locals := 103 }) (PC (dC, dI) (TY cI cJ cZ cB) [.ref a0, .int x, .int y, .int z, .int t9] [(a0, .inr (2, [.ref aZ, .int (nI nz), .ref aO, .int orr, .int ol, .int mp, .ref aG, .int pl, .int fa, .int fb, .ref aP, .ref aW, .ref aK])), (aZ, .inl (cZ, 6, .inr (.inr (.inr (.inr fZ)))))] sz (va_A [] sz)) (va_Ql (fun (r : Int64) (_ : Unit) => False) (fun (_ : Unit) (_ : State) => True) (va_A [] sz)) (vx_X (fun (_ : Unit) => True) (fun (E : String) (_ : Unit) (_ : State) => E = "java/lang/IllegalArgumentException") (va_A [] sz)) 1 6 (va_A [] sz) := by
  refine vx_ofW (cc := b_C_costs) (maxL := 13) (ret := (some .long)) (by decide) rfl ?_
  intro p e s m args below meth c s₁ B hml hnx hv
  obtain ⟨rfl, hsz, hP, hK, hD0, hE⟩ := hv
  have hx := B.exec
  have hb := B.bytes
  have hr := B.returns
  have hG : ∀ w ∈ GG, w.before _ s = true := fun w h => atoms_spec (ws := w_C_costs) B.pre w (List.mem_cons_of_mem _ h)
  have hown : s.vm.findClass R_C = some m.cls := findClass_of_methodNamed B.named
  have hlocks := B.notSynchronized
  subst hsz
  generalize hAe : (va_A [] s.heap.size) = A at hE ⊢
  have hA : ∀ q : Nat, s.heap.size ≤ q → A q := fun q h => by rw [← hAe]; exact Or.inr h
  have hS : va_S A s.heap s.heap [] := va_S.rf
  have hD := hD0
  obtain ⟨H, hH⟩ : ∃ z, z = s.heap := ⟨_, rfl⟩
  rw [← hH] at hP
  have hS : va_S A s.heap H [] := by rw [hH]; exact hS
  rw [← hH]
  have hl9 := lv_entry ([.ref a0, .int x, .int y, .int z, .int t9]) (n := 13) (Nat.le_of_ble_eq_true rfl)
  rw [lg_entry_eq]
  generalize (lg_sl ([.ref a0, .int x, .int y, .int z, .int t9]) ++ List.replicate (13 - (lg_sl ([.ref a0, .int x, .int y, .int z, .int t9])).length) Slot.unset).toArray = ls at hl9 ⊢
  have hl9 : lv_has ls 13 [(0, .ref a0), (1, .int x), (2, .int y), (3, .int z), (4, .int t9)] := hl9
  refine lv_aload_n hx hb d_C_costs_0 rfl (lv_at hl9 0 rfl) ?_
  refine lv_iload_n hx hb d_C_costs_1 rfl (lv_at hl9 1 rfl) ?_
  have hPc := hP.sub (ws' := [(a0, .inr (2, [.ref aZ, .int (nI nz), .ref aO, .int orr, .int ol, .int mp, .ref aG, .int pl, .int fa, .int fb, .ref aP, .ref aW, .ref aK])), (aZ, .inl (cZ, 6, .inr (.inr (.inr (.inr fZ)))))]) [0, 1] rfl
  have hDc := hD.sub (ws' := [(a0, .inr (2, [.ref aZ, .int (nI nz), .ref aO, .int orr, .int ol, .int mp, .ref aG, .int pl, .int fa, .int fb, .ref aP, .ref aW, .ref aK])), (aZ, .inl (cZ, 6, .inr (.inr (.inr (.inr fZ)))))]) [0, 1] (by decide) rfl
  have hFc := va_A_nil hA hS.1
  refine vx_callq (vx_runV (C := R_C) (As := [.int x]) (rest := []) ⟨hx, hb, hml, hown, hG⟩ (c_knownZoneX l dC dI cI cJ cZ cB hl a0 aZ aO aG aP aW aK (nI nz) orr ol mp pl fa fb fZ nz x H.size hx0) (cwV 1 hG g_C_70 rfl rfl rfl (by decide +kernel) ⟨Nat.le_of_ble_eq_true rfl, Nat.le_of_ble_eq_true rfl⟩) ⟨PC.blind, va_recv hK hP (ci := 2) (q0 := 0) rfl rfl, PC.of hPc hK hDc hE hS hFc⟩ rfl rfl hl9.1 rfl (lv_room (Nat.le_of_ble_eq_true rfl)) d_C_costs_2 ⟨by first | exact Nat.le_of_ble_eq_true rfl | omega, by first | exact Nat.le_of_ble_eq_true rfl | omega⟩) hS (fun q _ h => hFc q h) hFc (fun q _ h => hFc q h) (fun E ce q9 u t H1 locs ht hvm hpx hB hz1 hk1 hS hce hcv hcl => ?_) (fun r2 u t H1 locs ht hvm hw hB hz1 hk1 hS => ?_)
  · exact vx_out (fun x hx => (hnx x hx).elim) hlocks hce hcv hcl (fun t ht ha => ⟨(), trivial, hB, hS.F ht⟩) hS.2.2 (by first | exact Nat.le_of_ble_eq_true rfl | omega) (by first | exact Nat.le_of_ble_eq_true rfl | omega)
  have hw := hw
  exact hw.elim
set_option maxHeartbeats 4000000 in
set_option maxRecDepth 100000 in
theorem c_plannedZoneX (l : Launch) (dC : Nat → ClassId) (dI : Nat → Nat → Nat) (cI cJ cZ cB : ClassId) (hl : l.stackTraces = false) (a0 aZ aO aG aP aW aK : Nat) (zc orr ol mp pl fa fb : Int32) (fZ : Nat → Option Nat) (nz : Nat) (x : Int32)  (sz : Nat) (hx0 : x < 0 ∨ nI nz ≤ x) : vx_Met l y_C_plannedZone w_C_plannedZone ({ frames := 7, cells := 1, slots := 6, locals := 103 }) (PC (dC, dI) (TY cI cJ cZ cB) [.ref a0, .int x] [(a0, .inr (2, [.ref aZ, .int (nI nz), .ref aO, .int orr, .int ol, .int mp, .ref aG, .int pl, .int fa, .int fb, .ref aP, .ref aW, .ref aK])), (aZ, .inl (cZ, 6, .inr (.inr (.inr (.inr fZ)))))] sz (va_A [] sz)) (va_Qq (fun (r : Option Nat) (_ : Unit) => False) (fun (_ : Unit) (_ : State) => True) (va_A [] sz)) (vx_X (fun (_ : Unit) => True) (fun (E : String) (_ : Unit) (_ : State) => E = "java/lang/IllegalArgumentException") (va_A [] sz)) 1 6 (va_A [] sz) := by
  refine vx_ofW (cc := b_C_plannedZone) (maxL := 3) (ret := (some (.object "StartTimes$Zone"))) (by decide) rfl ?_
  intro p e s m args below meth c s₁ B hml hnx hv
  obtain ⟨rfl, hsz, hP, hK, hD0, hE⟩ := hv
  have hx := B.exec
  have hb := B.bytes
  have hr := B.returns
  have hG : ∀ w ∈ GG, w.before _ s = true := fun w h => atoms_spec (ws := w_C_plannedZone) B.pre w (List.mem_cons_of_mem _ h)
  have hown : s.vm.findClass R_C = some m.cls := findClass_of_methodNamed B.named
  have hlocks := B.notSynchronized
  subst hsz
  generalize hAe : (va_A [] s.heap.size) = A at hE ⊢
  have hA : ∀ q : Nat, s.heap.size ≤ q → A q := fun q h => by rw [← hAe]; exact Or.inr h
  have hS : va_S A s.heap s.heap [] := va_S.rf
  have hD := hD0
  obtain ⟨H, hH⟩ : ∃ z, z = s.heap := ⟨_, rfl⟩
  rw [← hH] at hP
  have hS : va_S A s.heap H [] := by rw [hH]; exact hS
  rw [← hH]
  have hl9 := lv_entry ([.ref a0, .int x]) (n := 3) (Nat.le_of_ble_eq_true rfl)
  rw [lg_entry_eq]
  generalize (lg_sl ([.ref a0, .int x]) ++ List.replicate (3 - (lg_sl ([.ref a0, .int x])).length) Slot.unset).toArray = ls at hl9 ⊢
  have hl9 : lv_has ls 3 [(0, .ref a0), (1, .int x)] := hl9
  refine lv_aload_n hx hb d_C_plannedZone_0 rfl (lv_at hl9 0 rfl) ?_
  refine lv_iload_n hx hb d_C_plannedZone_1 rfl (lv_at hl9 1 rfl) ?_
  have hPc := hP.sub (ws' := [(a0, .inr (2, [.ref aZ, .int (nI nz), .ref aO, .int orr, .int ol, .int mp, .ref aG, .int pl, .int fa, .int fb, .ref aP, .ref aW, .ref aK])), (aZ, .inl (cZ, 6, .inr (.inr (.inr (.inr fZ)))))]) [0, 1] rfl
  have hDc := hD.sub (ws' := [(a0, .inr (2, [.ref aZ, .int (nI nz), .ref aO, .int orr, .int ol, .int mp, .ref aG, .int pl, .int fa, .int fb, .ref aP, .ref aW, .ref aK])), (aZ, .inl (cZ, 6, .inr (.inr (.inr (.inr fZ)))))]) [0, 1] (by decide) rfl
  have hFc := va_A_nil hA hS.1
  refine vx_callq (vx_runV (C := R_C) (As := [.int x]) (rest := []) ⟨hx, hb, hml, hown, hG⟩ (c_knownZoneX l dC dI cI cJ cZ cB hl a0 aZ aO aG aP aW aK (nI nz) orr ol mp pl fa fb fZ nz x H.size hx0) (cwV 1 hG g_C_70 rfl rfl rfl (by decide +kernel) ⟨Nat.le_of_ble_eq_true rfl, Nat.le_of_ble_eq_true rfl⟩) ⟨PC.blind, va_recv hK hP (ci := 2) (q0 := 0) rfl rfl, PC.of hPc hK hDc hE hS hFc⟩ rfl rfl hl9.1 rfl (lv_room (Nat.le_of_ble_eq_true rfl)) d_C_plannedZone_2 ⟨by first | exact Nat.le_of_ble_eq_true rfl | omega, by first | exact Nat.le_of_ble_eq_true rfl | omega⟩) hS (fun q _ h => hFc q h) hFc (fun q _ h => hFc q h) (fun E ce q9 u t H1 locs ht hvm hpx hB hz1 hk1 hS hce hcv hcl => ?_) (fun r2 u t H1 locs ht hvm hw hB hz1 hk1 hS => ?_)
  · exact vx_out (fun x hx => (hnx x hx).elim) hlocks hce hcv hcl (fun t ht ha => ⟨(), trivial, hB, hS.F ht⟩) hS.2.2 (by first | exact Nat.le_of_ble_eq_true rfl | omega) (by first | exact Nat.le_of_ble_eq_true rfl | omega)
  have hw := hw
  exact hw.elim
set_option maxHeartbeats 4000000 in
set_option maxRecDepth 100000 in
theorem c_startX (l : Launch) (dC : Nat → ClassId) (dI : Nat → Nat → Nat) (cI cJ cZ cB : ClassId) (hl : l.stackTraces = false) (a0 aZ aO aG aP aW aK : Nat) (zc orr ol mp pl fa fb : Int32) (fZ : Nat → Option Nat) (nz : Nat) (x : Int32)  (sz : Nat) (hx0 : x < 0 ∨ nI nz ≤ x) : vx_Met l y_C_start w_C_start ({ frames := 8, cells := 1, slots := 6, locals := 125 }) (PC (dC, dI) (TY cI cJ cZ cB) [.ref a0, .int x] [(a0, .inr (2, [.ref aZ, .int (nI nz), .ref aO, .int orr, .int ol, .int mp, .ref aG, .int pl, .int fa, .int fb, .ref aP, .ref aW, .ref aK])), (aZ, .inl (cZ, 6, .inr (.inr (.inr (.inr fZ)))))] sz (va_A [] sz)) (va_Qi (fun (r : Int32) (_ : Unit) => False) (fun (_ : Unit) (_ : State) => True) (va_A [] sz)) (vx_X (fun (_ : Unit) => True) (fun (E : String) (_ : Unit) (_ : State) => E = "java/lang/IllegalArgumentException") (va_A [] sz)) 1 6 (va_A [] sz) := by
  refine vx_ofW (cc := b_C_start) (maxL := 2) (ret := (some .int)) (by decide) rfl ?_
  intro p e s m args below meth c s₁ B hml hnx hv
  obtain ⟨rfl, hsz, hP, hK, hD0, hE⟩ := hv
  have hx := B.exec
  have hb := B.bytes
  have hr := B.returns
  have hG : ∀ w ∈ GG, w.before _ s = true := fun w h => atoms_spec (ws := w_C_start) B.pre w (List.mem_cons_of_mem _ h)
  have hown : s.vm.findClass R_C = some m.cls := findClass_of_methodNamed B.named
  have hlocks := B.notSynchronized
  subst hsz
  generalize hAe : (va_A [] s.heap.size) = A at hE ⊢
  have hA : ∀ q : Nat, s.heap.size ≤ q → A q := fun q h => by rw [← hAe]; exact Or.inr h
  have hS : va_S A s.heap s.heap [] := va_S.rf
  have hD := hD0
  obtain ⟨H, hH⟩ : ∃ z, z = s.heap := ⟨_, rfl⟩
  rw [← hH] at hP
  have hS : va_S A s.heap H [] := by rw [hH]; exact hS
  rw [← hH]
  have hl9 := lv_entry ([.ref a0, .int x]) (n := 2) (Nat.le_of_ble_eq_true rfl)
  rw [lg_entry_eq]
  generalize (lg_sl ([.ref a0, .int x]) ++ List.replicate (2 - (lg_sl ([.ref a0, .int x])).length) Slot.unset).toArray = ls at hl9 ⊢
  have hl9 : lv_has ls 2 [(0, .ref a0), (1, .int x)] := hl9
  refine lv_aload_n hx hb d_C_start_0 rfl (lv_at hl9 0 rfl) ?_
  refine lv_iload_n hx hb d_C_start_1 rfl (lv_at hl9 1 rfl) ?_
  have hPc := hP.sub (ws' := [(a0, .inr (2, [.ref aZ, .int (nI nz), .ref aO, .int orr, .int ol, .int mp, .ref aG, .int pl, .int fa, .int fb, .ref aP, .ref aW, .ref aK])), (aZ, .inl (cZ, 6, .inr (.inr (.inr (.inr fZ)))))]) [0, 1] rfl
  have hDc := hD.sub (ws' := [(a0, .inr (2, [.ref aZ, .int (nI nz), .ref aO, .int orr, .int ol, .int mp, .ref aG, .int pl, .int fa, .int fb, .ref aP, .ref aW, .ref aK])), (aZ, .inl (cZ, 6, .inr (.inr (.inr (.inr fZ)))))]) [0, 1] (by decide) rfl
  have hFc := va_A_nil hA hS.1
  refine vx_callq (vx_runV (C := R_C) (As := [.int x]) (rest := []) ⟨hx, hb, hml, hown, hG⟩ (c_plannedZoneX l dC dI cI cJ cZ cB hl a0 aZ aO aG aP aW aK (nI nz) orr ol mp pl fa fb fZ nz x H.size hx0) (cwV 1 hG g_C_94 rfl rfl rfl (by decide +kernel) ⟨Nat.le_of_ble_eq_true rfl, Nat.le_of_ble_eq_true rfl⟩) ⟨PC.blind, va_recv hK hP (ci := 2) (q0 := 0) rfl rfl, PC.of hPc hK hDc hE hS hFc⟩ rfl rfl hl9.1 rfl (lv_room (Nat.le_of_ble_eq_true rfl)) d_C_start_2 ⟨by first | exact Nat.le_of_ble_eq_true rfl | omega, by first | exact Nat.le_of_ble_eq_true rfl | omega⟩) hS (fun q _ h => hFc q h) hFc (fun q _ h => hFc q h) (fun E ce q9 u t H1 locs ht hvm hpx hB hz1 hk1 hS hce hcv hcl => ?_) (fun r2 u t H1 locs ht hvm hw hB hz1 hk1 hS => ?_)
  · exact vx_out (fun x hx => (hnx x hx).elim) hlocks hce hcv hcl (fun t ht ha => ⟨(), trivial, hB, hS.F ht⟩) hS.2.2 (by first | exact Nat.le_of_ble_eq_true rfl | omega) (by first | exact Nat.le_of_ble_eq_true rfl | omega)
  have hw := hw
  exact hw.elim
set_option maxHeartbeats 4000000 in
set_option maxRecDepth 100000 in
theorem c_lateX (l : Launch) (dC : Nat → ClassId) (dI : Nat → Nat → Nat) (cI cJ cZ cB : ClassId) (hl : l.stackTraces = false) (a0 aZ aO aG aP aW aK : Nat) (zc orr ol mp pl fa fb : Int32) (fZ : Nat → Option Nat) (nz : Nat) (x : Int32)  (sz : Nat) (hx0 : x < 0 ∨ nI nz ≤ x) : vx_Met l y_C_late w_C_late ({ frames := 8, cells := 1, slots := 6, locals := 125 }) (PC (dC, dI) (TY cI cJ cZ cB) [.ref a0, .int x] [(a0, .inr (2, [.ref aZ, .int (nI nz), .ref aO, .int orr, .int ol, .int mp, .ref aG, .int pl, .int fa, .int fb, .ref aP, .ref aW, .ref aK])), (aZ, .inl (cZ, 6, .inr (.inr (.inr (.inr fZ)))))] sz (va_A [] sz)) (va_Qi (fun (r : Int32) (_ : Unit) => False) (fun (_ : Unit) (_ : State) => True) (va_A [] sz)) (vx_X (fun (_ : Unit) => True) (fun (E : String) (_ : Unit) (_ : State) => E = "java/lang/IllegalArgumentException") (va_A [] sz)) 1 6 (va_A [] sz) := by
  refine vx_ofW (cc := b_C_late) (maxL := 3) (ret := (some .boolean)) (by decide) rfl ?_
  intro p e s m args below meth c s₁ B hml hnx hv
  obtain ⟨rfl, hsz, hP, hK, hD0, hE⟩ := hv
  have hx := B.exec
  have hb := B.bytes
  have hr := B.returns
  have hG : ∀ w ∈ GG, w.before _ s = true := fun w h => atoms_spec (ws := w_C_late) B.pre w (List.mem_cons_of_mem _ h)
  have hown : s.vm.findClass R_C = some m.cls := findClass_of_methodNamed B.named
  have hlocks := B.notSynchronized
  subst hsz
  generalize hAe : (va_A [] s.heap.size) = A at hE ⊢
  have hA : ∀ q : Nat, s.heap.size ≤ q → A q := fun q h => by rw [← hAe]; exact Or.inr h
  have hS : va_S A s.heap s.heap [] := va_S.rf
  have hD := hD0
  obtain ⟨H, hH⟩ : ∃ z, z = s.heap := ⟨_, rfl⟩
  rw [← hH] at hP
  have hS : va_S A s.heap H [] := by rw [hH]; exact hS
  rw [← hH]
  have hl9 := lv_entry ([.ref a0, .int x]) (n := 3) (Nat.le_of_ble_eq_true rfl)
  rw [lg_entry_eq]
  generalize (lg_sl ([.ref a0, .int x]) ++ List.replicate (3 - (lg_sl ([.ref a0, .int x])).length) Slot.unset).toArray = ls at hl9 ⊢
  have hl9 : lv_has ls 3 [(0, .ref a0), (1, .int x)] := hl9
  refine lv_aload_n hx hb d_C_late_0 rfl (lv_at hl9 0 rfl) ?_
  refine lv_iload_n hx hb d_C_late_1 rfl (lv_at hl9 1 rfl) ?_
  have hPc := hP.sub (ws' := [(a0, .inr (2, [.ref aZ, .int (nI nz), .ref aO, .int orr, .int ol, .int mp, .ref aG, .int pl, .int fa, .int fb, .ref aP, .ref aW, .ref aK])), (aZ, .inl (cZ, 6, .inr (.inr (.inr (.inr fZ)))))]) [0, 1] rfl
  have hDc := hD.sub (ws' := [(a0, .inr (2, [.ref aZ, .int (nI nz), .ref aO, .int orr, .int ol, .int mp, .ref aG, .int pl, .int fa, .int fb, .ref aP, .ref aW, .ref aK])), (aZ, .inl (cZ, 6, .inr (.inr (.inr (.inr fZ)))))]) [0, 1] (by decide) rfl
  have hFc := va_A_nil hA hS.1
  refine vx_callq (vx_runV (C := R_C) (As := [.int x]) (rest := []) ⟨hx, hb, hml, hown, hG⟩ (c_plannedZoneX l dC dI cI cJ cZ cB hl a0 aZ aO aG aP aW aK (nI nz) orr ol mp pl fa fb fZ nz x H.size hx0) (cwV 1 hG g_C_94 rfl rfl rfl (by decide +kernel) ⟨Nat.le_of_ble_eq_true rfl, Nat.le_of_ble_eq_true rfl⟩) ⟨PC.blind, va_recv hK hP (ci := 2) (q0 := 0) rfl rfl, PC.of hPc hK hDc hE hS hFc⟩ rfl rfl hl9.1 rfl (lv_room (Nat.le_of_ble_eq_true rfl)) d_C_late_2 ⟨by first | exact Nat.le_of_ble_eq_true rfl | omega, by first | exact Nat.le_of_ble_eq_true rfl | omega⟩) hS (fun q _ h => hFc q h) hFc (fun q _ h => hFc q h) (fun E ce q9 u t H1 locs ht hvm hpx hB hz1 hk1 hS hce hcv hcl => ?_) (fun r2 u t H1 locs ht hvm hw hB hz1 hk1 hS => ?_)
  · exact vx_out (fun x hx => (hnx x hx).elim) hlocks hce hcv hcl (fun t ht ha => ⟨(), trivial, hB, hS.F ht⟩) hS.2.2 (by first | exact Nat.le_of_ble_eq_true rfl | omega) (by first | exact Nat.le_of_ble_eq_true rfl | omega)
  have hw := hw
  exact hw.elim
set_option maxHeartbeats 4000000 in
set_option maxRecDepth 100000 in
theorem c_coldX (l : Launch) (dC : Nat → ClassId) (dI : Nat → Nat → Nat) (cI cJ cZ cB : ClassId) (hl : l.stackTraces = false) (a0 aZ aO aG aP aW aK : Nat) (zc orr ol mp pl fa fb : Int32) (fZ : Nat → Option Nat) (nz : Nat) (x : Int32)  (sz : Nat) (hx0 : x < 0 ∨ nI nz ≤ x) : vx_Met l y_C_cold w_C_cold ({ frames := 8, cells := 1, slots := 6, locals := 125 }) (PC (dC, dI) (TY cI cJ cZ cB) [.ref a0, .int x] [(a0, .inr (2, [.ref aZ, .int (nI nz), .ref aO, .int orr, .int ol, .int mp, .ref aG, .int pl, .int fa, .int fb, .ref aP, .ref aW, .ref aK])), (aZ, .inl (cZ, 6, .inr (.inr (.inr (.inr fZ)))))] sz (va_A [] sz)) (va_Qi (fun (r : Int32) (_ : Unit) => False) (fun (_ : Unit) (_ : State) => True) (va_A [] sz)) (vx_X (fun (_ : Unit) => True) (fun (E : String) (_ : Unit) (_ : State) => E = "java/lang/IllegalArgumentException") (va_A [] sz)) 1 6 (va_A [] sz) := by
  refine vx_ofW (cc := b_C_cold) (maxL := 5) (ret := (some .int)) (by decide) rfl ?_
  intro p e s m args below meth c s₁ B hml hnx hv
  obtain ⟨rfl, hsz, hP, hK, hD0, hE⟩ := hv
  have hx := B.exec
  have hb := B.bytes
  have hr := B.returns
  have hG : ∀ w ∈ GG, w.before _ s = true := fun w h => atoms_spec (ws := w_C_cold) B.pre w (List.mem_cons_of_mem _ h)
  have hown : s.vm.findClass R_C = some m.cls := findClass_of_methodNamed B.named
  have hlocks := B.notSynchronized
  subst hsz
  generalize hAe : (va_A [] s.heap.size) = A at hE ⊢
  have hA : ∀ q : Nat, s.heap.size ≤ q → A q := fun q h => by rw [← hAe]; exact Or.inr h
  have hS : va_S A s.heap s.heap [] := va_S.rf
  have hD := hD0
  obtain ⟨H, hH⟩ : ∃ z, z = s.heap := ⟨_, rfl⟩
  rw [← hH] at hP
  have hS : va_S A s.heap H [] := by rw [hH]; exact hS
  rw [← hH]
  have hl9 := lv_entry ([.ref a0, .int x]) (n := 5) (Nat.le_of_ble_eq_true rfl)
  rw [lg_entry_eq]
  generalize (lg_sl ([.ref a0, .int x]) ++ List.replicate (5 - (lg_sl ([.ref a0, .int x])).length) Slot.unset).toArray = ls at hl9 ⊢
  have hl9 : lv_has ls 5 [(0, .ref a0), (1, .int x)] := hl9
  refine lv_aload_n hx hb d_C_cold_0 rfl (lv_at hl9 0 rfl) ?_
  refine lv_iload_n hx hb d_C_cold_1 rfl (lv_at hl9 1 rfl) ?_
  have hPc := hP.sub (ws' := [(a0, .inr (2, [.ref aZ, .int (nI nz), .ref aO, .int orr, .int ol, .int mp, .ref aG, .int pl, .int fa, .int fb, .ref aP, .ref aW, .ref aK])), (aZ, .inl (cZ, 6, .inr (.inr (.inr (.inr fZ)))))]) [0, 1] rfl
  have hDc := hD.sub (ws' := [(a0, .inr (2, [.ref aZ, .int (nI nz), .ref aO, .int orr, .int ol, .int mp, .ref aG, .int pl, .int fa, .int fb, .ref aP, .ref aW, .ref aK])), (aZ, .inl (cZ, 6, .inr (.inr (.inr (.inr fZ)))))]) [0, 1] (by decide) rfl
  have hFc := va_A_nil hA hS.1
  refine vx_callq (vx_runV (C := R_C) (As := [.int x]) (rest := []) ⟨hx, hb, hml, hown, hG⟩ (c_plannedZoneX l dC dI cI cJ cZ cB hl a0 aZ aO aG aP aW aK (nI nz) orr ol mp pl fa fb fZ nz x H.size hx0) (cwV 1 hG g_C_94 rfl rfl rfl (by decide +kernel) ⟨Nat.le_of_ble_eq_true rfl, Nat.le_of_ble_eq_true rfl⟩) ⟨PC.blind, va_recv hK hP (ci := 2) (q0 := 0) rfl rfl, PC.of hPc hK hDc hE hS hFc⟩ rfl rfl hl9.1 rfl (lv_room (Nat.le_of_ble_eq_true rfl)) d_C_cold_2 ⟨by first | exact Nat.le_of_ble_eq_true rfl | omega, by first | exact Nat.le_of_ble_eq_true rfl | omega⟩) hS (fun q _ h => hFc q h) hFc (fun q _ h => hFc q h) (fun E ce q9 u t H1 locs ht hvm hpx hB hz1 hk1 hS hce hcv hcl => ?_) (fun r2 u t H1 locs ht hvm hw hB hz1 hk1 hS => ?_)
  · exact vx_out (fun x hx => (hnx x hx).elim) hlocks hce hcv hcl (fun t ht ha => ⟨(), trivial, hB, hS.F ht⟩) hS.2.2 (by first | exact Nat.le_of_ble_eq_true rfl | omega) (by first | exact Nat.le_of_ble_eq_true rfl | omega)
  have hw := hw
  exact hw.elim
set_option maxHeartbeats 4000000 in
set_option maxRecDepth 100000 in
theorem c_taughtX (l : Launch) (dC : Nat → ClassId) (dI : Nat → Nat → Nat) (cI cJ cZ cB : ClassId) (hl : l.stackTraces = false) (a0 aZ aO aG aP aW aK : Nat) (zc orr ol mp pl fa fb : Int32) (fZ : Nat → Option Nat) (nz : Nat) (x : Int32)  (sz : Nat) (hx0 : x < 0 ∨ nI nz ≤ x) : vx_Met l y_C_taught w_C_taught ({ frames := 8, cells := 1, slots := 6, locals := 125 }) (PC (dC, dI) (TY cI cJ cZ cB) [.ref a0, .int x] [(a0, .inr (2, [.ref aZ, .int (nI nz), .ref aO, .int orr, .int ol, .int mp, .ref aG, .int pl, .int fa, .int fb, .ref aP, .ref aW, .ref aK])), (aZ, .inl (cZ, 6, .inr (.inr (.inr (.inr fZ)))))] sz (va_A [] sz)) (va_Qi (fun (r : Int32) (_ : Unit) => False) (fun (_ : Unit) (_ : State) => True) (va_A [] sz)) (vx_X (fun (_ : Unit) => True) (fun (E : String) (_ : Unit) (_ : State) => E = "java/lang/IllegalArgumentException") (va_A [] sz)) 1 6 (va_A [] sz) := by
  refine vx_ofW (cc := b_C_taught) (maxL := 4) (ret := (some .int)) (by decide) rfl ?_
  intro p e s m args below meth c s₁ B hml hnx hv
  obtain ⟨rfl, hsz, hP, hK, hD0, hE⟩ := hv
  have hx := B.exec
  have hb := B.bytes
  have hr := B.returns
  have hG : ∀ w ∈ GG, w.before _ s = true := fun w h => atoms_spec (ws := w_C_taught) B.pre w (List.mem_cons_of_mem _ h)
  have hown : s.vm.findClass R_C = some m.cls := findClass_of_methodNamed B.named
  have hlocks := B.notSynchronized
  subst hsz
  generalize hAe : (va_A [] s.heap.size) = A at hE ⊢
  have hA : ∀ q : Nat, s.heap.size ≤ q → A q := fun q h => by rw [← hAe]; exact Or.inr h
  have hS : va_S A s.heap s.heap [] := va_S.rf
  have hD := hD0
  obtain ⟨H, hH⟩ : ∃ z, z = s.heap := ⟨_, rfl⟩
  rw [← hH] at hP
  have hS : va_S A s.heap H [] := by rw [hH]; exact hS
  rw [← hH]
  have hl9 := lv_entry ([.ref a0, .int x]) (n := 4) (Nat.le_of_ble_eq_true rfl)
  rw [lg_entry_eq]
  generalize (lg_sl ([.ref a0, .int x]) ++ List.replicate (4 - (lg_sl ([.ref a0, .int x])).length) Slot.unset).toArray = ls at hl9 ⊢
  have hl9 : lv_has ls 4 [(0, .ref a0), (1, .int x)] := hl9
  refine lv_aload_n hx hb d_C_taught_0 rfl (lv_at hl9 0 rfl) ?_
  refine lv_iload_n hx hb d_C_taught_1 rfl (lv_at hl9 1 rfl) ?_
  have hPc := hP.sub (ws' := [(a0, .inr (2, [.ref aZ, .int (nI nz), .ref aO, .int orr, .int ol, .int mp, .ref aG, .int pl, .int fa, .int fb, .ref aP, .ref aW, .ref aK])), (aZ, .inl (cZ, 6, .inr (.inr (.inr (.inr fZ)))))]) [0, 1] rfl
  have hDc := hD.sub (ws' := [(a0, .inr (2, [.ref aZ, .int (nI nz), .ref aO, .int orr, .int ol, .int mp, .ref aG, .int pl, .int fa, .int fb, .ref aP, .ref aW, .ref aK])), (aZ, .inl (cZ, 6, .inr (.inr (.inr (.inr fZ)))))]) [0, 1] (by decide) rfl
  have hFc := va_A_nil hA hS.1
  refine vx_callq (vx_runV (C := R_C) (As := [.int x]) (rest := []) ⟨hx, hb, hml, hown, hG⟩ (c_plannedZoneX l dC dI cI cJ cZ cB hl a0 aZ aO aG aP aW aK (nI nz) orr ol mp pl fa fb fZ nz x H.size hx0) (cwV 1 hG g_C_94 rfl rfl rfl (by decide +kernel) ⟨Nat.le_of_ble_eq_true rfl, Nat.le_of_ble_eq_true rfl⟩) ⟨PC.blind, va_recv hK hP (ci := 2) (q0 := 0) rfl rfl, PC.of hPc hK hDc hE hS hFc⟩ rfl rfl hl9.1 rfl (lv_room (Nat.le_of_ble_eq_true rfl)) d_C_taught_2 ⟨by first | exact Nat.le_of_ble_eq_true rfl | omega, by first | exact Nat.le_of_ble_eq_true rfl | omega⟩) hS (fun q _ h => hFc q h) hFc (fun q _ h => hFc q h) (fun E ce q9 u t H1 locs ht hvm hpx hB hz1 hk1 hS hce hcv hcl => ?_) (fun r2 u t H1 locs ht hvm hw hB hz1 hk1 hS => ?_)
  · exact vx_out (fun x hx => (hnx x hx).elim) hlocks hce hcv hcl (fun t ht ha => ⟨(), trivial, hB, hS.F ht⟩) hS.2.2 (by first | exact Nat.le_of_ble_eq_true rfl | omega) (by first | exact Nat.le_of_ble_eq_true rfl | omega)
  have hw := hw
  exact hw.elim
set_option maxHeartbeats 4000000 in
set_option maxRecDepth 100000 in
theorem c_atX (l : Launch) (dC : Nat → ClassId) (dI : Nat → Nat → Nat) (cI cJ cZ cB : ClassId) (hl : l.stackTraces = false) (a0 aZ aO aG aP aW aK : Nat) (zc orr ol mp pl fa fb : Int32) (fZ : Nat → Option Nat) (nz : Nat) (x : Int32) (y : Int32) (sz : Nat) (hx0 : x < 0 ∨ nI nz ≤ x) : vx_Met l y_C_at w_C_at ({ frames := 8, cells := 2, slots := 12, locals := 125 }) (PC (dC, dI) (TY cI cJ cZ cB) [.ref a0, .int x, .int y] [(a0, .inr (2, [.ref aZ, .int (nI nz), .ref aO, .int orr, .int ol, .int mp, .ref aG, .int pl, .int fa, .int fb, .ref aP, .ref aW, .ref aK])), (aZ, .inl (cZ, 6, .inr (.inr (.inr (.inr fZ)))))] sz (va_A [] sz)) (va_Qi (fun (r : Int32) (_ : Unit) => False) (fun (_ : Unit) (_ : State) => True) (va_A [] sz)) (vx_X (fun (_ : Unit) => True) (fun (E : String) (_ : Unit) (_ : State) => E = "java/lang/IllegalArgumentException") (va_A [] sz)) 2 12 (va_A [] sz) := by
  refine vx_ofW (cc := b_C_at) (maxL := 3) (ret := (some .int)) (by decide) rfl ?_
  intro p e s m args below meth c s₁ B hml hnx hv
  obtain ⟨rfl, hsz, hP, hK, hD0, hE⟩ := hv
  have hx := B.exec
  have hb := B.bytes
  have hr := B.returns
  have hG : ∀ w ∈ GG, w.before _ s = true := fun w h => atoms_spec (ws := w_C_at) B.pre w (List.mem_cons_of_mem _ h)
  have hown : s.vm.findClass R_C = some m.cls := findClass_of_methodNamed B.named
  have hlocks := B.notSynchronized
  subst hsz
  generalize hAe : (va_A [] s.heap.size) = A at hE ⊢
  have hA : ∀ q : Nat, s.heap.size ≤ q → A q := fun q h => by rw [← hAe]; exact Or.inr h
  have hS : va_S A s.heap s.heap [] := va_S.rf
  have hD := hD0
  obtain ⟨H, hH⟩ : ∃ z, z = s.heap := ⟨_, rfl⟩
  rw [← hH] at hP
  have hS : va_S A s.heap H [] := by rw [hH]; exact hS
  rw [← hH]
  have hl9 := lv_entry ([.ref a0, .int x, .int y]) (n := 3) (Nat.le_of_ble_eq_true rfl)
  rw [lg_entry_eq]
  generalize (lg_sl ([.ref a0, .int x, .int y]) ++ List.replicate (3 - (lg_sl ([.ref a0, .int x, .int y])).length) Slot.unset).toArray = ls at hl9 ⊢
  have hl9 : lv_has ls 3 [(0, .ref a0), (1, .int x), (2, .int y)] := hl9
  refine lv_iload_n hx hb d_C_at_0 rfl (lv_at hl9 2 rfl) ?_
  refine lv_iconst (v := 0) hx hb d_C_at_1 (by decide) ?_
  refine lv_sipush (v := 1440) hx hb d_C_at_2 (by decide) ?_
  have hPc := hP.sub (ws' := []) [] rfl
  have hDc := hD.sub (ws' := []) [] (by decide) rfl
  have hFc := va_A_nil hA hS.1
  refine vx_callv (vx_runS (As := [.int y, .int 0, .int 1440]) (rest := []) ⟨hx, hb, hml, hown, hG⟩ (c_checkBounds l dC dI cI cJ cZ cB hl y 0 1440 H.size ) (cwS 3 hG g_C_56 rfl rfl rfl (by decide +kernel) ⟨Nat.le_of_ble_eq_true rfl, Nat.le_of_ble_eq_true rfl⟩) ⟨PC.blind, PC.of hPc hK hDc hE hS hFc⟩ rfl rfl hl9.1 rfl (lv_room (Nat.le_of_ble_eq_true rfl)) d_C_at_5 ⟨by first | exact Nat.le_of_ble_eq_true rfl | omega, by first | exact Nat.le_of_ble_eq_true rfl | omega⟩) hS (fun q _ h => hFc q h) hFc (fun q _ h => hFc q h) (fun E ce q9 u t H1 locs ht hvm hpx hB hz1 hk1 hS hce hcv hcl => ?_) (fun u t H1 locs ht hvm hw hB hz1 hk1 hS => ?_)
  · exact vx_out (fun x hx => (hnx x hx).elim) hlocks hce hcv hcl (fun t ht ha => ⟨(), trivial, hB.1, hS.F ht⟩) hS.2.2 (by first | exact Nat.le_of_ble_eq_true rfl | omega) (by first | exact Nat.le_of_ble_eq_true rfl | omega)
  have hw := hw
  have hP := wp_kept hP hk1
  have hq3 : ¬ (y < 0 ∨ 1440 < y) := hw
  refine lv_aload_n hx hb d_C_at_8 rfl (lv_at hl9 0 rfl) ?_
  refine lv_iload_n hx hb d_C_at_9 rfl (lv_at hl9 1 rfl) ?_
  have hPc := hP.sub (ws' := [(a0, .inr (2, [.ref aZ, .int (nI nz), .ref aO, .int orr, .int ol, .int mp, .ref aG, .int pl, .int fa, .int fb, .ref aP, .ref aW, .ref aK])), (aZ, .inl (cZ, 6, .inr (.inr (.inr (.inr fZ)))))]) [0, 1] rfl
  have hDc := hD.sub (ws' := [(a0, .inr (2, [.ref aZ, .int (nI nz), .ref aO, .int orr, .int ol, .int mp, .ref aG, .int pl, .int fa, .int fb, .ref aP, .ref aW, .ref aK])), (aZ, .inl (cZ, 6, .inr (.inr (.inr (.inr fZ)))))]) [0, 1] (by decide) rfl
  have hFc := va_A_nil hA hS.1
  refine vx_callq (vx_runV (C := R_C) (As := [.int x]) (rest := []) ⟨hx, hb, hml, hown, hG⟩ (c_plannedZoneX l dC dI cI cJ cZ cB hl a0 aZ aO aG aP aW aK (nI nz) orr ol mp pl fa fb fZ nz x H1.size hx0) (cwV 1 hG g_C_94 rfl rfl rfl (by decide +kernel) ⟨Nat.le_of_ble_eq_true rfl, Nat.le_of_ble_eq_true rfl⟩) ⟨PC.blind, va_recv hK hP (ci := 2) (q0 := 0) rfl rfl, PC.of hPc hK hDc hE hS hFc⟩ rfl rfl hl9.1 rfl (lv_room (Nat.le_of_ble_eq_true rfl)) d_C_at_10 ⟨by first | exact Nat.le_of_ble_eq_true rfl | omega, by first | exact Nat.le_of_ble_eq_true rfl | omega⟩) hS (fun q _ h => hFc q h) hFc (fun q _ h => hFc q h) (fun E ce q9 u t H4 locs ht hvm hpx hB hz1 hk1 hS hce hcv hcl => ?_) (fun r5 u t H4 locs ht hvm hw hB hz1 hk1 hS => ?_)
  · exact vx_out (fun x hx => (hnx x hx).elim) hlocks hce hcv hcl (fun t ht ha => ⟨(), trivial, hB, hS.F ht⟩) hS.2.2 (by first | exact Nat.le_of_ble_eq_true rfl | omega) (by first | exact Nat.le_of_ble_eq_true rfl | omega)
  have hw := hw
  exact hw.elim
end
section
theorem g_C_67 : GoodIn GG w_Z_init := goodG (List.forall_mem_cons.mpr ⟨k_162, fun _ h => h⟩)
set_option maxHeartbeats 4000000 in
set_option maxRecDepth 100000 in
theorem c_zone (l : Launch) (dC : Nat → ClassId) (dI : Nat → Nat → Nat) (cI cJ cZ cB : ClassId) (hl : l.stackTraces = false) (a0 aZ aO aG aP aW aK : Nat) (zc orr ol mp pl fa fb : Int32) (fZ : Nat → Option Nat) (nz : Nat) (x y : Int32) (sz : Nat) (hn : nz ≤ 6) : vx_Met l y_C_zone w_C_zone ({ frames := 7, cells := 5, slots := 1465, locals := 104 }) (PC (dC, dI) (TY cI cJ cZ cB) [.ref a0, .int x, .int y] [(a0, .inr (2, [.ref aZ, .int (nI nz), .ref aO, .int orr, .int ol, .int mp, .ref aG, .int pl, .int fa, .int fb, .ref aP, .ref aW, .ref aK])), (aZ, .inl (cZ, 6, .inr (.inr (.inr (.inr fZ)))))] sz (va_A [(a0, .inr (2, [.ref aZ, .int (nI nz), .ref aO, .int orr, .int ol, .int mp, .ref aG, .int pl, .int fa, .int fb, .ref aP, .ref aW, .ref aK])), (aZ, .inl (cZ, 6, .inr (.inr (.inr (.inr fZ)))))] sz)) (va_Qi (fun (r : Int32) (_ : Nat × Nat × Nat) => r = nI nz ∧ ¬ ((x < 1 ∨ 1000 < x) ∨ (y < 1 ∨ 1000 < y)) ∧ nz < 6) (fun (u : Nat × Nat × Nat) (t : State) => va_P (dC, dI) vwCl [(a0, .inr (2, [.ref aZ, .int (nI (nz + 1)), .ref aO, .int orr, .int ol, .int mp, .ref aG, .int 0, .int fa, .int fb, .ref aP, .ref aW, .ref aK])), (aZ, .inl (cZ, 6, .inr (.inr (.inr (.inr (va_up fZ nz (some u.1))))))), (u.1, .inr (1, [.int x, .int y, .int 0, .int 1000, .int 0, .int (-1), .int 0, .ref u.2.1, .int (-1), .ref u.2.2])), (u.2.1, .inr (0, [.long 0, .long 1])), (u.2.2, .inl (cI, 1441, .inl (fun _ => 0)))] t.heap ∧ va_D (va_A [(a0, .inr (2, [.ref aZ, .int (nI nz), .ref aO, .int orr, .int ol, .int mp, .ref aG, .int pl, .int fa, .int fb, .ref aP, .ref aW, .ref aK])), (aZ, .inl (cZ, 6, .inr (.inr (.inr (.inr fZ)))))] sz) [(a0, .inr (2, [.ref aZ, .int (nI (nz + 1)), .ref aO, .int orr, .int ol, .int mp, .ref aG, .int 0, .int fa, .int fb, .ref aP, .ref aW, .ref aK])), (aZ, .inl (cZ, 6, .inr (.inr (.inr (.inr (va_up fZ nz (some u.1))))))), (u.1, .inr (1, [.int x, .int y, .int 0, .int 1000, .int 0, .int (-1), .int 0, .ref u.2.1, .int (-1), .ref u.2.2])), (u.2.1, .inr (0, [.long 0, .long 1])), (u.2.2, .inl (cI, 1441, .inl (fun _ => 0)))]) (va_A [(a0, .inr (2, [.ref aZ, .int (nI nz), .ref aO, .int orr, .int ol, .int mp, .ref aG, .int pl, .int fa, .int fb, .ref aP, .ref aW, .ref aK])), (aZ, .inl (cZ, 6, .inr (.inr (.inr (.inr fZ)))))] sz)) (vx_X (fun (_ : Unit) => True) (fun (E : String) (_ : Unit) (t : State) => ((E = "java/lang/IllegalArgumentException" ∧ ((x < 1 ∨ 1000 < x) ∨ (y < 1 ∨ 1000 < y))) ∨ (E = "java/lang/IllegalStateException" ∧ ¬ ((x < 1 ∨ 1000 < x) ∨ (y < 1 ∨ 1000 < y)) ∧ ¬ nz < 6)) ∧ va_P (dC, dI) vwCl [(a0, .inr (2, [.ref aZ, .int (nI nz), .ref aO, .int orr, .int ol, .int mp, .ref aG, .int pl, .int fa, .int fb, .ref aP, .ref aW, .ref aK])), (aZ, .inl (cZ, 6, .inr (.inr (.inr (.inr fZ)))))] t.heap) (va_A [(a0, .inr (2, [.ref aZ, .int (nI nz), .ref aO, .int orr, .int ol, .int mp, .ref aG, .int pl, .int fa, .int fb, .ref aP, .ref aW, .ref aK])), (aZ, .inl (cZ, 6, .inr (.inr (.inr (.inr fZ)))))] sz)) 5 1465 (va_A [(a0, .inr (2, [.ref aZ, .int (nI nz), .ref aO, .int orr, .int ol, .int mp, .ref aG, .int pl, .int fa, .int fb, .ref aP, .ref aW, .ref aK])), (aZ, .inl (cZ, 6, .inr (.inr (.inr (.inr fZ)))))] sz) := by
  refine vx_ofW (cc := b_C_zone) (maxL := 4) (ret := (some .int)) (by decide) rfl ?_
  intro p e s m args below meth c s₁ B hml hnx hv
  obtain ⟨rfl, hsz, hP, hK, hD0, hE⟩ := hv
  have hx := B.exec
  have hb := B.bytes
  have hr := B.returns
  have hG : ∀ w ∈ GG, w.before _ s = true := fun w h => atoms_spec (ws := w_C_zone) B.pre w (List.mem_cons_of_mem _ h)
  have hown : s.vm.findClass R_C = some m.cls := findClass_of_methodNamed B.named
  have hlocks := B.notSynchronized
  subst hsz
  have hD := hD0.self (sz := s.heap.size)
  generalize hAe : (va_A [(a0, .inr (2, [.ref aZ, .int (nI nz), .ref aO, .int orr, .int ol, .int mp, .ref aG, .int pl, .int fa, .int fb, .ref aP, .ref aW, .ref aK])), (aZ, .inl (cZ, 6, .inr (.inr (.inr (.inr fZ)))))] s.heap.size) = A at hD hE ⊢
  have hA : ∀ q : Nat, s.heap.size ≤ q → A q := fun q h => by rw [← hAe]; exact Or.inr h
  have hS : va_S A s.heap s.heap [] := va_S.rf
  obtain ⟨H, hH⟩ : ∃ z, z = s.heap := ⟨_, rfl⟩
  rw [← hH] at hP
  have hS : va_S A s.heap H [] := by rw [hH]; exact hS
  rw [← hH]
  have hl9 := lv_entry ([.ref a0, .int x, .int y]) (n := 4) (Nat.le_of_ble_eq_true rfl)
  rw [lg_entry_eq]
  generalize (lg_sl ([.ref a0, .int x, .int y]) ++ List.replicate (4 - (lg_sl ([.ref a0, .int x, .int y])).length) Slot.unset).toArray = ls at hl9 ⊢
  have hl9 : lv_has ls 4 [(0, .ref a0), (1, .int x), (2, .int y)] := hl9
  refine lv_iload_n hx hb d_C_zone_0 rfl (lv_at hl9 1 rfl) ?_
  refine lv_iconst (v := 1) hx hb d_C_zone_1 (by decide) ?_
  refine lv_sipush (v := 1000) hx hb d_C_zone_2 (by decide) ?_
  have hPc := hP.sub (ws' := []) [] rfl
  have hDc := hD.sub (ws' := []) [] (by decide) rfl
  have hFc := va_A_nil hA hS.1
  refine vx_callv (vx_runS (As := [.int x, .int 1, .int 1000]) (rest := []) ⟨hx, hb, hml, hown, hG⟩ (c_checkBounds l dC dI cI cJ cZ cB hl x 1 1000 H.size ) (cwS 3 hG g_C_56 rfl rfl rfl (by decide +kernel) ⟨Nat.le_of_ble_eq_true rfl, Nat.le_of_ble_eq_true rfl⟩) ⟨PC.blind, PC.of hPc hK hDc hE hS hFc⟩ rfl rfl hl9.1 rfl (lv_room (Nat.le_of_ble_eq_true rfl)) d_C_zone_5 ⟨by first | exact Nat.le_of_ble_eq_true rfl | omega, by first | exact Nat.le_of_ble_eq_true rfl | omega⟩) hS (fun q _ h => hFc q h) hFc (fun q _ h => hFc q h) (fun E ce q9 u t H1 locs ht hvm hpx hB hz1 hk1 hS hce hcv hcl => ?_) (fun u t H1 locs ht hvm hw hB hz1 hk1 hS => ?_)
  · exact vx_out (fun x hx => (hnx x hx).elim) hlocks hce hcv hcl (fun t ht ha => ⟨(), trivial, ⟨Or.inl ⟨hB.1, Or.inl hB.2⟩, by have h9 := wp_kept hP hk1; rw [← ht] at h9; exact h9⟩, hS.F ht⟩) hS.2.2 (by first | exact Nat.le_of_ble_eq_true rfl | omega) (by first | exact Nat.le_of_ble_eq_true rfl | omega)
  have hw := hw
  have hP := wp_kept hP hk1
  have hq3 : ¬ (x < 1 ∨ 1000 < x) := hw
  have hw1 := hw
  refine lv_iload_n hx hb d_C_zone_8 rfl (lv_at hl9 2 rfl) ?_
  refine lv_iconst (v := 1) hx hb d_C_zone_9 (by decide) ?_
  refine lv_sipush (v := 1000) hx hb d_C_zone_10 (by decide) ?_
  have hPc := hP.sub (ws' := []) [] rfl
  have hDc := hD.sub (ws' := []) [] (by decide) rfl
  have hFc := va_A_nil hA hS.1
  refine vx_callv (vx_runS (As := [.int y, .int 1, .int 1000]) (rest := []) ⟨hx, hb, hml, hown, hG⟩ (c_checkBounds l dC dI cI cJ cZ cB hl y 1 1000 H1.size ) (cwS 3 hG g_C_56 rfl rfl rfl (by decide +kernel) ⟨Nat.le_of_ble_eq_true rfl, Nat.le_of_ble_eq_true rfl⟩) ⟨PC.blind, PC.of hPc hK hDc hE hS hFc⟩ rfl rfl hl9.1 rfl (lv_room (Nat.le_of_ble_eq_true rfl)) d_C_zone_13 ⟨by first | exact Nat.le_of_ble_eq_true rfl | omega, by first | exact Nat.le_of_ble_eq_true rfl | omega⟩) hS (fun q _ h => hFc q h) hFc (fun q _ h => hFc q h) (fun E ce q9 u t H4 locs ht hvm hpx hB hz1 hk1 hS hce hcv hcl => ?_) (fun u t H4 locs ht hvm hw hB hz1 hk1 hS => ?_)
  · exact vx_out (fun x hx => (hnx x hx).elim) hlocks hce hcv hcl (fun t ht ha => ⟨(), trivial, ⟨Or.inl ⟨hB.1, Or.inr hB.2⟩, by have h9 := wp_kept hP hk1; rw [← ht] at h9; exact h9⟩, hS.F ht⟩) hS.2.2 (by first | exact Nat.le_of_ble_eq_true rfl | omega) (by first | exact Nat.le_of_ble_eq_true rfl | omega)
  have hw := hw
  have hP := wp_kept hP hk1
  have hq6 : ¬ (y < 1 ∨ 1000 < y) := hw
  have hw2 : ¬ ((x < 1 ∨ 1000 < x) ∨ (y < 1 ∨ 1000 < y)) := fun h => h.elim hw1 hw
  refine lv_aload_n hx hb d_C_zone_16 rfl (lv_at hl9 0 rfl) ?_
  refine va_get (D := (dC, dI)) (ci := 2) (v := .int (nI nz)) (C := R_C) (T := F_C) (N := 13) hx hb hG i_C hown hK hP 0 rfl rfl 1 (by decide) (hG _ k_23) (fun _ h9 => h9) rfl d_C_zone_17 ?_
  refine lv_bipush (v := 6) hx hb d_C_zone_20 (by decide) ?_
  refine lv_icmp_lt (tgt := 35) hx hb d_C_zone_22 (by decide) (fun c1 => ?_) (fun c1 => ?_)
  · have hlt : nz < 6 := (nI_ltI (a := nz) (b := 6) (by omega) (by decide)).mp c1
    refine lv_aload_n hx hb d_C_zone_35 rfl (lv_at hl9 0 rfl) ?_
    refine va_get (D := (dC, dI)) (ci := 2) (v := .int (nI nz)) (C := R_C) (T := F_C) (N := 13) hx hb hG i_C hown hK hP 0 rfl rfl 1 (by decide) (hG _ k_23) (fun _ h9 => h9) rfl d_C_zone_36 ?_
    refine lv_istore_n (lv' := [(3, .int (nI nz)), (0, .ref a0), (1, .int x), (2, .int y)]) hx hb d_C_zone_39 rfl hl9 (by decide) rfl (fun ls hl9 => ?_)
    refine lv_aload_n hx hb d_C_zone_40 rfl (lv_at hl9 1 rfl) ?_
    refine va_get (D := (dC, dI)) (ci := 2) (v := .ref aZ) (C := R_C) (T := F_C) (N := 13) hx hb hG i_C hown hK hP 0 rfl rfl 0 (by decide) (hG _ k_22) (fun _ h9 => h9) rfl d_C_zone_41 ?_
    refine lv_iload_n hx hb d_C_zone_44 rfl (lv_at hl9 0 rfl) ?_
    refine va_new (ci := 1) (fs := [.int 0, .int 0, .int 0, .int 0, .int 0, .int 0, .int 0, .null, .int 0, .null]) (C := R_Z) (T := F_Z) (N := 10) hx hb hG i_Z t_Z t_Z_ok hown (hG _ k_19) (hG _ k_159) (hG _ k_8) hK hP hD hS hA rfl (by decide +kernel) (by first | exact Nat.le_of_ble_eq_true rfl | omega) (by first | exact Nat.le_of_ble_eq_true rfl | omega) d_C_zone_45 (fun q1 H hP hD hS => ?_)
    have hP : va_P (dC, dI) vwCl [(a0, .inr (2, [.ref aZ, .int (nI nz), .ref aO, .int orr, .int ol, .int mp, .ref aG, .int pl, .int fa, .int fb, .ref aP, .ref aW, .ref aK])), (aZ, .inl (cZ, 6, .inr (.inr (.inr (.inr fZ))))), (q1, .inr (1, [.int 0, .int 0, .int 0, .int 0, .int 0, .int 0, .int 0, .null, .int 0, .null]))] H := hP
    have hD : va_D A [(a0, .inr (2, [.ref aZ, .int (nI nz), .ref aO, .int orr, .int ol, .int mp, .ref aG, .int pl, .int fa, .int fb, .ref aP, .ref aW, .ref aK])), (aZ, .inl (cZ, 6, .inr (.inr (.inr (.inr fZ))))), (q1, .inr (1, [.int 0, .int 0, .int 0, .int 0, .int 0, .int 0, .int 0, .null, .int 0, .null]))] := hD
    refine lv_dup hx hb d_C_zone_48 rfl ?_
    refine lv_iload_n hx hb d_C_zone_49 rfl (lv_at hl9 2 rfl) ?_
    refine lv_iload_n hx hb d_C_zone_50 rfl (lv_at hl9 3 rfl) ?_
    have hPc := hP.sub (ws' := [(q1, .inr (1, [.int 0, .int 0, .int 0, .int 0, .int 0, .int 0, .int 0, .null, .int 0, .null]))]) [2] rfl
    have hDc := hD.sub (ws' := [(q1, .inr (1, [.int 0, .int 0, .int 0, .int 0, .int 0, .int 0, .int 0, .null, .int 0, .null]))]) [2] (by decide) rfl
    have hFc := va_free (wc := [(q1, .inr (1, [.int 0, .int 0, .int 0, .int 0, .int 0, .int 0, .int 0, .null, .int 0, .null]))]) hD hS hA [2] rfl
    refine va_callv (va_runIN (As := [.int x, .int y]) (rest := [.ref q1, .int (nI nz), .ref aZ]) ⟨hx, hb, hml, hown, hG⟩ (c_Z_init l dC dI cI cJ cZ cB q1 x y H.size ) ⟨va_cnB (host := "StartTimes") 2 hG g_C_67 rfl rfl rfl (hE.1.1 _ k_160 rfl) (hG _ k_8) (by decide +kernel) ⟨Nat.le_of_ble_eq_true rfl, Nat.le_of_ble_eq_true rfl⟩, rfl, hG _ k_161⟩ ⟨PC.blind, PC.of hPc hK hDc hE hS hFc⟩ rfl rfl hl9.1 rfl (lv_room (Nat.le_of_ble_eq_true rfl)) d_C_zone_51 ⟨by first | exact Nat.le_of_ble_eq_true rfl | omega, by first | exact Nat.le_of_ble_eq_true rfl | omega⟩) hS (fun q _ h => hFc q h) hFc (fun u t H7 locs ht hvm hw hB hz1 hk1 hS => ?_)
    obtain ⟨q2, q3⟩ := u
    obtain ⟨hP1, hD1⟩ := hB
    rw [ht] at hP1
    obtain ⟨hP, hD⟩ := va_join (wr := [(a0, .inr (2, [.ref aZ, .int (nI nz), .ref aO, .int orr, .int ol, .int mp, .ref aG, .int pl, .int fa, .int fb, .ref aP, .ref aW, .ref aK])), (aZ, .inl (cZ, 6, .inr (.inr (.inr (.inr fZ)))))]) (w1 := [(q1, .inr (1, [.int x, .int y, .int 0, .int 1000, .int 0, .int (-1), .int 0, .ref q2, .int (-1), .ref q3])), (q2, .inr (0, [.long 0, .long 1])), (q3, .inl (cI, 1441, .inl (fun _ => 0)))]) hP hD [2] [0, 1] rfl rfl (by decide) (by decide) hk1 hFc hP1 hD1
    have hP : va_P (dC, dI) vwCl [(a0, .inr (2, [.ref aZ, .int (nI nz), .ref aO, .int orr, .int ol, .int mp, .ref aG, .int pl, .int fa, .int fb, .ref aP, .ref aW, .ref aK])), (aZ, .inl (cZ, 6, .inr (.inr (.inr (.inr fZ))))), (q1, .inr (1, [.int x, .int y, .int 0, .int 1000, .int 0, .int (-1), .int 0, .ref q2, .int (-1), .ref q3])), (q2, .inr (0, [.long 0, .long 1])), (q3, .inl (cI, 1441, .inl (fun _ => 0)))] H7 := hP
    have hD : va_D A [(a0, .inr (2, [.ref aZ, .int (nI nz), .ref aO, .int orr, .int ol, .int mp, .ref aG, .int pl, .int fa, .int fb, .ref aP, .ref aW, .ref aK])), (aZ, .inl (cZ, 6, .inr (.inr (.inr (.inr fZ))))), (q1, .inr (1, [.int x, .int y, .int 0, .int 1000, .int 0, .int (-1), .int 0, .ref q2, .int (-1), .ref q3])), (q2, .inr (0, [.long 0, .long 1])), (q3, .inl (cI, 1441, .inl (fun _ => 0)))] := hD
    have hin : vp_in (nI nz) 6 := vp_in_nI (by omega) (by omega)
    refine va_astq hx hb hK hP hD hS 1 2 2 1 (r := (R_Z, F_Z, 10)) rfl rfl rfl rfl hin d_C_zone_54 (fun H locs hP hD hS => ?_)
    have hP : va_P (dC, dI) vwCl [(a0, .inr (2, [.ref aZ, .int (nI nz), .ref aO, .int orr, .int ol, .int mp, .ref aG, .int pl, .int fa, .int fb, .ref aP, .ref aW, .ref aK])), (aZ, .inl (cZ, 6, .inr (.inr (.inr (.inr (va_up fZ (nI nz).toNatClampNeg (some q1))))))), (q1, .inr (1, [.int x, .int y, .int 0, .int 1000, .int 0, .int (-1), .int 0, .ref q2, .int (-1), .ref q3])), (q2, .inr (0, [.long 0, .long 1])), (q3, .inl (cI, 1441, .inl (fun _ => 0)))] H := hP
    have hD : va_D A [(a0, .inr (2, [.ref aZ, .int (nI nz), .ref aO, .int orr, .int ol, .int mp, .ref aG, .int pl, .int fa, .int fb, .ref aP, .ref aW, .ref aK])), (aZ, .inl (cZ, 6, .inr (.inr (.inr (.inr (va_up fZ (nI nz).toNatClampNeg (some q1))))))), (q1, .inr (1, [.int x, .int y, .int 0, .int 1000, .int 0, .int (-1), .int 0, .ref q2, .int (-1), .ref q3])), (q2, .inr (0, [.long 0, .long 1])), (q3, .inl (cI, 1441, .inl (fun _ => 0)))] := hD
    rw [nI_clamp (n := nz) (by omega)] at hP hD
    refine lv_aload_n hx hb d_C_zone_55 rfl (lv_at hl9 1 rfl) ?_
    refine lv_dup hx hb d_C_zone_56 rfl ?_
    refine va_get (D := (dC, dI)) (ci := 2) (v := .int (nI nz)) (C := R_C) (T := F_C) (N := 13) hx hb hG i_C hown hK hP 0 rfl rfl 1 (by decide) (hG _ k_23) (fun _ h9 => h9) rfl d_C_zone_57 ?_
    refine lv_iconst (v := 1) hx hb d_C_zone_60 (by decide) ?_
    refine lv_iadd hx hb d_C_zone_61 ?_
    refine va_put (D := (dC, dI)) (ci := 2) (v := .int ((nI nz) + 1)) (ty := .int) (C := R_C) (T := F_C) (N := 13) hx hb hG i_C t_C t_C_ok n_C hown hK hP hD hS 0 rfl rfl 1 (by decide) (hG _ k_23) (fun _ h9 => h9) rfl (by decide +kernel) rfl rfl (Nat.le_of_ble_eq_true rfl) d_C_zone_62 (fun H locs hP hD hS => ?_)
    have hP : va_P (dC, dI) vwCl [(a0, .inr (2, [.ref aZ, .int ((nI nz) + 1), .ref aO, .int orr, .int ol, .int mp, .ref aG, .int pl, .int fa, .int fb, .ref aP, .ref aW, .ref aK])), (aZ, .inl (cZ, 6, .inr (.inr (.inr (.inr (va_up fZ nz (some q1))))))), (q1, .inr (1, [.int x, .int y, .int 0, .int 1000, .int 0, .int (-1), .int 0, .ref q2, .int (-1), .ref q3])), (q2, .inr (0, [.long 0, .long 1])), (q3, .inl (cI, 1441, .inl (fun _ => 0)))] H := hP
    have hD : va_D A [(a0, .inr (2, [.ref aZ, .int ((nI nz) + 1), .ref aO, .int orr, .int ol, .int mp, .ref aG, .int pl, .int fa, .int fb, .ref aP, .ref aW, .ref aK])), (aZ, .inl (cZ, 6, .inr (.inr (.inr (.inr (va_up fZ nz (some q1))))))), (q1, .inr (1, [.int x, .int y, .int 0, .int 1000, .int 0, .int (-1), .int 0, .ref q2, .int (-1), .ref q3])), (q2, .inr (0, [.long 0, .long 1])), (q3, .inl (cI, 1441, .inl (fun _ => 0)))] := hD
    refine lv_aload_n hx hb d_C_zone_65 rfl (lv_at hl9 1 rfl) ?_
    refine lv_iconst (v := 0) hx hb d_C_zone_66 (by decide) ?_
    refine va_put (D := (dC, dI)) (ci := 2) (v := .int 0) (ty := .boolean) (C := R_C) (T := F_C) (N := 13) hx hb hG i_C t_C t_C_ok n_C hown hK hP hD hS 0 rfl rfl 7 (by decide) (hG _ k_29) (fun _ h9 => h9) rfl (by decide +kernel) rfl rfl (Nat.le_of_ble_eq_true rfl) d_C_zone_67 (fun H locs hP hD hS => ?_)
    have hP : va_P (dC, dI) vwCl [(a0, .inr (2, [.ref aZ, .int ((nI nz) + 1), .ref aO, .int orr, .int ol, .int mp, .ref aG, .int 0, .int fa, .int fb, .ref aP, .ref aW, .ref aK])), (aZ, .inl (cZ, 6, .inr (.inr (.inr (.inr (va_up fZ nz (some q1))))))), (q1, .inr (1, [.int x, .int y, .int 0, .int 1000, .int 0, .int (-1), .int 0, .ref q2, .int (-1), .ref q3])), (q2, .inr (0, [.long 0, .long 1])), (q3, .inl (cI, 1441, .inl (fun _ => 0)))] H := hP
    have hD : va_D A [(a0, .inr (2, [.ref aZ, .int ((nI nz) + 1), .ref aO, .int orr, .int ol, .int mp, .ref aG, .int 0, .int fa, .int fb, .ref aP, .ref aW, .ref aK])), (aZ, .inl (cZ, 6, .inr (.inr (.inr (.inr (va_up fZ nz (some q1))))))), (q1, .inr (1, [.int x, .int y, .int 0, .int 1000, .int 0, .int (-1), .int 0, .ref q2, .int (-1), .ref q3])), (q2, .inr (0, [.long 0, .long 1])), (q3, .inl (cI, 1441, .inl (fun _ => 0)))] := hD
    refine lv_iload_n hx hb d_C_zone_70 rfl (lv_at hl9 0 rfl) ?_
    rw [nI_1] at hP hD
    refine vx_ret ?_
    exact W.iret (v := (nI nz)) hx hb hr (fun t ht hW => ⟨⟨(nI nz), (q1, q2, q3), rfl, ⟨rfl, hw2, hlt⟩, ⟨by have h9 := hP; rw [← ht] at h9; exact h9, hD⟩⟩, hS.F ht⟩) hS.2.2 d_C_zone_71
  · obtain ⟨sa, hsa⟩ := hE.1.2.1 (62, "there are 6 zones") (by decide)
    exact vx_throwS (own := R_C) (cls := "java/lang/IllegalStateException") (names := ["java/lang/RuntimeException", "java/lang/Exception"]) hx hb hl hown (by decide +kernel) (by decide +kernel) (hG _ k_143) (hG _ k_7) hsa (fun w h => (at_ISE w h).elim (hG w) (fun h => hE.1.use h.1 h.2)) ot_ISE hE.2.1 hE.2.2 hS (hl9.1.trans hml.symm) d_C_zone_25 d_C_zone_28 d_C_zone_29 d_C_zone_31 d_C_zone_34 (fun x hx => (hnx x hx).elim) (Nat.le_of_ble_eq_true rfl) (Nat.le_of_ble_eq_true rfl) (by first | exact Nat.le_of_ble_eq_true rfl | omega) (by first | exact Nat.le_of_ble_eq_true rfl | omega) hlocks (fun t ha hsz hk => ⟨(), trivial, ⟨Or.inr ⟨rfl, hw2, fun h => c1 (nI_lt h (by decide))⟩, hP.kept (fun k q hq => hk q.1 (hP k q hq).lt)⟩, Nat.le_trans hS.1 hsz, fun q h1 h2 => (hk q (Nat.lt_of_lt_of_le h1 hS.1)).trans (hS.2.1 q h1 h2)⟩) hS.2.2 (by first | exact Nat.le_of_ble_eq_true rfl | omega) (by first | exact Nat.le_of_ble_eq_true rfl | omega)
end
section
theorem qb_eq {b j m : Nat} (hb : b < 1440) (hj : j ≤ 10) (hm : m ≤ 30) : (if 0 < nI b - nI j * nI m then nI b - nI j * nI m else 0) = nI (b - j * m) := by
  have h1 : j * m ≤ 300 := Nat.le_trans (Nat.mul_le_mul hj hm) (by decide)
  rw [pk_mul]
  by_cases h : j * m < b
  · rw [pk_sub (by omega), if_pos]
    exact (nI_ltI (a := 0) (by decide) (by omega)).mpr (by omega)
  · rw [if_neg, show b - j * m = 0 by omega]
    · rfl
    · rw [Int32.lt_iff_toInt_lt, pk_sub_toInt (by omega) (by omega), Int32.toInt_zero]
      omega
theorem sub1 {j : Nat} (h : 1 ≤ j) : nI j - 1 = nI (j - 1) := by
  rw [show (1 : Int32) = nI 1 from rfl, pk_sub h]
theorem shl1 {k : Nat} (h : k ≤ 10) : (1 : Int32) <<< (nI k &&& 31) = nI (2 ^ k) := by
  rcases (show k = 0 ∨ k = 1 ∨ k = 2 ∨ k = 3 ∨ k = 4 ∨ k = 5 ∨ k = 6 ∨ k = 7 ∨ k = 8 ∨ k = 9 ∨ k = 10 by omega) with rfl | rfl | rfl | rfl | rfl | rfl | rfl | rfl | rfl | rfl | rfl <;> decide
theorem p2_le {k : Nat} (h : k ≤ 10) : 2 ^ k ≤ 1024 := by
  rcases (show k = 0 ∨ k = 1 ∨ k = 2 ∨ k = 3 ∨ k = 4 ∨ k = 5 ∨ k = 6 ∨ k = 7 ∨ k = 8 ∨ k = 9 ∨ k = 10 by omega) with rfl | rfl | rfl | rfl | rfl | rfl | rfl | rfl | rfl | rfl | rfl <;> decide
theorem p2_lt {k : Nat} (h : k < 10) : 2 ^ k + 2 ^ k ≤ 1024 := by
  have := p2_le (k := k + 1) (by omega)
  rw [Nat.pow_succ] at this
  omega
/-- one quarter more, for the first j sets -/
def wsI (fp f0 : Int32 → Int32) (co : Int64) (bit : Nat) (W : Nat → Int32) (C : Nat → Int64) : Nat → (Nat → Int32) × (Nat → Int64)
  | 0 => (W, C)
  | j + 1 => (upd (upd (wsI fp f0 co bit W C j).1 (j + bit) (fp ((wsI fp f0 co bit W C j).1 j))) j (f0 ((wsI fp f0 co bit W C j).1 j)), vp_updL (wsI fp f0 co bit W C j).2 (j + bit) ((wsI fp f0 co bit W C j).2 j + co))
/-- behind k quarters -/
def wsO (o fP : Nat → Int32) (L hd zp zf : Int32) (b nn m : Nat) (W : Nat → Int32) (C : Nat → Int64) : Nat → (Nat → Int32) × (Nat → Int64)
  | 0 => (upd W 0 (wt o L hd 0 zf 0 (b - nn * m)), vp_updL C 0 0)
  | k + 1 => wsI (fun x => wt o L hd zp x (b - (nn - k) * m) (b - (nn - k - 1) * m - (b - (nn - k) * m))) (fun x => wt o L hd 0 x (b - (nn - k) * m) (b - (nn - k - 1) * m - (b - (nn - k) * m))) (cm fP zp (b - (nn - k) * m) (b - (nn - k - 1) * m - (b - (nn - k) * m))) (2 ^ k) (wsO o fP L hd zp zf b nn m W C k).1 (wsO o fP L hd zp zf b nn m W C k).2 (2 ^ k)
theorem q_mono {b nn k m : Nat} : b - (nn - k) * m ≤ b - (nn - k - 1) * m := Nat.sub_le_sub_left (Nat.mul_le_mul_right m (by omega)) b
theorem g_C_150 : GoodIn GG (wsS R_C 150 y_C_quarterBegin w_C_quarterBegin) := goodG (List.forall_mem_append.mpr ⟨List.forall_mem_cons.mpr ⟨k_414, List.forall_mem_cons.mpr ⟨k_415, List.forall_mem_cons.mpr ⟨k_1, fun _ h => absurd h List.not_mem_nil⟩⟩⟩, List.forall_mem_cons.mpr ⟨k_416, fun _ h => h⟩⟩)
theorem g_C_154 : GoodIn GG (wsV R_C 154 R_C y_C_warmthThrough w_C_warmthThrough) := goodG (List.forall_mem_append.mpr ⟨List.forall_mem_cons.mpr ⟨k_417, List.forall_mem_cons.mpr ⟨k_419, List.forall_mem_cons.mpr ⟨ks_17, List.forall_mem_cons.mpr ⟨k_1, fun _ h => absurd h List.not_mem_nil⟩⟩⟩⟩, List.forall_mem_cons.mpr ⟨k_420, fun _ h => h⟩⟩)
theorem g_C_158 : GoodIn GG (wsV R_C 158 R_C y_C_costOfMinutes w_C_costOfMinutes) := goodG (List.forall_mem_append.mpr ⟨List.forall_mem_cons.mpr ⟨k_421, List.forall_mem_cons.mpr ⟨k_423, List.forall_mem_cons.mpr ⟨ks_18, List.forall_mem_cons.mpr ⟨k_1, fun _ h => absurd h List.not_mem_nil⟩⟩⟩⟩, List.forall_mem_cons.mpr ⟨k_424, fun _ h => h⟩⟩)
set_option maxHeartbeats 4000000 in
set_option maxRecDepth 100000 in
theorem c_weighSets (l : Launch) (dC : Nat → ClassId) (dI : Nat → Nat → Nat) (cI cJ cZ cB : ClassId) (a0 aZ aO aG aP aW aK : Nat) (zc orr ol mp pl fa fb : Int32) (fO fP fW : Nat → Int32) (fK : Nat → Int64) (za la wa : Nat) (zh zl zf zp zr zm zw zs : Int32) (b nn mm : Nat) (sz : Nat) (hb1 : b < 1440) (hnn : nn ≤ 10) (hmm : mm ≤ 30) (hzl : ¬ zl = 0) (hzh : ¬ zh = 0) : Met l y_C_weighSets w_C_weighSets ({ frames := 2, cells := 0, slots := 0, locals := 51 }) (PC (dC, dI) (TY cI cJ cZ cB) [.ref a0, .ref za, .int (nI nn), .int (nI mm)] [(a0, .inr (2, [.ref aZ, .int zc, .ref aO, .int orr, .int ol, .int mp, .ref aG, .int pl, .int fa, .int fb, .ref aP, .ref aW, .ref aK])), (aO, .inl (cI, 1440, .inl fO)), (aP, .inl (cI, 24, .inl fP)), (aW, .inl (cI, 1024, .inl fW)), (aK, .inl (cJ, 1024, .inr (.inl fK))), (za, .inr (1, [.int zh, .int zl, .int zf, .int zp, .int zr, .int (nI b), .int zw, .ref la, .int zs, .ref wa]))] sz (va_A [(a0, .inr (2, [.ref aZ, .int zc, .ref aO, .int orr, .int ol, .int mp, .ref aG, .int pl, .int fa, .int fb, .ref aP, .ref aW, .ref aK])), (aO, .inl (cI, 1440, .inl fO)), (aP, .inl (cI, 24, .inl fP)), (aW, .inl (cI, 1024, .inl fW)), (aK, .inl (cJ, 1024, .inr (.inl fK))), (za, .inr (1, [.int zh, .int zl, .int zf, .int zp, .int zr, .int (nI b), .int zw, .ref la, .int zs, .ref wa]))] sz)) (va_Qv (fun (_ : Unit) => True) (fun (_ : Unit) (t : State) => va_P (dC, dI) vwCl [(a0, .inr (2, [.ref aZ, .int zc, .ref aO, .int orr, .int ol, .int mp, .ref aG, .int pl, .int fa, .int fb, .ref aP, .ref aW, .ref aK])), (aO, .inl (cI, 1440, .inl fO)), (aP, .inl (cI, 24, .inl fP)), (aW, .inl (cI, 1024, .inl ((wsO fO fP zl zh zp zf b nn mm fW fK nn).1))), (aK, .inl (cJ, 1024, .inr (.inl ((wsO fO fP zl zh zp zf b nn mm fW fK nn).2)))), (za, .inr (1, [.int zh, .int zl, .int zf, .int zp, .int zr, .int (nI b), .int zw, .ref la, .int zs, .ref wa]))] t.heap) (va_A [(a0, .inr (2, [.ref aZ, .int zc, .ref aO, .int orr, .int ol, .int mp, .ref aG, .int pl, .int fa, .int fb, .ref aP, .ref aW, .ref aK])), (aO, .inl (cI, 1440, .inl fO)), (aP, .inl (cI, 24, .inl fP)), (aW, .inl (cI, 1024, .inl fW)), (aK, .inl (cJ, 1024, .inr (.inl fK))), (za, .inr (1, [.int zh, .int zl, .int zf, .int zp, .int zr, .int (nI b), .int zw, .ref la, .int zs, .ref wa]))] sz)) 0 0 (va_A [(a0, .inr (2, [.ref aZ, .int zc, .ref aO, .int orr, .int ol, .int mp, .ref aG, .int pl, .int fa, .int fb, .ref aP, .ref aW, .ref aK])), (aO, .inl (cI, 1440, .inl fO)), (aP, .inl (cI, 24, .inl fP)), (aW, .inl (cI, 1024, .inl fW)), (aK, .inl (cJ, 1024, .inr (.inl fK))), (za, .inr (1, [.int zh, .int zl, .int zf, .int zp, .int zr, .int (nI b), .int zw, .ref la, .int zs, .ref wa]))] sz) := by
  refine Met.ofW (cc := b_C_weighSets) (maxL := 12) (ret := none) (by decide) rfl ?_
  intro p e s m args below meth c s₁ B hml hv
  obtain ⟨rfl, hsz, hP, hK, hD0, hE⟩ := hv
  have hx := B.exec
  have hb := B.bytes
  have hr := B.returns
  have hG : ∀ w ∈ GG, w.before _ s = true := fun w h => atoms_spec (ws := w_C_weighSets) B.pre w (List.mem_cons_of_mem _ h)
  have hown : s.vm.findClass R_C = some m.cls := findClass_of_methodNamed B.named
  have hlocks := B.notSynchronized
  subst hsz
  have hD := hD0.self (sz := s.heap.size)
  generalize hAe : (va_A [(a0, .inr (2, [.ref aZ, .int zc, .ref aO, .int orr, .int ol, .int mp, .ref aG, .int pl, .int fa, .int fb, .ref aP, .ref aW, .ref aK])), (aO, .inl (cI, 1440, .inl fO)), (aP, .inl (cI, 24, .inl fP)), (aW, .inl (cI, 1024, .inl fW)), (aK, .inl (cJ, 1024, .inr (.inl fK))), (za, .inr (1, [.int zh, .int zl, .int zf, .int zp, .int zr, .int (nI b), .int zw, .ref la, .int zs, .ref wa]))] s.heap.size) = A at hD hE ⊢
  have hA : ∀ q : Nat, s.heap.size ≤ q → A q := fun q h => by rw [← hAe]; exact Or.inr h
  have hS : va_S A s.heap s.heap [] := va_S.rf
  obtain ⟨H, hH⟩ : ∃ z, z = s.heap := ⟨_, rfl⟩
  rw [← hH] at hP
  have hS : va_S A s.heap H [] := by rw [hH]; exact hS
  rw [← hH]
  have hl9 := lv_entry ([.ref a0, .ref za, .int (nI nn), .int (nI mm)]) (n := 12) (Nat.le_of_ble_eq_true rfl)
  rw [lg_entry_eq]
  generalize (lg_sl ([.ref a0, .ref za, .int (nI nn), .int (nI mm)]) ++ List.replicate (12 - (lg_sl ([.ref a0, .ref za, .int (nI nn), .int (nI mm)])).length) Slot.unset).toArray = ls at hl9 ⊢
  have hl9 : lv_has ls 12 [(0, .ref a0), (1, .ref za), (2, .int (nI nn)), (3, .int (nI mm))] := hl9
  refine lv_aload_n hx hb d_C_weighSets_0 rfl (lv_at hl9 0 rfl) ?_
  refine va_get (D := (dC, dI)) (ci := 2) (v := .ref aW) (C := R_C) (T := F_C) (N := 13) hx hb hG i_C hown hK hP 0 rfl rfl 11 (by decide) (hG _ k_33) (fun _ h9 => h9) rfl d_C_weighSets_1 ?_
  refine lv_iconst (v := 0) hx hb d_C_weighSets_4 (by decide) ?_
  refine lv_aload_n hx hb d_C_weighSets_5 rfl (lv_at hl9 0 rfl) ?_
  refine lv_aload_n hx hb d_C_weighSets_6 rfl (lv_at hl9 1 rfl) ?_
  refine lv_aload_n hx hb d_C_weighSets_7 rfl (lv_at hl9 1 rfl) ?_
  refine va_getN (D := (dC, dI)) (ci := 1) (v := .int zf) (C := R_Z) (T := F_Z) (N := 10) hx hb hG i_Z hown hK hP 5 rfl rfl 2 (by decide) (hE.1.use k_184) (fun _ h9 => h9) rfl d_C_weighSets_8 ?_
  refine lv_iconst (v := 0) hx hb d_C_weighSets_11 (by decide) ?_
  refine lv_aload_n hx hb d_C_weighSets_12 rfl (lv_at hl9 1 rfl) ?_
  refine lv_iload_n hx hb d_C_weighSets_13 rfl (lv_at hl9 2 rfl) ?_
  refine lv_iload_n hx hb d_C_weighSets_14 rfl (lv_at hl9 3 rfl) ?_
  have hPc := hP.sub (ws' := [(za, .inr (1, [.int zh, .int zl, .int zf, .int zp, .int zr, .int (nI b), .int zw, .ref la, .int zs, .ref wa]))]) [5] rfl
  have hDc := hD.sub (ws' := [(za, .inr (1, [.int zh, .int zl, .int zf, .int zp, .int zr, .int (nI b), .int zw, .ref la, .int zs, .ref wa]))]) [5] (by decide) rfl
  have hFc := va_A_nil hA hS.1
  refine va_calli (va_runS (As := [.ref za, .int (nI nn), .int (nI mm)]) (rest := [.int 0, .int zf, .ref za, .ref a0, .int 0, .ref aW]) ⟨hx, hb, hml, hown, hG⟩ (c_quarterBegin l dC dI cI cJ cZ cB za la wa zh zl zf zp zr (nI b) zw zs (nI nn) (nI mm) H.size ) (cwS 3 hG g_C_150 rfl rfl rfl (by decide +kernel) ⟨Nat.le_of_ble_eq_true rfl, Nat.le_of_ble_eq_true rfl⟩) ⟨PC.blind, PC.of hPc hK hDc hE hS hFc⟩ rfl rfl hl9.1 rfl (lv_room (Nat.le_of_ble_eq_true rfl)) d_C_weighSets_15 ⟨by first | exact Nat.le_of_ble_eq_true rfl | omega, by first | exact Nat.le_of_ble_eq_true rfl | omega⟩) hS (fun q _ h => hFc q h) hFc (fun r2 u t H1 locs ht hvm hw hB hz1 hk1 hS => ?_)
  have hP := wp_kept hP hk1
  have hw : r2 = if 0 < (nI b) - (nI nn) * (nI mm) then (nI b) - (nI nn) * (nI mm) else 0 := hw
  subst hw
  rw [qb_eq hb1 hnn hmm]
  refine W.eq (g2 := F0 m 18 ls [.int (nI (b - nn * mm)), .int (nI 0), .int zf, .ref za, .ref a0, .int 0, .ref aW]) rfl ?_
  refine lv_iconst (v := 0) hx hb d_C_weighSets_18 (by decide) ?_
  have hPc := hP.sub (ws' := [(a0, .inr (2, [.ref aZ, .int zc, .ref aO, .int orr, .int ol, .int mp, .ref aG, .int pl, .int fa, .int fb, .ref aP, .ref aW, .ref aK])), (aO, .inl (cI, 1440, .inl fO)), (za, .inr (1, [.int zh, .int zl, .int zf, .int zp, .int zr, .int (nI b), .int zw, .ref la, .int zs, .ref wa]))]) [0, 1, 5] rfl
  have hDc := hD.sub (ws' := [(a0, .inr (2, [.ref aZ, .int zc, .ref aO, .int orr, .int ol, .int mp, .ref aG, .int pl, .int fa, .int fb, .ref aP, .ref aW, .ref aK])), (aO, .inl (cI, 1440, .inl fO)), (za, .inr (1, [.int zh, .int zl, .int zf, .int zp, .int zr, .int (nI b), .int zw, .ref la, .int zs, .ref wa]))]) [0, 1, 5] (by decide) rfl
  have hFc := va_A_nil hA hS.1
  refine va_calli (va_runV (C := R_C) (As := [.ref za, .int zf, .int (nI 0), .int (nI (b - nn * mm)), .int 0]) (rest := [.int 0, .ref aW]) ⟨hx, hb, hml, hown, hG⟩ (c_warmthThrough l dC dI cI cJ cZ cB a0 aZ aO aG aP aW aK zc orr ol mp pl fa fb fO za la wa zh zl zf zp zr (nI b) zw zs zf 0 0 (b - nn * mm) H1.size (Nat.zero_le _) (by omega) hzl hzh) (cwV 5 hG g_C_154 rfl rfl rfl (by decide +kernel) ⟨Nat.le_of_ble_eq_true rfl, Nat.le_of_ble_eq_true rfl⟩) ⟨PC.blind, va_recv hK hP (ci := 2) (q0 := 0) rfl rfl, PC.of hPc hK hDc hE hS hFc⟩ rfl rfl hl9.1 rfl (lv_room (Nat.le_of_ble_eq_true rfl)) d_C_weighSets_19 ⟨by first | exact Nat.le_of_ble_eq_true rfl | omega, by first | exact Nat.le_of_ble_eq_true rfl | omega⟩) hS (fun q _ h => hFc q h) hFc (fun r4 u t H3 locs ht hvm hw hB hz1 hk1 hS => ?_)
  have hP := wp_kept hP hk1
  have hw : r4 = wt fO zl zh 0 zf 0 ((b - nn * mm) - 0) := hw
  subst hw
  refine va_iast hx hb hK hP hD hS 3 0 rfl rfl (vp_in_nI (n := 0) (N := 1024) (by decide) (by decide)) d_C_weighSets_22 (fun H locs hP hD hS => ?_)
  have hP : va_P (dC, dI) vwCl [(a0, .inr (2, [.ref aZ, .int zc, .ref aO, .int orr, .int ol, .int mp, .ref aG, .int pl, .int fa, .int fb, .ref aP, .ref aW, .ref aK])), (aO, .inl (cI, 1440, .inl fO)), (aP, .inl (cI, 24, .inl fP)), (aW, .inl (cI, 1024, .inl (upd fW (0 : Int32).toNatClampNeg (wt fO zl zh 0 zf 0 ((b - nn * mm) - 0))))), (aK, .inl (cJ, 1024, .inr (.inl fK))), (za, .inr (1, [.int zh, .int zl, .int zf, .int zp, .int zr, .int (nI b), .int zw, .ref la, .int zs, .ref wa]))] H := hP
  have hD : va_D A [(a0, .inr (2, [.ref aZ, .int zc, .ref aO, .int orr, .int ol, .int mp, .ref aG, .int pl, .int fa, .int fb, .ref aP, .ref aW, .ref aK])), (aO, .inl (cI, 1440, .inl fO)), (aP, .inl (cI, 24, .inl fP)), (aW, .inl (cI, 1024, .inl (upd fW (0 : Int32).toNatClampNeg (wt fO zl zh 0 zf 0 ((b - nn * mm) - 0))))), (aK, .inl (cJ, 1024, .inr (.inl fK))), (za, .inr (1, [.int zh, .int zl, .int zf, .int zp, .int zr, .int (nI b), .int zw, .ref la, .int zs, .ref wa]))] := hD
  refine lv_aload_n hx hb d_C_weighSets_23 rfl (lv_at hl9 0 rfl) ?_
  refine va_get (D := (dC, dI)) (ci := 2) (v := .ref aK) (C := R_C) (T := F_C) (N := 13) hx hb hG i_C hown hK hP 0 rfl rfl 12 (by decide) (hG _ k_34) (fun _ h9 => h9) rfl d_C_weighSets_24 ?_
  refine lv_iconst (v := 0) hx hb d_C_weighSets_27 (by decide) ?_
  refine lv_lconst (v := 0) hx hb d_C_weighSets_28 (by decide) ?_
  refine va_last hx hb hK hP hD hS 4 1 rfl rfl (vp_in_nI (n := 0) (N := 1024) (by decide) (by decide)) d_C_weighSets_29 (fun H locs hP hD hS => ?_)
  have hP : va_P (dC, dI) vwCl [(a0, .inr (2, [.ref aZ, .int zc, .ref aO, .int orr, .int ol, .int mp, .ref aG, .int pl, .int fa, .int fb, .ref aP, .ref aW, .ref aK])), (aO, .inl (cI, 1440, .inl fO)), (aP, .inl (cI, 24, .inl fP)), (aW, .inl (cI, 1024, .inl (upd fW (0 : Int32).toNatClampNeg (wt fO zl zh 0 zf 0 ((b - nn * mm) - 0))))), (aK, .inl (cJ, 1024, .inr (.inl (vp_updL fK (0 : Int32).toNatClampNeg 0)))), (za, .inr (1, [.int zh, .int zl, .int zf, .int zp, .int zr, .int (nI b), .int zw, .ref la, .int zs, .ref wa]))] H := hP
  have hD : va_D A [(a0, .inr (2, [.ref aZ, .int zc, .ref aO, .int orr, .int ol, .int mp, .ref aG, .int pl, .int fa, .int fb, .ref aP, .ref aW, .ref aK])), (aO, .inl (cI, 1440, .inl fO)), (aP, .inl (cI, 24, .inl fP)), (aW, .inl (cI, 1024, .inl (upd fW (0 : Int32).toNatClampNeg (wt fO zl zh 0 zf 0 ((b - nn * mm) - 0))))), (aK, .inl (cJ, 1024, .inr (.inl (vp_updL fK (0 : Int32).toNatClampNeg 0)))), (za, .inr (1, [.int zh, .int zl, .int zf, .int zp, .int zr, .int (nI b), .int zw, .ref la, .int zs, .ref wa]))] := hD
  refine lv_iconst (v := 0) hx hb d_C_weighSets_30 (by decide) ?_
  refine lv_istore (lv' := [(4, .int 0), (0, .ref a0), (1, .ref za), (2, .int (nI nn)), (3, .int (nI mm))]) hx hb d_C_weighSets_31 hl9 (by decide) rfl (fun ls hl9 => ?_)
  have e1 : (upd fW (0 : Int32).toNatClampNeg (wt fO zl zh 0 zf 0 ((b - nn * mm) - 0))) = (wsO fO fP zl zh zp zf b nn mm fW fK 0).1 := by rw [Nat.sub_zero]; rfl
  have e2 : (vp_updL fK (0 : Int32).toNatClampNeg 0) = (wsO fO fP zl zh zp zf b nn mm fW fK 0).2 := rfl
  rw [e1, e2] at hP hD
  have lp : ∀ (n : Nat) (k : Nat), k ≤ nn → nn + 1 ≤ k + n → ∀ (H : Heap) (locs : List Loc) (ls : Array Slot), va_P (dC, dI) vwCl [(a0, .inr (2, [.ref aZ, .int zc, .ref aO, .int orr, .int ol, .int mp, .ref aG, .int pl, .int fa, .int fb, .ref aP, .ref aW, .ref aK])), (aO, .inl (cI, 1440, .inl fO)), (aP, .inl (cI, 24, .inl fP)), (aW, .inl (cI, 1024, .inl ((wsO fO fP zl zh zp zf b nn mm fW fK k).1))), (aK, .inl (cJ, 1024, .inr (.inl ((wsO fO fP zl zh zp zf b nn mm fW fK k).2)))), (za, .inr (1, [.int zh, .int zl, .int zf, .int zp, .int zr, .int (nI b), .int zw, .ref la, .int zs, .ref wa]))] H → va_D A [(a0, .inr (2, [.ref aZ, .int zc, .ref aO, .int orr, .int ol, .int mp, .ref aG, .int pl, .int fa, .int fb, .ref aP, .ref aW, .ref aK])), (aO, .inl (cI, 1440, .inl fO)), (aP, .inl (cI, 24, .inl fP)), (aW, .inl (cI, 1024, .inl ((wsO fO fP zl zh zp zf b nn mm fW fK k).1))), (aK, .inl (cJ, 1024, .inr (.inl ((wsO fO fP zl zh zp zf b nn mm fW fK k).2)))), (za, .inr (1, [.int zh, .int zl, .int zf, .int zp, .int zr, .int (nI b), .int zw, .ref la, .int zs, .ref wa]))] → va_S A s.heap H locs → lv_has ls 12 [(4, .int (nI k)), (0, .ref a0), (1, .ref za), (2, .int (nI nn)), (3, .int (nI mm))] → W p l e (headSpec w_C_weighSets ({ frames := 2, cells := 0, slots := 0, locals := 51 })).room s m ([.ref a0, .ref za, .int (nI nn), .int (nI mm)] : List Value).toArray below meth c H locs 0 0 (MQ below (va_Qv (fun (_ : Unit) => True) (fun (_ : Unit) (t : State) => va_P (dC, dI) vwCl [(a0, .inr (2, [.ref aZ, .int zc, .ref aO, .int orr, .int ol, .int mp, .ref aG, .int pl, .int fa, .int fb, .ref aP, .ref aW, .ref aK])), (aO, .inl (cI, 1440, .inl fO)), (aP, .inl (cI, 24, .inl fP)), (aW, .inl (cI, 1024, .inl ((wsO fO fP zl zh zp zf b nn mm fW fK nn).1))), (aK, .inl (cJ, 1024, .inr (.inl ((wsO fO fP zl zh zp zf b nn mm fW fK nn).2)))), (za, .inr (1, [.int zh, .int zl, .int zf, .int zp, .int zr, .int (nI b), .int zw, .ref la, .int zs, .ref wa]))] t.heap) A) ([.ref a0, .ref za, .int (nI nn), .int (nI mm)] : List Value).toArray s 0 0 A) (F0 m 33 ls []) := by
    intro n
    induction n with
    | zero =>
      intro k hkn hin
      exact absurd hin (by omega)
    | succ n ih =>
      intro k hkn hin H locs ls hP hD hS hl9
      have ih0 := ih
      refine lv_iload hx hb d_C_weighSets_33 (lv_at hl9 0 rfl) ?_
      refine lv_iload_n hx hb d_C_weighSets_35 rfl (lv_at hl9 3 rfl) ?_
      refine lv_icmp_ge (tgt := 175) hx hb d_C_weighSets_36 (by decide) (fun c1 => ?_) (fun c1 => ?_)
      · have e9 : k = nn := by have := ge_of_c (i := k) (b := nn) (by omega) (by omega) c1; omega
        subst e9
        exact W.vret hx hb hr (fun t ht hW => ⟨⟨(), rfl, trivial, by have h9 := hP; rw [← ht] at h9; exact h9⟩, hS.F ht⟩) hS.2.2 d_C_weighSets_175
      · have e9 : k < nn := lt_of_c (by omega) (by omega) c1
        have hp2 : 2 ^ k + 2 ^ k ≤ 1024 := p2_lt (by omega)
        refine lv_aload_n hx hb d_C_weighSets_39 rfl (lv_at hl9 2 rfl) ?_
        refine lv_iload_n hx hb d_C_weighSets_40 rfl (lv_at hl9 3 rfl) ?_
        refine lv_iload hx hb d_C_weighSets_41 (lv_at hl9 0 rfl) ?_
        refine lv_isub hx hb d_C_weighSets_43 ?_
        refine lv_iload_n hx hb d_C_weighSets_44 rfl (lv_at hl9 4 rfl) ?_
        rw [pk_sub (show k ≤ nn by omega)]
        have hPc := hP.sub (ws' := [(za, .inr (1, [.int zh, .int zl, .int zf, .int zp, .int zr, .int (nI b), .int zw, .ref la, .int zs, .ref wa]))]) [5] rfl
        have hDc := hD.sub (ws' := [(za, .inr (1, [.int zh, .int zl, .int zf, .int zp, .int zr, .int (nI b), .int zw, .ref la, .int zs, .ref wa]))]) [5] (by decide) rfl
        have hFc := va_A_nil hA hS.1
        refine va_calli (va_runS (As := [.ref za, .int (nI (nn - k)), .int (nI mm)]) (rest := []) ⟨hx, hb, hml, hown, hG⟩ (c_quarterBegin l dC dI cI cJ cZ cB za la wa zh zl zf zp zr (nI b) zw zs (nI (nn - k)) (nI mm) H.size ) (cwS 3 hG g_C_150 rfl rfl rfl (by decide +kernel) ⟨Nat.le_of_ble_eq_true rfl, Nat.le_of_ble_eq_true rfl⟩) ⟨PC.blind, PC.of hPc hK hDc hE hS hFc⟩ rfl rfl hl9.1 rfl (lv_room (Nat.le_of_ble_eq_true rfl)) d_C_weighSets_45 ⟨by first | exact Nat.le_of_ble_eq_true rfl | omega, by first | exact Nat.le_of_ble_eq_true rfl | omega⟩) hS (fun q _ h => hFc q h) hFc (fun r6 u t H5 locs ht hvm hw hB hz1 hk1 hS => ?_)
        have hP := wp_kept hP hk1
        have hw : r6 = if 0 < (nI b) - (nI (nn - k)) * (nI mm) then (nI b) - (nI (nn - k)) * (nI mm) else 0 := hw
        subst hw
        rw [qb_eq hb1 (by omega) hmm]
        refine lv_istore (lv' := [(5, .int (nI (b - (nn - k) * mm))), (4, .int (nI k)), (0, .ref a0), (1, .ref za), (2, .int (nI nn)), (3, .int (nI mm))]) hx hb d_C_weighSets_48 hl9 (by decide) rfl (fun ls hl9 => ?_)
        refine lv_aload_n hx hb d_C_weighSets_50 rfl (lv_at hl9 3 rfl) ?_
        refine lv_iload_n hx hb d_C_weighSets_51 rfl (lv_at hl9 4 rfl) ?_
        refine lv_iload hx hb d_C_weighSets_52 (lv_at hl9 1 rfl) ?_
        refine lv_isub hx hb d_C_weighSets_54 ?_
        refine lv_iconst (v := 1) hx hb d_C_weighSets_55 (by decide) ?_
        refine lv_isub hx hb d_C_weighSets_56 ?_
        refine lv_iload_n hx hb d_C_weighSets_57 rfl (lv_at hl9 5 rfl) ?_
        rw [pk_sub (show k ≤ nn by omega), sub1 (show 1 ≤ nn - k by omega)]
        have hPc := hP.sub (ws' := [(za, .inr (1, [.int zh, .int zl, .int zf, .int zp, .int zr, .int (nI b), .int zw, .ref la, .int zs, .ref wa]))]) [5] rfl
        have hDc := hD.sub (ws' := [(za, .inr (1, [.int zh, .int zl, .int zf, .int zp, .int zr, .int (nI b), .int zw, .ref la, .int zs, .ref wa]))]) [5] (by decide) rfl
        have hFc := va_A_nil hA hS.1
        refine va_calli (va_runS (As := [.ref za, .int (nI (nn - k - 1)), .int (nI mm)]) (rest := []) ⟨hx, hb, hml, hown, hG⟩ (c_quarterBegin l dC dI cI cJ cZ cB za la wa zh zl zf zp zr (nI b) zw zs (nI (nn - k - 1)) (nI mm) H5.size ) (cwS 3 hG g_C_150 rfl rfl rfl (by decide +kernel) ⟨Nat.le_of_ble_eq_true rfl, Nat.le_of_ble_eq_true rfl⟩) ⟨PC.blind, PC.of hPc hK hDc hE hS hFc⟩ rfl rfl hl9.1 rfl (lv_room (Nat.le_of_ble_eq_true rfl)) d_C_weighSets_58 ⟨by first | exact Nat.le_of_ble_eq_true rfl | omega, by first | exact Nat.le_of_ble_eq_true rfl | omega⟩) hS (fun q _ h => hFc q h) hFc (fun r8 u t H7 locs ht hvm hw hB hz1 hk1 hS => ?_)
        have hP := wp_kept hP hk1
        have hw : r8 = if 0 < (nI b) - (nI (nn - k - 1)) * (nI mm) then (nI b) - (nI (nn - k - 1)) * (nI mm) else 0 := hw
        subst hw
        rw [qb_eq hb1 (by omega) hmm]
        refine lv_istore (lv' := [(6, .int (nI (b - (nn - k - 1) * mm))), (5, .int (nI (b - (nn - k) * mm))), (4, .int (nI k)), (0, .ref a0), (1, .ref za), (2, .int (nI nn)), (3, .int (nI mm))]) hx hb d_C_weighSets_61 hl9 (by decide) rfl (fun ls hl9 => ?_)
        refine lv_aload_n hx hb d_C_weighSets_63 rfl (lv_at hl9 3 rfl) ?_
        refine lv_aload_n hx hb d_C_weighSets_64 rfl (lv_at hl9 4 rfl) ?_
        refine lv_iload hx hb d_C_weighSets_65 (lv_at hl9 1 rfl) ?_
        refine lv_iload hx hb d_C_weighSets_67 (lv_at hl9 0 rfl) ?_
        have hPc := hP.sub (ws' := [(a0, .inr (2, [.ref aZ, .int zc, .ref aO, .int orr, .int ol, .int mp, .ref aG, .int pl, .int fa, .int fb, .ref aP, .ref aW, .ref aK])), (aP, .inl (cI, 24, .inl fP)), (za, .inr (1, [.int zh, .int zl, .int zf, .int zp, .int zr, .int (nI b), .int zw, .ref la, .int zs, .ref wa]))]) [0, 2, 5] rfl
        have hDc := hD.sub (ws' := [(a0, .inr (2, [.ref aZ, .int zc, .ref aO, .int orr, .int ol, .int mp, .ref aG, .int pl, .int fa, .int fb, .ref aP, .ref aW, .ref aK])), (aP, .inl (cI, 24, .inl fP)), (za, .inr (1, [.int zh, .int zl, .int zf, .int zp, .int zr, .int (nI b), .int zw, .ref la, .int zs, .ref wa]))]) [0, 2, 5] (by decide) rfl
        have hFc := va_A_nil hA hS.1
        refine va_calll (va_runV (C := R_C) (As := [.ref za, .int (nI (b - (nn - k) * mm)), .int (nI (b - (nn - k - 1) * mm))]) (rest := []) ⟨hx, hb, hml, hown, hG⟩ (c_costOfMinutes l dC dI cI cJ cZ cB a0 aZ aO aG aP aW aK zc orr ol mp pl fa fb fP za la wa zh zl zf zp zr (nI b) zw zs (b - (nn - k) * mm) (b - (nn - k - 1) * mm) H7.size q_mono (by omega)) (cwV 3 hG g_C_158 rfl rfl rfl (by decide +kernel) ⟨Nat.le_of_ble_eq_true rfl, Nat.le_of_ble_eq_true rfl⟩) ⟨PC.blind, va_recv hK hP (ci := 2) (q0 := 0) rfl rfl, PC.of hPc hK hDc hE hS hFc⟩ rfl rfl hl9.1 rfl (lv_room (Nat.le_of_ble_eq_true rfl)) d_C_weighSets_69 ⟨by first | exact Nat.le_of_ble_eq_true rfl | omega, by first | exact Nat.le_of_ble_eq_true rfl | omega⟩) hS (fun q _ h => hFc q h) hFc (fun r10 u t H9 locs ht hvm hw hB hz1 hk1 hS => ?_)
        have hP := wp_kept hP hk1
        have hw : r10 = cm fP zp (b - (nn - k) * mm) ((b - (nn - k - 1) * mm) - (b - (nn - k) * mm)) := hw
        subst hw
        refine lv_lstore (lv' := [(7, .long (cm fP zp (b - (nn - k) * mm) ((b - (nn - k - 1) * mm) - (b - (nn - k) * mm)))), (6, .int (nI (b - (nn - k - 1) * mm))), (5, .int (nI (b - (nn - k) * mm))), (4, .int (nI k)), (0, .ref a0), (1, .ref za), (2, .int (nI nn)), (3, .int (nI mm))]) hx hb d_C_weighSets_72 hl9 (by decide) rfl (fun ls hl9 => ?_)
        refine lv_iconst (v := 1) hx hb d_C_weighSets_74 (by decide) ?_
        refine lv_iload hx hb d_C_weighSets_75 (lv_at hl9 3 rfl) ?_
        refine lv_ishl hx hb d_C_weighSets_77 ?_
        rw [shl1 (show k ≤ 10 by omega)]
        refine lv_istore (lv' := [(9, .int (nI (2 ^ k))), (7, .long (cm fP zp (b - (nn - k) * mm) ((b - (nn - k - 1) * mm) - (b - (nn - k) * mm)))), (6, .int (nI (b - (nn - k - 1) * mm))), (5, .int (nI (b - (nn - k) * mm))), (4, .int (nI k)), (0, .ref a0), (1, .ref za), (2, .int (nI nn)), (3, .int (nI mm))]) hx hb d_C_weighSets_78 hl9 (by decide) rfl (fun ls hl9 => ?_)
        refine lv_iconst (v := 0) hx hb d_C_weighSets_80 (by decide) ?_
        refine lv_istore (lv' := [(10, .int 0), (9, .int (nI (2 ^ k))), (7, .long (cm fP zp (b - (nn - k) * mm) ((b - (nn - k - 1) * mm) - (b - (nn - k) * mm)))), (6, .int (nI (b - (nn - k - 1) * mm))), (5, .int (nI (b - (nn - k) * mm))), (4, .int (nI k)), (0, .ref a0), (1, .ref za), (2, .int (nI nn)), (3, .int (nI mm))]) hx hb d_C_weighSets_81 hl9 (by decide) rfl (fun ls hl9 => ?_)
        have lp2 : ∀ (n : Nat) (j : Nat), j ≤ 2 ^ k → 2 ^ k + 1 ≤ j + n → ∀ (H : Heap) (locs : List Loc) (ls : Array Slot), va_P (dC, dI) vwCl [(a0, .inr (2, [.ref aZ, .int zc, .ref aO, .int orr, .int ol, .int mp, .ref aG, .int pl, .int fa, .int fb, .ref aP, .ref aW, .ref aK])), (aO, .inl (cI, 1440, .inl fO)), (aP, .inl (cI, 24, .inl fP)), (aW, .inl (cI, 1024, .inl ((wsI (fun x => wt fO zl zh zp x (b - (nn - k) * mm) ((b - (nn - k - 1) * mm) - (b - (nn - k) * mm))) (fun x => wt fO zl zh 0 x (b - (nn - k) * mm) ((b - (nn - k - 1) * mm) - (b - (nn - k) * mm))) (cm fP zp (b - (nn - k) * mm) ((b - (nn - k - 1) * mm) - (b - (nn - k) * mm))) (2 ^ k) (wsO fO fP zl zh zp zf b nn mm fW fK k).1 (wsO fO fP zl zh zp zf b nn mm fW fK k).2 j).1))), (aK, .inl (cJ, 1024, .inr (.inl ((wsI (fun x => wt fO zl zh zp x (b - (nn - k) * mm) ((b - (nn - k - 1) * mm) - (b - (nn - k) * mm))) (fun x => wt fO zl zh 0 x (b - (nn - k) * mm) ((b - (nn - k - 1) * mm) - (b - (nn - k) * mm))) (cm fP zp (b - (nn - k) * mm) ((b - (nn - k - 1) * mm) - (b - (nn - k) * mm))) (2 ^ k) (wsO fO fP zl zh zp zf b nn mm fW fK k).1 (wsO fO fP zl zh zp zf b nn mm fW fK k).2 j).2)))), (za, .inr (1, [.int zh, .int zl, .int zf, .int zp, .int zr, .int (nI b), .int zw, .ref la, .int zs, .ref wa]))] H → va_D A [(a0, .inr (2, [.ref aZ, .int zc, .ref aO, .int orr, .int ol, .int mp, .ref aG, .int pl, .int fa, .int fb, .ref aP, .ref aW, .ref aK])), (aO, .inl (cI, 1440, .inl fO)), (aP, .inl (cI, 24, .inl fP)), (aW, .inl (cI, 1024, .inl ((wsI (fun x => wt fO zl zh zp x (b - (nn - k) * mm) ((b - (nn - k - 1) * mm) - (b - (nn - k) * mm))) (fun x => wt fO zl zh 0 x (b - (nn - k) * mm) ((b - (nn - k - 1) * mm) - (b - (nn - k) * mm))) (cm fP zp (b - (nn - k) * mm) ((b - (nn - k - 1) * mm) - (b - (nn - k) * mm))) (2 ^ k) (wsO fO fP zl zh zp zf b nn mm fW fK k).1 (wsO fO fP zl zh zp zf b nn mm fW fK k).2 j).1))), (aK, .inl (cJ, 1024, .inr (.inl ((wsI (fun x => wt fO zl zh zp x (b - (nn - k) * mm) ((b - (nn - k - 1) * mm) - (b - (nn - k) * mm))) (fun x => wt fO zl zh 0 x (b - (nn - k) * mm) ((b - (nn - k - 1) * mm) - (b - (nn - k) * mm))) (cm fP zp (b - (nn - k) * mm) ((b - (nn - k - 1) * mm) - (b - (nn - k) * mm))) (2 ^ k) (wsO fO fP zl zh zp zf b nn mm fW fK k).1 (wsO fO fP zl zh zp zf b nn mm fW fK k).2 j).2)))), (za, .inr (1, [.int zh, .int zl, .int zf, .int zp, .int zr, .int (nI b), .int zw, .ref la, .int zs, .ref wa]))] → va_S A s.heap H locs → lv_has ls 12 [(10, .int (nI j)), (9, .int (nI (2 ^ k))), (7, .long (cm fP zp (b - (nn - k) * mm) ((b - (nn - k - 1) * mm) - (b - (nn - k) * mm)))), (6, .int (nI (b - (nn - k - 1) * mm))), (5, .int (nI (b - (nn - k) * mm))), (4, .int (nI k)), (0, .ref a0), (1, .ref za), (2, .int (nI nn)), (3, .int (nI mm))] → W p l e (headSpec w_C_weighSets ({ frames := 2, cells := 0, slots := 0, locals := 51 })).room s m ([.ref a0, .ref za, .int (nI nn), .int (nI mm)] : List Value).toArray below meth c H locs 0 0 (MQ below (va_Qv (fun (_ : Unit) => True) (fun (_ : Unit) (t : State) => va_P (dC, dI) vwCl [(a0, .inr (2, [.ref aZ, .int zc, .ref aO, .int orr, .int ol, .int mp, .ref aG, .int pl, .int fa, .int fb, .ref aP, .ref aW, .ref aK])), (aO, .inl (cI, 1440, .inl fO)), (aP, .inl (cI, 24, .inl fP)), (aW, .inl (cI, 1024, .inl ((wsO fO fP zl zh zp zf b nn mm fW fK nn).1))), (aK, .inl (cJ, 1024, .inr (.inl ((wsO fO fP zl zh zp zf b nn mm fW fK nn).2)))), (za, .inr (1, [.int zh, .int zl, .int zf, .int zp, .int zr, .int (nI b), .int zw, .ref la, .int zs, .ref wa]))] t.heap) A) ([.ref a0, .ref za, .int (nI nn), .int (nI mm)] : List Value).toArray s 0 0 A) (F0 m 83 ls []) := by
          intro n
          induction n with
          | zero =>
            intro j hj hin2
            exact absurd hin2 (by omega)
          | succ n ih =>
            intro j hj hin2 H locs ls hP hD hS hl9
            refine lv_iload hx hb d_C_weighSets_83 (lv_at hl9 0 rfl) ?_
            refine lv_iload hx hb d_C_weighSets_85 (lv_at hl9 1 rfl) ?_
            refine lv_icmp_ge (tgt := 169) hx hb d_C_weighSets_87 (by decide) (fun c2 => ?_) (fun c2 => ?_)
            · have e8 : j = 2 ^ k := by have := ge_of_c (i := j) (b := 2 ^ k) (by omega) (by omega) c2; omega
              have e7 : wsI (fun x => wt fO zl zh zp x (b - (nn - k) * mm) ((b - (nn - k - 1) * mm) - (b - (nn - k) * mm))) (fun x => wt fO zl zh 0 x (b - (nn - k) * mm) ((b - (nn - k - 1) * mm) - (b - (nn - k) * mm))) (cm fP zp (b - (nn - k) * mm) ((b - (nn - k - 1) * mm) - (b - (nn - k) * mm))) (2 ^ k) (wsO fO fP zl zh zp zf b nn mm fW fK k).1 (wsO fO fP zl zh zp zf b nn mm fW fK k).2 j = wsO fO fP zl zh zp zf b nn mm fW fK (k + 1) := by rw [e8]; rfl
              rw [e7] at hP hD
              refine lv_iinc (v := ((nI k) + 1)) (lv' := [(4, .int ((nI k) + 1)), (10, .int (nI j)), (9, .int (nI (2 ^ k))), (7, .long (cm fP zp (b - (nn - k) * mm) ((b - (nn - k - 1) * mm) - (b - (nn - k) * mm)))), (6, .int (nI (b - (nn - k - 1) * mm))), (5, .int (nI (b - (nn - k) * mm))), (0, .ref a0), (1, .ref za), (2, .int (nI nn)), (3, .int (nI mm))]) hx hb d_C_weighSets_169 hl9 (k := 5) rfl rfl (by decide) rfl (fun ls hl9 => ?_)
              refine lv_goto (tgt := 33) hx hb d_C_weighSets_172 (by decide) ?_
              rw [nI_1] at hl9
              exact ih0 (k + 1) (by omega) (by omega) _ _ ls hP hD hS (lv_sub hl9 [0, 6, 7, 8, 9] rfl)
            · have e8 : j < 2 ^ k := lt_of_c (by omega) (by omega) c2
              have hi1 : vp_in (nI j) 1024 := vp_in_nI (by omega) (by omega)
              have hi2 : vp_in (nI j + nI (2 ^ k)) 1024 := by rw [nI_add]; exact vp_in_nI (by omega) (by omega)
              refine lv_aload_n hx hb d_C_weighSets_90 rfl (lv_at hl9 6 rfl) ?_
              refine va_get (D := (dC, dI)) (ci := 2) (v := .ref aW) (C := R_C) (T := F_C) (N := 13) hx hb hG i_C hown hK hP 0 rfl rfl 11 (by decide) (hG _ k_33) (fun _ h9 => h9) rfl d_C_weighSets_91 ?_
              refine lv_iload hx hb d_C_weighSets_94 (lv_at hl9 0 rfl) ?_
              refine va_iald hx hb hK hP 3 0 rfl rfl (hi1) d_C_weighSets_96 ?_
              rw [nI_clamp (n := j) (by omega)]
              refine lv_istore (lv' := [(11, .int ((wsI (fun x => wt fO zl zh zp x (b - (nn - k) * mm) ((b - (nn - k - 1) * mm) - (b - (nn - k) * mm))) (fun x => wt fO zl zh 0 x (b - (nn - k) * mm) ((b - (nn - k - 1) * mm) - (b - (nn - k) * mm))) (cm fP zp (b - (nn - k) * mm) ((b - (nn - k - 1) * mm) - (b - (nn - k) * mm))) (2 ^ k) (wsO fO fP zl zh zp zf b nn mm fW fK k).1 (wsO fO fP zl zh zp zf b nn mm fW fK k).2 j).1 j)), (10, .int (nI j)), (9, .int (nI (2 ^ k))), (7, .long (cm fP zp (b - (nn - k) * mm) ((b - (nn - k - 1) * mm) - (b - (nn - k) * mm)))), (6, .int (nI (b - (nn - k - 1) * mm))), (5, .int (nI (b - (nn - k) * mm))), (4, .int (nI k)), (0, .ref a0), (1, .ref za), (2, .int (nI nn)), (3, .int (nI mm))]) hx hb d_C_weighSets_97 hl9 (by decide) rfl (fun ls hl9 => ?_)
              refine lv_aload_n hx hb d_C_weighSets_99 rfl (lv_at hl9 7 rfl) ?_
              refine va_get (D := (dC, dI)) (ci := 2) (v := .ref aW) (C := R_C) (T := F_C) (N := 13) hx hb hG i_C hown hK hP 0 rfl rfl 11 (by decide) (hG _ k_33) (fun _ h9 => h9) rfl d_C_weighSets_100 ?_
              refine lv_iload hx hb d_C_weighSets_103 (lv_at hl9 1 rfl) ?_
              refine lv_iload hx hb d_C_weighSets_105 (lv_at hl9 2 rfl) ?_
              refine lv_iadd hx hb d_C_weighSets_107 ?_
              refine lv_aload_n hx hb d_C_weighSets_108 rfl (lv_at hl9 7 rfl) ?_
              refine lv_aload_n hx hb d_C_weighSets_109 rfl (lv_at hl9 8 rfl) ?_
              refine lv_iload hx hb d_C_weighSets_110 (lv_at hl9 0 rfl) ?_
              refine lv_iload hx hb d_C_weighSets_112 (lv_at hl9 5 rfl) ?_
              refine lv_iload hx hb d_C_weighSets_114 (lv_at hl9 4 rfl) ?_
              refine lv_aload_n hx hb d_C_weighSets_116 rfl (lv_at hl9 8 rfl) ?_
              refine va_getN (D := (dC, dI)) (ci := 1) (v := .int zp) (C := R_Z) (T := F_Z) (N := 10) hx hb hG i_Z hown hK hP 5 rfl rfl 3 (by decide) (hE.1.use k_186) (fun _ h9 => h9) rfl d_C_weighSets_117 ?_
              have hPc := hP.sub (ws' := [(a0, .inr (2, [.ref aZ, .int zc, .ref aO, .int orr, .int ol, .int mp, .ref aG, .int pl, .int fa, .int fb, .ref aP, .ref aW, .ref aK])), (aO, .inl (cI, 1440, .inl fO)), (za, .inr (1, [.int zh, .int zl, .int zf, .int zp, .int zr, .int (nI b), .int zw, .ref la, .int zs, .ref wa]))]) [0, 1, 5] rfl
              have hDc := hD.sub (ws' := [(a0, .inr (2, [.ref aZ, .int zc, .ref aO, .int orr, .int ol, .int mp, .ref aG, .int pl, .int fa, .int fb, .ref aP, .ref aW, .ref aK])), (aO, .inl (cI, 1440, .inl fO)), (za, .inr (1, [.int zh, .int zl, .int zf, .int zp, .int zr, .int (nI b), .int zw, .ref la, .int zs, .ref wa]))]) [0, 1, 5] (by decide) rfl
              have hFc := va_A_nil hA hS.1
              refine va_calli (va_runV (C := R_C) (As := [.ref za, .int ((wsI (fun x => wt fO zl zh zp x (b - (nn - k) * mm) ((b - (nn - k - 1) * mm) - (b - (nn - k) * mm))) (fun x => wt fO zl zh 0 x (b - (nn - k) * mm) ((b - (nn - k - 1) * mm) - (b - (nn - k) * mm))) (cm fP zp (b - (nn - k) * mm) ((b - (nn - k - 1) * mm) - (b - (nn - k) * mm))) (2 ^ k) (wsO fO fP zl zh zp zf b nn mm fW fK k).1 (wsO fO fP zl zh zp zf b nn mm fW fK k).2 j).1 j), .int (nI (b - (nn - k) * mm)), .int (nI (b - (nn - k - 1) * mm)), .int zp]) (rest := [.int ((nI j) + (nI (2 ^ k))), .ref aW]) ⟨hx, hb, hml, hown, hG⟩ (c_warmthThrough l dC dI cI cJ cZ cB a0 aZ aO aG aP aW aK zc orr ol mp pl fa fb fO za la wa zh zl zf zp zr (nI b) zw zs ((wsI (fun x => wt fO zl zh zp x (b - (nn - k) * mm) ((b - (nn - k - 1) * mm) - (b - (nn - k) * mm))) (fun x => wt fO zl zh 0 x (b - (nn - k) * mm) ((b - (nn - k - 1) * mm) - (b - (nn - k) * mm))) (cm fP zp (b - (nn - k) * mm) ((b - (nn - k - 1) * mm) - (b - (nn - k) * mm))) (2 ^ k) (wsO fO fP zl zh zp zf b nn mm fW fK k).1 (wsO fO fP zl zh zp zf b nn mm fW fK k).2 j).1 j) zp (b - (nn - k) * mm) (b - (nn - k - 1) * mm) H.size q_mono (by omega) hzl hzh) (cwV 5 hG g_C_154 rfl rfl rfl (by decide +kernel) ⟨Nat.le_of_ble_eq_true rfl, Nat.le_of_ble_eq_true rfl⟩) ⟨PC.blind, va_recv hK hP (ci := 2) (q0 := 0) rfl rfl, PC.of hPc hK hDc hE hS hFc⟩ rfl rfl hl9.1 rfl (lv_room (Nat.le_of_ble_eq_true rfl)) d_C_weighSets_120 ⟨by first | exact Nat.le_of_ble_eq_true rfl | omega, by first | exact Nat.le_of_ble_eq_true rfl | omega⟩) hS (fun q _ h => hFc q h) hFc (fun r12 u t H11 locs ht hvm hw hB hz1 hk1 hS => ?_)
              have hP := wp_kept hP hk1
              have hw : r12 = wt fO zl zh zp ((wsI (fun x => wt fO zl zh zp x (b - (nn - k) * mm) ((b - (nn - k - 1) * mm) - (b - (nn - k) * mm))) (fun x => wt fO zl zh 0 x (b - (nn - k) * mm) ((b - (nn - k - 1) * mm) - (b - (nn - k) * mm))) (cm fP zp (b - (nn - k) * mm) ((b - (nn - k - 1) * mm) - (b - (nn - k) * mm))) (2 ^ k) (wsO fO fP zl zh zp zf b nn mm fW fK k).1 (wsO fO fP zl zh zp zf b nn mm fW fK k).2 j).1 j) (b - (nn - k) * mm) ((b - (nn - k - 1) * mm) - (b - (nn - k) * mm)) := hw
              subst hw
              refine va_iast hx hb hK hP hD hS 3 0 rfl rfl (hi2) d_C_weighSets_123 (fun H locs hP hD hS => ?_)
              have hP : va_P (dC, dI) vwCl [(a0, .inr (2, [.ref aZ, .int zc, .ref aO, .int orr, .int ol, .int mp, .ref aG, .int pl, .int fa, .int fb, .ref aP, .ref aW, .ref aK])), (aO, .inl (cI, 1440, .inl fO)), (aP, .inl (cI, 24, .inl fP)), (aW, .inl (cI, 1024, .inl (upd ((wsI (fun x => wt fO zl zh zp x (b - (nn - k) * mm) ((b - (nn - k - 1) * mm) - (b - (nn - k) * mm))) (fun x => wt fO zl zh 0 x (b - (nn - k) * mm) ((b - (nn - k - 1) * mm) - (b - (nn - k) * mm))) (cm fP zp (b - (nn - k) * mm) ((b - (nn - k - 1) * mm) - (b - (nn - k) * mm))) (2 ^ k) (wsO fO fP zl zh zp zf b nn mm fW fK k).1 (wsO fO fP zl zh zp zf b nn mm fW fK k).2 j).1) ((nI j) + (nI (2 ^ k))).toNatClampNeg (wt fO zl zh zp ((wsI (fun x => wt fO zl zh zp x (b - (nn - k) * mm) ((b - (nn - k - 1) * mm) - (b - (nn - k) * mm))) (fun x => wt fO zl zh 0 x (b - (nn - k) * mm) ((b - (nn - k - 1) * mm) - (b - (nn - k) * mm))) (cm fP zp (b - (nn - k) * mm) ((b - (nn - k - 1) * mm) - (b - (nn - k) * mm))) (2 ^ k) (wsO fO fP zl zh zp zf b nn mm fW fK k).1 (wsO fO fP zl zh zp zf b nn mm fW fK k).2 j).1 j) (b - (nn - k) * mm) ((b - (nn - k - 1) * mm) - (b - (nn - k) * mm)))))), (aK, .inl (cJ, 1024, .inr (.inl ((wsI (fun x => wt fO zl zh zp x (b - (nn - k) * mm) ((b - (nn - k - 1) * mm) - (b - (nn - k) * mm))) (fun x => wt fO zl zh 0 x (b - (nn - k) * mm) ((b - (nn - k - 1) * mm) - (b - (nn - k) * mm))) (cm fP zp (b - (nn - k) * mm) ((b - (nn - k - 1) * mm) - (b - (nn - k) * mm))) (2 ^ k) (wsO fO fP zl zh zp zf b nn mm fW fK k).1 (wsO fO fP zl zh zp zf b nn mm fW fK k).2 j).2)))), (za, .inr (1, [.int zh, .int zl, .int zf, .int zp, .int zr, .int (nI b), .int zw, .ref la, .int zs, .ref wa]))] H := hP
              have hD : va_D A [(a0, .inr (2, [.ref aZ, .int zc, .ref aO, .int orr, .int ol, .int mp, .ref aG, .int pl, .int fa, .int fb, .ref aP, .ref aW, .ref aK])), (aO, .inl (cI, 1440, .inl fO)), (aP, .inl (cI, 24, .inl fP)), (aW, .inl (cI, 1024, .inl (upd ((wsI (fun x => wt fO zl zh zp x (b - (nn - k) * mm) ((b - (nn - k - 1) * mm) - (b - (nn - k) * mm))) (fun x => wt fO zl zh 0 x (b - (nn - k) * mm) ((b - (nn - k - 1) * mm) - (b - (nn - k) * mm))) (cm fP zp (b - (nn - k) * mm) ((b - (nn - k - 1) * mm) - (b - (nn - k) * mm))) (2 ^ k) (wsO fO fP zl zh zp zf b nn mm fW fK k).1 (wsO fO fP zl zh zp zf b nn mm fW fK k).2 j).1) ((nI j) + (nI (2 ^ k))).toNatClampNeg (wt fO zl zh zp ((wsI (fun x => wt fO zl zh zp x (b - (nn - k) * mm) ((b - (nn - k - 1) * mm) - (b - (nn - k) * mm))) (fun x => wt fO zl zh 0 x (b - (nn - k) * mm) ((b - (nn - k - 1) * mm) - (b - (nn - k) * mm))) (cm fP zp (b - (nn - k) * mm) ((b - (nn - k - 1) * mm) - (b - (nn - k) * mm))) (2 ^ k) (wsO fO fP zl zh zp zf b nn mm fW fK k).1 (wsO fO fP zl zh zp zf b nn mm fW fK k).2 j).1 j) (b - (nn - k) * mm) ((b - (nn - k - 1) * mm) - (b - (nn - k) * mm)))))), (aK, .inl (cJ, 1024, .inr (.inl ((wsI (fun x => wt fO zl zh zp x (b - (nn - k) * mm) ((b - (nn - k - 1) * mm) - (b - (nn - k) * mm))) (fun x => wt fO zl zh 0 x (b - (nn - k) * mm) ((b - (nn - k - 1) * mm) - (b - (nn - k) * mm))) (cm fP zp (b - (nn - k) * mm) ((b - (nn - k - 1) * mm) - (b - (nn - k) * mm))) (2 ^ k) (wsO fO fP zl zh zp zf b nn mm fW fK k).1 (wsO fO fP zl zh zp zf b nn mm fW fK k).2 j).2)))), (za, .inr (1, [.int zh, .int zl, .int zf, .int zp, .int zr, .int (nI b), .int zw, .ref la, .int zs, .ref wa]))] := hD
              refine lv_aload_n hx hb d_C_weighSets_124 rfl (lv_at hl9 7 rfl) ?_
              refine va_get (D := (dC, dI)) (ci := 2) (v := .ref aK) (C := R_C) (T := F_C) (N := 13) hx hb hG i_C hown hK hP 0 rfl rfl 12 (by decide) (hG _ k_34) (fun _ h9 => h9) rfl d_C_weighSets_125 ?_
              refine lv_iload hx hb d_C_weighSets_128 (lv_at hl9 1 rfl) ?_
              refine lv_iload hx hb d_C_weighSets_130 (lv_at hl9 2 rfl) ?_
              refine lv_iadd hx hb d_C_weighSets_132 ?_
              refine lv_aload_n hx hb d_C_weighSets_133 rfl (lv_at hl9 7 rfl) ?_
              refine va_get (D := (dC, dI)) (ci := 2) (v := .ref aK) (C := R_C) (T := F_C) (N := 13) hx hb hG i_C hown hK hP 0 rfl rfl 12 (by decide) (hG _ k_34) (fun _ h9 => h9) rfl d_C_weighSets_134 ?_
              refine lv_iload hx hb d_C_weighSets_137 (lv_at hl9 1 rfl) ?_
              refine va_lald hx hb hK hP 4 1 rfl rfl (hi1) d_C_weighSets_139 ?_
              refine lv_lload hx hb d_C_weighSets_140 (lv_at hl9 3 rfl) ?_
              refine lv_ladd hx hb d_C_weighSets_142 ?_
              refine va_last hx hb hK hP hD hS 4 1 rfl rfl (hi2) d_C_weighSets_143 (fun H locs hP hD hS => ?_)
              have hP : va_P (dC, dI) vwCl [(a0, .inr (2, [.ref aZ, .int zc, .ref aO, .int orr, .int ol, .int mp, .ref aG, .int pl, .int fa, .int fb, .ref aP, .ref aW, .ref aK])), (aO, .inl (cI, 1440, .inl fO)), (aP, .inl (cI, 24, .inl fP)), (aW, .inl (cI, 1024, .inl (upd ((wsI (fun x => wt fO zl zh zp x (b - (nn - k) * mm) ((b - (nn - k - 1) * mm) - (b - (nn - k) * mm))) (fun x => wt fO zl zh 0 x (b - (nn - k) * mm) ((b - (nn - k - 1) * mm) - (b - (nn - k) * mm))) (cm fP zp (b - (nn - k) * mm) ((b - (nn - k - 1) * mm) - (b - (nn - k) * mm))) (2 ^ k) (wsO fO fP zl zh zp zf b nn mm fW fK k).1 (wsO fO fP zl zh zp zf b nn mm fW fK k).2 j).1) ((nI j) + (nI (2 ^ k))).toNatClampNeg (wt fO zl zh zp ((wsI (fun x => wt fO zl zh zp x (b - (nn - k) * mm) ((b - (nn - k - 1) * mm) - (b - (nn - k) * mm))) (fun x => wt fO zl zh 0 x (b - (nn - k) * mm) ((b - (nn - k - 1) * mm) - (b - (nn - k) * mm))) (cm fP zp (b - (nn - k) * mm) ((b - (nn - k - 1) * mm) - (b - (nn - k) * mm))) (2 ^ k) (wsO fO fP zl zh zp zf b nn mm fW fK k).1 (wsO fO fP zl zh zp zf b nn mm fW fK k).2 j).1 j) (b - (nn - k) * mm) ((b - (nn - k - 1) * mm) - (b - (nn - k) * mm)))))), (aK, .inl (cJ, 1024, .inr (.inl (vp_updL ((wsI (fun x => wt fO zl zh zp x (b - (nn - k) * mm) ((b - (nn - k - 1) * mm) - (b - (nn - k) * mm))) (fun x => wt fO zl zh 0 x (b - (nn - k) * mm) ((b - (nn - k - 1) * mm) - (b - (nn - k) * mm))) (cm fP zp (b - (nn - k) * mm) ((b - (nn - k - 1) * mm) - (b - (nn - k) * mm))) (2 ^ k) (wsO fO fP zl zh zp zf b nn mm fW fK k).1 (wsO fO fP zl zh zp zf b nn mm fW fK k).2 j).2) ((nI j) + (nI (2 ^ k))).toNatClampNeg ((((wsI (fun x => wt fO zl zh zp x (b - (nn - k) * mm) ((b - (nn - k - 1) * mm) - (b - (nn - k) * mm))) (fun x => wt fO zl zh 0 x (b - (nn - k) * mm) ((b - (nn - k - 1) * mm) - (b - (nn - k) * mm))) (cm fP zp (b - (nn - k) * mm) ((b - (nn - k - 1) * mm) - (b - (nn - k) * mm))) (2 ^ k) (wsO fO fP zl zh zp zf b nn mm fW fK k).1 (wsO fO fP zl zh zp zf b nn mm fW fK k).2 j).2) (nI j).toNatClampNeg) + (cm fP zp (b - (nn - k) * mm) ((b - (nn - k - 1) * mm) - (b - (nn - k) * mm)))))))), (za, .inr (1, [.int zh, .int zl, .int zf, .int zp, .int zr, .int (nI b), .int zw, .ref la, .int zs, .ref wa]))] H := hP
              have hD : va_D A [(a0, .inr (2, [.ref aZ, .int zc, .ref aO, .int orr, .int ol, .int mp, .ref aG, .int pl, .int fa, .int fb, .ref aP, .ref aW, .ref aK])), (aO, .inl (cI, 1440, .inl fO)), (aP, .inl (cI, 24, .inl fP)), (aW, .inl (cI, 1024, .inl (upd ((wsI (fun x => wt fO zl zh zp x (b - (nn - k) * mm) ((b - (nn - k - 1) * mm) - (b - (nn - k) * mm))) (fun x => wt fO zl zh 0 x (b - (nn - k) * mm) ((b - (nn - k - 1) * mm) - (b - (nn - k) * mm))) (cm fP zp (b - (nn - k) * mm) ((b - (nn - k - 1) * mm) - (b - (nn - k) * mm))) (2 ^ k) (wsO fO fP zl zh zp zf b nn mm fW fK k).1 (wsO fO fP zl zh zp zf b nn mm fW fK k).2 j).1) ((nI j) + (nI (2 ^ k))).toNatClampNeg (wt fO zl zh zp ((wsI (fun x => wt fO zl zh zp x (b - (nn - k) * mm) ((b - (nn - k - 1) * mm) - (b - (nn - k) * mm))) (fun x => wt fO zl zh 0 x (b - (nn - k) * mm) ((b - (nn - k - 1) * mm) - (b - (nn - k) * mm))) (cm fP zp (b - (nn - k) * mm) ((b - (nn - k - 1) * mm) - (b - (nn - k) * mm))) (2 ^ k) (wsO fO fP zl zh zp zf b nn mm fW fK k).1 (wsO fO fP zl zh zp zf b nn mm fW fK k).2 j).1 j) (b - (nn - k) * mm) ((b - (nn - k - 1) * mm) - (b - (nn - k) * mm)))))), (aK, .inl (cJ, 1024, .inr (.inl (vp_updL ((wsI (fun x => wt fO zl zh zp x (b - (nn - k) * mm) ((b - (nn - k - 1) * mm) - (b - (nn - k) * mm))) (fun x => wt fO zl zh 0 x (b - (nn - k) * mm) ((b - (nn - k - 1) * mm) - (b - (nn - k) * mm))) (cm fP zp (b - (nn - k) * mm) ((b - (nn - k - 1) * mm) - (b - (nn - k) * mm))) (2 ^ k) (wsO fO fP zl zh zp zf b nn mm fW fK k).1 (wsO fO fP zl zh zp zf b nn mm fW fK k).2 j).2) ((nI j) + (nI (2 ^ k))).toNatClampNeg ((((wsI (fun x => wt fO zl zh zp x (b - (nn - k) * mm) ((b - (nn - k - 1) * mm) - (b - (nn - k) * mm))) (fun x => wt fO zl zh 0 x (b - (nn - k) * mm) ((b - (nn - k - 1) * mm) - (b - (nn - k) * mm))) (cm fP zp (b - (nn - k) * mm) ((b - (nn - k - 1) * mm) - (b - (nn - k) * mm))) (2 ^ k) (wsO fO fP zl zh zp zf b nn mm fW fK k).1 (wsO fO fP zl zh zp zf b nn mm fW fK k).2 j).2) (nI j).toNatClampNeg) + (cm fP zp (b - (nn - k) * mm) ((b - (nn - k - 1) * mm) - (b - (nn - k) * mm)))))))), (za, .inr (1, [.int zh, .int zl, .int zf, .int zp, .int zr, .int (nI b), .int zw, .ref la, .int zs, .ref wa]))] := hD
              refine lv_aload_n hx hb d_C_weighSets_144 rfl (lv_at hl9 7 rfl) ?_
              refine va_get (D := (dC, dI)) (ci := 2) (v := .ref aW) (C := R_C) (T := F_C) (N := 13) hx hb hG i_C hown hK hP 0 rfl rfl 11 (by decide) (hG _ k_33) (fun _ h9 => h9) rfl d_C_weighSets_145 ?_
              refine lv_iload hx hb d_C_weighSets_148 (lv_at hl9 1 rfl) ?_
              refine lv_aload_n hx hb d_C_weighSets_150 rfl (lv_at hl9 7 rfl) ?_
              refine lv_aload_n hx hb d_C_weighSets_151 rfl (lv_at hl9 8 rfl) ?_
              refine lv_iload hx hb d_C_weighSets_152 (lv_at hl9 0 rfl) ?_
              refine lv_iload hx hb d_C_weighSets_154 (lv_at hl9 5 rfl) ?_
              refine lv_iload hx hb d_C_weighSets_156 (lv_at hl9 4 rfl) ?_
              refine lv_iconst (v := 0) hx hb d_C_weighSets_158 (by decide) ?_
              have hPc := hP.sub (ws' := [(a0, .inr (2, [.ref aZ, .int zc, .ref aO, .int orr, .int ol, .int mp, .ref aG, .int pl, .int fa, .int fb, .ref aP, .ref aW, .ref aK])), (aO, .inl (cI, 1440, .inl fO)), (za, .inr (1, [.int zh, .int zl, .int zf, .int zp, .int zr, .int (nI b), .int zw, .ref la, .int zs, .ref wa]))]) [0, 1, 5] rfl
              have hDc := hD.sub (ws' := [(a0, .inr (2, [.ref aZ, .int zc, .ref aO, .int orr, .int ol, .int mp, .ref aG, .int pl, .int fa, .int fb, .ref aP, .ref aW, .ref aK])), (aO, .inl (cI, 1440, .inl fO)), (za, .inr (1, [.int zh, .int zl, .int zf, .int zp, .int zr, .int (nI b), .int zw, .ref la, .int zs, .ref wa]))]) [0, 1, 5] (by decide) rfl
              have hFc := va_A_nil hA hS.1
              refine va_calli (va_runV (C := R_C) (As := [.ref za, .int ((wsI (fun x => wt fO zl zh zp x (b - (nn - k) * mm) ((b - (nn - k - 1) * mm) - (b - (nn - k) * mm))) (fun x => wt fO zl zh 0 x (b - (nn - k) * mm) ((b - (nn - k - 1) * mm) - (b - (nn - k) * mm))) (cm fP zp (b - (nn - k) * mm) ((b - (nn - k - 1) * mm) - (b - (nn - k) * mm))) (2 ^ k) (wsO fO fP zl zh zp zf b nn mm fW fK k).1 (wsO fO fP zl zh zp zf b nn mm fW fK k).2 j).1 j), .int (nI (b - (nn - k) * mm)), .int (nI (b - (nn - k - 1) * mm)), .int 0]) (rest := [.int (nI j), .ref aW]) ⟨hx, hb, hml, hown, hG⟩ (c_warmthThrough l dC dI cI cJ cZ cB a0 aZ aO aG aP aW aK zc orr ol mp pl fa fb fO za la wa zh zl zf zp zr (nI b) zw zs ((wsI (fun x => wt fO zl zh zp x (b - (nn - k) * mm) ((b - (nn - k - 1) * mm) - (b - (nn - k) * mm))) (fun x => wt fO zl zh 0 x (b - (nn - k) * mm) ((b - (nn - k - 1) * mm) - (b - (nn - k) * mm))) (cm fP zp (b - (nn - k) * mm) ((b - (nn - k - 1) * mm) - (b - (nn - k) * mm))) (2 ^ k) (wsO fO fP zl zh zp zf b nn mm fW fK k).1 (wsO fO fP zl zh zp zf b nn mm fW fK k).2 j).1 j) 0 (b - (nn - k) * mm) (b - (nn - k - 1) * mm) H.size q_mono (by omega) hzl hzh) (cwV 5 hG g_C_154 rfl rfl rfl (by decide +kernel) ⟨Nat.le_of_ble_eq_true rfl, Nat.le_of_ble_eq_true rfl⟩) ⟨PC.blind, va_recv hK hP (ci := 2) (q0 := 0) rfl rfl, PC.of hPc hK hDc hE hS hFc⟩ rfl rfl hl9.1 rfl (lv_room (Nat.le_of_ble_eq_true rfl)) d_C_weighSets_159 ⟨by first | exact Nat.le_of_ble_eq_true rfl | omega, by first | exact Nat.le_of_ble_eq_true rfl | omega⟩) hS (fun q _ h => hFc q h) hFc (fun r14 u t H13 locs ht hvm hw hB hz1 hk1 hS => ?_)
              have hP := wp_kept hP hk1
              have hw : r14 = wt fO zl zh 0 ((wsI (fun x => wt fO zl zh zp x (b - (nn - k) * mm) ((b - (nn - k - 1) * mm) - (b - (nn - k) * mm))) (fun x => wt fO zl zh 0 x (b - (nn - k) * mm) ((b - (nn - k - 1) * mm) - (b - (nn - k) * mm))) (cm fP zp (b - (nn - k) * mm) ((b - (nn - k - 1) * mm) - (b - (nn - k) * mm))) (2 ^ k) (wsO fO fP zl zh zp zf b nn mm fW fK k).1 (wsO fO fP zl zh zp zf b nn mm fW fK k).2 j).1 j) (b - (nn - k) * mm) ((b - (nn - k - 1) * mm) - (b - (nn - k) * mm)) := hw
              subst hw
              refine va_iast hx hb hK hP hD hS 3 0 rfl rfl (hi1) d_C_weighSets_162 (fun H locs hP hD hS => ?_)
              have hP : va_P (dC, dI) vwCl [(a0, .inr (2, [.ref aZ, .int zc, .ref aO, .int orr, .int ol, .int mp, .ref aG, .int pl, .int fa, .int fb, .ref aP, .ref aW, .ref aK])), (aO, .inl (cI, 1440, .inl fO)), (aP, .inl (cI, 24, .inl fP)), (aW, .inl (cI, 1024, .inl (upd (upd ((wsI (fun x => wt fO zl zh zp x (b - (nn - k) * mm) ((b - (nn - k - 1) * mm) - (b - (nn - k) * mm))) (fun x => wt fO zl zh 0 x (b - (nn - k) * mm) ((b - (nn - k - 1) * mm) - (b - (nn - k) * mm))) (cm fP zp (b - (nn - k) * mm) ((b - (nn - k - 1) * mm) - (b - (nn - k) * mm))) (2 ^ k) (wsO fO fP zl zh zp zf b nn mm fW fK k).1 (wsO fO fP zl zh zp zf b nn mm fW fK k).2 j).1) ((nI j) + (nI (2 ^ k))).toNatClampNeg (wt fO zl zh zp ((wsI (fun x => wt fO zl zh zp x (b - (nn - k) * mm) ((b - (nn - k - 1) * mm) - (b - (nn - k) * mm))) (fun x => wt fO zl zh 0 x (b - (nn - k) * mm) ((b - (nn - k - 1) * mm) - (b - (nn - k) * mm))) (cm fP zp (b - (nn - k) * mm) ((b - (nn - k - 1) * mm) - (b - (nn - k) * mm))) (2 ^ k) (wsO fO fP zl zh zp zf b nn mm fW fK k).1 (wsO fO fP zl zh zp zf b nn mm fW fK k).2 j).1 j) (b - (nn - k) * mm) ((b - (nn - k - 1) * mm) - (b - (nn - k) * mm)))) (nI j).toNatClampNeg (wt fO zl zh 0 ((wsI (fun x => wt fO zl zh zp x (b - (nn - k) * mm) ((b - (nn - k - 1) * mm) - (b - (nn - k) * mm))) (fun x => wt fO zl zh 0 x (b - (nn - k) * mm) ((b - (nn - k - 1) * mm) - (b - (nn - k) * mm))) (cm fP zp (b - (nn - k) * mm) ((b - (nn - k - 1) * mm) - (b - (nn - k) * mm))) (2 ^ k) (wsO fO fP zl zh zp zf b nn mm fW fK k).1 (wsO fO fP zl zh zp zf b nn mm fW fK k).2 j).1 j) (b - (nn - k) * mm) ((b - (nn - k - 1) * mm) - (b - (nn - k) * mm)))))), (aK, .inl (cJ, 1024, .inr (.inl (vp_updL ((wsI (fun x => wt fO zl zh zp x (b - (nn - k) * mm) ((b - (nn - k - 1) * mm) - (b - (nn - k) * mm))) (fun x => wt fO zl zh 0 x (b - (nn - k) * mm) ((b - (nn - k - 1) * mm) - (b - (nn - k) * mm))) (cm fP zp (b - (nn - k) * mm) ((b - (nn - k - 1) * mm) - (b - (nn - k) * mm))) (2 ^ k) (wsO fO fP zl zh zp zf b nn mm fW fK k).1 (wsO fO fP zl zh zp zf b nn mm fW fK k).2 j).2) ((nI j) + (nI (2 ^ k))).toNatClampNeg ((((wsI (fun x => wt fO zl zh zp x (b - (nn - k) * mm) ((b - (nn - k - 1) * mm) - (b - (nn - k) * mm))) (fun x => wt fO zl zh 0 x (b - (nn - k) * mm) ((b - (nn - k - 1) * mm) - (b - (nn - k) * mm))) (cm fP zp (b - (nn - k) * mm) ((b - (nn - k - 1) * mm) - (b - (nn - k) * mm))) (2 ^ k) (wsO fO fP zl zh zp zf b nn mm fW fK k).1 (wsO fO fP zl zh zp zf b nn mm fW fK k).2 j).2) (nI j).toNatClampNeg) + (cm fP zp (b - (nn - k) * mm) ((b - (nn - k - 1) * mm) - (b - (nn - k) * mm)))))))), (za, .inr (1, [.int zh, .int zl, .int zf, .int zp, .int zr, .int (nI b), .int zw, .ref la, .int zs, .ref wa]))] H := hP
              have hD : va_D A [(a0, .inr (2, [.ref aZ, .int zc, .ref aO, .int orr, .int ol, .int mp, .ref aG, .int pl, .int fa, .int fb, .ref aP, .ref aW, .ref aK])), (aO, .inl (cI, 1440, .inl fO)), (aP, .inl (cI, 24, .inl fP)), (aW, .inl (cI, 1024, .inl (upd (upd ((wsI (fun x => wt fO zl zh zp x (b - (nn - k) * mm) ((b - (nn - k - 1) * mm) - (b - (nn - k) * mm))) (fun x => wt fO zl zh 0 x (b - (nn - k) * mm) ((b - (nn - k - 1) * mm) - (b - (nn - k) * mm))) (cm fP zp (b - (nn - k) * mm) ((b - (nn - k - 1) * mm) - (b - (nn - k) * mm))) (2 ^ k) (wsO fO fP zl zh zp zf b nn mm fW fK k).1 (wsO fO fP zl zh zp zf b nn mm fW fK k).2 j).1) ((nI j) + (nI (2 ^ k))).toNatClampNeg (wt fO zl zh zp ((wsI (fun x => wt fO zl zh zp x (b - (nn - k) * mm) ((b - (nn - k - 1) * mm) - (b - (nn - k) * mm))) (fun x => wt fO zl zh 0 x (b - (nn - k) * mm) ((b - (nn - k - 1) * mm) - (b - (nn - k) * mm))) (cm fP zp (b - (nn - k) * mm) ((b - (nn - k - 1) * mm) - (b - (nn - k) * mm))) (2 ^ k) (wsO fO fP zl zh zp zf b nn mm fW fK k).1 (wsO fO fP zl zh zp zf b nn mm fW fK k).2 j).1 j) (b - (nn - k) * mm) ((b - (nn - k - 1) * mm) - (b - (nn - k) * mm)))) (nI j).toNatClampNeg (wt fO zl zh 0 ((wsI (fun x => wt fO zl zh zp x (b - (nn - k) * mm) ((b - (nn - k - 1) * mm) - (b - (nn - k) * mm))) (fun x => wt fO zl zh 0 x (b - (nn - k) * mm) ((b - (nn - k - 1) * mm) - (b - (nn - k) * mm))) (cm fP zp (b - (nn - k) * mm) ((b - (nn - k - 1) * mm) - (b - (nn - k) * mm))) (2 ^ k) (wsO fO fP zl zh zp zf b nn mm fW fK k).1 (wsO fO fP zl zh zp zf b nn mm fW fK k).2 j).1 j) (b - (nn - k) * mm) ((b - (nn - k - 1) * mm) - (b - (nn - k) * mm)))))), (aK, .inl (cJ, 1024, .inr (.inl (vp_updL ((wsI (fun x => wt fO zl zh zp x (b - (nn - k) * mm) ((b - (nn - k - 1) * mm) - (b - (nn - k) * mm))) (fun x => wt fO zl zh 0 x (b - (nn - k) * mm) ((b - (nn - k - 1) * mm) - (b - (nn - k) * mm))) (cm fP zp (b - (nn - k) * mm) ((b - (nn - k - 1) * mm) - (b - (nn - k) * mm))) (2 ^ k) (wsO fO fP zl zh zp zf b nn mm fW fK k).1 (wsO fO fP zl zh zp zf b nn mm fW fK k).2 j).2) ((nI j) + (nI (2 ^ k))).toNatClampNeg ((((wsI (fun x => wt fO zl zh zp x (b - (nn - k) * mm) ((b - (nn - k - 1) * mm) - (b - (nn - k) * mm))) (fun x => wt fO zl zh 0 x (b - (nn - k) * mm) ((b - (nn - k - 1) * mm) - (b - (nn - k) * mm))) (cm fP zp (b - (nn - k) * mm) ((b - (nn - k - 1) * mm) - (b - (nn - k) * mm))) (2 ^ k) (wsO fO fP zl zh zp zf b nn mm fW fK k).1 (wsO fO fP zl zh zp zf b nn mm fW fK k).2 j).2) (nI j).toNatClampNeg) + (cm fP zp (b - (nn - k) * mm) ((b - (nn - k - 1) * mm) - (b - (nn - k) * mm)))))))), (za, .inr (1, [.int zh, .int zl, .int zf, .int zp, .int zr, .int (nI b), .int zw, .ref la, .int zs, .ref wa]))] := hD
              refine lv_iinc (v := ((nI j) + 1)) (lv' := [(10, .int ((nI j) + 1)), (11, .int ((wsI (fun x => wt fO zl zh zp x (b - (nn - k) * mm) ((b - (nn - k - 1) * mm) - (b - (nn - k) * mm))) (fun x => wt fO zl zh 0 x (b - (nn - k) * mm) ((b - (nn - k - 1) * mm) - (b - (nn - k) * mm))) (cm fP zp (b - (nn - k) * mm) ((b - (nn - k - 1) * mm) - (b - (nn - k) * mm))) (2 ^ k) (wsO fO fP zl zh zp zf b nn mm fW fK k).1 (wsO fO fP zl zh zp zf b nn mm fW fK k).2 j).1 j)), (9, .int (nI (2 ^ k))), (7, .long (cm fP zp (b - (nn - k) * mm) ((b - (nn - k - 1) * mm) - (b - (nn - k) * mm)))), (6, .int (nI (b - (nn - k - 1) * mm))), (5, .int (nI (b - (nn - k) * mm))), (4, .int (nI k)), (0, .ref a0), (1, .ref za), (2, .int (nI nn)), (3, .int (nI mm))]) hx hb d_C_weighSets_163 hl9 (k := 1) rfl rfl (by decide) rfl (fun ls hl9 => ?_)
              refine lv_goto (tgt := 83) hx hb d_C_weighSets_166 (by decide) ?_
              have e7 : (upd (upd ((wsI (fun x => wt fO zl zh zp x (b - (nn - k) * mm) ((b - (nn - k - 1) * mm) - (b - (nn - k) * mm))) (fun x => wt fO zl zh 0 x (b - (nn - k) * mm) ((b - (nn - k - 1) * mm) - (b - (nn - k) * mm))) (cm fP zp (b - (nn - k) * mm) ((b - (nn - k - 1) * mm) - (b - (nn - k) * mm))) (2 ^ k) (wsO fO fP zl zh zp zf b nn mm fW fK k).1 (wsO fO fP zl zh zp zf b nn mm fW fK k).2 j).1) ((nI j) + (nI (2 ^ k))).toNatClampNeg (wt fO zl zh zp ((wsI (fun x => wt fO zl zh zp x (b - (nn - k) * mm) ((b - (nn - k - 1) * mm) - (b - (nn - k) * mm))) (fun x => wt fO zl zh 0 x (b - (nn - k) * mm) ((b - (nn - k - 1) * mm) - (b - (nn - k) * mm))) (cm fP zp (b - (nn - k) * mm) ((b - (nn - k - 1) * mm) - (b - (nn - k) * mm))) (2 ^ k) (wsO fO fP zl zh zp zf b nn mm fW fK k).1 (wsO fO fP zl zh zp zf b nn mm fW fK k).2 j).1 j) (b - (nn - k) * mm) ((b - (nn - k - 1) * mm) - (b - (nn - k) * mm)))) (nI j).toNatClampNeg (wt fO zl zh 0 ((wsI (fun x => wt fO zl zh zp x (b - (nn - k) * mm) ((b - (nn - k - 1) * mm) - (b - (nn - k) * mm))) (fun x => wt fO zl zh 0 x (b - (nn - k) * mm) ((b - (nn - k - 1) * mm) - (b - (nn - k) * mm))) (cm fP zp (b - (nn - k) * mm) ((b - (nn - k - 1) * mm) - (b - (nn - k) * mm))) (2 ^ k) (wsO fO fP zl zh zp zf b nn mm fW fK k).1 (wsO fO fP zl zh zp zf b nn mm fW fK k).2 j).1 j) (b - (nn - k) * mm) ((b - (nn - k - 1) * mm) - (b - (nn - k) * mm)))) = (wsI (fun x => wt fO zl zh zp x (b - (nn - k) * mm) ((b - (nn - k - 1) * mm) - (b - (nn - k) * mm))) (fun x => wt fO zl zh 0 x (b - (nn - k) * mm) ((b - (nn - k - 1) * mm) - (b - (nn - k) * mm))) (cm fP zp (b - (nn - k) * mm) ((b - (nn - k - 1) * mm) - (b - (nn - k) * mm))) (2 ^ k) (wsO fO fP zl zh zp zf b nn mm fW fK k).1 (wsO fO fP zl zh zp zf b nn mm fW fK k).2 (j + 1)).1 := by rw [nI_add, nI_clamp (n := j) (by omega), nI_clamp (n := j + 2 ^ k) (by omega)]; rfl
              have e6 : (vp_updL ((wsI (fun x => wt fO zl zh zp x (b - (nn - k) * mm) ((b - (nn - k - 1) * mm) - (b - (nn - k) * mm))) (fun x => wt fO zl zh 0 x (b - (nn - k) * mm) ((b - (nn - k - 1) * mm) - (b - (nn - k) * mm))) (cm fP zp (b - (nn - k) * mm) ((b - (nn - k - 1) * mm) - (b - (nn - k) * mm))) (2 ^ k) (wsO fO fP zl zh zp zf b nn mm fW fK k).1 (wsO fO fP zl zh zp zf b nn mm fW fK k).2 j).2) ((nI j) + (nI (2 ^ k))).toNatClampNeg ((((wsI (fun x => wt fO zl zh zp x (b - (nn - k) * mm) ((b - (nn - k - 1) * mm) - (b - (nn - k) * mm))) (fun x => wt fO zl zh 0 x (b - (nn - k) * mm) ((b - (nn - k - 1) * mm) - (b - (nn - k) * mm))) (cm fP zp (b - (nn - k) * mm) ((b - (nn - k - 1) * mm) - (b - (nn - k) * mm))) (2 ^ k) (wsO fO fP zl zh zp zf b nn mm fW fK k).1 (wsO fO fP zl zh zp zf b nn mm fW fK k).2 j).2) (nI j).toNatClampNeg) + (cm fP zp (b - (nn - k) * mm) ((b - (nn - k - 1) * mm) - (b - (nn - k) * mm))))) = (wsI (fun x => wt fO zl zh zp x (b - (nn - k) * mm) ((b - (nn - k - 1) * mm) - (b - (nn - k) * mm))) (fun x => wt fO zl zh 0 x (b - (nn - k) * mm) ((b - (nn - k - 1) * mm) - (b - (nn - k) * mm))) (cm fP zp (b - (nn - k) * mm) ((b - (nn - k - 1) * mm) - (b - (nn - k) * mm))) (2 ^ k) (wsO fO fP zl zh zp zf b nn mm fW fK k).1 (wsO fO fP zl zh zp zf b nn mm fW fK k).2 (j + 1)).2 := by rw [nI_add, nI_clamp (n := j) (by omega), nI_clamp (n := j + 2 ^ k) (by omega)]; rfl
              rw [e7, e6] at hP hD
              rw [nI_1] at hl9
              exact ih (j + 1) (by omega) (by omega) _ _ ls hP hD hS (lv_sub hl9 [0, 2, 3, 4, 5, 6, 7, 8, 9, 10] rfl)
        exact lp2 (2 ^ k + 1) 0 (Nat.zero_le _) (by omega) _ _ ls hP hD hS (lv_sub hl9 [0, 1, 2, 3, 4, 5, 6, 7, 8, 9] rfl)
  exact lp (nn + 1) 0 (Nat.zero_le _) (by omega) _ _ ls hP hD hS (lv_sub hl9 [0, 1, 2, 3, 4] rfl)
end
