/-! ===== contracts lifted to the whole of a side's cells, in one room ===== -/
theorem met_up {l : Launch} {y : MethodName} {ws : List Cond} {rm rm' : Room} {Pc Pc' : Array Value → State → Prop} {Qc Qc' : Array Value → State → Outcome → State → Prop} {mc mc' ms ms' : Nat} {free free' : Addr → Prop} (h : Met l y ws rm Pc Qc mc ms free)
    (hr : rm.frames ≤ rm'.frames ∧ rm.cells ≤ rm'.cells ∧ rm.slots ≤ rm'.slots ∧ rm.locals ≤ rm'.locals) (hm : mc ≤ mc' ∧ ms ≤ ms') (hP : ∀ a s, Pc' a s → Pc a s) (hQ : ∀ a s o t, Pc' a s → Qc a s o t → Qc' a s o t) (hf : ∀ q, free q → free' q) : Met l y ws rm' Pc' Qc' mc' ms' free' := by
  intro p e ha hc hk s m args below hfr happ hp hK
  have h1 := (Spec.appliesLoose_iff hfr).mp happ
  obtain ⟨b1, b2, b3, b4, b5, b6, b7, b8⟩ := h1
  have b7' : s.hasRoom e.platform rm = true := by
    have b7 : s.hasRoom e.platform rm' = true := b7
    unfold State.hasRoom at b7 ⊢
    simp only [Bool.and_eq_true, decide_eq_true_eq] at b7 ⊢
    obtain ⟨⟨⟨⟨c1, c2⟩, c3⟩, c4⟩, c5⟩ := b7
    obtain ⟨r1, r2, r3, r4⟩ := hr
    exact ⟨⟨⟨⟨by omega, by omega, by omega, by omega, by omega, c2.2.2.2.2⟩, by omega⟩, by omega⟩, c5⟩
  obtain ⟨n, o, e1, e2, e3, hq, L, hF, hL⟩ := h p e ha hc hk s m args below hfr ((Spec.appliesLoose_iff (S := headSpec ws rm) hfr).mpr ⟨b1, b2, b3, b4, b5, b6, b7', b8⟩) (hP _ _ hp) hK
  exact ⟨n, o, e1, e2, e3, hQ _ _ _ _ hp hq, L, ⟨hF.1, hF.2.1, hF.2.2.mono hm.1 hm.2⟩, fun q hq => hf _ (hL q hq)⟩
theorem EV.less {A A1 : Nat → Prop} {U : State} (h : EV A U) (hF : ∀ q, A1 q → A q) : EV A1 U := ⟨h.1, h.2.1.narrow hF, h.2.2.narrow hF⟩
theorem vA_sub {WW w : va_W} {sz : Nat} (is : List Nat) (hC : is.map (fun i => WW[i]?) = w.map some) : ∀ q, va_A w sz q → va_A WW sz q := by
  rintro q (⟨k, e, h⟩ | h)
  · have h1 : (is.map (fun i => WW[i]?))[k]? = some (some (q, e)) := by rw [hC, List.getElem?_map, h]; rfl
    rw [List.getElem?_map] at h1
    cases hi : is[k]? with
    | none => rw [hi] at h1; cases h1
    | some i => rw [hi] at h1; exact Or.inl ⟨i, e, Option.some.inj h1⟩
  · exact Or.inr h
theorem vA_perm {WW WWp : va_W} {sz : Nat} (hp : WW.Perm WWp) : ∀ q, va_A WWp sz q → va_A WW sz q := by
  rintro q (⟨k, e, h⟩ | h)
  · obtain ⟨i, hi⟩ := List.getElem?_of_mem (hp.mem_iff.mpr (List.mem_of_getElem? h))
    exact Or.inl ⟨i, e, hi⟩
  · exact Or.inr h
theorem vP_sub {D : va_G} {cl : List vw_C} {WW w : va_W} {H : Heap} (is : List Nat) (hC : is.map (fun i => WW[i]?) = w.map some) (hP : va_P D cl WW H) : va_P D cl w H := by
  intro k q h
  have h1 : (is.map (fun i => WW[i]?))[k]? = some (some q) := by rw [hC, List.getElem?_map, h]; rfl
  rw [List.getElem?_map] at h1
  cases hi : is[k]? with
  | none => rw [hi] at h1; cases h1
  | some i => rw [hi] at h1; exact hP i q (Option.some.inj h1)
/-- the room of a helper of the law, and of a method of the reference -/
abbrev RL : Room := { frames := 9, cells := 5, slots := 1465, locals := 161 }
abbrev RM : Room := { frames := 4, cells := 0, slots := 0, locals := 97 }
def rmL (rm : Room) : Prop := rm.frames ≤ 9 ∧ rm.cells ≤ 5 ∧ rm.slots ≤ 1465 ∧ rm.locals ≤ 161
def rmM (rm : Room) : Prop := rm.frames ≤ 4 ∧ rm.cells ≤ 0 ∧ rm.slots ≤ 0 ∧ rm.locals ≤ 97
/-- a helper's contract on its own cells, over all of the class's -/
theorem liftA {l : Launch} {y : MethodName} {ws : List Cond} {rm : Room} {mc ms : Nat} {D : va_G} {tys : List (ClassId × FieldType)} {av : List Value} {WW WWp w w1 WW1 : va_W} {sz : Nat} {rv : Int32} (is : List Nat)
    (h : Met l y ws rm (PCL D tys av w sz (va_A w sz)) (va_Qi (fun (r : Int32) (_ : Unit) => r = rv) (fun (_ : Unit) (t : State) => va_P D vwCl w1 t.heap) (va_A w sz)) mc ms (va_A w sz))
    (hp : WW.Perm WWp) (hC : is.map (fun i => WWp[i]?) = w.map some) (hnd : va_nd is = true) (h1 : w.map Prod.fst = w1.map Prod.fst) (hq : (sets WWp is w1).Perm WW1) (hr : rmL rm) (hm : mc ≤ 5 ∧ ms ≤ 1465) :
    Met l y ws RL (PCL D tys av WW sz (va_A WW sz)) (va_Qi (fun (r : Int32) (_ : Nat × Nat × Nat) => r = rv) (fun (_ : Nat × Nat × Nat) (t : State) => va_P D vwCl WW1 t.heap ∧ va_D (va_A WW sz) WW1) (va_A WW sz)) 5 1465 (va_A WW sz) := by
  have hsub : ∀ q, va_A w sz q → va_A WW sz q := fun q h => vA_perm hp q (vA_sub is hC q h)
  refine met_up h hr hm ?_ ?_ hsub
  · rintro a s ⟨q0, q1, qP, qK, qD, qE, qN⟩
    exact ⟨q0, q1, vP_sub is hC (wp_perm hp qP), qK, (wd_perm hp qD).sub is hnd hC, qE.less hsub, qN⟩
  · rintro a s o t ⟨q0, q1, qP, qK, qD, qE, qN⟩ ⟨⟨r, u, ho, hpost, hB⟩, hF⟩
    have hj := jset (A0 := va_A WW sz) is hC h1 (wp_perm hp qP) (wd_perm hp (qD.self (sz := sz))) (fun q h9 h8 => hF.2 q h9 (fun z => h8 (by rw [q1]; exact z))) hB
    exact ⟨⟨r, (0, 0, 0), ho, hpost, wp_perm hq hj.1, wd_perm hq hj.2⟩, hF.1, fun q h9 h8 => hF.2 q h9 (fun z => h8 (hsub q z))⟩
/-- the same with all zones behind -/
theorem liftC {l : Launch} {y : MethodName} {ws : List Cond} {rm : Room} {mc ms : Nat} {D : va_G} {tys : List (ClassId × FieldType)} {av : List Value} {X wc v1 pl pl1 : va_W} {sz : Nat} {rv : Int32} (is : List Nat)
    (h : Met l y ws rm (PCL D tys av (wc ++ pl) sz (va_A (wc ++ pl) sz)) (va_Qi (fun (r : Int32) (_ : Unit) => r = rv) (fun (_ : Unit) (t : State) => va_P D vwCl (v1 ++ pl1) t.heap) (va_A (wc ++ pl) sz)) mc ms (va_A (wc ++ pl) sz))
    (hC : is.map (fun i => X[i]?) = wc.map some) (hnd : va_nd is = true) (h1 : wc.map Prod.fst = v1.map Prod.fst) (hpl : pl1.map Prod.fst = pl.map Prod.fst) (hr : rmL rm) (hm : mc ≤ 5 ∧ ms ≤ 1465) :
    Met l y ws RL (PCL D tys av (X ++ pl) sz (va_A (X ++ pl) sz)) (va_Qi (fun (r : Int32) (_ : Nat × Nat × Nat) => r = rv) (fun (_ : Nat × Nat × Nat) (t : State) => va_P D vwCl (sets X is v1 ++ pl1) t.heap ∧ va_D (va_A (X ++ pl) sz) (sets X is v1 ++ pl1)) (va_A (X ++ pl) sz)) 5 1465 (va_A (X ++ pl) sz) := by
  have hsub : ∀ q, va_A (wc ++ pl) sz q → va_A (X ++ pl) sz q := by
    rintro q (⟨k, e, h⟩ | h)
    · exact Or.inl ⟨_, e, va_part is hC k _ h⟩
    · exact Or.inr h
  refine met_up h hr hm ?_ ?_ hsub
  · rintro a s ⟨q0, q1, qP, qK, qD, qE, qN⟩
    exact ⟨q0, q1, qP.part is hC, qK, qD.part is hnd hC, qE.less hsub, qN⟩
  · rintro a s o t ⟨q0, q1, qP, qK, qD, qE, qN⟩ ⟨⟨r, u, ho, hpost, hB⟩, hF⟩
    have hj := jsetP (A0 := va_A (X ++ pl) sz) is hC h1 hpl qP (qD.self (sz := sz)) (fun q h9 h8 => hF.2 q h9 (fun z => h8 (by rw [q1]; exact z))) hB
    exact ⟨⟨r, (0, 0, 0), ho, hpost, hj.1, hj.2⟩, hF.1, fun q h9 h8 => hF.2 q h9 (fun z => h8 (hsub q z))⟩
/-- the reference's contracts, over all of its cells -/
theorem liftMi {l : Launch} {y : MethodName} {ws : List Cond} {rm : Room} {D : va_G} {tys : List (ClassId × FieldType)} {av : List Value} {WW w w1 : va_W} {sz : Nat} {post : Int32 → Unit → Prop} {kv : Int32} {rv : Int32} (is : List Nat)
    (h : Met l y ws rm (PC D tys av w sz (va_A w sz)) (va_Qi post (fun (_ : Unit) (t : State) => va_P D vwCl w1 t.heap) (va_A w sz)) 0 0 (va_A w sz))
    (hC : is.map (fun i => WW[i]?) = w.map some) (hnd : va_nd is = true) (h1 : w.map Prod.fst = w1.map Prod.fst) (hpq : ∀ r u, post r u → kv = 0 → r = rv) (hr : rmM rm) :
    Met l y ws RM (PC D tys av WW sz (va_A WW sz)) (va_Qi (fun (r : Int32) (_ : Unit) => kv = 0 → r = rv) (fun (_ : Unit) (t : State) => va_P D vwCl (sets WW is w1) t.heap ∧ va_D (va_A WW sz) (sets WW is w1)) (va_A WW sz)) 0 0 (va_A WW sz) := by
  have hsub : ∀ q, va_A w sz q → va_A WW sz q := vA_sub is hC
  refine met_up h hr ⟨Nat.le_refl _, Nat.le_refl _⟩ ?_ ?_ hsub
  · rintro a s ⟨q0, q1, qP, qK, qD, qE⟩
    exact ⟨q0, q1, vP_sub is hC qP, qK, qD.sub is hnd hC, qE.less hsub⟩
  · rintro a s o t ⟨q0, q1, qP, qK, qD, qE⟩ ⟨⟨r, u, ho, hpost, hB⟩, hF⟩
    have hj := jset (A0 := va_A WW sz) is hC h1 qP (qD.self (sz := sz)) (fun q h9 h8 => hF.2 q h9 (fun z => h8 (by rw [q1]; exact z))) hB
    exact ⟨⟨r, u, ho, hpq r u hpost, hj.1, hj.2⟩, hF.1, fun q h9 h8 => hF.2 q h9 (fun z => h8 (hsub q z))⟩
theorem liftMl {l : Launch} {y : MethodName} {ws : List Cond} {rm : Room} {D : va_G} {tys : List (ClassId × FieldType)} {av : List Value} {WW w w1 : va_W} {sz : Nat} {post : Int64 → Unit → Prop} {kv : Int32} {rv : Int64} (is : List Nat)
    (h : Met l y ws rm (PC D tys av w sz (va_A w sz)) (va_Ql post (fun (_ : Unit) (t : State) => va_P D vwCl w1 t.heap) (va_A w sz)) 0 0 (va_A w sz))
    (hC : is.map (fun i => WW[i]?) = w.map some) (hnd : va_nd is = true) (h1 : w.map Prod.fst = w1.map Prod.fst) (hpq : ∀ r u, post r u → kv = 0 → r = rv) (hr : rmM rm) :
    Met l y ws RM (PC D tys av WW sz (va_A WW sz)) (va_Ql (fun (r : Int64) (_ : Unit) => kv = 0 → r = rv) (fun (_ : Unit) (t : State) => va_P D vwCl (sets WW is w1) t.heap ∧ va_D (va_A WW sz) (sets WW is w1)) (va_A WW sz)) 0 0 (va_A WW sz) := by
  have hsub : ∀ q, va_A w sz q → va_A WW sz q := vA_sub is hC
  refine met_up h hr ⟨Nat.le_refl _, Nat.le_refl _⟩ ?_ ?_ hsub
  · rintro a s ⟨q0, q1, qP, qK, qD, qE⟩
    exact ⟨q0, q1, vP_sub is hC qP, qK, qD.sub is hnd hC, qE.less hsub⟩
  · rintro a s o t ⟨q0, q1, qP, qK, qD, qE⟩ ⟨⟨r, u, ho, hpost, hB⟩, hF⟩
    have hj := jset (A0 := va_A WW sz) is hC h1 qP (qD.self (sz := sz)) (fun q h9 h8 => hF.2 q h9 (fun z => h8 (by rw [q1]; exact z))) hB
    exact ⟨⟨r, u, ho, hpq r u hpost, hj.1, hj.2⟩, hF.1, fun q h9 h8 => hF.2 q h9 (fun z => h8 (hsub q z))⟩
theorem liftMv {l : Launch} {y : MethodName} {ws : List Cond} {rm : Room} {D : va_G} {tys : List (ClassId × FieldType)} {av : List Value} {WW w w1 : va_W} {sz : Nat} (is : List Nat)
    (h : Met l y ws rm (PC D tys av w sz (va_A w sz)) (va_Qv (fun (_ : Unit) => True) (fun (_ : Unit) (t : State) => va_P D vwCl w1 t.heap) (va_A w sz)) 0 0 (va_A w sz))
    (hC : is.map (fun i => WW[i]?) = w.map some) (hnd : va_nd is = true) (h1 : w.map Prod.fst = w1.map Prod.fst) (hr : rmM rm) :
    Met l y ws RM (PC D tys av WW sz (va_A WW sz)) (va_Qv (fun (_ : Unit) => True) (fun (_ : Unit) (t : State) => va_P D vwCl (sets WW is w1) t.heap ∧ va_D (va_A WW sz) (sets WW is w1)) (va_A WW sz)) 0 0 (va_A WW sz) := by
  have hsub : ∀ q, va_A w sz q → va_A WW sz q := vA_sub is hC
  refine met_up h hr ⟨Nat.le_refl _, Nat.le_refl _⟩ ?_ ?_ hsub
  · rintro a s ⟨q0, q1, qP, qK, qD, qE⟩
    exact ⟨q0, q1, vP_sub is hC qP, qK, qD.sub is hnd hC, qE.less hsub⟩
  · rintro a s o t ⟨q0, q1, qP, qK, qD, qE⟩ ⟨⟨u, ho, hpost, hB⟩, hF⟩
    have hj := jset (A0 := va_A WW sz) is hC h1 qP (qD.self (sz := sz)) (fun q h9 h8 => hF.2 q h9 (fun z => h8 (by rw [q1]; exact z))) hB
    exact ⟨⟨u, ho, hpost, hj.1, hj.2⟩, hF.1, fun q h9 h8 => hF.2 q h9 (fun z => h8 (hsub q z))⟩
