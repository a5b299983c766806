/-! ===== words that aren't kept by themselves, strings, the two statics: what every method takes along ===== -/
def nx_warm : Cond → Bool
  | .fieldLinkNest .. | .methodLinkNest .. | .declares _ | .castable .. => true
  | _ => false
def nx_S : List (Nat × String) := [(166, "a number is out of its bounds"), (62, "there are 6 zones"), (171, "there is no such zone"), (89, "there are 24 rows"), (91, "a row is at that minute or behind it"), (169, "the zone wants nothing")]
def NX (U : State) : Prop := (∀ w ∈ tables_1, nx_warm w = true → va_Nw w U) ∧ (∀ q ∈ nx_S, ∃ sa : Nat, vk_R "StartTimes" q.1 q.2 sa U) ∧ va_AO "StartTimes$Zone" U
theorem nx_ot {w : Cond} (h : nx_warm w = true) : w.onTables = true := by
  cases w <;> first | rfl | (simp [nx_warm] at h)
theorem NX.same {u U : State} (hv : u.vm = U.vm) (h : NX u) : NX U :=
  ⟨fun w hw hn => va_Nw.same (nx_ot hn) hv (h.1 w hw hn), fun q hq => by obtain ⟨sa, hs⟩ := h.2.1 q hq; exact ⟨sa, vk_R.same hv.symm hs⟩, va_AO.moved (by rw [hv]; exact Vm.Alike.refl _) h.2.2⟩
theorem NX.warm {s U : State} (hW : s.WarmedH U.vm) (h : NX s) : NX U := by
  refine ⟨fun w hw hn => ?_, fun q hq => by obtain ⟨sa, hs⟩ := h.2.1 q hq; exact ⟨sa, vk_R.warm hW hs⟩, va_AO.moved hW.alike h.2.2⟩
  have h1 := h.1 w hw hn
  cases w <;> first | exact va_Nw.warmF hW h1 | exact va_Nw.warmM hW h1 | exact va_Nw.warmD hW h1 | exact va_Nw.warmC hW h1 | (simp [nx_warm] at hn)
theorem NX.use {s : State} {args : Array Value} {w : Cond} (h : NX s) (hm : w ∈ tables_1) (hw : nx_warm w = true := by rfl) : w.before args s = true := va_Nw.use (nx_ot hw) (h.1 w hm hw)
/-- the two statics that a throw reads -/
def TH (A : Nat → Prop) (U : State) (H : Heap) : Prop := vx_Zq Bundle.tN "UNASSIGNED_STACK" Bundle.steD A U H ∧ vx_Zq Bundle.tN "SUPPRESSED_SENTINEL" Bundle.listD A U H
def EV (A : Nat → Prop) (U : State) : Prop := NX U ∧ TH A U U.heap
theorem EV.blind {A : Nat → Prop} {U : State} {g : JFrame} {mk : MethodId} {a : Array Value} (h : EV A U) : EV A (U.calling g mk a) :=
  ⟨NX.same (u := U) (U := U.calling g mk a) rfl h.1, ⟨vx_Zq.moved (u := U) (U := U.calling g mk a) (Vm.Alike.refl U.vm) h.2.1, vx_Zq.moved (u := U) (U := U.calling g mk a) (Vm.Alike.refl U.vm) h.2.2⟩⟩
theorem EV.call {A A1 : Nat → Prop} {s U : State} {H : Heap} {locs : List Loc} (h : EV A s) (hS : va_S A s.heap H locs) (hF : ∀ q, A1 q → A q) (hU : U.heap = H) (hW : s.WarmedH U.vm) : EV A1 U := by
  refine ⟨NX.warm hW h.1, ?_, ?_⟩
  · rw [hU]; exact ((h.2.1.kept hS.2.1).narrow hF).moved hW.alike
  · rw [hU]; exact ((h.2.2.kept hS.2.1).narrow hF).moved hW.alike
/-! ===== worlds ===== -/
theorem wp_kept {D : va_G} {cl : List vw_C} {ws : va_W} {H H1 : Heap} (hP : va_P D cl ws H) (hk : ∀ q : Nat, q < H.size → ¬ va_A [] H.size q → H1[q]? = H[q]?) : va_P D cl ws H1 :=
  hP.kept (fun k q hq => hk q.1 (hP k q hq).lt (fun h => by
    rcases h with ⟨k, e, h⟩ | h
    · simp at h
    · exact absurd (hP _ q hq).lt (Nat.not_lt.mpr h)))
def sets : va_W → List Nat → va_W → va_W
  | ws, i :: is, e :: es => sets (ws.set i e) is es
  | ws, _, _ => ws
theorem sets_get : ∀ (is : List Nat) (w1 ws : va_W) (k : Nat) (q : Nat × va_E), is.length = w1.length → (sets ws is w1)[k]? = some q → q ∈ w1 ∨ (k ∉ is ∧ ws[k]? = some q) := by
  intro is
  induction is with
  | nil => intro w1 ws k q _ h; exact Or.inr ⟨List.not_mem_nil, by simpa [sets] using h⟩
  | cons i is ih =>
    intro w1 ws k q hl h
    cases w1 with
    | nil => simp at hl
    | cons e es =>
      rcases ih es (ws.set i e) k q (by simpa using hl) h with h1 | ⟨h1, h2⟩
      · exact Or.inl (List.mem_cons_of_mem _ h1)
      · by_cases hk : k = i
        · subst hk
          rw [List.getElem?_set_self'] at h2
          cases hw : ws[k]? with
          | none => rw [hw] at h2; simp at h2
          | some z => rw [hw] at h2; simp at h2; exact Or.inl (by rw [← h2]; exact List.mem_cons_self)
        · rw [List.getElem?_set_ne (Ne.symm hk)] at h2
          exact Or.inr ⟨fun hm => (List.mem_cons.mp hm).elim hk h1, h2⟩
theorem sets_fst : ∀ (is : List Nat) (w1 ws : va_W), is.map (fun i => (ws.map Prod.fst)[i]?) = w1.map (fun e => some e.1) → (sets ws is w1).map Prod.fst = ws.map Prod.fst := by
  intro is
  induction is with
  | nil => intro w1 ws _; cases w1 <;> rfl
  | cons i is ih =>
    intro w1 ws h
    cases w1 with
    | nil => rfl
    | cons e es =>
      simp only [List.map_cons, List.cons.injEq] at h
      have e1 : (ws.set i e).map Prod.fst = ws.map Prod.fst := by
        rw [List.map_set]
        apply List.ext_getElem?
        intro j
        by_cases hj : j = i
        · subst hj
          rw [List.getElem?_set_self', h.1]; rfl
        · rw [List.getElem?_set_ne (Ne.symm hj)]
      show (sets (ws.set i e) is es).map Prod.fst = _
      rw [ih es (ws.set i e) (by rw [e1]; exact h.2), e1]
theorem wd_fst {A : Nat → Prop} {ws ws' : va_W} (e : ws'.map Prod.fst = ws.map Prod.fst) (h : va_D A ws) : va_D A ws' := by
  have g : ∀ (k : Nat) (q : Nat × va_E), ws'[k]? = some q → ∃ p : Nat × va_E, ws[k]? = some p ∧ p.1 = q.1 := by
    intro k q hq
    have h1 : (ws'.map Prod.fst)[k]? = some q.1 := by rw [List.getElem?_map, hq]; rfl
    rw [e, List.getElem?_map] at h1
    cases hw : ws[k]? with
    | none => rw [hw] at h1; simp at h1
    | some p => rw [hw] at h1; exact ⟨p, rfl, by simpa using h1⟩
  refine ⟨fun i j p q hi hj hpq => ?_, fun k q hk => ?_⟩
  · obtain ⟨p2, h2, e2⟩ := g i p hi
    obtain ⟨q2, h3, e3⟩ := g j q hj
    exact h.1 i j p2 q2 h2 h3 (by rw [e2, e3]; exact hpq)
  · obtain ⟨p2, h2, e2⟩ := g k q hk
    rw [← e2]; exact h.2 k p2 h2
/-- behind a call that wrote in the cells at the places 'is', and made none -/
theorem jset {A0 : Nat → Prop} {D : va_G} {cl : List vw_C} {ws wc w1 : va_W} {H H1 : Heap} (is : List Nat) (hC : is.map (fun i => ws[i]?) = wc.map some) (h1 : wc.map Prod.fst = w1.map Prod.fst) (hP : va_P D cl ws H) (hD : va_D A0 ws)
    (hk : ∀ q : Nat, q < H.size → ¬ va_A wc H.size q → H1[q]? = H[q]?) (hP1 : va_P D cl w1 H1) : va_P D cl (sets ws is w1) H1 ∧ va_D A0 (sets ws is w1) := by
  have hlen : is.length = w1.length := by
    have e1 := congrArg List.length hC
    have e2 := congrArg List.length h1
    simp only [List.length_map] at e1 e2
    omega
  constructor
  · intro k q hq
    rcases sets_get is w1 ws k q hlen hq with h | ⟨hn, h⟩
    · obtain ⟨i, hi⟩ := List.getElem?_of_mem h
      exact hP1 i q hi
    · refine (hP k q h).kept (hk q.1 (hP k q h).lt ?_)
      rintro (⟨j, e, hj⟩ | hz)
      · have e1 : (is.map (fun i => ws[i]?))[j]? = some (some (q.1, e)) := by rw [hC, List.getElem?_map, hj]; rfl
        rw [List.getElem?_map] at e1
        cases hi : is[j]? with
        | none => rw [hi] at e1; simp at e1
        | some i =>
          rw [hi] at e1
          have e2 : ws[i]? = some (q.1, e) := by simpa using e1
          have e3 := hD.1 k i q (q.1, e) h e2 rfl
          exact hn (by rw [e3]; exact List.mem_of_getElem? hi)
      · exact absurd (hP k q h).lt (Nat.not_lt.mpr hz)
  · refine wd_fst (sets_fst is w1 ws ?_) hD
    have e1 : is.map (fun i => (ws.map Prod.fst)[i]?) = (is.map (fun i => ws[i]?)).map (fun o => o.map Prod.fst) := by
      rw [List.map_map]
      refine List.map_congr_left (fun i _ => ?_)
      simp [List.getElem?_map]
    rw [e1, hC, List.map_map]
    have e2 : w1.map (fun e => some e.1) = (w1.map Prod.fst).map some := by rw [List.map_map]; rfl
    rw [e2, ← h1, List.map_map]
    rfl
/-! ===== a method's start and end ===== -/
abbrev TY (cI cJ cZ cB : ClassId) : List (ClassId × FieldType) := [(cI, .int), (cJ, .long), (cZ, .object "StartTimes$Zone"), (cB, .boolean)]
def PC (D : va_G) (tys : List (ClassId × FieldType)) (av : List Value) (w : va_W) (sz : Nat) (A : Nat → Prop) : Array Value → State → Prop :=
  va_Pc av (fun U => U.heap.size = sz ∧ va_P D vwCl w U.heap ∧ va_K D vwCl tys U ∧ va_D (fun _ => True) w ∧ EV A U)
theorem PC.blind {D : va_G} {tys : List (ClassId × FieldType)} {av : List Value} {w : va_W} {sz : Nat} {A : Nat → Prop} : FrameBlind (PC D tys av w sz A) := by
  intro a U g mk q
  obtain ⟨q0, q1, qP, qK, qD, qE⟩ := q
  exact ⟨q0, q1, qP, va_K.moved (u := U) (U := U.calling g mk a) (Vm.Alike.refl U.vm) qK, qD, qE.blind⟩
theorem PC.of {D : va_G} {tys : List (ClassId × FieldType)} {av : List Value} {w : va_W} {A A0 A1 : Nat → Prop} {s : State} {H : Heap} {locs : List Loc} (hP : va_P D vwCl w H) (hK : va_K D vwCl tys s) (hD : va_D A0 w) (hE : EV A s) (hS : va_S A s.heap H locs) (hF : ∀ q, A1 q → A q) :
    ∀ U : State, U.heap = H → s.WarmedH U.vm → PC D tys av w H.size A1 av.toArray U :=
  fun U hU hW => ⟨rfl, by rw [hU], by rw [hU]; exact hP, va_K.moved hW.alike hK, hD.weaken (fun _ _ _ _ => trivial), hE.call hS hF hU hW⟩
/-- the array classes, by the tables' words -/
theorem ty_prim {s : State} {args : Array Value} {ty : FieldType} (h : (Cond.arrayClass ty).before args s = true) (hp : ∀ C, ty ≠ .object C) : ∃ cA : ClassId, ArrOfT s cA ty ∧ va_RA s cA ty := by
  obtain ⟨cA, kA, comp, h1, h2, h3⟩ := Cond.arrayClass_spec (show (Cond.arrayClass ty).holds args s none s [] = true from h)
  refine ⟨cA, fun n z => ⟨fun k h => (by cases h), kA, h2, comp, h3⟩, ?_⟩
  cases ty <;> first | exact h1 | exact absurd rfl (hp _)
theorem ty_obj {s : State} {C : String} (h : va_AO C s) : ∃ cA : ClassId, ArrOfT s cA (.object C) ∧ va_RA s cA (.object C) := by
  obtain ⟨comp, cA, kA, h1, h2, h3, h4, h5⟩ := Cond.arrayOver_spec (show (Cond.arrayOver (.object C)).holds #[] s none s [] = true from h)
  exact ⟨cA, fun n z => ⟨fun k h => (by cases h), kA, h3, comp, h4⟩, kA, comp, h3, h4, h1, h5⟩
theorem ty_same {D : va_G} {cl : List vw_C} {tys : List (ClassId × FieldType)} {U : State} {c1 c2 : ClassId} {ty : FieldType} (hK : va_K D cl tys U) {i j : Nat} (hi : tys[i]? = some (c1, ty)) (hj : tys[j]? = some (c2, ty)) : c2 = c1 := by
  have h1 := (hK.2 i _ hi).2
  have h2 := (hK.2 j _ hj).2
  cases ty with
  | object C =>
    obtain ⟨_, _, _, _, _, e1⟩ := h1
    obtain ⟨_, _, _, _, _, e2⟩ := h2
    exact Option.some.inj (e2.symm.trans e1)
  | _ => exact Option.some.inj (Eq.trans (Eq.symm h2) h1)
theorem va_A_nil {A : Nat → Prop} {H0 H : Heap} (hA : ∀ q, H0.size ≤ q → A q) (hz : H0.size ≤ H.size) : ∀ q, va_A [] H.size q → A q := by
  rintro q (⟨k, e, h⟩ | h)
  · simp at h
  · exact hA q (Nat.le_trans hz h)
