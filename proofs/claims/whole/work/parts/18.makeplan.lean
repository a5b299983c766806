/-! ===== all zones: addresses; holds, leads, first warmth, power, rank, wanted minute, wanted warmth, start; lesson; warmths ===== -/
abbrev ZD : Type := (Nat × Nat × Nat) × (Int32 × Int32 × Int32 × Int32 × Int32 × Int32 × Int32 × Int32) × (Int64 × Int64) × (Nat → Int32)
def tri (cI : ClassId) (z : ZD) : va_W := match z with
  | ((za, la, wa), (zh, zl, zf, zp, zr, zm, zw, zs), (ea, eb), T) => [(za, .inr (1, [.int zh, .int zl, .int zf, .int zp, .int zr, .int zm, .int zw, .ref la, .int zs, .ref wa])), (la, .inr (0, [.long ea, .long eb])), (wa, .inl (cI, 1441, .inl T))]
theorem wp_mem {D : va_G} {cl : List vw_C} {ws : va_W} {H : Heap} : va_P D cl ws H ↔ ∀ q ∈ ws, va_at D cl q H := by
  constructor
  · intro h q hq
    obtain ⟨i, hi⟩ := List.getElem?_of_mem hq
    exact h i q hi
  · intro h k q hk
    exact h q (List.mem_of_getElem? hk)
theorem wd_perm {A : Nat → Prop} {ws ws' : va_W} (hp : ws.Perm ws') (h : va_D A ws) : va_D A ws' := by
  have nd : ∀ {w : va_W}, (∀ (i j : Nat) (p q : Nat × va_E), w[i]? = some p → w[j]? = some q → p.1 = q.1 → i = j) ↔ (w.map Prod.fst).Nodup := by
    intro w
    rw [List.Nodup, List.pairwise_iff_getElem]
    constructor
    · intro h i j hi hj hij e
      have hj9 : j < w.length := by simpa using hj
      have hi9 : i < w.length := by simpa using hi
      rw [List.getElem_map, List.getElem_map] at e
      have := h i j _ _ (List.getElem?_eq_getElem hi9) (List.getElem?_eq_getElem hj9) e
      omega
    · intro h i j p q hi hj e
      obtain ⟨hi9, rfl⟩ := List.getElem?_eq_some_iff.mp hi
      obtain ⟨hj9, rfl⟩ := List.getElem?_eq_some_iff.mp hj
      rcases Nat.lt_trichotomy i j with l | l | l
      · exact absurd (by rw [List.getElem_map, List.getElem_map]; exact e) (h i j (by simpa using hi9) (by simpa using hj9) l)
      · exact l
      · exact absurd (by rw [List.getElem_map, List.getElem_map]; exact e.symm) (h j i (by simpa using hj9) (by simpa using hi9) l)
  refine ⟨nd.mpr ((hp.map Prod.fst).nodup_iff.mp (nd.mp h.1)), fun k q hk => ?_⟩
  obtain ⟨i, hi⟩ := List.getElem?_of_mem (hp.mem_iff.mpr (List.mem_of_getElem? hk))
  exact h.2 i q hi
theorem foc_perm (cI : ClassId) (B : va_W) (l1 l2 : List ZD) (z : ZD) : (B ++ (l1 ++ z :: l2).flatMap (tri cI)).Perm ((B ++ tri cI z) ++ (l1.flatMap (tri cI) ++ l2.flatMap (tri cI))) := by
  rw [List.flatMap_append, List.flatMap_cons, List.append_assoc]
  refine List.Perm.append_left B ?_
  rw [← List.append_assoc, ← List.append_assoc]
  exact List.Perm.append_right _ List.perm_append_comm
theorem wp_perm {D : va_G} {cl : List vw_C} {ws ws' : va_W} {H : Heap} (hp : ws.Perm ws') (h : va_P D cl ws H) : va_P D cl ws' H := wp_mem.mpr (fun q hq => wp_mem.mp h q (hp.mem_iff.mpr hq))
theorem split_at {α : Type} : ∀ (l : List α) (i : Nat), i < l.length → ∃ l1 z l2, l = l1 ++ z :: l2 ∧ l1.length = i := by
  intro l
  induction l with
  | nil => intro i h; simp at h
  | cons a l ih =>
    intro i h
    cases i with
    | zero => exact ⟨[], a, l, rfl, rfl⟩
    | succ i =>
      obtain ⟨l1, z, l2, e, hl⟩ := ih i (by simpa using h)
      exact ⟨a :: l1, z, l2, by rw [e]; rfl, by simp [hl]⟩
theorem split_get {α : Type} {l1 l2 : List α} {z : α} : (l1 ++ z :: l2)[l1.length]? = some z := by simp
theorem split_set {α : Type} {l1 l2 : List α} {z z' : α} : (l1 ++ z :: l2).set l1.length z' = l1 ++ z' :: l2 := by simp
def ZOk (z : ZD) : Prop := ¬ z.2.1.1 = 0 ∧ ¬ z.2.1.2.1 = 0 ∧ (z.2.1.2.2.2.2.2.1 = -1 ∨ ∃ b, b < 1440 ∧ z.2.1.2.2.2.2.2.1 = nI b)
/-- a zone taken: what is given then, the zone then -/
def pG (o : Nat → Int32) (mp : Int32) (g : Nat → Int32) (z : ZD) : Nat → Int32 := match z with
  | (_, (zh, zl, zf, zp, _, zm, zw, _), _, T) => if zm = -1 then g else (pzH o g zl zh zf zp mp zw T zm.toNatClampNeg).2
def pZ (o : Nat → Int32) (mp : Int32) (g : Nat → Int32) (z : ZD) : ZD := match z with
  | (ad, (zh, zl, zf, zp, zr, zm, zw, _), e, T) => if zm = -1 then (ad, (zh, zl, zf, zp, zr, zm, zw, -1), e, pzT0 o zl zh zf T) else (ad, (zh, zl, zf, zp, zr, zm, zw, nI (pzS o g zl zh zf zp mp zw T zm.toNatClampNeg)), e, pzT o g zl zh zf zp mp zw T zm.toNatClampNeg)
theorem pZ_ad (o : Nat → Int32) (mp : Int32) (g : Nat → Int32) (z : ZD) : (pZ o mp g z).1 = z.1 := by
  obtain ⟨ad, ⟨zh, zl, zf, zp, zr, zm, zw, zs⟩, e, T⟩ := z
  show (if zm = -1 then _ else _ : ZD).1 = ad
  split <;> rfl
theorem pZ_ok {o : Nat → Int32} {mp : Int32} {g : Nat → Int32} {z : ZD} (h : ZOk z) : ZOk (pZ o mp g z) := by
  obtain ⟨ad, ⟨zh, zl, zf, zp, zr, zm, zw, zs⟩, e, T⟩ := z
  show ZOk (if zm = -1 then _ else _)
  split <;> exact h
theorem pZ_none (o : Nat → Int32) (mp : Int32) (g : Nat → Int32) (ad : Nat × Nat × Nat) (zh zl zf zp zr zw zs : Int32) (e : Int64 × Int64) (T : Nat → Int32) : pZ o mp g (ad, (zh, zl, zf, zp, zr, -1, zw, zs), e, T) = (ad, (zh, zl, zf, zp, zr, -1, zw, -1), e, pzT0 o zl zh zf T) := rfl
theorem pG_none (o : Nat → Int32) (mp : Int32) (g : Nat → Int32) (ad : Nat × Nat × Nat) (zh zl zf zp zr zw zs : Int32) (e : Int64 × Int64) (T : Nat → Int32) : pG o mp g (ad, (zh, zl, zf, zp, zr, -1, zw, zs), e, T) = g := rfl
theorem pZ_some (o : Nat → Int32) (mp : Int32) (g : Nat → Int32) (ad : Nat × Nat × Nat) (zh zl zf zp zr zw zs : Int32) (e : Int64 × Int64) (T : Nat → Int32) {b : Nat} (hb : b < 1440) : pZ o mp g (ad, (zh, zl, zf, zp, zr, nI b, zw, zs), e, T) = (ad, (zh, zl, zf, zp, zr, nI b, zw, nI (pzS o g zl zh zf zp mp zw T b)), e, pzT o g zl zh zf zp mp zw T b) := by
  have h : pZ o mp g (ad, (zh, zl, zf, zp, zr, nI b, zw, zs), e, T) = (ad, (zh, zl, zf, zp, zr, nI b, zw, nI (pzS o g zl zh zf zp mp zw T (nI b).toNatClampNeg)), e, pzT o g zl zh zf zp mp zw T (nI b).toNatClampNeg) := if_neg (nb_ne hb)
  rw [h, nI_clamp (by omega)]
theorem pG_some (o : Nat → Int32) (mp : Int32) (g : Nat → Int32) (ad : Nat × Nat × Nat) (zh zl zf zp zr zw zs : Int32) (e : Int64 × Int64) (T : Nat → Int32) {b : Nat} (hb : b < 1440) : pG o mp g (ad, (zh, zl, zf, zp, zr, nI b, zw, zs), e, T) = (pzH o g zl zh zf zp mp zw T b).2 := by
  have h : pG o mp g (ad, (zh, zl, zf, zp, zr, nI b, zw, zs), e, T) = (pzH o g zl zh zf zp mp zw T (nI b).toNatClampNeg).2 := if_neg (nb_ne hb)
  rw [h, nI_clamp (by omega)]
/-- zone i in rank r's turn -/
def plS (o : Nat → Int32) (mp : Int32) (r i : Nat) (st : List ZD × (Nat → Int32)) : List ZD × (Nat → Int32) := match st.1[i]? with
  | some z => if z.2.1.2.2.2.2.1 = nI r then (st.1.set i (pZ o mp st.2 z), pG o mp st.2 z) else st
  | none => st
def plR (o : Nat → Int32) (mp : Int32) (r : Nat) (st : List ZD × (Nat → Int32)) : Nat → List ZD × (Nat → Int32)
  | 0 => st
  | i + 1 => plS o mp r i (plR o mp r st i)
def plA (o : Nat → Int32) (mp : Int32) (nz : Nat) (st : List ZD × (Nat → Int32)) : Nat → List ZD × (Nat → Int32)
  | 0 => st
  | r + 1 => plR o mp r (plA o mp nz st r) nz
/-- what stays: addresses, and zones that are in order -/
def plOk (fZ : Nat → Option Nat) (nz : Nat) (zs : List ZD) : Prop := zs.length = nz ∧ (∀ (j : Nat) (z : ZD), zs[j]? = some z → fZ j = some z.1.1) ∧ ∀ z ∈ zs, ZOk z
theorem plS_ok {o : Nat → Int32} {mp : Int32} {r i nz : Nat} {fZ : Nat → Option Nat} {st : List ZD × (Nat → Int32)} (h : plOk fZ nz st.1) : plOk fZ nz (plS o mp r i st).1 := by
  unfold plS
  split
  · rename_i z hz
    split
    · refine ⟨by simp [h.1], fun j z' hj => ?_, fun z' hz' => ?_⟩
      · by_cases e : j = i
        · subst e
          rw [List.getElem?_set_self (List.getElem?_eq_some_iff.mp hz).1] at hj
          cases hj
          rw [pZ_ad]
          exact h.2.1 j z hz
        · rw [List.getElem?_set_ne (Ne.symm e)] at hj
          exact h.2.1 j z' hj
      · rcases List.mem_or_eq_of_mem_set hz' with q | q
        · exact h.2.2 z' q
        · rw [q]; exact pZ_ok (h.2.2 z (List.mem_of_getElem? hz))
    · exact h
  · exact h
/-- what makePlan makes of the state -/
def plTo (o : Nat → Int32) (mp : Int32) (nz : Nat) (zs0 : List ZD) (fG g0 : Nat → Int32) (pl : Int32) (zs1 : List ZD) (g1 : Nat → Int32) : Prop :=
  (pl = 1 ∧ zs1 = zs0 ∧ g1 = fG) ∨ (pl = 0 ∧ fillO fG 0 0 1440 = g0 ∧ zs1 = (plA o mp nz (zs0, g0) 10).1 ∧ g1 = (plA o mp nz (zs0, g0) 10).2)
theorem plS_ad {o : Nat → Int32} {mp : Int32} {r i : Nat} {st : List ZD × (Nat → Int32)} : (plS o mp r i st).1.map (fun z => z.1) = st.1.map (fun z => z.1) := by
  unfold plS
  split
  · rename_i z hz
    split
    · apply List.ext_getElem?
      intro j
      rw [List.getElem?_map, List.getElem?_map]
      by_cases e : j = i
      · subst e
        rw [List.getElem?_set_self (List.getElem?_eq_some_iff.mp hz).1, hz]
        simp [pZ_ad]
      · rw [List.getElem?_set_ne (Ne.symm e)]
    · rfl
  · rfl
theorem plR_ad {o : Nat → Int32} {mp : Int32} {r : Nat} {st : List ZD × (Nat → Int32)} : ∀ i, (plR o mp r st i).1.map (fun z => z.1) = st.1.map (fun z => z.1)
  | 0 => rfl
  | i + 1 => plS_ad.trans (plR_ad i)
theorem plA_ad {o : Nat → Int32} {mp : Int32} {nz : Nat} {st : List ZD × (Nat → Int32)} : ∀ r, (plA o mp nz st r).1.map (fun z => z.1) = st.1.map (fun z => z.1)
  | 0 => rfl
  | r + 1 => (plR_ad nz).trans (plA_ad r)
theorem plTo_ad {o : Nat → Int32} {mp : Int32} {nz : Nat} {zs0 zs1 : List ZD} {fG g0 g1 : Nat → Int32} {pl : Int32} (h : plTo o mp nz zs0 fG g0 pl zs1 g1) : zs1.map (fun z => z.1) = zs0.map (fun z => z.1) := by
  rcases h with ⟨_, rfl, _⟩ | ⟨_, _, rfl, _⟩
  · rfl
  · exact plA_ad 10
theorem adr_eq {cI : ClassId} {zs1 zs0 : List ZD} {B1 B : va_W} (hB : B1.map Prod.fst = B.map Prod.fst) (h : zs1.map (fun z => z.1) = zs0.map (fun z => z.1)) : (B1 ++ zs1.flatMap (tri cI)).map Prod.fst = (B ++ zs0.flatMap (tri cI)).map Prod.fst := by
  have g : ∀ zs : List ZD, (zs.flatMap (tri cI)).map Prod.fst = (zs.map (fun z => z.1)).flatMap (fun a => [a.1, a.2.1, a.2.2]) := by
    intro zs
    induction zs with
    | nil => rfl
    | cons z zs ih =>
      rw [List.flatMap_cons, List.map_append, ih, List.map_cons, List.flatMap_cons]
      obtain ⟨⟨za, la, wa⟩, ⟨zh, zl, zf, zp, zr, zm, zw, zs⟩, ⟨ea, eb⟩, T⟩ := z
      rfl
  rw [List.map_append, List.map_append, hB, g, g, h]
theorem free_all {A0 : Nat → Prop} {ws : va_W} {H0 H : Heap} {locs : List Loc} (hD : va_D A0 ws) (hS : va_S A0 H0 H locs) (hA : ∀ q, H0.size ≤ q → A0 q) : ∀ q, va_A ws H.size q → A0 q := by
  rintro q (⟨k, e, h⟩ | h)
  · exact hD.2 k _ h
  · exact hA q (Nat.le_trans hS.1 h)
theorem wd_mid {A : Nat → Prop} {B M R : va_W} (h : va_D A ((B ++ M) ++ R)) : va_D A M := by
  have g : ∀ (k : Nat) (q : Nat × va_E), M[k]? = some q → ((B ++ M) ++ R)[B.length + k]? = some q := by
    intro k q hk
    have hl := (List.getElem?_eq_some_iff.mp hk).1
    rw [List.getElem?_append_left (by rw [List.length_append]; omega), List.getElem?_append_right (by omega), show B.length + k - B.length = k by omega]
    exact hk
  refine ⟨fun i j p q hi hj e => ?_, fun k q hk => h.2 _ q (g k q hk)⟩
  have := h.1 _ _ p q (g i p hi) (g j q hj) e
  omega
theorem zone_P {D : va_G} {cl : List vw_C} {cI : ClassId} {B : va_W} {zs : List ZD} {H : Heap} {k : Nat} {z : ZD} (h : va_P D cl (B ++ zs.flatMap (tri cI)) H) (hz : zs[k]? = some z) : va_P D cl (tri cI z) H :=
  wp_mem.mpr (fun q hq => wp_mem.mp h q (List.mem_append_right _ (List.mem_flatMap.mpr ⟨z, List.mem_of_getElem? hz, hq⟩)))
theorem zone_D {A : Nat → Prop} {cI : ClassId} {B : va_W} {zs : List ZD} {k : Nat} {z : ZD} (h : va_D A (B ++ zs.flatMap (tri cI))) (hz : zs[k]? = some z) : va_D A (tri cI z) := by
  obtain ⟨l1, z9, l2, es, el⟩ := split_at zs k (List.getElem?_eq_some_iff.mp hz).1
  subst es
  rw [← el, split_get] at hz
  cases hz
  exact wd_mid (wd_perm (foc_perm cI B l1 l2 z) h)
theorem plR_ok {o : Nat → Int32} {mp : Int32} {r nz : Nat} {fZ : Nat → Option Nat} {st : List ZD × (Nat → Int32)} (h : plOk fZ nz st.1) : ∀ i, plOk fZ nz (plR o mp r st i).1
  | 0 => h
  | i + 1 => plS_ok (plR_ok h i)
theorem plA_ok {o : Nat → Int32} {mp : Int32} {nz : Nat} {fZ : Nat → Option Nat} {st : List ZD × (Nat → Int32)} (h : plOk fZ nz st.1) : ∀ r, plOk fZ nz (plA o mp nz st r).1
  | 0 => h
  | r + 1 => plR_ok (plA_ok h r) nz
theorem g_C_183 : GoodIn GG (wsV R_C 183 R_C y_C_planZone w_C_planZone) := goodG (List.forall_mem_append.mpr ⟨List.forall_mem_cons.mpr ⟨k_271, List.forall_mem_cons.mpr ⟨k_273, List.forall_mem_cons.mpr ⟨ks_4, List.forall_mem_cons.mpr ⟨k_1, fun _ h => absurd h List.not_mem_nil⟩⟩⟩⟩, List.forall_mem_cons.mpr ⟨k_274, fun _ h => h⟩⟩)
set_option maxHeartbeats 4000000 in
set_option maxRecDepth 100000 in
theorem c_makePlan (l : Launch) (dC : Nat → ClassId) (dI : Nat → Nat → Nat) (cI cJ cZ cB : ClassId) (a0 aZ aO aG aP aW aK : Nat) (zc orr ol mp pl fa fb : Int32) (fZ : Nat → Option Nat) (fO fG g0 g1 : Nat → Int32) (nz : Nat) (zs0 zs1 : List ZD) (sz : Nat) (hn : nz ≤ 6) (hok : plOk fZ nz zs0) (hto : plTo fO mp nz zs0 fG g0 pl zs1 g1) : Met l y_C_makePlan w_C_makePlan ({ frames := 4, cells := 0, slots := 0, locals := 93 }) (PC (dC, dI) (TY cI cJ cZ cB) [.ref a0] ([(a0, .inr (2, [.ref aZ, .int (nI nz), .ref aO, .int orr, .int ol, .int mp, .ref aG, .int pl, .int fa, .int fb, .ref aP, .ref aW, .ref aK])), (aZ, .inl (cZ, 6, .inr (.inr (.inr (.inr fZ))))), (aO, .inl (cI, 1440, .inl fO)), (aG, .inl (cI, 1440, .inl fG))] ++ (zs0.flatMap (tri cI))) sz (va_A ([(a0, .inr (2, [.ref aZ, .int (nI nz), .ref aO, .int orr, .int ol, .int mp, .ref aG, .int pl, .int fa, .int fb, .ref aP, .ref aW, .ref aK])), (aZ, .inl (cZ, 6, .inr (.inr (.inr (.inr fZ))))), (aO, .inl (cI, 1440, .inl fO)), (aG, .inl (cI, 1440, .inl fG))] ++ (zs0.flatMap (tri cI))) sz)) (va_Qv (fun (_ : Unit) => True) (fun (_ : Unit) (t : State) => va_P (dC, dI) vwCl ([(a0, .inr (2, [.ref aZ, .int (nI nz), .ref aO, .int orr, .int ol, .int mp, .ref aG, .int 1, .int fa, .int fb, .ref aP, .ref aW, .ref aK])), (aZ, .inl (cZ, 6, .inr (.inr (.inr (.inr fZ))))), (aO, .inl (cI, 1440, .inl fO)), (aG, .inl (cI, 1440, .inl g1))] ++ (zs1.flatMap (tri cI))) t.heap) (va_A ([(a0, .inr (2, [.ref aZ, .int (nI nz), .ref aO, .int orr, .int ol, .int mp, .ref aG, .int pl, .int fa, .int fb, .ref aP, .ref aW, .ref aK])), (aZ, .inl (cZ, 6, .inr (.inr (.inr (.inr fZ))))), (aO, .inl (cI, 1440, .inl fO)), (aG, .inl (cI, 1440, .inl fG))] ++ (zs0.flatMap (tri cI))) sz)) 0 0 (va_A ([(a0, .inr (2, [.ref aZ, .int (nI nz), .ref aO, .int orr, .int ol, .int mp, .ref aG, .int pl, .int fa, .int fb, .ref aP, .ref aW, .ref aK])), (aZ, .inl (cZ, 6, .inr (.inr (.inr (.inr fZ))))), (aO, .inl (cI, 1440, .inl fO)), (aG, .inl (cI, 1440, .inl fG))] ++ (zs0.flatMap (tri cI))) sz) := by
  refine Met.ofW (cc := b_C_makePlan) (maxL := 3) (ret := none) (by decide) rfl ?_
  intro p e s m args below meth c s₁ B hml hv
  obtain ⟨rfl, hsz, hP, hK, hD0, hE⟩ := hv
  have hx := B.exec
  have hb := B.bytes
  have hr := B.returns
  have hG : ∀ w ∈ GG, w.before _ s = true := fun w h => atoms_spec (ws := w_C_makePlan) B.pre w (List.mem_cons_of_mem _ h)
  have hown : s.vm.findClass R_C = some m.cls := findClass_of_methodNamed B.named
  have hlocks := B.notSynchronized
  subst hsz
  have hD := hD0.self (sz := s.heap.size)
  generalize hAe : (va_A ([(a0, .inr (2, [.ref aZ, .int (nI nz), .ref aO, .int orr, .int ol, .int mp, .ref aG, .int pl, .int fa, .int fb, .ref aP, .ref aW, .ref aK])), (aZ, .inl (cZ, 6, .inr (.inr (.inr (.inr fZ))))), (aO, .inl (cI, 1440, .inl fO)), (aG, .inl (cI, 1440, .inl fG))] ++ (zs0.flatMap (tri cI))) s.heap.size) = A at hD hE ⊢
  have hA : ∀ q : Nat, s.heap.size ≤ q → A q := fun q h => by rw [← hAe]; exact Or.inr h
  have hS : va_S A s.heap s.heap [] := va_S.rf
  obtain ⟨H, hH⟩ : ∃ z, z = s.heap := ⟨_, rfl⟩
  rw [← hH] at hP
  have hS : va_S A s.heap H [] := by rw [hH]; exact hS
  rw [← hH]
  have hl9 := lv_entry ([.ref a0]) (n := 3) (Nat.le_of_ble_eq_true rfl)
  rw [lg_entry_eq]
  generalize (lg_sl ([.ref a0]) ++ List.replicate (3 - (lg_sl ([.ref a0])).length) Slot.unset).toArray = ls at hl9 ⊢
  have hl9 : lv_has ls 3 [(0, .ref a0)] := hl9
  rcases hto with ⟨epl, ez1, eg1⟩ | ⟨epl, hg0, ez1, eg1⟩
  · subst epl
    refine lv_aload_n hx hb d_C_makePlan_0 rfl (lv_at hl9 0 rfl) ?_
    refine va_get (D := (dC, dI)) (ci := 2) (v := .int 1) (C := R_C) (T := F_C) (N := 13) hx hb hG i_C hown hK hP 0 rfl rfl 7 (by decide) (hG _ k_29) (fun _ h9 => h9) rfl d_C_makePlan_1 ?_
    refine lv_if_eq (tgt := 8) hx hb d_C_makePlan_4 (by decide) (fun c1 => ?_) (fun c1 => ?_)
    · exact absurd c1 (by decide)
    · have hP : va_P (dC, dI) vwCl ([(a0, .inr (2, [.ref aZ, .int (nI nz), .ref aO, .int orr, .int ol, .int mp, .ref aG, .int 1, .int fa, .int fb, .ref aP, .ref aW, .ref aK])), (aZ, .inl (cZ, 6, .inr (.inr (.inr (.inr fZ))))), (aO, .inl (cI, 1440, .inl fO)), (aG, .inl (cI, 1440, .inl g1))] ++ (zs1.flatMap (tri cI))) H := by rw [ez1, eg1]; exact hP
      exact W.vret hx hb hr (fun t ht hW => ⟨⟨(), rfl, trivial, by have h9 := hP; rw [← ht] at h9; exact h9⟩, hS.F ht⟩) hS.2.2 d_C_makePlan_7
  · subst epl
    refine lv_aload_n hx hb d_C_makePlan_0 rfl (lv_at hl9 0 rfl) ?_
    refine va_get (D := (dC, dI)) (ci := 2) (v := .int 0) (C := R_C) (T := F_C) (N := 13) hx hb hG i_C hown hK hP 0 rfl rfl 7 (by decide) (hG _ k_29) (fun _ h9 => h9) rfl d_C_makePlan_1 ?_
    refine lv_if_eq (tgt := 8) hx hb d_C_makePlan_4 (by decide) (fun c1 => ?_) (fun c1 => ?_)
    · refine lv_iconst (v := 0) hx hb d_C_makePlan_8 (by decide) ?_
      refine lv_istore_n (lv' := [(1, .int 0), (0, .ref a0)]) hx hb d_C_makePlan_9 rfl hl9 (by decide) rfl (fun ls hl9 => ?_)
      have lp : ∀ (n : Nat) (i : Nat), i ≤ 1440 → 1441 ≤ i + n → ∀ (H : Heap) (locs : List Loc) (ls : Array Slot), va_P (dC, dI) vwCl ([(a0, .inr (2, [.ref aZ, .int (nI nz), .ref aO, .int orr, .int ol, .int mp, .ref aG, .int 0, .int fa, .int fb, .ref aP, .ref aW, .ref aK])), (aZ, .inl (cZ, 6, .inr (.inr (.inr (.inr fZ))))), (aO, .inl (cI, 1440, .inl fO)), (aG, .inl (cI, 1440, .inl (fillO fG 0 0 i)))] ++ (zs0.flatMap (tri cI))) H → va_D A ([(a0, .inr (2, [.ref aZ, .int (nI nz), .ref aO, .int orr, .int ol, .int mp, .ref aG, .int 0, .int fa, .int fb, .ref aP, .ref aW, .ref aK])), (aZ, .inl (cZ, 6, .inr (.inr (.inr (.inr fZ))))), (aO, .inl (cI, 1440, .inl fO)), (aG, .inl (cI, 1440, .inl (fillO fG 0 0 i)))] ++ (zs0.flatMap (tri cI))) → va_S A s.heap H locs → lv_has ls 3 [(1, .int (nI i)), (0, .ref a0)] → W p l e (headSpec w_C_makePlan ({ frames := 4, cells := 0, slots := 0, locals := 93 })).room s m ([.ref a0] : List Value).toArray below meth c H locs 0 0 (MQ below (va_Qv (fun (_ : Unit) => True) (fun (_ : Unit) (t : State) => va_P (dC, dI) vwCl ([(a0, .inr (2, [.ref aZ, .int (nI nz), .ref aO, .int orr, .int ol, .int mp, .ref aG, .int 1, .int fa, .int fb, .ref aP, .ref aW, .ref aK])), (aZ, .inl (cZ, 6, .inr (.inr (.inr (.inr fZ))))), (aO, .inl (cI, 1440, .inl fO)), (aG, .inl (cI, 1440, .inl g1))] ++ (zs1.flatMap (tri cI))) t.heap) A) ([.ref a0] : List Value).toArray s 0 0 A) (F0 m 10 ls []) := by
        intro n
        induction n with
        | zero =>
          intro i hi hin
          exact absurd hin (by omega)
        | succ n ih =>
          intro i hi hin H locs ls hP hD hS hl9
          refine lv_iload_n hx hb d_C_makePlan_10 rfl (lv_at hl9 0 rfl) ?_
          refine lv_sipush (v := 1440) hx hb d_C_makePlan_11 (by decide) ?_
          refine lv_icmp_ge (tgt := 30) hx hb d_C_makePlan_14 (by decide) (fun c2 => ?_) (fun c2 => ?_)
          · have e9 : i = 1440 := by have := ge_of_c (i := i) (b := 1440) (by omega) (by decide) c2; omega
            rw [e9, hg0] at hP hD
            clear ih hin
            refine lv_iconst (v := 0) hx hb d_C_makePlan_30 (by decide) ?_
            refine lv_istore_n (lv' := [(1, .int 0), (0, .ref a0)]) hx hb d_C_makePlan_31 rfl hl9 (by decide) rfl (fun ls hl9 => ?_)
            have hP : va_P (dC, dI) vwCl ([(a0, .inr (2, [.ref aZ, .int (nI nz), .ref aO, .int orr, .int ol, .int mp, .ref aG, .int 0, .int fa, .int fb, .ref aP, .ref aW, .ref aK])), (aZ, .inl (cZ, 6, .inr (.inr (.inr (.inr fZ))))), (aO, .inl (cI, 1440, .inl fO)), (aG, .inl (cI, 1440, .inl ((plA fO mp nz (zs0, g0) 0).2)))] ++ ((plA fO mp nz (zs0, g0) 0).1.flatMap (tri cI))) H := hP
            have hD : va_D A ([(a0, .inr (2, [.ref aZ, .int (nI nz), .ref aO, .int orr, .int ol, .int mp, .ref aG, .int 0, .int fa, .int fb, .ref aP, .ref aW, .ref aK])), (aZ, .inl (cZ, 6, .inr (.inr (.inr (.inr fZ))))), (aO, .inl (cI, 1440, .inl fO)), (aG, .inl (cI, 1440, .inl ((plA fO mp nz (zs0, g0) 0).2)))] ++ ((plA fO mp nz (zs0, g0) 0).1.flatMap (tri cI))) := hD
            have lp2 : ∀ (n : Nat) (r : Nat), r ≤ 10 → 11 ≤ r + n → ∀ (H : Heap) (locs : List Loc) (ls : Array Slot), va_P (dC, dI) vwCl ([(a0, .inr (2, [.ref aZ, .int (nI nz), .ref aO, .int orr, .int ol, .int mp, .ref aG, .int 0, .int fa, .int fb, .ref aP, .ref aW, .ref aK])), (aZ, .inl (cZ, 6, .inr (.inr (.inr (.inr fZ))))), (aO, .inl (cI, 1440, .inl fO)), (aG, .inl (cI, 1440, .inl ((plA fO mp nz (zs0, g0) r).2)))] ++ ((plA fO mp nz (zs0, g0) r).1.flatMap (tri cI))) H → va_D A ([(a0, .inr (2, [.ref aZ, .int (nI nz), .ref aO, .int orr, .int ol, .int mp, .ref aG, .int 0, .int fa, .int fb, .ref aP, .ref aW, .ref aK])), (aZ, .inl (cZ, 6, .inr (.inr (.inr (.inr fZ))))), (aO, .inl (cI, 1440, .inl fO)), (aG, .inl (cI, 1440, .inl ((plA fO mp nz (zs0, g0) r).2)))] ++ ((plA fO mp nz (zs0, g0) r).1.flatMap (tri cI))) → va_S A s.heap H locs → lv_has ls 3 [(1, .int (nI r)), (0, .ref a0)] → W p l e (headSpec w_C_makePlan ({ frames := 4, cells := 0, slots := 0, locals := 93 })).room s m ([.ref a0] : List Value).toArray below meth c H locs 0 0 (MQ below (va_Qv (fun (_ : Unit) => True) (fun (_ : Unit) (t : State) => va_P (dC, dI) vwCl ([(a0, .inr (2, [.ref aZ, .int (nI nz), .ref aO, .int orr, .int ol, .int mp, .ref aG, .int 1, .int fa, .int fb, .ref aP, .ref aW, .ref aK])), (aZ, .inl (cZ, 6, .inr (.inr (.inr (.inr fZ))))), (aO, .inl (cI, 1440, .inl fO)), (aG, .inl (cI, 1440, .inl g1))] ++ (zs1.flatMap (tri cI))) t.heap) A) ([.ref a0] : List Value).toArray s 0 0 A) (F0 m 32 ls []) := by
              intro n
              induction n with
              | zero =>
                intro r hr1 hin2
                exact absurd hin2 (by omega)
              | succ n ih =>
                intro r hr1 hin2 H locs ls hP hD hS hl9
                have ih0 := ih
                have hokr : plOk fZ nz (plA fO mp nz (zs0, g0) r).1 := plA_ok (st := (zs0, g0)) hok r
                refine lv_iload_n hx hb d_C_makePlan_32 rfl (lv_at hl9 0 rfl) ?_
                refine lv_bipush (v := 9) hx hb d_C_makePlan_33 (by decide) ?_
                refine lv_icmp_gt (tgt := 83) hx hb d_C_makePlan_35 (by decide) (fun c3 => ?_) (fun c3 => ?_)
                · have e8 : r = 10 := by have h9 := (nI_ltI (a := 9) (b := r) (by decide) (by omega)).mp c3; omega
                  rw [e8] at hP hD
                  refine lv_aload_n hx hb d_C_makePlan_83 rfl (lv_at hl9 1 rfl) ?_
                  refine lv_iconst (v := 1) hx hb d_C_makePlan_84 (by decide) ?_
                  refine va_put (D := (dC, dI)) (ci := 2) (v := .int 1) (ty := .boolean) (C := R_C) (T := F_C) (N := 13) hx hb hG i_C t_C t_C_ok n_C hown hK hP hD hS 0 rfl rfl 7 (by decide) (hG _ k_29) (fun _ h9 => h9) rfl (by decide +kernel) rfl rfl (Nat.le_of_ble_eq_true rfl) d_C_makePlan_85 (fun H locs hP hD hS => ?_)
                  have hP : va_P (dC, dI) vwCl ([(a0, .inr (2, [.ref aZ, .int (nI nz), .ref aO, .int orr, .int ol, .int mp, .ref aG, .int 1, .int fa, .int fb, .ref aP, .ref aW, .ref aK])), (aZ, .inl (cZ, 6, .inr (.inr (.inr (.inr fZ))))), (aO, .inl (cI, 1440, .inl fO)), (aG, .inl (cI, 1440, .inl ((plA fO mp nz (zs0, g0) 10).2)))] ++ ((plA fO mp nz (zs0, g0) 10).1.flatMap (tri cI))) H := hP
                  have hD : va_D A ([(a0, .inr (2, [.ref aZ, .int (nI nz), .ref aO, .int orr, .int ol, .int mp, .ref aG, .int 1, .int fa, .int fb, .ref aP, .ref aW, .ref aK])), (aZ, .inl (cZ, 6, .inr (.inr (.inr (.inr fZ))))), (aO, .inl (cI, 1440, .inl fO)), (aG, .inl (cI, 1440, .inl ((plA fO mp nz (zs0, g0) 10).2)))] ++ ((plA fO mp nz (zs0, g0) 10).1.flatMap (tri cI))) := hD
                  rw [← ez1, ← eg1] at hP
                  exact W.vret hx hb hr (fun t ht hW => ⟨⟨(), rfl, trivial, by have h9 := hP; rw [← ht] at h9; exact h9⟩, hS.F ht⟩) hS.2.2 d_C_makePlan_88
                · have e8 : r ≤ 9 := by have h9 := Int32.not_lt.mp c3; exact (nI_leI (a := r) (b := 9) (by omega) (by decide)).mp h9
                  refine lv_iconst (v := 0) hx hb d_C_makePlan_38 (by decide) ?_
                  refine lv_istore_n (lv' := [(2, .int 0), (1, .int (nI r)), (0, .ref a0)]) hx hb d_C_makePlan_39 rfl hl9 (by decide) rfl (fun ls hl9 => ?_)
                  have hP : va_P (dC, dI) vwCl ([(a0, .inr (2, [.ref aZ, .int (nI nz), .ref aO, .int orr, .int ol, .int mp, .ref aG, .int 0, .int fa, .int fb, .ref aP, .ref aW, .ref aK])), (aZ, .inl (cZ, 6, .inr (.inr (.inr (.inr fZ))))), (aO, .inl (cI, 1440, .inl fO)), (aG, .inl (cI, 1440, .inl ((plR fO mp r (plA fO mp nz (zs0, g0) r) 0).2)))] ++ ((plR fO mp r (plA fO mp nz (zs0, g0) r) 0).1.flatMap (tri cI))) H := hP
                  have hD : va_D A ([(a0, .inr (2, [.ref aZ, .int (nI nz), .ref aO, .int orr, .int ol, .int mp, .ref aG, .int 0, .int fa, .int fb, .ref aP, .ref aW, .ref aK])), (aZ, .inl (cZ, 6, .inr (.inr (.inr (.inr fZ))))), (aO, .inl (cI, 1440, .inl fO)), (aG, .inl (cI, 1440, .inl ((plR fO mp r (plA fO mp nz (zs0, g0) r) 0).2)))] ++ ((plR fO mp r (plA fO mp nz (zs0, g0) r) 0).1.flatMap (tri cI))) := hD
                  have lp3 : ∀ (n : Nat) (j : Nat), j ≤ nz → nz + 1 ≤ j + n → ∀ (H : Heap) (locs : List Loc) (ls : Array Slot), va_P (dC, dI) vwCl ([(a0, .inr (2, [.ref aZ, .int (nI nz), .ref aO, .int orr, .int ol, .int mp, .ref aG, .int 0, .int fa, .int fb, .ref aP, .ref aW, .ref aK])), (aZ, .inl (cZ, 6, .inr (.inr (.inr (.inr fZ))))), (aO, .inl (cI, 1440, .inl fO)), (aG, .inl (cI, 1440, .inl ((plR fO mp r (plA fO mp nz (zs0, g0) r) j).2)))] ++ ((plR fO mp r (plA fO mp nz (zs0, g0) r) j).1.flatMap (tri cI))) H → va_D A ([(a0, .inr (2, [.ref aZ, .int (nI nz), .ref aO, .int orr, .int ol, .int mp, .ref aG, .int 0, .int fa, .int fb, .ref aP, .ref aW, .ref aK])), (aZ, .inl (cZ, 6, .inr (.inr (.inr (.inr fZ))))), (aO, .inl (cI, 1440, .inl fO)), (aG, .inl (cI, 1440, .inl ((plR fO mp r (plA fO mp nz (zs0, g0) r) j).2)))] ++ ((plR fO mp r (plA fO mp nz (zs0, g0) r) j).1.flatMap (tri cI))) → va_S A s.heap H locs → lv_has ls 3 [(2, .int (nI j)), (1, .int (nI r)), (0, .ref a0)] → W p l e (headSpec w_C_makePlan ({ frames := 4, cells := 0, slots := 0, locals := 93 })).room s m ([.ref a0] : List Value).toArray below meth c H locs 0 0 (MQ below (va_Qv (fun (_ : Unit) => True) (fun (_ : Unit) (t : State) => va_P (dC, dI) vwCl ([(a0, .inr (2, [.ref aZ, .int (nI nz), .ref aO, .int orr, .int ol, .int mp, .ref aG, .int 1, .int fa, .int fb, .ref aP, .ref aW, .ref aK])), (aZ, .inl (cZ, 6, .inr (.inr (.inr (.inr fZ))))), (aO, .inl (cI, 1440, .inl fO)), (aG, .inl (cI, 1440, .inl g1))] ++ (zs1.flatMap (tri cI))) t.heap) A) ([.ref a0] : List Value).toArray s 0 0 A) (F0 m 40 ls []) := by
                    intro n
                    induction n with
                    | zero =>
                      intro j hj hin3
                      exact absurd hin3 (by omega)
                    | succ n ih =>
                      intro j hj hin3 H locs ls hP hD hS hl9
                      have hoki : plOk fZ nz (plR fO mp r (plA fO mp nz (zs0, g0) r) j).1 := plR_ok hokr j
                      refine lv_iload_n hx hb d_C_makePlan_40 rfl (lv_at hl9 0 rfl) ?_
                      refine lv_aload_n hx hb d_C_makePlan_41 rfl (lv_at hl9 2 rfl) ?_
                      refine va_get (D := (dC, dI)) (ci := 2) (v := .int (nI nz)) (C := R_C) (T := F_C) (N := 13) hx hb hG i_C hown hK hP 0 rfl rfl 1 (by decide) (hG _ k_23) (fun _ h9 => h9) rfl d_C_makePlan_42 ?_
                      refine lv_icmp_ge (tgt := 77) hx hb d_C_makePlan_45 (by decide) (fun c4 => ?_) (fun c4 => ?_)
                      · have e7 : j = nz := by have := ge_of_c (i := j) (b := nz) (by omega) (by omega) c4; omega
                        have e6 : plR fO mp r (plA fO mp nz (zs0, g0) r) j = plA fO mp nz (zs0, g0) (r + 1) := by rw [e7]; rfl
                        rw [e6] at hP hD
                        refine lv_iinc (v := ((nI r) + 1)) (lv' := [(1, .int ((nI r) + 1)), (2, .int (nI j)), (0, .ref a0)]) hx hb d_C_makePlan_77 hl9 (k := 1) rfl rfl (by decide) rfl (fun ls hl9 => ?_)
                        refine lv_goto (tgt := 32) hx hb d_C_makePlan_80 (by decide) ?_
                        rw [nI_1] at hl9
                        exact ih0 (r + 1) (by omega) (by omega) _ _ ls hP hD hS (lv_sub hl9 [0, 2] rfl)
                      · have e7 : j < nz := lt_of_c (by omega) (by omega) c4
                        obtain ⟨l1, z, l2, es, el⟩ := split_at (plR fO mp r (plA fO mp nz (zs0, g0) r) j).1 j (by rw [hoki.1]; exact e7)
                        have hget : (plR fO mp r (plA fO mp nz (zs0, g0) r) j).1[j]? = some z := by rw [es, ← el]; exact split_get
                        have hzr : fZ j = some z.1.1 := hoki.2.1 j z hget
                        have hzo : ZOk z := hoki.2.2 z (List.mem_of_getElem? hget)
                        have hstep : plR fO mp r (plA fO mp nz (zs0, g0) r) (j + 1) = if z.2.1.2.2.2.2.1 = nI r then ((plR fO mp r (plA fO mp nz (zs0, g0) r) j).1.set j (pZ fO mp (plR fO mp r (plA fO mp nz (zs0, g0) r) j).2 z), pG fO mp (plR fO mp r (plA fO mp nz (zs0, g0) r) j).2 z) else plR fO mp r (plA fO mp nz (zs0, g0) r) j := by show plS _ _ _ _ _ = _; unfold plS; rw [hget]
                        obtain ⟨g, eg⟩ : ∃ g, g = (plR fO mp r (plA fO mp nz (zs0, g0) r) j).2 := ⟨_, rfl⟩
                        rw [← eg] at hP hD hstep
                        rw [es] at hP hD
                        have hP := wp_perm (foc_perm cI _ l1 l2 z) hP
                        have hD := wd_perm (foc_perm cI _ l1 l2 z) hD
                        obtain ⟨⟨za, la, wa⟩, ⟨zh, zl, zf, zp, zr, zm, zw, zs⟩, ⟨ea, eb⟩, fT⟩ := z
                        have hP : va_P (dC, dI) vwCl ([(a0, .inr (2, [.ref aZ, .int (nI nz), .ref aO, .int orr, .int ol, .int mp, .ref aG, .int 0, .int fa, .int fb, .ref aP, .ref aW, .ref aK])), (aZ, .inl (cZ, 6, .inr (.inr (.inr (.inr fZ))))), (aO, .inl (cI, 1440, .inl fO)), (aG, .inl (cI, 1440, .inl g)), (za, .inr (1, [.int zh, .int zl, .int zf, .int zp, .int zr, .int zm, .int zw, .ref la, .int zs, .ref wa])), (la, .inr (0, [.long ea, .long eb])), (wa, .inl (cI, 1441, .inl fT))] ++ (l1.flatMap (tri cI) ++ l2.flatMap (tri cI))) H := hP
                        have hD : va_D A ([(a0, .inr (2, [.ref aZ, .int (nI nz), .ref aO, .int orr, .int ol, .int mp, .ref aG, .int 0, .int fa, .int fb, .ref aP, .ref aW, .ref aK])), (aZ, .inl (cZ, 6, .inr (.inr (.inr (.inr fZ))))), (aO, .inl (cI, 1440, .inl fO)), (aG, .inl (cI, 1440, .inl g)), (za, .inr (1, [.int zh, .int zl, .int zf, .int zp, .int zr, .int zm, .int zw, .ref la, .int zs, .ref wa])), (la, .inr (0, [.long ea, .long eb])), (wa, .inl (cI, 1441, .inl fT))] ++ (l1.flatMap (tri cI) ++ l2.flatMap (tri cI))) := hD
                        have hin2 : vp_in (nI j) 6 := vp_in_nI (by omega) (by omega)
                        have hzr : fZ (nI j).toNatClampNeg = some za := by rw [nI_clamp (by omega)]; exact hzr
                        refine lv_aload_n hx hb d_C_makePlan_48 rfl (lv_at hl9 2 rfl) ?_
                        refine va_get (D := (dC, dI)) (ci := 2) (v := .ref aZ) (C := R_C) (T := F_C) (N := 13) hx hb hG i_C hown hK hP 0 rfl rfl 0 (by decide) (hG _ k_22) (fun _ h9 => h9) rfl d_C_makePlan_49 ?_
                        refine lv_iload_n hx hb d_C_makePlan_52 rfl (lv_at hl9 0 rfl) ?_
                        refine va_aldq hx hb hK hP 1 2 rfl rfl (hin2) d_C_makePlan_53 ?_
                        rw [hzr]
                        refine W.eq (g2 := F0 m 54 ls [.ref za]) rfl ?_
                        refine va_getN (D := (dC, dI)) (ci := 1) (v := .int zr) (C := R_Z) (T := F_Z) (N := 10) hx hb hG i_Z hown hK hP 4 rfl rfl 4 (by decide) (hE.1.use k_188) (fun _ h9 => h9) rfl d_C_makePlan_54 ?_
                        refine lv_iload_n hx hb d_C_makePlan_57 rfl (lv_at hl9 1 rfl) ?_
                        refine lv_icmp_ne (tgt := 71) hx hb d_C_makePlan_58 (by decide) (fun c5 => ?_) (fun c5 => ?_)
                        · have e5 : plR fO mp r (plA fO mp nz (zs0, g0) r) (j + 1) = (l1 ++ ((za, la, wa), (zh, zl, zf, zp, zr, zm, zw, zs), (ea, eb), fT) :: l2, g) := by rw [hstep, if_neg c5, eg, ← es]
                          have hP := wp_perm (foc_perm cI [(a0, .inr (2, [.ref aZ, .int (nI nz), .ref aO, .int orr, .int ol, .int mp, .ref aG, .int 0, .int fa, .int fb, .ref aP, .ref aW, .ref aK])), (aZ, .inl (cZ, 6, .inr (.inr (.inr (.inr fZ))))), (aO, .inl (cI, 1440, .inl fO)), (aG, .inl (cI, 1440, .inl g))] l1 l2 ((za, la, wa), (zh, zl, zf, zp, zr, zm, zw, zs), (ea, eb), fT)).symm hP
                          have hD := wd_perm (foc_perm cI [(a0, .inr (2, [.ref aZ, .int (nI nz), .ref aO, .int orr, .int ol, .int mp, .ref aG, .int 0, .int fa, .int fb, .ref aP, .ref aW, .ref aK])), (aZ, .inl (cZ, 6, .inr (.inr (.inr (.inr fZ))))), (aO, .inl (cI, 1440, .inl fO)), (aG, .inl (cI, 1440, .inl g))] l1 l2 ((za, la, wa), (zh, zl, zf, zp, zr, zm, zw, zs), (ea, eb), fT)).symm hD
                          have hP : va_P (dC, dI) vwCl ([(a0, .inr (2, [.ref aZ, .int (nI nz), .ref aO, .int orr, .int ol, .int mp, .ref aG, .int 0, .int fa, .int fb, .ref aP, .ref aW, .ref aK])), (aZ, .inl (cZ, 6, .inr (.inr (.inr (.inr fZ))))), (aO, .inl (cI, 1440, .inl fO)), (aG, .inl (cI, 1440, .inl ((plR fO mp r (plA fO mp nz (zs0, g0) r) (j + 1)).2)))] ++ ((plR fO mp r (plA fO mp nz (zs0, g0) r) (j + 1)).1.flatMap (tri cI))) H := by rw [e5]; exact hP
                          have hD : va_D A ([(a0, .inr (2, [.ref aZ, .int (nI nz), .ref aO, .int orr, .int ol, .int mp, .ref aG, .int 0, .int fa, .int fb, .ref aP, .ref aW, .ref aK])), (aZ, .inl (cZ, 6, .inr (.inr (.inr (.inr fZ))))), (aO, .inl (cI, 1440, .inl fO)), (aG, .inl (cI, 1440, .inl ((plR fO mp r (plA fO mp nz (zs0, g0) r) (j + 1)).2)))] ++ ((plR fO mp r (plA fO mp nz (zs0, g0) r) (j + 1)).1.flatMap (tri cI))) := by rw [e5]; exact hD
                          refine lv_iinc (v := ((nI j) + 1)) (lv' := [(2, .int ((nI j) + 1)), (1, .int (nI r)), (0, .ref a0)]) hx hb d_C_makePlan_71 hl9 (k := 0) rfl rfl (by decide) rfl (fun ls hl9 => ?_)
                          refine lv_goto (tgt := 40) hx hb d_C_makePlan_74 (by decide) ?_
                          rw [nI_1] at hl9
                          exact ih (j + 1) (by omega) (by omega) _ _ ls hP hD hS (lv_sub hl9 [0, 1, 2] rfl)
                        · refine lv_aload_n hx hb d_C_makePlan_61 rfl (lv_at hl9 2 rfl) ?_
                          refine lv_aload_n hx hb d_C_makePlan_62 rfl (lv_at hl9 2 rfl) ?_
                          refine va_get (D := (dC, dI)) (ci := 2) (v := .ref aZ) (C := R_C) (T := F_C) (N := 13) hx hb hG i_C hown hK hP 0 rfl rfl 0 (by decide) (hG _ k_22) (fun _ h9 => h9) rfl d_C_makePlan_63 ?_
                          refine lv_iload_n hx hb d_C_makePlan_66 rfl (lv_at hl9 0 rfl) ?_
                          refine va_aldq hx hb hK hP 1 2 rfl rfl (hin2) d_C_makePlan_67 ?_
                          rw [hzr]
                          refine W.eq (g2 := F0 m 68 ls [.ref za, .ref a0]) rfl ?_
                          obtain ⟨hzh, hzl, hzm⟩ := hzo
                          rcases hzm with hzm | ⟨b, hb1, hzm⟩
                          · have hzm : zm = -1 := hzm
                            subst hzm
                            have hPc := hP.sub (ws' := [(a0, .inr (2, [.ref aZ, .int (nI nz), .ref aO, .int orr, .int ol, .int mp, .ref aG, .int 0, .int fa, .int fb, .ref aP, .ref aW, .ref aK])), (aO, .inl (cI, 1440, .inl fO)), (aG, .inl (cI, 1440, .inl g)), (za, .inr (1, [.int zh, .int zl, .int zf, .int zp, .int zr, .int (-1), .int zw, .ref la, .int zs, .ref wa])), (wa, .inl (cI, 1441, .inl fT))]) [0, 2, 3, 4, 6] rfl
                            have hDc := hD.sub (ws' := [(a0, .inr (2, [.ref aZ, .int (nI nz), .ref aO, .int orr, .int ol, .int mp, .ref aG, .int 0, .int fa, .int fb, .ref aP, .ref aW, .ref aK])), (aO, .inl (cI, 1440, .inl fO)), (aG, .inl (cI, 1440, .inl g)), (za, .inr (1, [.int zh, .int zl, .int zf, .int zp, .int zr, .int (-1), .int zw, .ref la, .int zs, .ref wa])), (wa, .inl (cI, 1441, .inl fT))]) [0, 2, 3, 4, 6] (by decide) rfl
                            have hFc := va_free (wc := [(a0, .inr (2, [.ref aZ, .int (nI nz), .ref aO, .int orr, .int ol, .int mp, .ref aG, .int 0, .int fa, .int fb, .ref aP, .ref aW, .ref aK])), (aO, .inl (cI, 1440, .inl fO)), (aG, .inl (cI, 1440, .inl g)), (za, .inr (1, [.int zh, .int zl, .int zf, .int zp, .int zr, .int (-1), .int zw, .ref la, .int zs, .ref wa])), (wa, .inl (cI, 1441, .inl fT))]) hD hS hA [0, 2, 3, 4, 6] rfl
                            refine va_callv (va_runV (C := R_C) (As := [.ref za]) (rest := []) ⟨hx, hb, hml, hown, hG⟩ (c_planZone0 l dC dI cI cJ cZ cB a0 aZ aO aG aP aW aK (nI nz) orr ol mp 0 fa fb fO g za la wa zh zl zf zp zr (-1) zw zs fT H.size hzl hzh) (cwV 1 hG g_C_183 rfl rfl rfl (by decide +kernel) ⟨Nat.le_of_ble_eq_true rfl, Nat.le_of_ble_eq_true rfl⟩) ⟨PC.blind, va_recv hK hP (ci := 2) (q0 := 0) rfl rfl, PC.of hPc hK hDc hE hS hFc⟩ rfl rfl hl9.1 rfl (lv_room (Nat.le_of_ble_eq_true rfl)) d_C_makePlan_68 ⟨by first | exact Nat.le_of_ble_eq_true rfl | omega, by first | exact Nat.le_of_ble_eq_true rfl | omega⟩) hS (fun q _ h => hFc q h) hFc (fun u t H1 locs ht hvm hw hB hz1 hk1 hS => ?_)
                            rw [ht] at hB
                            obtain ⟨hP, hD⟩ := jset (wc := [(a0, .inr (2, [.ref aZ, .int (nI nz), .ref aO, .int orr, .int ol, .int mp, .ref aG, .int 0, .int fa, .int fb, .ref aP, .ref aW, .ref aK])), (aO, .inl (cI, 1440, .inl fO)), (aG, .inl (cI, 1440, .inl g)), (za, .inr (1, [.int zh, .int zl, .int zf, .int zp, .int zr, .int (-1), .int zw, .ref la, .int zs, .ref wa])), (wa, .inl (cI, 1441, .inl fT))]) (w1 := [(a0, .inr (2, [.ref aZ, .int (nI nz), .ref aO, .int orr, .int ol, .int mp, .ref aG, .int 0, .int fa, .int fb, .ref aP, .ref aW, .ref aK])), (aO, .inl (cI, 1440, .inl fO)), (aG, .inl (cI, 1440, .inl g)), (za, .inr (1, [.int zh, .int zl, .int zf, .int zp, .int zr, .int (-1), .int zw, .ref la, .int (-1), .ref wa])), (wa, .inl (cI, 1441, .inl (pzT0 fO zl zh zf fT)))]) [0, 2, 3, 4, 6] rfl rfl hP hD hk1 hB
                            have hP : va_P (dC, dI) vwCl ([(a0, .inr (2, [.ref aZ, .int (nI nz), .ref aO, .int orr, .int ol, .int mp, .ref aG, .int 0, .int fa, .int fb, .ref aP, .ref aW, .ref aK])), (aZ, .inl (cZ, 6, .inr (.inr (.inr (.inr fZ))))), (aO, .inl (cI, 1440, .inl fO)), (aG, .inl (cI, 1440, .inl g)), (za, .inr (1, [.int zh, .int zl, .int zf, .int zp, .int zr, .int (-1), .int zw, .ref la, .int (-1), .ref wa])), (la, .inr (0, [.long ea, .long eb])), (wa, .inl (cI, 1441, .inl (pzT0 fO zl zh zf fT)))] ++ (l1.flatMap (tri cI) ++ l2.flatMap (tri cI))) H1 := hP
                            have hD : va_D A ([(a0, .inr (2, [.ref aZ, .int (nI nz), .ref aO, .int orr, .int ol, .int mp, .ref aG, .int 0, .int fa, .int fb, .ref aP, .ref aW, .ref aK])), (aZ, .inl (cZ, 6, .inr (.inr (.inr (.inr fZ))))), (aO, .inl (cI, 1440, .inl fO)), (aG, .inl (cI, 1440, .inl g)), (za, .inr (1, [.int zh, .int zl, .int zf, .int zp, .int zr, .int (-1), .int zw, .ref la, .int (-1), .ref wa])), (la, .inr (0, [.long ea, .long eb])), (wa, .inl (cI, 1441, .inl (pzT0 fO zl zh zf fT)))] ++ (l1.flatMap (tri cI) ++ l2.flatMap (tri cI))) := hD
                            have e5 : plR fO mp r (plA fO mp nz (zs0, g0) r) (j + 1) = (l1 ++ ((za, la, wa), (zh, zl, zf, zp, zr, -1, zw, -1), (ea, eb), pzT0 fO zl zh zf fT) :: l2, g) := by rw [hstep, if_pos c5, es, ← el, split_set, pZ_none, pG_none]
                            have hP := wp_perm (foc_perm cI [(a0, .inr (2, [.ref aZ, .int (nI nz), .ref aO, .int orr, .int ol, .int mp, .ref aG, .int 0, .int fa, .int fb, .ref aP, .ref aW, .ref aK])), (aZ, .inl (cZ, 6, .inr (.inr (.inr (.inr fZ))))), (aO, .inl (cI, 1440, .inl fO)), (aG, .inl (cI, 1440, .inl g))] l1 l2 ((za, la, wa), (zh, zl, zf, zp, zr, -1, zw, -1), (ea, eb), pzT0 fO zl zh zf fT)).symm hP
                            have hD := wd_perm (foc_perm cI [(a0, .inr (2, [.ref aZ, .int (nI nz), .ref aO, .int orr, .int ol, .int mp, .ref aG, .int 0, .int fa, .int fb, .ref aP, .ref aW, .ref aK])), (aZ, .inl (cZ, 6, .inr (.inr (.inr (.inr fZ))))), (aO, .inl (cI, 1440, .inl fO)), (aG, .inl (cI, 1440, .inl g))] l1 l2 ((za, la, wa), (zh, zl, zf, zp, zr, -1, zw, -1), (ea, eb), pzT0 fO zl zh zf fT)).symm hD
                            have hP : va_P (dC, dI) vwCl ([(a0, .inr (2, [.ref aZ, .int (nI nz), .ref aO, .int orr, .int ol, .int mp, .ref aG, .int 0, .int fa, .int fb, .ref aP, .ref aW, .ref aK])), (aZ, .inl (cZ, 6, .inr (.inr (.inr (.inr fZ))))), (aO, .inl (cI, 1440, .inl fO)), (aG, .inl (cI, 1440, .inl ((plR fO mp r (plA fO mp nz (zs0, g0) r) (j + 1)).2)))] ++ ((plR fO mp r (plA fO mp nz (zs0, g0) r) (j + 1)).1.flatMap (tri cI))) H1 := by rw [e5]; exact hP
                            have hD : va_D A ([(a0, .inr (2, [.ref aZ, .int (nI nz), .ref aO, .int orr, .int ol, .int mp, .ref aG, .int 0, .int fa, .int fb, .ref aP, .ref aW, .ref aK])), (aZ, .inl (cZ, 6, .inr (.inr (.inr (.inr fZ))))), (aO, .inl (cI, 1440, .inl fO)), (aG, .inl (cI, 1440, .inl ((plR fO mp r (plA fO mp nz (zs0, g0) r) (j + 1)).2)))] ++ ((plR fO mp r (plA fO mp nz (zs0, g0) r) (j + 1)).1.flatMap (tri cI))) := by rw [e5]; exact hD
                            refine lv_iinc (v := ((nI j) + 1)) (lv' := [(2, .int ((nI j) + 1)), (1, .int (nI r)), (0, .ref a0)]) hx hb d_C_makePlan_71 hl9 (k := 0) rfl rfl (by decide) rfl (fun ls hl9 => ?_)
                            refine lv_goto (tgt := 40) hx hb d_C_makePlan_74 (by decide) ?_
                            rw [nI_1] at hl9
                            exact ih (j + 1) (by omega) (by omega) _ _ ls hP hD hS (lv_sub hl9 [0, 1, 2] rfl)
                          · have hzm : zm = nI b := hzm
                            subst hzm
                            have hPc := hP.sub (ws' := [(a0, .inr (2, [.ref aZ, .int (nI nz), .ref aO, .int orr, .int ol, .int mp, .ref aG, .int 0, .int fa, .int fb, .ref aP, .ref aW, .ref aK])), (aO, .inl (cI, 1440, .inl fO)), (aG, .inl (cI, 1440, .inl g)), (za, .inr (1, [.int zh, .int zl, .int zf, .int zp, .int zr, .int (nI b), .int zw, .ref la, .int zs, .ref wa])), (wa, .inl (cI, 1441, .inl fT))]) [0, 2, 3, 4, 6] rfl
                            have hDc := hD.sub (ws' := [(a0, .inr (2, [.ref aZ, .int (nI nz), .ref aO, .int orr, .int ol, .int mp, .ref aG, .int 0, .int fa, .int fb, .ref aP, .ref aW, .ref aK])), (aO, .inl (cI, 1440, .inl fO)), (aG, .inl (cI, 1440, .inl g)), (za, .inr (1, [.int zh, .int zl, .int zf, .int zp, .int zr, .int (nI b), .int zw, .ref la, .int zs, .ref wa])), (wa, .inl (cI, 1441, .inl fT))]) [0, 2, 3, 4, 6] (by decide) rfl
                            have hFc := va_free (wc := [(a0, .inr (2, [.ref aZ, .int (nI nz), .ref aO, .int orr, .int ol, .int mp, .ref aG, .int 0, .int fa, .int fb, .ref aP, .ref aW, .ref aK])), (aO, .inl (cI, 1440, .inl fO)), (aG, .inl (cI, 1440, .inl g)), (za, .inr (1, [.int zh, .int zl, .int zf, .int zp, .int zr, .int (nI b), .int zw, .ref la, .int zs, .ref wa])), (wa, .inl (cI, 1441, .inl fT))]) hD hS hA [0, 2, 3, 4, 6] rfl
                            refine va_callv (va_runV (C := R_C) (As := [.ref za]) (rest := []) ⟨hx, hb, hml, hown, hG⟩ (c_planZone1 l dC dI cI cJ cZ cB a0 aZ aO aG aP aW aK (nI nz) orr ol mp 0 fa fb fO g za la wa zh zl zf zp zr (nI b) zw zs fT b H.size hb1 hzl hzh) (cwV 1 hG g_C_183 rfl rfl rfl (by decide +kernel) ⟨Nat.le_of_ble_eq_true rfl, Nat.le_of_ble_eq_true rfl⟩) ⟨PC.blind, va_recv hK hP (ci := 2) (q0 := 0) rfl rfl, PC.of hPc hK hDc hE hS hFc⟩ rfl rfl hl9.1 rfl (lv_room (Nat.le_of_ble_eq_true rfl)) d_C_makePlan_68 ⟨by first | exact Nat.le_of_ble_eq_true rfl | omega, by first | exact Nat.le_of_ble_eq_true rfl | omega⟩) hS (fun q _ h => hFc q h) hFc (fun u t H3 locs ht hvm hw hB hz1 hk1 hS => ?_)
                            rw [ht] at hB
                            obtain ⟨hP, hD⟩ := jset (wc := [(a0, .inr (2, [.ref aZ, .int (nI nz), .ref aO, .int orr, .int ol, .int mp, .ref aG, .int 0, .int fa, .int fb, .ref aP, .ref aW, .ref aK])), (aO, .inl (cI, 1440, .inl fO)), (aG, .inl (cI, 1440, .inl g)), (za, .inr (1, [.int zh, .int zl, .int zf, .int zp, .int zr, .int (nI b), .int zw, .ref la, .int zs, .ref wa])), (wa, .inl (cI, 1441, .inl fT))]) (w1 := [(a0, .inr (2, [.ref aZ, .int (nI nz), .ref aO, .int orr, .int ol, .int mp, .ref aG, .int 0, .int fa, .int fb, .ref aP, .ref aW, .ref aK])), (aO, .inl (cI, 1440, .inl fO)), (aG, .inl (cI, 1440, .inl ((pzH fO g zl zh zf zp mp zw fT b).2))), (za, .inr (1, [.int zh, .int zl, .int zf, .int zp, .int zr, .int (nI b), .int zw, .ref la, .int (nI (pzS fO g zl zh zf zp mp zw fT b)), .ref wa])), (wa, .inl (cI, 1441, .inl (pzT fO g zl zh zf zp mp zw fT b)))]) [0, 2, 3, 4, 6] rfl rfl hP hD hk1 hB
                            have hP : va_P (dC, dI) vwCl ([(a0, .inr (2, [.ref aZ, .int (nI nz), .ref aO, .int orr, .int ol, .int mp, .ref aG, .int 0, .int fa, .int fb, .ref aP, .ref aW, .ref aK])), (aZ, .inl (cZ, 6, .inr (.inr (.inr (.inr fZ))))), (aO, .inl (cI, 1440, .inl fO)), (aG, .inl (cI, 1440, .inl ((pzH fO g zl zh zf zp mp zw fT b).2))), (za, .inr (1, [.int zh, .int zl, .int zf, .int zp, .int zr, .int (nI b), .int zw, .ref la, .int (nI (pzS fO g zl zh zf zp mp zw fT b)), .ref wa])), (la, .inr (0, [.long ea, .long eb])), (wa, .inl (cI, 1441, .inl (pzT fO g zl zh zf zp mp zw fT b)))] ++ (l1.flatMap (tri cI) ++ l2.flatMap (tri cI))) H3 := hP
                            have hD : va_D A ([(a0, .inr (2, [.ref aZ, .int (nI nz), .ref aO, .int orr, .int ol, .int mp, .ref aG, .int 0, .int fa, .int fb, .ref aP, .ref aW, .ref aK])), (aZ, .inl (cZ, 6, .inr (.inr (.inr (.inr fZ))))), (aO, .inl (cI, 1440, .inl fO)), (aG, .inl (cI, 1440, .inl ((pzH fO g zl zh zf zp mp zw fT b).2))), (za, .inr (1, [.int zh, .int zl, .int zf, .int zp, .int zr, .int (nI b), .int zw, .ref la, .int (nI (pzS fO g zl zh zf zp mp zw fT b)), .ref wa])), (la, .inr (0, [.long ea, .long eb])), (wa, .inl (cI, 1441, .inl (pzT fO g zl zh zf zp mp zw fT b)))] ++ (l1.flatMap (tri cI) ++ l2.flatMap (tri cI))) := hD
                            have e5 : plR fO mp r (plA fO mp nz (zs0, g0) r) (j + 1) = (l1 ++ ((za, la, wa), (zh, zl, zf, zp, zr, nI b, zw, nI (pzS fO g zl zh zf zp mp zw fT b)), (ea, eb), pzT fO g zl zh zf zp mp zw fT b) :: l2, (pzH fO g zl zh zf zp mp zw fT b).2) := by rw [hstep, if_pos c5, es, ← el, split_set, pZ_some _ _ _ _ _ _ _ _ _ _ _ _ _ hb1, pG_some _ _ _ _ _ _ _ _ _ _ _ _ _ hb1]
                            have hP := wp_perm (foc_perm cI [(a0, .inr (2, [.ref aZ, .int (nI nz), .ref aO, .int orr, .int ol, .int mp, .ref aG, .int 0, .int fa, .int fb, .ref aP, .ref aW, .ref aK])), (aZ, .inl (cZ, 6, .inr (.inr (.inr (.inr fZ))))), (aO, .inl (cI, 1440, .inl fO)), (aG, .inl (cI, 1440, .inl ((pzH fO g zl zh zf zp mp zw fT b).2)))] l1 l2 ((za, la, wa), (zh, zl, zf, zp, zr, nI b, zw, nI (pzS fO g zl zh zf zp mp zw fT b)), (ea, eb), pzT fO g zl zh zf zp mp zw fT b)).symm hP
                            have hD := wd_perm (foc_perm cI [(a0, .inr (2, [.ref aZ, .int (nI nz), .ref aO, .int orr, .int ol, .int mp, .ref aG, .int 0, .int fa, .int fb, .ref aP, .ref aW, .ref aK])), (aZ, .inl (cZ, 6, .inr (.inr (.inr (.inr fZ))))), (aO, .inl (cI, 1440, .inl fO)), (aG, .inl (cI, 1440, .inl ((pzH fO g zl zh zf zp mp zw fT b).2)))] l1 l2 ((za, la, wa), (zh, zl, zf, zp, zr, nI b, zw, nI (pzS fO g zl zh zf zp mp zw fT b)), (ea, eb), pzT fO g zl zh zf zp mp zw fT b)).symm hD
                            have hP : va_P (dC, dI) vwCl ([(a0, .inr (2, [.ref aZ, .int (nI nz), .ref aO, .int orr, .int ol, .int mp, .ref aG, .int 0, .int fa, .int fb, .ref aP, .ref aW, .ref aK])), (aZ, .inl (cZ, 6, .inr (.inr (.inr (.inr fZ))))), (aO, .inl (cI, 1440, .inl fO)), (aG, .inl (cI, 1440, .inl ((plR fO mp r (plA fO mp nz (zs0, g0) r) (j + 1)).2)))] ++ ((plR fO mp r (plA fO mp nz (zs0, g0) r) (j + 1)).1.flatMap (tri cI))) H3 := by rw [e5]; exact hP
                            have hD : va_D A ([(a0, .inr (2, [.ref aZ, .int (nI nz), .ref aO, .int orr, .int ol, .int mp, .ref aG, .int 0, .int fa, .int fb, .ref aP, .ref aW, .ref aK])), (aZ, .inl (cZ, 6, .inr (.inr (.inr (.inr fZ))))), (aO, .inl (cI, 1440, .inl fO)), (aG, .inl (cI, 1440, .inl ((plR fO mp r (plA fO mp nz (zs0, g0) r) (j + 1)).2)))] ++ ((plR fO mp r (plA fO mp nz (zs0, g0) r) (j + 1)).1.flatMap (tri cI))) := by rw [e5]; exact hD
                            refine lv_iinc (v := ((nI j) + 1)) (lv' := [(2, .int ((nI j) + 1)), (1, .int (nI r)), (0, .ref a0)]) hx hb d_C_makePlan_71 hl9 (k := 0) rfl rfl (by decide) rfl (fun ls hl9 => ?_)
                            refine lv_goto (tgt := 40) hx hb d_C_makePlan_74 (by decide) ?_
                            rw [nI_1] at hl9
                            exact ih (j + 1) (by omega) (by omega) _ _ ls hP hD hS (lv_sub hl9 [0, 1, 2] rfl)
                  exact lp3 (nz + 1) 0 (Nat.zero_le _) (by omega) _ _ ls hP hD hS (lv_sub hl9 [0, 1, 2] rfl)
            exact lp2 11 0 (by omega) (by omega) _ _ ls hP hD hS (lv_sub hl9 [0, 1] rfl)
          · have e9 : i < 1440 := lt_of_c (b := 1440) (by omega) (by decide) c2
            have hin1 : vp_in (nI i) 1440 := vp_in_nI (by omega) (by omega)
            refine lv_aload_n hx hb d_C_makePlan_17 rfl (lv_at hl9 1 rfl) ?_
            refine va_get (D := (dC, dI)) (ci := 2) (v := .ref aG) (C := R_C) (T := F_C) (N := 13) hx hb hG i_C hown hK hP 0 rfl rfl 6 (by decide) (hG _ k_28) (fun _ h9 => h9) rfl d_C_makePlan_18 ?_
            refine lv_iload_n hx hb d_C_makePlan_21 rfl (lv_at hl9 0 rfl) ?_
            refine lv_iconst (v := 0) hx hb d_C_makePlan_22 (by decide) ?_
            refine va_iast hx hb hK hP hD hS 3 0 rfl rfl (hin1) d_C_makePlan_23 (fun H locs hP hD hS => ?_)
            have hP : va_P (dC, dI) vwCl ([(a0, .inr (2, [.ref aZ, .int (nI nz), .ref aO, .int orr, .int ol, .int mp, .ref aG, .int 0, .int fa, .int fb, .ref aP, .ref aW, .ref aK])), (aZ, .inl (cZ, 6, .inr (.inr (.inr (.inr fZ))))), (aO, .inl (cI, 1440, .inl fO)), (aG, .inl (cI, 1440, .inl (upd (fillO fG 0 0 i) (nI i).toNatClampNeg 0)))] ++ (zs0.flatMap (tri cI))) H := hP
            have hD : va_D A ([(a0, .inr (2, [.ref aZ, .int (nI nz), .ref aO, .int orr, .int ol, .int mp, .ref aG, .int 0, .int fa, .int fb, .ref aP, .ref aW, .ref aK])), (aZ, .inl (cZ, 6, .inr (.inr (.inr (.inr fZ))))), (aO, .inl (cI, 1440, .inl fO)), (aG, .inl (cI, 1440, .inl (upd (fillO fG 0 0 i) (nI i).toNatClampNeg 0)))] ++ (zs0.flatMap (tri cI))) := hD
            refine lv_iinc (v := ((nI i) + 1)) (lv' := [(1, .int ((nI i) + 1)), (0, .ref a0)]) hx hb d_C_makePlan_24 hl9 (k := 0) rfl rfl (by decide) rfl (fun ls hl9 => ?_)
            refine lv_goto (tgt := 10) hx hb d_C_makePlan_27 (by decide) ?_
            have e8 : (upd (fillO fG 0 0 i) (nI i).toNatClampNeg 0) = (fillO fG 0 0 (i + 1)) := by rw [nI_clamp (n := i) (by omega)]; show _ = upd (fillO fG 0 0 i) (0 + i) 0; rw [Nat.zero_add]
            rw [e8] at hP hD
            rw [nI_1] at hl9
            exact ih (i + 1) (by omega) (by omega) _ _ ls hP hD hS (lv_sub hl9 [0, 1] rfl)
      exact lp 1441 0 (by omega) (by omega) _ _ ls hP hD hS (lv_sub hl9 [0, 1] rfl)
    · exact absurd rfl c1
