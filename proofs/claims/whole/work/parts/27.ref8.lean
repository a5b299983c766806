theorem shr_eq {S k : Nat} (hS31 : S < 2 ^ 31) (hk : k ≤ 10) : nI S >>> (nI k &&& 31) = nI (S / 2 ^ k) := by
  have hs : ((nI k &&& 31).toBitVec.smod 32).toNat = k := by
    rcases (show k = 0 ∨ k = 1 ∨ k = 2 ∨ k = 3 ∨ k = 4 ∨ k = 5 ∨ k = 6 ∨ k = 7 ∨ k = 8 ∨ k = 9 ∨ k = 10 by omega) with rfl | rfl | rfl | rfl | rfl | rfl | rfl | rfl | rfl | rfl | rfl <;> decide
  exact pk_shrN hS31 _ k hs
/-- minute k before b is heated by the set S of quarters of m minutes, q minutes in all -/
def htd (b q m S k : Nat) : Prop := b ≤ k + q ∧ S / 2 ^ ((k + q - b) / m) % 2 = 1
/-- a set's warmth and cost, the first k minutes -/
noncomputable def rk (o fQ : Nat → Int32) (L hd zp x : Int32) (b q m S : Nat) : Nat → Int32 × Int64
  | 0 => (x, 0)
  | k + 1 => ((rk o fQ L hd zp x b q m S k).1 + (o k - (rk o fQ L hd zp x b q m S k).1) / L + (@ite _ (htd b q m S k) (Classical.propDecidable _) zp 0) / hd, (rk o fQ L hd zp x b q m S k).2 + (@ite _ (htd b q m S k) (Classical.propDecidable _) (zp.toInt64 * (fQ (k / 60)).toInt64) 0))
theorem rk_on {o fQ : Nat → Int32} {L hd zp x : Int32} {b q m S k : Nat} (h : htd b q m S k) : rk o fQ L hd zp x b q m S (k + 1) = ((rk o fQ L hd zp x b q m S k).1 + (o k - (rk o fQ L hd zp x b q m S k).1) / L + zp / hd, (rk o fQ L hd zp x b q m S k).2 + zp.toInt64 * (fQ (k / 60)).toInt64) := by
  simp only [rk, if_pos h]
theorem rk_off {o fQ : Nat → Int32} {L hd zp x : Int32} {b q m S k : Nat} (h : ¬ htd b q m S k) : rk o fQ L hd zp x b q m S (k + 1) = ((rk o fQ L hd zp x b q m S k).1 + (o k - (rk o fQ L hd zp x b q m S k).1) / L + 0 / hd, (rk o fQ L hd zp x b q m S k).2 + 0) := by
  simp only [rk, if_neg h]
/-- the best of the first j costs (below 0: it doesn't do) -/
def rb (c : Nat → Int64) : Nat → Int32 × Int64
  | 0 => (-1, 0)
  | j + 1 => if 0 ≤ c j ∧ ((rb c j).1 = -1 ∨ c j < (rb c j).2) then (nI j, c j) else rb c j
theorem first_le {b q k : Nat} (hb : b < 1440) (hq : q ≤ 300) (hk : k < 1440) : (nI k < nI b - nI q) ↔ k + q < b := by
  rw [Int32.lt_iff_toInt_lt, pk_sub_toInt (by omega) (by omega), nI_toInt (by omega)]
  omega
theorem sub_sub {b q k : Nat} (h : b ≤ k + q) : nI k - (nI b - nI q) = nI (k + q - b) := by
  have h1 : nI k - (nI b - nI q) = nI k + nI q - nI b := by
    rw [Int32.sub_eq_add_neg, Int32.neg_sub, Int32.sub_eq_add_neg, ← Int32.add_assoc, ← Int32.sub_eq_add_neg]
  rw [h1, nI_add, pk_sub h]
set_option maxHeartbeats 4000000 in
set_option maxRecDepth 100000 in
theorem m_areQ1 (l : Launch) (dC : Nat → ClassId) (dI : Nat → Nat → Nat) (cI cJ cZ cB : ClassId) (m0 mH mL mB mP mR mA mW mU mV mM mT mQ mO mF mS mE mX mD : Nat) (th zn rw mc ga gb kn : Int32) (nz : Nat) (z x y : Int32) (sz : Nat) (hz : ¬ (z < 0 ∨ nI nz ≤ z)) (hq : ¬ ((x < 1 ∨ 10 < x) ∨ (y < 1 ∨ 30 < y))) : Met l y_M_areQuarters w_M_areQuarters ({ frames := 1, cells := 0, slots := 0, locals := 22 }) (PC (dC, dI) (TY cI cJ cZ cB) [.ref m0, .int z, .int x, .int y] [(m0, .inr (3, [.int 0, .int (nI nz), .ref mH, .ref mL, .ref mB, .ref mP, .ref mR, .ref mA, .ref mW, .ref mU, .ref mV, .int rw, .ref mM, .ref mT, .int mc, .ref mQ, .int ga, .int gb, .int kn, .ref mO, .ref mF, .ref mS, .ref mE, .ref mX, .ref mD]))] sz (va_A [] sz)) (va_Qi (fun (r : Int32) (_ : Unit) => r = 1) (fun (_ : Unit) (_ : State) => True) (va_A [] sz)) 0 0 (va_A [] sz) := by
  refine Met.ofW (cc := b_M_areQuarters) (maxL := 4) (ret := (some .boolean)) (by decide) rfl ?_
  intro p e s m args below meth c s₁ B hml hv
  obtain ⟨rfl, hsz, hP, hK, hD0, hE⟩ := hv
  have hx := B.exec
  have hb := B.bytes
  have hr := B.returns
  have hG : ∀ w ∈ GG, w.before _ s = true := fun w h => atoms_spec (ws := w_M_areQuarters) B.pre w (List.mem_cons_of_mem _ h)
  have hown : s.vm.findClass R_M = some m.cls := findClass_of_methodNamed B.named
  have hlocks := B.notSynchronized
  subst hsz
  generalize hAe : (va_A [] s.heap.size) = A at hE ⊢
  have hA : ∀ q : Nat, s.heap.size ≤ q → A q := fun q h => by rw [← hAe]; exact Or.inr h
  have hS : va_S A s.heap s.heap [] := va_S.rf
  have hD := hD0
  obtain ⟨H, hH⟩ : ∃ z, z = s.heap := ⟨_, rfl⟩
  rw [← hH] at hP
  have hS : va_S A s.heap H [] := by rw [hH]; exact hS
  rw [← hH]
  have hl9 := lv_entry ([.ref m0, .int z, .int x, .int y]) (n := 4) (Nat.le_of_ble_eq_true rfl)
  rw [lg_entry_eq]
  generalize (lg_sl ([.ref m0, .int z, .int x, .int y]) ++ List.replicate (4 - (lg_sl ([.ref m0, .int z, .int x, .int y])).length) Slot.unset).toArray = ls at hl9 ⊢
  have hl9 : lv_has ls 4 [(0, .ref m0), (1, .int z), (2, .int x), (3, .int y)] := hl9
  have h1 := fun q => hq (Or.inl q)
  have h2 := fun q => hq (Or.inr q)
  refine lv_aload_n hx hb d_M_areQuarters_0 rfl (lv_at hl9 0 rfl) ?_
  refine lv_iload_n hx hb d_M_areQuarters_1 rfl (lv_at hl9 1 rfl) ?_
  have hPc := hP.sub (ws' := [(m0, .inr (3, [.int 0, .int (nI nz), .ref mH, .ref mL, .ref mB, .ref mP, .ref mR, .ref mA, .ref mW, .ref mU, .ref mV, .int rw, .ref mM, .ref mT, .int mc, .ref mQ, .int ga, .int gb, .int kn, .ref mO, .ref mF, .ref mS, .ref mE, .ref mX, .ref mD]))]) [0] rfl
  have hDc := hD.sub (ws' := [(m0, .inr (3, [.int 0, .int (nI nz), .ref mH, .ref mL, .ref mB, .ref mP, .ref mR, .ref mA, .ref mW, .ref mU, .ref mV, .int rw, .ref mM, .ref mT, .int mc, .ref mQ, .int ga, .int gb, .int kn, .ref mO, .ref mF, .ref mS, .ref mE, .ref mX, .ref mD]))]) [0] (by decide) rfl
  have hFc := va_A_nil hA hS.1
  refine va_calli (va_runV (C := R_M) (As := [.int z]) (rest := []) ⟨hx, hb, hml, hown, hG⟩ (m_isZone l dC dI cI cJ cZ cB m0 mH mL mB mP mR mA mW mU mV mM mT mQ mO mF mS mE mX mD 0 (nI nz) rw mc ga gb kn z H.size ) (cwV 1 hG g_M_95 rfl rfl rfl (by decide +kernel) ⟨Nat.le_of_ble_eq_true rfl, Nat.le_of_ble_eq_true rfl⟩) ⟨PC.blind, va_recv hK hP (ci := 3) (q0 := 0) rfl rfl, PC.of hPc hK hDc hE hS hFc⟩ rfl rfl hl9.1 rfl (lv_room (Nat.le_of_ble_eq_true rfl)) d_M_areQuarters_2 ⟨by first | exact Nat.le_of_ble_eq_true rfl | omega, by first | exact Nat.le_of_ble_eq_true rfl | omega⟩) hS (fun q _ h => hFc q h) hFc (fun r2 u t H1 locs ht hvm hw hB hz1 hk1 hS => ?_)
  have hP := wp_kept hP hk1
  have hw : r2 = if ¬ (z < 0 ∨ (nI nz) ≤ z) then 1 else 0 := hw
  subst hw
  rw [iz_1g hz]
  refine lv_if_eq (tgt := 32) hx hb d_M_areQuarters_5 (by decide) (fun c3 => absurd c3 (by decide)) (fun c3 => ?_)
  refine lv_iload_n hx hb d_M_areQuarters_8 rfl (lv_at hl9 2 rfl) ?_
  refine lv_iconst (v := 1) hx hb d_M_areQuarters_9 (by decide) ?_
  refine lv_bipush (v := 10) hx hb d_M_areQuarters_10 (by decide) ?_
  have hPc := hP.sub (ws' := []) [] rfl
  have hDc := hD.sub (ws' := []) [] (by decide) rfl
  have hFc := va_A_nil hA hS.1
  refine va_calli (va_runS (As := [.int x, .int 1, .int 10]) (rest := []) ⟨hx, hb, hml, hown, hG⟩ (m_within l dC dI cI cJ cZ cB x 1 10 H1.size ) (cwS 3 hG g_M_83 rfl rfl rfl (by decide +kernel) ⟨Nat.le_of_ble_eq_true rfl, Nat.le_of_ble_eq_true rfl⟩) ⟨PC.blind, PC.of hPc hK hDc hE hS hFc⟩ rfl rfl hl9.1 rfl (lv_room (Nat.le_of_ble_eq_true rfl)) d_M_areQuarters_12 ⟨by first | exact Nat.le_of_ble_eq_true rfl | omega, by first | exact Nat.le_of_ble_eq_true rfl | omega⟩) hS (fun q _ h => hFc q h) hFc (fun r5 u t H4 locs ht hvm hw hB hz1 hk1 hS => ?_)
  have hP := wp_kept hP hk1
  have hw : r5 = if ¬ (x < 1 ∨ 10 < x) then 1 else 0 := hw
  subst hw
  rw [wi_1 h1]
  refine lv_if_eq (tgt := 32) hx hb d_M_areQuarters_15 (by decide) (fun c6 => absurd c6 (by decide)) (fun c6 => ?_)
  refine lv_iload_n hx hb d_M_areQuarters_18 rfl (lv_at hl9 3 rfl) ?_
  refine lv_iconst (v := 1) hx hb d_M_areQuarters_19 (by decide) ?_
  refine lv_bipush (v := 30) hx hb d_M_areQuarters_20 (by decide) ?_
  have hPc := hP.sub (ws' := []) [] rfl
  have hDc := hD.sub (ws' := []) [] (by decide) rfl
  have hFc := va_A_nil hA hS.1
  refine va_calli (va_runS (As := [.int y, .int 1, .int 30]) (rest := []) ⟨hx, hb, hml, hown, hG⟩ (m_within l dC dI cI cJ cZ cB y 1 30 H4.size ) (cwS 3 hG g_M_83 rfl rfl rfl (by decide +kernel) ⟨Nat.le_of_ble_eq_true rfl, Nat.le_of_ble_eq_true rfl⟩) ⟨PC.blind, PC.of hPc hK hDc hE hS hFc⟩ rfl rfl hl9.1 rfl (lv_room (Nat.le_of_ble_eq_true rfl)) d_M_areQuarters_22 ⟨by first | exact Nat.le_of_ble_eq_true rfl | omega, by first | exact Nat.le_of_ble_eq_true rfl | omega⟩) hS (fun q _ h => hFc q h) hFc (fun r8 u t H7 locs ht hvm hw hB hz1 hk1 hS => ?_)
  have hP := wp_kept hP hk1
  have hw : r8 = if ¬ (y < 1 ∨ 30 < y) then 1 else 0 := hw
  subst hw
  rw [wi_1 h2]
  refine lv_if_eq (tgt := 32) hx hb d_M_areQuarters_25 (by decide) (fun c9 => absurd c9 (by decide)) (fun c9 => ?_)
  refine lv_iconst (v := 1) hx hb d_M_areQuarters_28 (by decide) ?_
  refine lv_goto (tgt := 33) hx hb d_M_areQuarters_29 (by decide) ?_
  exact W.zret (v := 1) hx hb hr rfl (fun t ht hW => ⟨⟨1, (), rfl, rfl, trivial⟩, hS.F ht⟩) hS.2.2 d_M_areQuarters_33
set_option maxHeartbeats 4000000 in
set_option maxRecDepth 100000 in
theorem m_areQ0 (l : Launch) (dC : Nat → ClassId) (dI : Nat → Nat → Nat) (cI cJ cZ cB : ClassId) (m0 mH mL mB mP mR mA mW mU mV mM mT mQ mO mF mS mE mX mD : Nat) (th zn rw mc ga gb kn : Int32) (nz : Nat) (z x y : Int32) (sz : Nat) (hbad : (z < 0 ∨ nI nz ≤ z) ∨ ((x < 1 ∨ 10 < x) ∨ (y < 1 ∨ 30 < y))) : Met l y_M_areQuarters w_M_areQuarters ({ frames := 1, cells := 0, slots := 0, locals := 22 }) (PC (dC, dI) (TY cI cJ cZ cB) [.ref m0, .int z, .int x, .int y] [(m0, .inr (3, [.int 0, .int (nI nz), .ref mH, .ref mL, .ref mB, .ref mP, .ref mR, .ref mA, .ref mW, .ref mU, .ref mV, .int rw, .ref mM, .ref mT, .int mc, .ref mQ, .int ga, .int gb, .int kn, .ref mO, .ref mF, .ref mS, .ref mE, .ref mX, .ref mD]))] sz (va_A [] sz)) (va_Qi (fun (r : Int32) (_ : Unit) => r = 0) (fun (_ : Unit) (_ : State) => True) (va_A [] sz)) 0 0 (va_A [] sz) := by
  refine Met.ofW (cc := b_M_areQuarters) (maxL := 4) (ret := (some .boolean)) (by decide) rfl ?_
  intro p e s m args below meth c s₁ B hml hv
  obtain ⟨rfl, hsz, hP, hK, hD0, hE⟩ := hv
  have hx := B.exec
  have hb := B.bytes
  have hr := B.returns
  have hG : ∀ w ∈ GG, w.before _ s = true := fun w h => atoms_spec (ws := w_M_areQuarters) B.pre w (List.mem_cons_of_mem _ h)
  have hown : s.vm.findClass R_M = some m.cls := findClass_of_methodNamed B.named
  have hlocks := B.notSynchronized
  subst hsz
  generalize hAe : (va_A [] s.heap.size) = A at hE ⊢
  have hA : ∀ q : Nat, s.heap.size ≤ q → A q := fun q h => by rw [← hAe]; exact Or.inr h
  have hS : va_S A s.heap s.heap [] := va_S.rf
  have hD := hD0
  obtain ⟨H, hH⟩ : ∃ z, z = s.heap := ⟨_, rfl⟩
  rw [← hH] at hP
  have hS : va_S A s.heap H [] := by rw [hH]; exact hS
  rw [← hH]
  have hl9 := lv_entry ([.ref m0, .int z, .int x, .int y]) (n := 4) (Nat.le_of_ble_eq_true rfl)
  rw [lg_entry_eq]
  generalize (lg_sl ([.ref m0, .int z, .int x, .int y]) ++ List.replicate (4 - (lg_sl ([.ref m0, .int z, .int x, .int y])).length) Slot.unset).toArray = ls at hl9 ⊢
  have hl9 : lv_has ls 4 [(0, .ref m0), (1, .int z), (2, .int x), (3, .int y)] := hl9
  by_cases hz : z < 0 ∨ nI nz ≤ z
  · refine lv_aload_n hx hb d_M_areQuarters_0 rfl (lv_at hl9 0 rfl) ?_
    refine lv_iload_n hx hb d_M_areQuarters_1 rfl (lv_at hl9 1 rfl) ?_
    have hPc := hP.sub (ws' := [(m0, .inr (3, [.int 0, .int (nI nz), .ref mH, .ref mL, .ref mB, .ref mP, .ref mR, .ref mA, .ref mW, .ref mU, .ref mV, .int rw, .ref mM, .ref mT, .int mc, .ref mQ, .int ga, .int gb, .int kn, .ref mO, .ref mF, .ref mS, .ref mE, .ref mX, .ref mD]))]) [0] rfl
    have hDc := hD.sub (ws' := [(m0, .inr (3, [.int 0, .int (nI nz), .ref mH, .ref mL, .ref mB, .ref mP, .ref mR, .ref mA, .ref mW, .ref mU, .ref mV, .int rw, .ref mM, .ref mT, .int mc, .ref mQ, .int ga, .int gb, .int kn, .ref mO, .ref mF, .ref mS, .ref mE, .ref mX, .ref mD]))]) [0] (by decide) rfl
    have hFc := va_A_nil hA hS.1
    refine va_calli (va_runV (C := R_M) (As := [.int z]) (rest := []) ⟨hx, hb, hml, hown, hG⟩ (m_isZone l dC dI cI cJ cZ cB m0 mH mL mB mP mR mA mW mU mV mM mT mQ mO mF mS mE mX mD 0 (nI nz) rw mc ga gb kn z H.size ) (cwV 1 hG g_M_95 rfl rfl rfl (by decide +kernel) ⟨Nat.le_of_ble_eq_true rfl, Nat.le_of_ble_eq_true rfl⟩) ⟨PC.blind, va_recv hK hP (ci := 3) (q0 := 0) rfl rfl, PC.of hPc hK hDc hE hS hFc⟩ rfl rfl hl9.1 rfl (lv_room (Nat.le_of_ble_eq_true rfl)) d_M_areQuarters_2 ⟨by first | exact Nat.le_of_ble_eq_true rfl | omega, by first | exact Nat.le_of_ble_eq_true rfl | omega⟩) hS (fun q _ h => hFc q h) hFc (fun r2 u t H1 locs ht hvm hw hB hz1 hk1 hS => ?_)
    have hP := wp_kept hP hk1
    have hw : r2 = if ¬ (z < 0 ∨ (nI nz) ≤ z) then 1 else 0 := hw
    subst hw
    rw [iz_0 hz]
    refine lv_if_eq (tgt := 32) hx hb d_M_areQuarters_5 (by decide) (fun c3 => ?_) (fun c3 => absurd c3 (by decide))
    refine lv_iconst (v := 0) hx hb d_M_areQuarters_32 (by decide) ?_
    exact W.zret (v := 0) hx hb hr rfl (fun t ht hW => ⟨⟨0, (), rfl, rfl, trivial⟩, hS.F ht⟩) hS.2.2 d_M_areQuarters_33
  · have hq := hbad.resolve_left hz
    by_cases h1 : x < 1 ∨ 10 < x
    · refine lv_aload_n hx hb d_M_areQuarters_0 rfl (lv_at hl9 0 rfl) ?_
      refine lv_iload_n hx hb d_M_areQuarters_1 rfl (lv_at hl9 1 rfl) ?_
      have hPc := hP.sub (ws' := [(m0, .inr (3, [.int 0, .int (nI nz), .ref mH, .ref mL, .ref mB, .ref mP, .ref mR, .ref mA, .ref mW, .ref mU, .ref mV, .int rw, .ref mM, .ref mT, .int mc, .ref mQ, .int ga, .int gb, .int kn, .ref mO, .ref mF, .ref mS, .ref mE, .ref mX, .ref mD]))]) [0] rfl
      have hDc := hD.sub (ws' := [(m0, .inr (3, [.int 0, .int (nI nz), .ref mH, .ref mL, .ref mB, .ref mP, .ref mR, .ref mA, .ref mW, .ref mU, .ref mV, .int rw, .ref mM, .ref mT, .int mc, .ref mQ, .int ga, .int gb, .int kn, .ref mO, .ref mF, .ref mS, .ref mE, .ref mX, .ref mD]))]) [0] (by decide) rfl
      have hFc := va_A_nil hA hS.1
      refine va_calli (va_runV (C := R_M) (As := [.int z]) (rest := []) ⟨hx, hb, hml, hown, hG⟩ (m_isZone l dC dI cI cJ cZ cB m0 mH mL mB mP mR mA mW mU mV mM mT mQ mO mF mS mE mX mD 0 (nI nz) rw mc ga gb kn z H.size ) (cwV 1 hG g_M_95 rfl rfl rfl (by decide +kernel) ⟨Nat.le_of_ble_eq_true rfl, Nat.le_of_ble_eq_true rfl⟩) ⟨PC.blind, va_recv hK hP (ci := 3) (q0 := 0) rfl rfl, PC.of hPc hK hDc hE hS hFc⟩ rfl rfl hl9.1 rfl (lv_room (Nat.le_of_ble_eq_true rfl)) d_M_areQuarters_2 ⟨by first | exact Nat.le_of_ble_eq_true rfl | omega, by first | exact Nat.le_of_ble_eq_true rfl | omega⟩) hS (fun q _ h => hFc q h) hFc (fun r5 u t H4 locs ht hvm hw hB hz1 hk1 hS => ?_)
      have hP := wp_kept hP hk1
      have hw : r5 = if ¬ (z < 0 ∨ (nI nz) ≤ z) then 1 else 0 := hw
      subst hw
      rw [iz_1g hz]
      refine lv_if_eq (tgt := 32) hx hb d_M_areQuarters_5 (by decide) (fun c6 => absurd c6 (by decide)) (fun c6 => ?_)
      refine lv_iload_n hx hb d_M_areQuarters_8 rfl (lv_at hl9 2 rfl) ?_
      refine lv_iconst (v := 1) hx hb d_M_areQuarters_9 (by decide) ?_
      refine lv_bipush (v := 10) hx hb d_M_areQuarters_10 (by decide) ?_
      have hPc := hP.sub (ws' := []) [] rfl
      have hDc := hD.sub (ws' := []) [] (by decide) rfl
      have hFc := va_A_nil hA hS.1
      refine va_calli (va_runS (As := [.int x, .int 1, .int 10]) (rest := []) ⟨hx, hb, hml, hown, hG⟩ (m_within l dC dI cI cJ cZ cB x 1 10 H4.size ) (cwS 3 hG g_M_83 rfl rfl rfl (by decide +kernel) ⟨Nat.le_of_ble_eq_true rfl, Nat.le_of_ble_eq_true rfl⟩) ⟨PC.blind, PC.of hPc hK hDc hE hS hFc⟩ rfl rfl hl9.1 rfl (lv_room (Nat.le_of_ble_eq_true rfl)) d_M_areQuarters_12 ⟨by first | exact Nat.le_of_ble_eq_true rfl | omega, by first | exact Nat.le_of_ble_eq_true rfl | omega⟩) hS (fun q _ h => hFc q h) hFc (fun r8 u t H7 locs ht hvm hw hB hz1 hk1 hS => ?_)
      have hP := wp_kept hP hk1
      have hw : r8 = if ¬ (x < 1 ∨ 10 < x) then 1 else 0 := hw
      subst hw
      rw [wi_0 h1]
      refine lv_if_eq (tgt := 32) hx hb d_M_areQuarters_15 (by decide) (fun c9 => ?_) (fun c9 => absurd c9 (by decide))
      refine lv_iconst (v := 0) hx hb d_M_areQuarters_32 (by decide) ?_
      exact W.zret (v := 0) hx hb hr rfl (fun t ht hW => ⟨⟨0, (), rfl, rfl, trivial⟩, hS.F ht⟩) hS.2.2 d_M_areQuarters_33
    · have h2 := hq.resolve_left h1
      refine lv_aload_n hx hb d_M_areQuarters_0 rfl (lv_at hl9 0 rfl) ?_
      refine lv_iload_n hx hb d_M_areQuarters_1 rfl (lv_at hl9 1 rfl) ?_
      have hPc := hP.sub (ws' := [(m0, .inr (3, [.int 0, .int (nI nz), .ref mH, .ref mL, .ref mB, .ref mP, .ref mR, .ref mA, .ref mW, .ref mU, .ref mV, .int rw, .ref mM, .ref mT, .int mc, .ref mQ, .int ga, .int gb, .int kn, .ref mO, .ref mF, .ref mS, .ref mE, .ref mX, .ref mD]))]) [0] rfl
      have hDc := hD.sub (ws' := [(m0, .inr (3, [.int 0, .int (nI nz), .ref mH, .ref mL, .ref mB, .ref mP, .ref mR, .ref mA, .ref mW, .ref mU, .ref mV, .int rw, .ref mM, .ref mT, .int mc, .ref mQ, .int ga, .int gb, .int kn, .ref mO, .ref mF, .ref mS, .ref mE, .ref mX, .ref mD]))]) [0] (by decide) rfl
      have hFc := va_A_nil hA hS.1
      refine va_calli (va_runV (C := R_M) (As := [.int z]) (rest := []) ⟨hx, hb, hml, hown, hG⟩ (m_isZone l dC dI cI cJ cZ cB m0 mH mL mB mP mR mA mW mU mV mM mT mQ mO mF mS mE mX mD 0 (nI nz) rw mc ga gb kn z H.size ) (cwV 1 hG g_M_95 rfl rfl rfl (by decide +kernel) ⟨Nat.le_of_ble_eq_true rfl, Nat.le_of_ble_eq_true rfl⟩) ⟨PC.blind, va_recv hK hP (ci := 3) (q0 := 0) rfl rfl, PC.of hPc hK hDc hE hS hFc⟩ rfl rfl hl9.1 rfl (lv_room (Nat.le_of_ble_eq_true rfl)) d_M_areQuarters_2 ⟨by first | exact Nat.le_of_ble_eq_true rfl | omega, by first | exact Nat.le_of_ble_eq_true rfl | omega⟩) hS (fun q _ h => hFc q h) hFc (fun r11 u t H10 locs ht hvm hw hB hz1 hk1 hS => ?_)
      have hP := wp_kept hP hk1
      have hw : r11 = if ¬ (z < 0 ∨ (nI nz) ≤ z) then 1 else 0 := hw
      subst hw
      rw [iz_1g hz]
      refine lv_if_eq (tgt := 32) hx hb d_M_areQuarters_5 (by decide) (fun c12 => absurd c12 (by decide)) (fun c12 => ?_)
      refine lv_iload_n hx hb d_M_areQuarters_8 rfl (lv_at hl9 2 rfl) ?_
      refine lv_iconst (v := 1) hx hb d_M_areQuarters_9 (by decide) ?_
      refine lv_bipush (v := 10) hx hb d_M_areQuarters_10 (by decide) ?_
      have hPc := hP.sub (ws' := []) [] rfl
      have hDc := hD.sub (ws' := []) [] (by decide) rfl
      have hFc := va_A_nil hA hS.1
      refine va_calli (va_runS (As := [.int x, .int 1, .int 10]) (rest := []) ⟨hx, hb, hml, hown, hG⟩ (m_within l dC dI cI cJ cZ cB x 1 10 H10.size ) (cwS 3 hG g_M_83 rfl rfl rfl (by decide +kernel) ⟨Nat.le_of_ble_eq_true rfl, Nat.le_of_ble_eq_true rfl⟩) ⟨PC.blind, PC.of hPc hK hDc hE hS hFc⟩ rfl rfl hl9.1 rfl (lv_room (Nat.le_of_ble_eq_true rfl)) d_M_areQuarters_12 ⟨by first | exact Nat.le_of_ble_eq_true rfl | omega, by first | exact Nat.le_of_ble_eq_true rfl | omega⟩) hS (fun q _ h => hFc q h) hFc (fun r14 u t H13 locs ht hvm hw hB hz1 hk1 hS => ?_)
      have hP := wp_kept hP hk1
      have hw : r14 = if ¬ (x < 1 ∨ 10 < x) then 1 else 0 := hw
      subst hw
      rw [wi_1 h1]
      refine lv_if_eq (tgt := 32) hx hb d_M_areQuarters_15 (by decide) (fun c15 => absurd c15 (by decide)) (fun c15 => ?_)
      refine lv_iload_n hx hb d_M_areQuarters_18 rfl (lv_at hl9 3 rfl) ?_
      refine lv_iconst (v := 1) hx hb d_M_areQuarters_19 (by decide) ?_
      refine lv_bipush (v := 30) hx hb d_M_areQuarters_20 (by decide) ?_
      have hPc := hP.sub (ws' := []) [] rfl
      have hDc := hD.sub (ws' := []) [] (by decide) rfl
      have hFc := va_A_nil hA hS.1
      refine va_calli (va_runS (As := [.int y, .int 1, .int 30]) (rest := []) ⟨hx, hb, hml, hown, hG⟩ (m_within l dC dI cI cJ cZ cB y 1 30 H13.size ) (cwS 3 hG g_M_83 rfl rfl rfl (by decide +kernel) ⟨Nat.le_of_ble_eq_true rfl, Nat.le_of_ble_eq_true rfl⟩) ⟨PC.blind, PC.of hPc hK hDc hE hS hFc⟩ rfl rfl hl9.1 rfl (lv_room (Nat.le_of_ble_eq_true rfl)) d_M_areQuarters_22 ⟨by first | exact Nat.le_of_ble_eq_true rfl | omega, by first | exact Nat.le_of_ble_eq_true rfl | omega⟩) hS (fun q _ h => hFc q h) hFc (fun r17 u t H16 locs ht hvm hw hB hz1 hk1 hS => ?_)
      have hP := wp_kept hP hk1
      have hw : r17 = if ¬ (y < 1 ∨ 30 < y) then 1 else 0 := hw
      subst hw
      rw [wi_0 h2]
      refine lv_if_eq (tgt := 32) hx hb d_M_areQuarters_25 (by decide) (fun c18 => ?_) (fun c18 => absurd c18 (by decide))
      refine lv_iconst (v := 0) hx hb d_M_areQuarters_32 (by decide) ?_
      exact W.zret (v := 0) hx hb hr rfl (fun t ht hW => ⟨⟨0, (), rfl, rfl, trivial⟩, hS.F ht⟩) hS.2.2 d_M_areQuarters_33
set_option maxHeartbeats 4000000 in
set_option maxRecDepth 100000 in
theorem m_reckoned (l : Launch) (dC : Nat → ClassId) (dI : Nat → Nat → Nat) (cI cJ cZ cB : ClassId) (m0 mH mL mB mP mR mA mW mU mV mM mT mQ mO mF mS mE mX mD : Nat) (th zn rw mc ga gb kn : Int32) (rH rL rB rP rA rW rQ rO : Nat → Int32)  (k b nn mm S : Nat) (sz : Nat) (hk6 : k < 6) (hS31 : S < 2 ^ 31) (hb1 : b < 1440) (hn1 : 1 ≤ nn) (hnn : nn ≤ 10) (hm1 : 1 ≤ mm) (hmm : mm ≤ 30) (hzl : ¬ rL k = 0) (hzh : ¬ rH k = 0) (hAb : rA k = nI b) : Met l y_M_reckoned w_M_reckoned ({ frames := 1, cells := 0, slots := 0, locals := 24 }) (PC (dC, dI) (TY cI cJ cZ cB) [.ref m0, .int (nI k), .int (nI nn), .int (nI mm), .int (nI S)] [(m0, .inr (3, [.int th, .int zn, .ref mH, .ref mL, .ref mB, .ref mP, .ref mR, .ref mA, .ref mW, .ref mU, .ref mV, .int rw, .ref mM, .ref mT, .int mc, .ref mQ, .int ga, .int gb, .int kn, .ref mO, .ref mF, .ref mS, .ref mE, .ref mX, .ref mD])), (mH, .inl (cI, 6, .inl rH)), (mL, .inl (cI, 6, .inl rL)), (mB, .inl (cI, 6, .inl rB)), (mP, .inl (cI, 6, .inl rP)), (mA, .inl (cI, 6, .inl rA)), (mW, .inl (cI, 6, .inl rW)), (mQ, .inl (cI, 24, .inl rQ)), (mO, .inl (cI, 1440, .inl rO))] sz (va_A [] sz)) (va_Ql (fun (r : Int64) (_ : Unit) => r = if rW k ≤ (rk rO rQ (rL k) (rH k) (rP k) (rB k) b (nn * mm) mm S b).1 then (rk rO rQ (rL k) (rH k) (rP k) (rB k) b (nn * mm) mm S b).2 else -1) (fun (_ : Unit) (_ : State) => True) (va_A [] sz)) 0 0 (va_A [] sz) := by
  refine Met.ofW (cc := b_M_reckoned) (maxL := 11) (ret := (some .long)) (by decide) rfl ?_
  intro p e s m args below meth c s₁ B hml hv
  obtain ⟨rfl, hsz, hP, hK, hD0, hE⟩ := hv
  have hx := B.exec
  have hb := B.bytes
  have hr := B.returns
  have hG : ∀ w ∈ GG, w.before _ s = true := fun w h => atoms_spec (ws := w_M_reckoned) B.pre w (List.mem_cons_of_mem _ h)
  have hown : s.vm.findClass R_M = some m.cls := findClass_of_methodNamed B.named
  have hlocks := B.notSynchronized
  subst hsz
  generalize hAe : (va_A [] s.heap.size) = A at hE ⊢
  have hA : ∀ q : Nat, s.heap.size ≤ q → A q := fun q h => by rw [← hAe]; exact Or.inr h
  have hS : va_S A s.heap s.heap [] := va_S.rf
  have hD := hD0
  obtain ⟨H, hH⟩ : ∃ z, z = s.heap := ⟨_, rfl⟩
  rw [← hH] at hP
  have hS : va_S A s.heap H [] := by rw [hH]; exact hS
  rw [← hH]
  have hl9 := lv_entry ([.ref m0, .int (nI k), .int (nI nn), .int (nI mm), .int (nI S)]) (n := 11) (Nat.le_of_ble_eq_true rfl)
  rw [lg_entry_eq]
  generalize (lg_sl ([.ref m0, .int (nI k), .int (nI nn), .int (nI mm), .int (nI S)]) ++ List.replicate (11 - (lg_sl ([.ref m0, .int (nI k), .int (nI nn), .int (nI mm), .int (nI S)])).length) Slot.unset).toArray = ls at hl9 ⊢
  have hl9 : lv_has ls 11 [(0, .ref m0), (1, .int (nI k)), (2, .int (nI nn)), (3, .int (nI mm)), (4, .int (nI S))] := hl9
  have hin : vp_in (nI k) 6 := vp_in_nI hk6 (by decide)
  have hq3 : nn * mm ≤ 300 := Nat.le_trans (Nat.mul_le_mul hnn hmm) (by decide)
  refine lv_aload_n hx hb d_M_reckoned_0 rfl (lv_at hl9 0 rfl) ?_
  refine va_get (D := (dC, dI)) (ci := 3) (v := .ref mB) (C := R_M) (T := F_M) (N := 25) hx hb hG i_M hown hK hP 0 rfl rfl 4 (by decide) (hG _ k_444) (fun _ h9 => h9) rfl d_M_reckoned_1 ?_
  refine lv_iload_n hx hb d_M_reckoned_4 rfl (lv_at hl9 1 rfl) ?_
  refine va_iald hx hb hK hP 3 0 rfl rfl (hin) d_M_reckoned_5 ?_
  rw [nI_clamp (n := k) (by omega)]
  refine lv_istore (lv' := [(5, .int (rB k)), (0, .ref m0), (1, .int (nI k)), (2, .int (nI nn)), (3, .int (nI mm)), (4, .int (nI S))]) hx hb d_M_reckoned_6 hl9 (by decide) rfl (fun ls hl9 => ?_)
  refine lv_aload_n hx hb d_M_reckoned_8 rfl (lv_at hl9 1 rfl) ?_
  refine va_get (D := (dC, dI)) (ci := 3) (v := .ref mA) (C := R_M) (T := F_M) (N := 25) hx hb hG i_M hown hK hP 0 rfl rfl 7 (by decide) (hG _ k_447) (fun _ h9 => h9) rfl d_M_reckoned_9 ?_
  refine lv_iload_n hx hb d_M_reckoned_12 rfl (lv_at hl9 2 rfl) ?_
  refine va_iald hx hb hK hP 5 0 rfl rfl (hin) d_M_reckoned_13 ?_
  rw [nI_clamp (n := k) (by omega)]
  rw [hAb]
  refine lv_iload_n hx hb d_M_reckoned_14 rfl (lv_at hl9 3 rfl) ?_
  refine lv_iload_n hx hb d_M_reckoned_15 rfl (lv_at hl9 4 rfl) ?_
  refine lv_imul hx hb d_M_reckoned_16 ?_
  rw [pk_mul]
  refine lv_isub hx hb d_M_reckoned_17 ?_
  refine lv_istore (lv' := [(6, .int ((nI b) - (nI (nn * mm)))), (5, .int (rB k)), (0, .ref m0), (1, .int (nI k)), (2, .int (nI nn)), (3, .int (nI mm)), (4, .int (nI S))]) hx hb d_M_reckoned_18 hl9 (by decide) rfl (fun ls hl9 => ?_)
  refine lv_lconst (v := 0) hx hb d_M_reckoned_20 (by decide) ?_
  refine lv_lstore (lv' := [(7, .long 0), (6, .int ((nI b) - (nI (nn * mm)))), (5, .int (rB k)), (0, .ref m0), (1, .int (nI k)), (2, .int (nI nn)), (3, .int (nI mm)), (4, .int (nI S))]) hx hb d_M_reckoned_21 hl9 (by decide) rfl (fun ls hl9 => ?_)
  refine lv_iconst (v := 0) hx hb d_M_reckoned_23 (by decide) ?_
  refine lv_istore (lv' := [(9, .int 0), (7, .long 0), (6, .int ((nI b) - (nI (nn * mm)))), (5, .int (rB k)), (0, .ref m0), (1, .int (nI k)), (2, .int (nI nn)), (3, .int (nI mm)), (4, .int (nI S))]) hx hb d_M_reckoned_24 hl9 (by decide) rfl (fun ls hl9 => ?_)
  have lp : ∀ (n : Nat) (t9 : Nat), t9 ≤ b → b + 1 ≤ t9 + n → ∀ (H : Heap) (locs : List Loc) (ls : Array Slot), va_P (dC, dI) vwCl [(m0, .inr (3, [.int th, .int zn, .ref mH, .ref mL, .ref mB, .ref mP, .ref mR, .ref mA, .ref mW, .ref mU, .ref mV, .int rw, .ref mM, .ref mT, .int mc, .ref mQ, .int ga, .int gb, .int kn, .ref mO, .ref mF, .ref mS, .ref mE, .ref mX, .ref mD])), (mH, .inl (cI, 6, .inl rH)), (mL, .inl (cI, 6, .inl rL)), (mB, .inl (cI, 6, .inl rB)), (mP, .inl (cI, 6, .inl rP)), (mA, .inl (cI, 6, .inl rA)), (mW, .inl (cI, 6, .inl rW)), (mQ, .inl (cI, 24, .inl rQ)), (mO, .inl (cI, 1440, .inl rO))] H → va_S A s.heap H locs → lv_has ls 11 [(5, .int ((rk rO rQ (rL k) (rH k) (rP k) (rB k) b (nn * mm) mm S t9).1)), (6, .int ((nI b) - (nI (nn * mm)))), (7, .long ((rk rO rQ (rL k) (rH k) (rP k) (rB k) b (nn * mm) mm S t9).2)), (9, .int (nI t9)), (0, .ref m0), (1, .int (nI k)), (3, .int (nI mm)), (4, .int (nI S))] → W p l e (headSpec w_M_reckoned ({ frames := 1, cells := 0, slots := 0, locals := 24 })).room s m ([.ref m0, .int (nI k), .int (nI nn), .int (nI mm), .int (nI S)] : List Value).toArray below meth c H locs 0 0 (MQ below (va_Ql (fun (r : Int64) (_ : Unit) => r = if rW k ≤ (rk rO rQ (rL k) (rH k) (rP k) (rB k) b (nn * mm) mm S b).1 then (rk rO rQ (rL k) (rH k) (rP k) (rB k) b (nn * mm) mm S b).2 else -1) (fun (_ : Unit) (_ : State) => True) A) ([.ref m0, .int (nI k), .int (nI nn), .int (nI mm), .int (nI S)] : List Value).toArray s 0 0 A) (F0 m 26 ls []) := by
    intro n
    induction n with
    | zero =>
      intro t9 hle hin9
      exact absurd hin9 (by omega)
    | succ n ih =>
      intro t9 hle hin9 H locs ls hP hS hl9
      refine lv_iload hx hb d_M_reckoned_26 (lv_at hl9 3 rfl) ?_
      refine lv_aload_n hx hb d_M_reckoned_28 rfl (lv_at hl9 4 rfl) ?_
      refine va_get (D := (dC, dI)) (ci := 3) (v := .ref mA) (C := R_M) (T := F_M) (N := 25) hx hb hG i_M hown hK hP 0 rfl rfl 7 (by decide) (hG _ k_447) (fun _ h9 => h9) rfl d_M_reckoned_29 ?_
      refine lv_iload_n hx hb d_M_reckoned_32 rfl (lv_at hl9 5 rfl) ?_
      refine va_iald hx hb hK hP 5 0 rfl rfl (hin) d_M_reckoned_33 ?_
      rw [nI_clamp (n := k) (by omega)]
      rw [hAb]
      refine lv_icmp_ge (tgt := 132) hx hb d_M_reckoned_34 (by decide) (fun c1 => ?_) (fun c1 => ?_)
      · have e9 : t9 = b := by have := ge_of_c (i := t9) (b := b) (by omega) (by omega) c1; omega
        refine lv_iload hx hb d_M_reckoned_132 (lv_at hl9 0 rfl) ?_
        refine lv_aload_n hx hb d_M_reckoned_134 rfl (lv_at hl9 4 rfl) ?_
        refine va_get (D := (dC, dI)) (ci := 3) (v := .ref mW) (C := R_M) (T := F_M) (N := 25) hx hb hG i_M hown hK hP 0 rfl rfl 8 (by decide) (hG _ k_448) (fun _ h9 => h9) rfl d_M_reckoned_135 ?_
        refine lv_iload_n hx hb d_M_reckoned_138 rfl (lv_at hl9 5 rfl) ?_
        refine va_iald hx hb hK hP 6 0 rfl rfl (hin) d_M_reckoned_139 ?_
        rw [nI_clamp (n := k) (by omega)]
        refine lv_icmp_lt (tgt := 148) hx hb d_M_reckoned_140 (by decide) (fun c2 => ?_) (fun c2 => ?_)
        · refine lv_ldc2 (v := (-1)) hx hb hown (hG _ k_635) d_M_reckoned_148 ?_
          exact W.lret (v := (-1)) hx hb hr (fun t ht hW => ⟨⟨(-1), (), rfl, by rw [e9] at c2; exact (if_neg (Int32.not_le.mpr c2)).symm, trivial⟩, hS.F ht⟩) hS.2.2 d_M_reckoned_151
        · refine lv_lload hx hb d_M_reckoned_143 (lv_at hl9 2 rfl) ?_
          refine lv_goto (tgt := 151) hx hb d_M_reckoned_145 (by decide) ?_
          exact W.lret (v := (rk rO rQ (rL k) (rH k) (rP k) (rB k) b (nn * mm) mm S t9).2) hx hb hr (fun t ht hW => ⟨⟨(rk rO rQ (rL k) (rH k) (rP k) (rB k) b (nn * mm) mm S t9).2, (), rfl, by rw [e9] at c2 ⊢; exact (if_pos (Int32.not_lt.mp c2)).symm, trivial⟩, hS.F ht⟩) hS.2.2 d_M_reckoned_151
      · have e9 : t9 < b := lt_of_c (by omega) (by omega) c1
        have e6 : nI t9 / 60 = nI (t9 / 60) := pk_div (d := 60) (by omega) (by decide) (by decide)
        have hin6 : vp_in (nI (t9 / 60)) 24 := vp_in_nI (by omega) (by decide)
        refine lv_iload hx hb d_M_reckoned_37 (lv_at hl9 3 rfl) ?_
        refine lv_iload hx hb d_M_reckoned_39 (lv_at hl9 1 rfl) ?_
        refine lv_icmp_lt (tgt := 64) hx hb d_M_reckoned_41 (by decide) (fun c2 => ?_) (fun c2 => ?_)
        · have hh : ¬ htd b (nn * mm) mm S t9 := fun h => absurd ((first_le hb1 hq3 (by omega)).mp c2) (by have := h.1; omega)
          refine lv_iconst (v := 0) hx hb d_M_reckoned_64 (by decide) ?_
          refine lv_istore (lv' := [(10, .int 0), (5, .int ((rk rO rQ (rL k) (rH k) (rP k) (rB k) b (nn * mm) mm S t9).1)), (6, .int ((nI b) - (nI (nn * mm)))), (7, .long ((rk rO rQ (rL k) (rH k) (rP k) (rB k) b (nn * mm) mm S t9).2)), (9, .int (nI t9)), (0, .ref m0), (1, .int (nI k)), (3, .int (nI mm)), (4, .int (nI S))]) hx hb d_M_reckoned_65 hl9 (by decide) rfl (fun ls hl9 => ?_)
          refine lv_aload_n hx hb d_M_reckoned_67 rfl (lv_at hl9 5 rfl) ?_
          refine lv_iload_n hx hb d_M_reckoned_68 rfl (lv_at hl9 6 rfl) ?_
          refine lv_iload hx hb d_M_reckoned_69 (lv_at hl9 1 rfl) ?_
          refine lv_iload hx hb d_M_reckoned_71 (lv_at hl9 4 rfl) ?_
          refine lv_iload hx hb d_M_reckoned_73 (lv_at hl9 0 rfl) ?_
          refine lv_if_eq (tgt := 87) hx hb d_M_reckoned_75 (by decide) (fun c5 => ?_) (fun c5 => absurd c5 (by decide))
          refine lv_iconst (v := 0) hx hb d_M_reckoned_87 (by decide) ?_
          have hPc := hP.sub (ws' := [(m0, .inr (3, [.int th, .int zn, .ref mH, .ref mL, .ref mB, .ref mP, .ref mR, .ref mA, .ref mW, .ref mU, .ref mV, .int rw, .ref mM, .ref mT, .int mc, .ref mQ, .int ga, .int gb, .int kn, .ref mO, .ref mF, .ref mS, .ref mE, .ref mX, .ref mD])), (mH, .inl (cI, 6, .inl rH)), (mL, .inl (cI, 6, .inl rL)), (mO, .inl (cI, 1440, .inl rO))]) [0, 1, 2, 8] rfl
          have hDc := hD.sub (ws' := [(m0, .inr (3, [.int th, .int zn, .ref mH, .ref mL, .ref mB, .ref mP, .ref mR, .ref mA, .ref mW, .ref mU, .ref mV, .int rw, .ref mM, .ref mT, .int mc, .ref mQ, .int ga, .int gb, .int kn, .ref mO, .ref mF, .ref mS, .ref mE, .ref mX, .ref mD])), (mH, .inl (cI, 6, .inl rH)), (mL, .inl (cI, 6, .inl rL)), (mO, .inl (cI, 1440, .inl rO))]) [0, 1, 2, 8] (by decide) rfl
          have hFc := va_A_nil hA hS.1
          refine va_calli (va_runV (C := R_M) (As := [.int (nI k), .int ((rk rO rQ (rL k) (rH k) (rP k) (rB k) b (nn * mm) mm S t9).1), .int (nI t9), .int 0]) (rest := []) ⟨hx, hb, hml, hown, hG⟩ (m_stepped l dC dI cI cJ cZ cB m0 mH mL mB mP mR mA mW mU mV mM mT mQ mO mF mS mE mX mD th zn rw mc ga gb kn rH rL rO k t9 ((rk rO rQ (rL k) (rH k) (rP k) (rB k) b (nn * mm) mm S t9).1) 0 H.size hk6 (by omega) hzl hzh) (cwV 4 hG g_M_107 rfl rfl rfl (by decide +kernel) ⟨Nat.le_of_ble_eq_true rfl, Nat.le_of_ble_eq_true rfl⟩) ⟨PC.blind, va_recv hK hP (ci := 3) (q0 := 0) rfl rfl, PC.of hPc hK hDc hE hS hFc⟩ rfl rfl hl9.1 rfl (lv_room (Nat.le_of_ble_eq_true rfl)) d_M_reckoned_88 ⟨by first | exact Nat.le_of_ble_eq_true rfl | omega, by first | exact Nat.le_of_ble_eq_true rfl | omega⟩) hS (fun q _ h => hFc q h) hFc (fun r2 u t H1 locs ht hvm hw hB hz1 hk1 hS => ?_)
          have hP := wp_kept hP hk1
          have hw : r2 = ((rk rO rQ (rL k) (rH k) (rP k) (rB k) b (nn * mm) mm S t9).1) + (rO t9 - ((rk rO rQ (rL k) (rH k) (rP k) (rB k) b (nn * mm) mm S t9).1)) / rL k + 0 / rH k := hw
          subst hw
          refine lv_istore (lv' := [(5, .int (((rk rO rQ (rL k) (rH k) (rP k) (rB k) b (nn * mm) mm S t9).1) + (rO t9 - ((rk rO rQ (rL k) (rH k) (rP k) (rB k) b (nn * mm) mm S t9).1)) / rL k + 0 / rH k)), (10, .int 0), (6, .int ((nI b) - (nI (nn * mm)))), (7, .long ((rk rO rQ (rL k) (rH k) (rP k) (rB k) b (nn * mm) mm S t9).2)), (9, .int (nI t9)), (0, .ref m0), (1, .int (nI k)), (3, .int (nI mm)), (4, .int (nI S))]) hx hb d_M_reckoned_91 hl9 (by decide) rfl (fun ls hl9 => ?_)
          refine lv_lload hx hb d_M_reckoned_93 (lv_at hl9 3 rfl) ?_
          refine lv_iload hx hb d_M_reckoned_95 (lv_at hl9 1 rfl) ?_
          refine lv_if_eq (tgt := 122) hx hb d_M_reckoned_97 (by decide) (fun c6 => ?_) (fun c6 => absurd c6 (by decide))
          refine lv_lconst (v := 0) hx hb d_M_reckoned_122 (by decide) ?_
          refine lv_ladd hx hb d_M_reckoned_123 ?_
          refine lv_lstore (lv' := [(7, .long (((rk rO rQ (rL k) (rH k) (rP k) (rB k) b (nn * mm) mm S t9).2) + 0)), (5, .int (((rk rO rQ (rL k) (rH k) (rP k) (rB k) b (nn * mm) mm S t9).1) + (rO t9 - ((rk rO rQ (rL k) (rH k) (rP k) (rB k) b (nn * mm) mm S t9).1)) / rL k + 0 / rH k)), (10, .int 0), (6, .int ((nI b) - (nI (nn * mm)))), (9, .int (nI t9)), (0, .ref m0), (1, .int (nI k)), (3, .int (nI mm)), (4, .int (nI S))]) hx hb d_M_reckoned_124 hl9 (by decide) rfl (fun ls hl9 => ?_)
          refine lv_iinc (v := ((nI t9) + 1)) (lv' := [(9, .int ((nI t9) + 1)), (7, .long (((rk rO rQ (rL k) (rH k) (rP k) (rB k) b (nn * mm) mm S t9).2) + 0)), (5, .int (((rk rO rQ (rL k) (rH k) (rP k) (rB k) b (nn * mm) mm S t9).1) + (rO t9 - ((rk rO rQ (rL k) (rH k) (rP k) (rB k) b (nn * mm) mm S t9).1)) / rL k + 0 / rH k)), (10, .int 0), (6, .int ((nI b) - (nI (nn * mm)))), (0, .ref m0), (1, .int (nI k)), (3, .int (nI mm)), (4, .int (nI S))]) hx hb d_M_reckoned_126 hl9 (k := 4) rfl rfl (by decide) rfl (fun ls hl9 => ?_)
          refine lv_goto (tgt := 26) hx hb d_M_reckoned_129 (by decide) ?_
          have e8 : rk rO rQ (rL k) (rH k) (rP k) (rB k) b (nn * mm) mm S (t9 + 1) = ((((rk rO rQ (rL k) (rH k) (rP k) (rB k) b (nn * mm) mm S t9).1) + (rO t9 - ((rk rO rQ (rL k) (rH k) (rP k) (rB k) b (nn * mm) mm S t9).1)) / rL k + 0 / rH k), (((rk rO rQ (rL k) (rH k) (rP k) (rB k) b (nn * mm) mm S t9).2) + 0)) := rk_off hh
          have e7 := congrArg Prod.fst e8
          have e5 := congrArg Prod.snd e8
          dsimp only at e7 e5
          rw [← e7, ← e5, nI_1] at hl9
          exact ih (t9 + 1) (by omega) (by omega) _ _ ls hP hS (lv_sub hl9 [2, 4, 1, 0, 5, 6, 7, 8] rfl)
        · have hge : b ≤ t9 + nn * mm := by rcases Nat.lt_or_ge (t9 + nn * mm) b with h | h; exact absurd ((first_le hb1 hq3 (by omega)).mpr h) c2; exact h
          have hqe : (t9 + nn * mm - b) / mm < nn := by rw [Nat.div_lt_iff_lt_mul (by omega)]; omega
          refine lv_iload hx hb d_M_reckoned_44 (lv_at hl9 7 rfl) ?_
          refine lv_iload hx hb d_M_reckoned_46 (lv_at hl9 3 rfl) ?_
          refine lv_iload hx hb d_M_reckoned_48 (lv_at hl9 1 rfl) ?_
          refine lv_isub hx hb d_M_reckoned_50 ?_
          rw [sub_sub hge]
          refine lv_iload_n hx hb d_M_reckoned_51 rfl (lv_at hl9 6 rfl) ?_
          refine lv_idiv hx hb d_M_reckoned_52 (nI_ne0 (by omega) (by omega)) ?_
          rw [pk_div (by omega) (by omega) (by omega)]
          refine lv_ishr hx hb d_M_reckoned_53 ?_
          refine lv_iconst (v := 1) hx hb d_M_reckoned_54 (by decide) ?_
          refine lv_iand hx hb d_M_reckoned_55 ?_
          rw [bit_eq hS31 (by omega)]
          refine lv_iconst (v := 1) hx hb d_M_reckoned_56 (by decide) ?_
          refine lv_icmp_ne (tgt := 64) hx hb d_M_reckoned_57 (by decide) (fun c3 => ?_) (fun c3 => ?_)
          · have hh : ¬ htd b (nn * mm) mm S t9 := fun h => c3 (by rw [h.2]; rfl)
            refine lv_iconst (v := 0) hx hb d_M_reckoned_64 (by decide) ?_
            refine lv_istore (lv' := [(10, .int 0), (5, .int ((rk rO rQ (rL k) (rH k) (rP k) (rB k) b (nn * mm) mm S t9).1)), (6, .int ((nI b) - (nI (nn * mm)))), (7, .long ((rk rO rQ (rL k) (rH k) (rP k) (rB k) b (nn * mm) mm S t9).2)), (9, .int (nI t9)), (0, .ref m0), (1, .int (nI k)), (3, .int (nI mm)), (4, .int (nI S))]) hx hb d_M_reckoned_65 hl9 (by decide) rfl (fun ls hl9 => ?_)
            refine lv_aload_n hx hb d_M_reckoned_67 rfl (lv_at hl9 5 rfl) ?_
            refine lv_iload_n hx hb d_M_reckoned_68 rfl (lv_at hl9 6 rfl) ?_
            refine lv_iload hx hb d_M_reckoned_69 (lv_at hl9 1 rfl) ?_
            refine lv_iload hx hb d_M_reckoned_71 (lv_at hl9 4 rfl) ?_
            refine lv_iload hx hb d_M_reckoned_73 (lv_at hl9 0 rfl) ?_
            refine lv_if_eq (tgt := 87) hx hb d_M_reckoned_75 (by decide) (fun c5 => ?_) (fun c5 => absurd c5 (by decide))
            refine lv_iconst (v := 0) hx hb d_M_reckoned_87 (by decide) ?_
            have hPc := hP.sub (ws' := [(m0, .inr (3, [.int th, .int zn, .ref mH, .ref mL, .ref mB, .ref mP, .ref mR, .ref mA, .ref mW, .ref mU, .ref mV, .int rw, .ref mM, .ref mT, .int mc, .ref mQ, .int ga, .int gb, .int kn, .ref mO, .ref mF, .ref mS, .ref mE, .ref mX, .ref mD])), (mH, .inl (cI, 6, .inl rH)), (mL, .inl (cI, 6, .inl rL)), (mO, .inl (cI, 1440, .inl rO))]) [0, 1, 2, 8] rfl
            have hDc := hD.sub (ws' := [(m0, .inr (3, [.int th, .int zn, .ref mH, .ref mL, .ref mB, .ref mP, .ref mR, .ref mA, .ref mW, .ref mU, .ref mV, .int rw, .ref mM, .ref mT, .int mc, .ref mQ, .int ga, .int gb, .int kn, .ref mO, .ref mF, .ref mS, .ref mE, .ref mX, .ref mD])), (mH, .inl (cI, 6, .inl rH)), (mL, .inl (cI, 6, .inl rL)), (mO, .inl (cI, 1440, .inl rO))]) [0, 1, 2, 8] (by decide) rfl
            have hFc := va_A_nil hA hS.1
            refine va_calli (va_runV (C := R_M) (As := [.int (nI k), .int ((rk rO rQ (rL k) (rH k) (rP k) (rB k) b (nn * mm) mm S t9).1), .int (nI t9), .int 0]) (rest := []) ⟨hx, hb, hml, hown, hG⟩ (m_stepped l dC dI cI cJ cZ cB m0 mH mL mB mP mR mA mW mU mV mM mT mQ mO mF mS mE mX mD th zn rw mc ga gb kn rH rL rO k t9 ((rk rO rQ (rL k) (rH k) (rP k) (rB k) b (nn * mm) mm S t9).1) 0 H.size hk6 (by omega) hzl hzh) (cwV 4 hG g_M_107 rfl rfl rfl (by decide +kernel) ⟨Nat.le_of_ble_eq_true rfl, Nat.le_of_ble_eq_true rfl⟩) ⟨PC.blind, va_recv hK hP (ci := 3) (q0 := 0) rfl rfl, PC.of hPc hK hDc hE hS hFc⟩ rfl rfl hl9.1 rfl (lv_room (Nat.le_of_ble_eq_true rfl)) d_M_reckoned_88 ⟨by first | exact Nat.le_of_ble_eq_true rfl | omega, by first | exact Nat.le_of_ble_eq_true rfl | omega⟩) hS (fun q _ h => hFc q h) hFc (fun r4 u t H3 locs ht hvm hw hB hz1 hk1 hS => ?_)
            have hP := wp_kept hP hk1
            have hw : r4 = ((rk rO rQ (rL k) (rH k) (rP k) (rB k) b (nn * mm) mm S t9).1) + (rO t9 - ((rk rO rQ (rL k) (rH k) (rP k) (rB k) b (nn * mm) mm S t9).1)) / rL k + 0 / rH k := hw
            subst hw
            refine lv_istore (lv' := [(5, .int (((rk rO rQ (rL k) (rH k) (rP k) (rB k) b (nn * mm) mm S t9).1) + (rO t9 - ((rk rO rQ (rL k) (rH k) (rP k) (rB k) b (nn * mm) mm S t9).1)) / rL k + 0 / rH k)), (10, .int 0), (6, .int ((nI b) - (nI (nn * mm)))), (7, .long ((rk rO rQ (rL k) (rH k) (rP k) (rB k) b (nn * mm) mm S t9).2)), (9, .int (nI t9)), (0, .ref m0), (1, .int (nI k)), (3, .int (nI mm)), (4, .int (nI S))]) hx hb d_M_reckoned_91 hl9 (by decide) rfl (fun ls hl9 => ?_)
            refine lv_lload hx hb d_M_reckoned_93 (lv_at hl9 3 rfl) ?_
            refine lv_iload hx hb d_M_reckoned_95 (lv_at hl9 1 rfl) ?_
            refine lv_if_eq (tgt := 122) hx hb d_M_reckoned_97 (by decide) (fun c6 => ?_) (fun c6 => absurd c6 (by decide))
            refine lv_lconst (v := 0) hx hb d_M_reckoned_122 (by decide) ?_
            refine lv_ladd hx hb d_M_reckoned_123 ?_
            refine lv_lstore (lv' := [(7, .long (((rk rO rQ (rL k) (rH k) (rP k) (rB k) b (nn * mm) mm S t9).2) + 0)), (5, .int (((rk rO rQ (rL k) (rH k) (rP k) (rB k) b (nn * mm) mm S t9).1) + (rO t9 - ((rk rO rQ (rL k) (rH k) (rP k) (rB k) b (nn * mm) mm S t9).1)) / rL k + 0 / rH k)), (10, .int 0), (6, .int ((nI b) - (nI (nn * mm)))), (9, .int (nI t9)), (0, .ref m0), (1, .int (nI k)), (3, .int (nI mm)), (4, .int (nI S))]) hx hb d_M_reckoned_124 hl9 (by decide) rfl (fun ls hl9 => ?_)
            refine lv_iinc (v := ((nI t9) + 1)) (lv' := [(9, .int ((nI t9) + 1)), (7, .long (((rk rO rQ (rL k) (rH k) (rP k) (rB k) b (nn * mm) mm S t9).2) + 0)), (5, .int (((rk rO rQ (rL k) (rH k) (rP k) (rB k) b (nn * mm) mm S t9).1) + (rO t9 - ((rk rO rQ (rL k) (rH k) (rP k) (rB k) b (nn * mm) mm S t9).1)) / rL k + 0 / rH k)), (10, .int 0), (6, .int ((nI b) - (nI (nn * mm)))), (0, .ref m0), (1, .int (nI k)), (3, .int (nI mm)), (4, .int (nI S))]) hx hb d_M_reckoned_126 hl9 (k := 4) rfl rfl (by decide) rfl (fun ls hl9 => ?_)
            refine lv_goto (tgt := 26) hx hb d_M_reckoned_129 (by decide) ?_
            have e8 : rk rO rQ (rL k) (rH k) (rP k) (rB k) b (nn * mm) mm S (t9 + 1) = ((((rk rO rQ (rL k) (rH k) (rP k) (rB k) b (nn * mm) mm S t9).1) + (rO t9 - ((rk rO rQ (rL k) (rH k) (rP k) (rB k) b (nn * mm) mm S t9).1)) / rL k + 0 / rH k), (((rk rO rQ (rL k) (rH k) (rP k) (rB k) b (nn * mm) mm S t9).2) + 0)) := rk_off hh
            have e7 := congrArg Prod.fst e8
            have e5 := congrArg Prod.snd e8
            dsimp only at e7 e5
            rw [← e7, ← e5, nI_1] at hl9
            exact ih (t9 + 1) (by omega) (by omega) _ _ ls hP hS (lv_sub hl9 [2, 4, 1, 0, 5, 6, 7, 8] rfl)
          · have hh : htd b (nn * mm) mm S t9 := ⟨hge, bit_1 c3⟩
            refine lv_iconst (v := 1) hx hb d_M_reckoned_60 (by decide) ?_
            refine lv_goto (tgt := 65) hx hb d_M_reckoned_61 (by decide) ?_
            refine lv_istore (lv' := [(10, .int 1), (5, .int ((rk rO rQ (rL k) (rH k) (rP k) (rB k) b (nn * mm) mm S t9).1)), (6, .int ((nI b) - (nI (nn * mm)))), (7, .long ((rk rO rQ (rL k) (rH k) (rP k) (rB k) b (nn * mm) mm S t9).2)), (9, .int (nI t9)), (0, .ref m0), (1, .int (nI k)), (3, .int (nI mm)), (4, .int (nI S))]) hx hb d_M_reckoned_65 hl9 (by decide) rfl (fun ls hl9 => ?_)
            refine lv_aload_n hx hb d_M_reckoned_67 rfl (lv_at hl9 5 rfl) ?_
            refine lv_iload_n hx hb d_M_reckoned_68 rfl (lv_at hl9 6 rfl) ?_
            refine lv_iload hx hb d_M_reckoned_69 (lv_at hl9 1 rfl) ?_
            refine lv_iload hx hb d_M_reckoned_71 (lv_at hl9 4 rfl) ?_
            refine lv_iload hx hb d_M_reckoned_73 (lv_at hl9 0 rfl) ?_
            refine lv_if_eq (tgt := 87) hx hb d_M_reckoned_75 (by decide) (fun c5 => absurd c5 (by decide)) (fun c5 => ?_)
            refine lv_aload_n hx hb d_M_reckoned_78 rfl (lv_at hl9 5 rfl) ?_
            refine va_get (D := (dC, dI)) (ci := 3) (v := .ref mP) (C := R_M) (T := F_M) (N := 25) hx hb hG i_M hown hK hP 0 rfl rfl 5 (by decide) (hG _ k_445) (fun _ h9 => h9) rfl d_M_reckoned_79 ?_
            refine lv_iload_n hx hb d_M_reckoned_82 rfl (lv_at hl9 6 rfl) ?_
            refine va_iald hx hb hK hP 4 0 rfl rfl (hin) d_M_reckoned_83 ?_
            rw [nI_clamp (n := k) (by omega)]
            refine lv_goto (tgt := 88) hx hb d_M_reckoned_84 (by decide) ?_
            have hPc := hP.sub (ws' := [(m0, .inr (3, [.int th, .int zn, .ref mH, .ref mL, .ref mB, .ref mP, .ref mR, .ref mA, .ref mW, .ref mU, .ref mV, .int rw, .ref mM, .ref mT, .int mc, .ref mQ, .int ga, .int gb, .int kn, .ref mO, .ref mF, .ref mS, .ref mE, .ref mX, .ref mD])), (mH, .inl (cI, 6, .inl rH)), (mL, .inl (cI, 6, .inl rL)), (mO, .inl (cI, 1440, .inl rO))]) [0, 1, 2, 8] rfl
            have hDc := hD.sub (ws' := [(m0, .inr (3, [.int th, .int zn, .ref mH, .ref mL, .ref mB, .ref mP, .ref mR, .ref mA, .ref mW, .ref mU, .ref mV, .int rw, .ref mM, .ref mT, .int mc, .ref mQ, .int ga, .int gb, .int kn, .ref mO, .ref mF, .ref mS, .ref mE, .ref mX, .ref mD])), (mH, .inl (cI, 6, .inl rH)), (mL, .inl (cI, 6, .inl rL)), (mO, .inl (cI, 1440, .inl rO))]) [0, 1, 2, 8] (by decide) rfl
            have hFc := va_A_nil hA hS.1
            refine va_calli (va_runV (C := R_M) (As := [.int (nI k), .int ((rk rO rQ (rL k) (rH k) (rP k) (rB k) b (nn * mm) mm S t9).1), .int (nI t9), .int (rP k)]) (rest := []) ⟨hx, hb, hml, hown, hG⟩ (m_stepped l dC dI cI cJ cZ cB m0 mH mL mB mP mR mA mW mU mV mM mT mQ mO mF mS mE mX mD th zn rw mc ga gb kn rH rL rO k t9 ((rk rO rQ (rL k) (rH k) (rP k) (rB k) b (nn * mm) mm S t9).1) (rP k) H.size hk6 (by omega) hzl hzh) (cwV 4 hG g_M_107 rfl rfl rfl (by decide +kernel) ⟨Nat.le_of_ble_eq_true rfl, Nat.le_of_ble_eq_true rfl⟩) ⟨PC.blind, va_recv hK hP (ci := 3) (q0 := 0) rfl rfl, PC.of hPc hK hDc hE hS hFc⟩ rfl rfl hl9.1 rfl (lv_room (Nat.le_of_ble_eq_true rfl)) d_M_reckoned_88 ⟨by first | exact Nat.le_of_ble_eq_true rfl | omega, by first | exact Nat.le_of_ble_eq_true rfl | omega⟩) hS (fun q _ h => hFc q h) hFc (fun r6 u t H5 locs ht hvm hw hB hz1 hk1 hS => ?_)
            have hP := wp_kept hP hk1
            have hw : r6 = ((rk rO rQ (rL k) (rH k) (rP k) (rB k) b (nn * mm) mm S t9).1) + (rO t9 - ((rk rO rQ (rL k) (rH k) (rP k) (rB k) b (nn * mm) mm S t9).1)) / rL k + (rP k) / rH k := hw
            subst hw
            refine lv_istore (lv' := [(5, .int (((rk rO rQ (rL k) (rH k) (rP k) (rB k) b (nn * mm) mm S t9).1) + (rO t9 - ((rk rO rQ (rL k) (rH k) (rP k) (rB k) b (nn * mm) mm S t9).1)) / rL k + (rP k) / rH k)), (10, .int 1), (6, .int ((nI b) - (nI (nn * mm)))), (7, .long ((rk rO rQ (rL k) (rH k) (rP k) (rB k) b (nn * mm) mm S t9).2)), (9, .int (nI t9)), (0, .ref m0), (1, .int (nI k)), (3, .int (nI mm)), (4, .int (nI S))]) hx hb d_M_reckoned_91 hl9 (by decide) rfl (fun ls hl9 => ?_)
            refine lv_lload hx hb d_M_reckoned_93 (lv_at hl9 3 rfl) ?_
            refine lv_iload hx hb d_M_reckoned_95 (lv_at hl9 1 rfl) ?_
            refine lv_if_eq (tgt := 122) hx hb d_M_reckoned_97 (by decide) (fun c6 => absurd c6 (by decide)) (fun c6 => ?_)
            refine lv_aload_n hx hb d_M_reckoned_100 rfl (lv_at hl9 5 rfl) ?_
            refine va_get (D := (dC, dI)) (ci := 3) (v := .ref mP) (C := R_M) (T := F_M) (N := 25) hx hb hG i_M hown hK hP 0 rfl rfl 5 (by decide) (hG _ k_445) (fun _ h9 => h9) rfl d_M_reckoned_101 ?_
            refine lv_iload_n hx hb d_M_reckoned_104 rfl (lv_at hl9 6 rfl) ?_
            refine va_iald hx hb hK hP 4 0 rfl rfl (hin) d_M_reckoned_105 ?_
            rw [nI_clamp (n := k) (by omega)]
            refine lv_i2l hx hb d_M_reckoned_106 rfl ?_
            refine lv_aload_n hx hb d_M_reckoned_107 rfl (lv_at hl9 5 rfl) ?_
            refine va_get (D := (dC, dI)) (ci := 3) (v := .ref mQ) (C := R_M) (T := F_M) (N := 25) hx hb hG i_M hown hK hP 0 rfl rfl 15 (by decide) (hG _ k_455) (fun _ h9 => h9) rfl d_M_reckoned_108 ?_
            refine lv_iload hx hb d_M_reckoned_111 (lv_at hl9 4 rfl) ?_
            refine lv_bipush (v := 60) hx hb d_M_reckoned_113 (by decide) ?_
            refine lv_idiv hx hb d_M_reckoned_115 (by decide) ?_
            rw [e6]
            refine va_iald hx hb hK hP 7 0 rfl rfl (hin6) d_M_reckoned_116 ?_
            rw [nI_clamp (n := (t9 / 60)) (by omega)]
            refine lv_i2l hx hb d_M_reckoned_117 rfl ?_
            refine lv_lmul hx hb d_M_reckoned_118 ?_
            refine lv_goto (tgt := 123) hx hb d_M_reckoned_119 (by decide) ?_
            refine lv_ladd hx hb d_M_reckoned_123 ?_
            refine lv_lstore (lv' := [(7, .long (((rk rO rQ (rL k) (rH k) (rP k) (rB k) b (nn * mm) mm S t9).2) + (((rP k).toInt64) * ((rQ (t9 / 60)).toInt64)))), (5, .int (((rk rO rQ (rL k) (rH k) (rP k) (rB k) b (nn * mm) mm S t9).1) + (rO t9 - ((rk rO rQ (rL k) (rH k) (rP k) (rB k) b (nn * mm) mm S t9).1)) / rL k + (rP k) / rH k)), (10, .int 1), (6, .int ((nI b) - (nI (nn * mm)))), (9, .int (nI t9)), (0, .ref m0), (1, .int (nI k)), (3, .int (nI mm)), (4, .int (nI S))]) hx hb d_M_reckoned_124 hl9 (by decide) rfl (fun ls hl9 => ?_)
            refine lv_iinc (v := ((nI t9) + 1)) (lv' := [(9, .int ((nI t9) + 1)), (7, .long (((rk rO rQ (rL k) (rH k) (rP k) (rB k) b (nn * mm) mm S t9).2) + (((rP k).toInt64) * ((rQ (t9 / 60)).toInt64)))), (5, .int (((rk rO rQ (rL k) (rH k) (rP k) (rB k) b (nn * mm) mm S t9).1) + (rO t9 - ((rk rO rQ (rL k) (rH k) (rP k) (rB k) b (nn * mm) mm S t9).1)) / rL k + (rP k) / rH k)), (10, .int 1), (6, .int ((nI b) - (nI (nn * mm)))), (0, .ref m0), (1, .int (nI k)), (3, .int (nI mm)), (4, .int (nI S))]) hx hb d_M_reckoned_126 hl9 (k := 4) rfl rfl (by decide) rfl (fun ls hl9 => ?_)
            refine lv_goto (tgt := 26) hx hb d_M_reckoned_129 (by decide) ?_
            have e8 : rk rO rQ (rL k) (rH k) (rP k) (rB k) b (nn * mm) mm S (t9 + 1) = ((((rk rO rQ (rL k) (rH k) (rP k) (rB k) b (nn * mm) mm S t9).1) + (rO t9 - ((rk rO rQ (rL k) (rH k) (rP k) (rB k) b (nn * mm) mm S t9).1)) / rL k + (rP k) / rH k), (((rk rO rQ (rL k) (rH k) (rP k) (rB k) b (nn * mm) mm S t9).2) + (((rP k).toInt64) * ((rQ (t9 / 60)).toInt64)))) := rk_on hh
            have e7 := congrArg Prod.fst e8
            have e5 := congrArg Prod.snd e8
            dsimp only at e7 e5
            rw [← e7, ← e5, nI_1] at hl9
            exact ih (t9 + 1) (by omega) (by omega) _ _ ls hP hS (lv_sub hl9 [2, 4, 1, 0, 5, 6, 7, 8] rfl)
  exact lp (b + 1) 0 (Nat.zero_le _) (by omega) _ _ ls hP hS (lv_sub hl9 [3, 2, 1, 0, 4, 5, 7, 8] rfl)
