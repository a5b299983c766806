/-- the best of the first j sets -/
def bst (W : Nat → Int32) (C : Nat → Int64) (ww : Int32) : Nat → Int32
  | 0 => -1
  | j + 1 => if ww ≤ W j ∧ (bst W C ww j = -1 ∨ C j < C (bst W C ww j).toNatClampNeg) then nI j else bst W C ww j
theorem bst_in (W : Nat → Int32) (C : Nat → Int64) (ww : Int32) : ∀ j, bst W C ww j = -1 ∨ ∃ i, i < j ∧ bst W C ww j = nI i := by
  intro j
  induction j with
  | zero => exact Or.inl rfl
  | succ j ih =>
    simp only [bst]
    split
    · exact Or.inr ⟨j, Nat.lt_succ_self j, rfl⟩
    · rcases ih with h | ⟨i, hi, h⟩
      · exact Or.inl h
      · exact Or.inr ⟨i, Nat.lt_succ_of_lt hi, h⟩
theorem bit_eq {S k : Nat} (hS : S < 2 ^ 31) (hk : k ≤ 10) : (nI S >>> (nI k &&& 31)) &&& 1 = nI (S / 2 ^ k % 2) := by
  have hs : ((nI k &&& 31).toBitVec.smod 32).toNat = k := by
    rcases (show k = 0 ∨ k = 1 ∨ k = 2 ∨ k = 3 ∨ k = 4 ∨ k = 5 ∨ k = 6 ∨ k = 7 ∨ k = 8 ∨ k = 9 ∨ k = 10 by omega) with rfl | rfl | rfl | rfl | rfl | rfl | rfl | rfl | rfl | rfl | rfl <;> decide
  rw [pk_shrN hS _ k hs, pk_andN (n := S / 2 ^ k) (Nat.lt_of_le_of_lt (Nat.div_le_self _ _) (by omega)) 1 (by decide)]
theorem bit_1 {q : Nat} (h : nI (q % 2) = 1) : q % 2 = 1 := (nI_eq (b := 1) (by omega) (by decide)).mp h
/-- a set's warmth and cost behind k quarters -/
def cso (o fP : Nat → Int32) (L hd zp zf : Int32) (b nn m S : Nat) : Nat → Int32 × Int64
  | 0 => (wt o L hd 0 zf 0 (b - nn * m), 0)
  | k + 1 => (wt o L hd (if S / 2 ^ k % 2 = 1 then zp else 0) (cso o fP L hd zp zf b nn m S k).1 (b - (nn - k) * m) (b - (nn - k - 1) * m - (b - (nn - k) * m)), (cso o fP L hd zp zf b nn m S k).2 + (if S / 2 ^ k % 2 = 1 then cm fP zp (b - (nn - k) * m) (b - (nn - k - 1) * m - (b - (nn - k) * m)) else 0))
theorem nq_of {nn mm : Nat} (h1 : 1 ≤ nn) (h2 : nn ≤ 10) (h3 : 1 ≤ mm) (h4 : mm ≤ 30) : ¬ ((nI nn < 1 ∨ 10 < nI nn) ∨ (nI mm < 1 ∨ 30 < nI mm)) := by
  rintro ((h | h) | (h | h))
  · exact absurd ((nI_ltI (b := 1) (by omega) (by decide)).mp h) (by omega)
  · exact absurd ((nI_ltI (a := 10) (by decide) (by omega)).mp h) (by omega)
  · exact absurd ((nI_ltI (b := 1) (by omega) (by decide)).mp h) (by omega)
  · exact absurd ((nI_ltI (a := 30) (by decide) (by omega)).mp h) (by omega)
theorem nb_ne {b : Nat} (hb : b < 1440) : ¬ nI b = -1 := fun h => by
  have h9 := congrArg Int32.toInt h
  rw [nI_toInt (by omega)] at h9
  simp at h9
theorem g_C_139 : GoodIn GG (wsS R_C 139 y_C_checkQuarters w_C_checkQuarters) := goodG (List.forall_mem_append.mpr ⟨List.forall_mem_cons.mpr ⟨k_403, List.forall_mem_cons.mpr ⟨k_404, List.forall_mem_cons.mpr ⟨k_1, fun _ h => absurd h List.not_mem_nil⟩⟩⟩, List.forall_mem_cons.mpr ⟨k_405, fun _ h => h⟩⟩)
theorem g_C_142 : GoodIn GG (wsS R_C 142 y_C_checkWants w_C_checkWants) := goodG (List.forall_mem_append.mpr ⟨List.forall_mem_cons.mpr ⟨k_406, List.forall_mem_cons.mpr ⟨k_407, List.forall_mem_cons.mpr ⟨k_1, fun _ h => absurd h List.not_mem_nil⟩⟩⟩, List.forall_mem_cons.mpr ⟨k_408, fun _ h => h⟩⟩)
theorem g_C_146 : GoodIn GG (wsV R_C 146 R_C y_C_weighSets w_C_weighSets) := goodG (List.forall_mem_append.mpr ⟨List.forall_mem_cons.mpr ⟨k_410, List.forall_mem_cons.mpr ⟨k_412, List.forall_mem_cons.mpr ⟨ks_16, List.forall_mem_cons.mpr ⟨k_1, fun _ h => absurd h List.not_mem_nil⟩⟩⟩⟩, List.forall_mem_cons.mpr ⟨k_413, fun _ h => h⟩⟩)
set_option maxHeartbeats 4000000 in
set_option maxRecDepth 100000 in
theorem c_cheapestT (l : Launch) (dC : Nat → ClassId) (dI : Nat → Nat → Nat) (cI cJ cZ cB : ClassId) (hl : l.stackTraces = false) (a0 aZ aO aG aP aW aK : Nat) (zc orr ol mp pl fa fb : Int32) (fZ : Nat → Option Nat) (za la wa : Nat) (zh zl zf zp zr zm zw zs : Int32) (nz k : Nat) (x y : Int32) (sz : Nat) (hk : k < nz) (hn : nz ≤ 6) (hz : fZ k = some za) (hbad : ((x < 1 ∨ 10 < x) ∨ (y < 1 ∨ 30 < y)) ∨ zm = -1) : vx_Met l y_C_cheapest w_C_cheapest ({ frames := 8, cells := 3, slots := 18, locals := 125 }) (PC (dC, dI) (TY cI cJ cZ cB) [.ref a0, .int (nI k), .int x, .int y] [(a0, .inr (2, [.ref aZ, .int (nI nz), .ref aO, .int orr, .int ol, .int mp, .ref aG, .int pl, .int fa, .int fb, .ref aP, .ref aW, .ref aK])), (aZ, .inl (cZ, 6, .inr (.inr (.inr (.inr fZ))))), (za, .inr (1, [.int zh, .int zl, .int zf, .int zp, .int zr, .int zm, .int zw, .ref la, .int zs, .ref wa]))] sz (va_A [] sz)) (va_Qi (fun (r : Int32) (_ : Unit) => False) (fun (_ : Unit) (_ : State) => True) (va_A [] sz)) (vx_X (fun (_ : Unit) => True) (fun (E : String) (_ : Unit) (_ : State) => (E = "java/lang/IllegalArgumentException" ∧ ((x < 1 ∨ 10 < x) ∨ (y < 1 ∨ 30 < y))) ∨ (E = "java/lang/IllegalStateException" ∧ ¬ ((x < 1 ∨ 10 < x) ∨ (y < 1 ∨ 30 < y)) ∧ zm = -1)) (va_A [] sz)) 3 18 (va_A [] sz) := by
  refine vx_ofW (cc := b_C_cheapest) (maxL := 8) (ret := (some .int)) (by decide) rfl ?_
  intro p e s m args below meth c s₁ B hml hnx hv
  obtain ⟨rfl, hsz, hP, hK, hD0, hE⟩ := hv
  have hx := B.exec
  have hb := B.bytes
  have hr := B.returns
  have hG : ∀ w ∈ GG, w.before _ s = true := fun w h => atoms_spec (ws := w_C_cheapest) B.pre w (List.mem_cons_of_mem _ h)
  have hown : s.vm.findClass R_C = some m.cls := findClass_of_methodNamed B.named
  have hlocks := B.notSynchronized
  subst hsz
  generalize hAe : (va_A [] s.heap.size) = A at hE ⊢
  have hA : ∀ q : Nat, s.heap.size ≤ q → A q := fun q h => by rw [← hAe]; exact Or.inr h
  have hS : va_S A s.heap s.heap [] := va_S.rf
  have hD := hD0
  obtain ⟨H, hH⟩ : ∃ z, z = s.heap := ⟨_, rfl⟩
  rw [← hH] at hP
  have hS : va_S A s.heap H [] := by rw [hH]; exact hS
  rw [← hH]
  have hl9 := lv_entry ([.ref a0, .int (nI k), .int x, .int y]) (n := 8) (Nat.le_of_ble_eq_true rfl)
  rw [lg_entry_eq]
  generalize (lg_sl ([.ref a0, .int (nI k), .int x, .int y]) ++ List.replicate (8 - (lg_sl ([.ref a0, .int (nI k), .int x, .int y])).length) Slot.unset).toArray = ls at hl9 ⊢
  have hl9 : lv_has ls 8 [(0, .ref a0), (1, .int (nI k)), (2, .int x), (3, .int y)] := hl9
  refine lv_aload_n hx hb d_C_cheapest_0 rfl (lv_at hl9 0 rfl) ?_
  refine lv_iload_n hx hb d_C_cheapest_1 rfl (lv_at hl9 1 rfl) ?_
  have hPc := hP.sub (ws' := [(a0, .inr (2, [.ref aZ, .int (nI nz), .ref aO, .int orr, .int ol, .int mp, .ref aG, .int pl, .int fa, .int fb, .ref aP, .ref aW, .ref aK])), (aZ, .inl (cZ, 6, .inr (.inr (.inr (.inr fZ)))))]) [0, 1] rfl
  have hDc := hD.sub (ws' := [(a0, .inr (2, [.ref aZ, .int (nI nz), .ref aO, .int orr, .int ol, .int mp, .ref aG, .int pl, .int fa, .int fb, .ref aP, .ref aW, .ref aK])), (aZ, .inl (cZ, 6, .inr (.inr (.inr (.inr fZ)))))]) [0, 1] (by decide) rfl
  have hFc := va_A_nil hA hS.1
  refine va_callq (va_runV (C := R_C) (As := [.int (nI k)]) (rest := []) ⟨hx, hb, hml, hown, hG⟩ (c_knownZone l dC dI cI cJ cZ cB a0 aZ aO aG aP aW aK (nI nz) orr ol mp pl fa fb fZ nz k za H.size hk hn hz) (cwV 1 hG g_C_70 rfl rfl rfl (by decide +kernel) ⟨Nat.le_of_ble_eq_true rfl, Nat.le_of_ble_eq_true rfl⟩) ⟨PC.blind, va_recv hK hP (ci := 2) (q0 := 0) rfl rfl, PC.of hPc hK hDc hE hS hFc⟩ rfl rfl hl9.1 rfl (lv_room (Nat.le_of_ble_eq_true rfl)) d_C_cheapest_2 ⟨by first | exact Nat.le_of_ble_eq_true rfl | omega, by first | exact Nat.le_of_ble_eq_true rfl | omega⟩) hS (fun q _ h => hFc q h) hFc (fun r2 u t H1 locs ht hvm hw hB hz1 hk1 hS => ?_)
  have hP := wp_kept hP hk1
  have hw : r2 = some za := hw
  subst hw
  refine W.eq (g2 := F0 m 5 ls [.ref za]) rfl ?_
  refine lv_astore (lv' := [(4, .ref za), (0, .ref a0), (1, .int (nI k)), (2, .int x), (3, .int y)]) hx hb d_C_cheapest_5 hl9 (by decide) rfl (fun ls hl9 => ?_)
  refine lv_iload_n hx hb d_C_cheapest_7 rfl (lv_at hl9 3 rfl) ?_
  refine lv_iload_n hx hb d_C_cheapest_8 rfl (lv_at hl9 4 rfl) ?_
  have hPc := hP.sub (ws' := []) [] rfl
  have hDc := hD.sub (ws' := []) [] (by decide) rfl
  have hFc := va_A_nil hA hS.1
  refine vx_callv (vx_runS (As := [.int x, .int y]) (rest := []) ⟨hx, hb, hml, hown, hG⟩ (c_checkQuarters l dC dI cI cJ cZ cB hl x y H1.size ) (cwS 2 hG g_C_139 rfl rfl rfl (by decide +kernel) ⟨Nat.le_of_ble_eq_true rfl, Nat.le_of_ble_eq_true rfl⟩) ⟨PC.blind, PC.of hPc hK hDc hE hS hFc⟩ rfl rfl hl9.1 rfl (lv_room (Nat.le_of_ble_eq_true rfl)) d_C_cheapest_9 ⟨by first | exact Nat.le_of_ble_eq_true rfl | omega, by first | exact Nat.le_of_ble_eq_true rfl | omega⟩) hS (fun q _ h => hFc q h) hFc (fun q _ h => hFc q h) (fun E ce q9 u t H3 locs ht hvm hpx hB hz1 hk1 hS hce hcv hcl => ?_) (fun u t H3 locs ht hvm hw hB hz1 hk1 hS => ?_)
  · exact vx_out (fun x hx => (hnx x hx).elim) hlocks hce hcv hcl (fun t ht ha => ⟨(), trivial, Or.inl hB, hS.F ht⟩) hS.2.2 (by first | exact Nat.le_of_ble_eq_true rfl | omega) (by first | exact Nat.le_of_ble_eq_true rfl | omega)
  have hw := hw
  have hP := wp_kept hP hk1
  have hq5 : ¬ ((x < 1 ∨ 10 < x) ∨ (y < 1 ∨ 30 < y)) := hw
  have hw1 := hw
  refine lv_aload hx hb d_C_cheapest_12 (lv_at hl9 0 rfl) ?_
  have hPc := hP.sub (ws' := [(za, .inr (1, [.int zh, .int zl, .int zf, .int zp, .int zr, .int zm, .int zw, .ref la, .int zs, .ref wa]))]) [2] rfl
  have hDc := hD.sub (ws' := [(za, .inr (1, [.int zh, .int zl, .int zf, .int zp, .int zr, .int zm, .int zw, .ref la, .int zs, .ref wa]))]) [2] (by decide) rfl
  have hFc := va_A_nil hA hS.1
  refine vx_callv (vx_runS (As := [.ref za]) (rest := []) ⟨hx, hb, hml, hown, hG⟩ (c_checkWants l dC dI cI cJ cZ cB hl za la wa zh zl zf zp zr zm zw zs H3.size ) (cwS 1 hG g_C_142 rfl rfl rfl (by decide +kernel) ⟨Nat.le_of_ble_eq_true rfl, Nat.le_of_ble_eq_true rfl⟩) ⟨PC.blind, PC.of hPc hK hDc hE hS hFc⟩ rfl rfl hl9.1 rfl (lv_room (Nat.le_of_ble_eq_true rfl)) d_C_cheapest_14 ⟨by first | exact Nat.le_of_ble_eq_true rfl | omega, by first | exact Nat.le_of_ble_eq_true rfl | omega⟩) hS (fun q _ h => hFc q h) hFc (fun q _ h => hFc q h) (fun E ce q9 u t H6 locs ht hvm hpx hB hz1 hk1 hS hce hcv hcl => ?_) (fun u t H6 locs ht hvm hw hB hz1 hk1 hS => ?_)
  · exact vx_out (fun x hx => (hnx x hx).elim) hlocks hce hcv hcl (fun t ht ha => ⟨(), trivial, Or.inr ⟨hB.1, hw1, hB.2⟩, hS.F ht⟩) hS.2.2 (by first | exact Nat.le_of_ble_eq_true rfl | omega) (by first | exact Nat.le_of_ble_eq_true rfl | omega)
  have hw := hw
  have hP := wp_kept hP hk1
  have hq8 : ¬ zm = -1 := hw
  exact absurd hbad (fun h => h.elim hw1 hw)
set_option maxHeartbeats 4000000 in
set_option maxRecDepth 100000 in
theorem c_cheapest (l : Launch) (dC : Nat → ClassId) (dI : Nat → Nat → Nat) (cI cJ cZ cB : ClassId) (hl : l.stackTraces = false) (a0 aZ aO aG aP aW aK : Nat) (zc orr ol mp pl fa fb : Int32) (fZ : Nat → Option Nat) (fO fP fW : Nat → Int32) (fK : Nat → Int64) (za la wa : Nat) (zh zl zf zp zr zm zw zs : Int32) (nz k b nn mm : Nat) (sz : Nat) (hk : k < nz) (hn : nz ≤ 6) (hz : fZ k = some za) (hb1 : b < 1440) (hn1 : 1 ≤ nn) (hnn : nn ≤ 10) (hm1 : 1 ≤ mm) (hmm : mm ≤ 30) (hzl : ¬ zl = 0) (hzh : ¬ zh = 0) : Met l y_C_cheapest w_C_cheapest ({ frames := 8, cells := 3, slots := 18, locals := 125 }) (PC (dC, dI) (TY cI cJ cZ cB) [.ref a0, .int (nI k), .int (nI nn), .int (nI mm)] [(a0, .inr (2, [.ref aZ, .int (nI nz), .ref aO, .int orr, .int ol, .int mp, .ref aG, .int pl, .int fa, .int fb, .ref aP, .ref aW, .ref aK])), (aZ, .inl (cZ, 6, .inr (.inr (.inr (.inr fZ))))), (aO, .inl (cI, 1440, .inl fO)), (aP, .inl (cI, 24, .inl fP)), (aW, .inl (cI, 1024, .inl fW)), (aK, .inl (cJ, 1024, .inr (.inl fK))), (za, .inr (1, [.int zh, .int zl, .int zf, .int zp, .int zr, .int (nI b), .int zw, .ref la, .int zs, .ref wa]))] sz (va_A [(a0, .inr (2, [.ref aZ, .int (nI nz), .ref aO, .int orr, .int ol, .int mp, .ref aG, .int pl, .int fa, .int fb, .ref aP, .ref aW, .ref aK])), (aZ, .inl (cZ, 6, .inr (.inr (.inr (.inr fZ))))), (aO, .inl (cI, 1440, .inl fO)), (aP, .inl (cI, 24, .inl fP)), (aW, .inl (cI, 1024, .inl fW)), (aK, .inl (cJ, 1024, .inr (.inl fK))), (za, .inr (1, [.int zh, .int zl, .int zf, .int zp, .int zr, .int (nI b), .int zw, .ref la, .int zs, .ref wa]))] sz)) (va_Qi (fun (r : Int32) (_ : Unit) => r = bst (wsO fO fP zl zh zp zf b nn mm fW fK nn).1 (wsO fO fP zl zh zp zf b nn mm fW fK nn).2 zw (2 ^ nn)) (fun (_ : Unit) (t : State) => va_P (dC, dI) vwCl [(a0, .inr (2, [.ref aZ, .int (nI nz), .ref aO, .int orr, .int ol, .int mp, .ref aG, .int pl, .int fa, .int fb, .ref aP, .ref aW, .ref aK])), (aZ, .inl (cZ, 6, .inr (.inr (.inr (.inr fZ))))), (aO, .inl (cI, 1440, .inl fO)), (aP, .inl (cI, 24, .inl fP)), (aW, .inl (cI, 1024, .inl ((wsO fO fP zl zh zp zf b nn mm fW fK nn).1))), (aK, .inl (cJ, 1024, .inr (.inl ((wsO fO fP zl zh zp zf b nn mm fW fK nn).2)))), (za, .inr (1, [.int zh, .int zl, .int zf, .int zp, .int zr, .int (nI b), .int zw, .ref la, .int zs, .ref wa]))] t.heap) (va_A [(a0, .inr (2, [.ref aZ, .int (nI nz), .ref aO, .int orr, .int ol, .int mp, .ref aG, .int pl, .int fa, .int fb, .ref aP, .ref aW, .ref aK])), (aZ, .inl (cZ, 6, .inr (.inr (.inr (.inr fZ))))), (aO, .inl (cI, 1440, .inl fO)), (aP, .inl (cI, 24, .inl fP)), (aW, .inl (cI, 1024, .inl fW)), (aK, .inl (cJ, 1024, .inr (.inl fK))), (za, .inr (1, [.int zh, .int zl, .int zf, .int zp, .int zr, .int (nI b), .int zw, .ref la, .int zs, .ref wa]))] sz)) 3 18 (va_A [(a0, .inr (2, [.ref aZ, .int (nI nz), .ref aO, .int orr, .int ol, .int mp, .ref aG, .int pl, .int fa, .int fb, .ref aP, .ref aW, .ref aK])), (aZ, .inl (cZ, 6, .inr (.inr (.inr (.inr fZ))))), (aO, .inl (cI, 1440, .inl fO)), (aP, .inl (cI, 24, .inl fP)), (aW, .inl (cI, 1024, .inl fW)), (aK, .inl (cJ, 1024, .inr (.inl fK))), (za, .inr (1, [.int zh, .int zl, .int zf, .int zp, .int zr, .int (nI b), .int zw, .ref la, .int zs, .ref wa]))] sz) := by
  refine Met.ofW (cc := b_C_cheapest) (maxL := 8) (ret := (some .int)) (by decide) rfl ?_
  intro p e s m args below meth c s₁ B hml hv
  obtain ⟨rfl, hsz, hP, hK, hD0, hE⟩ := hv
  have hx := B.exec
  have hb := B.bytes
  have hr := B.returns
  have hG : ∀ w ∈ GG, w.before _ s = true := fun w h => atoms_spec (ws := w_C_cheapest) B.pre w (List.mem_cons_of_mem _ h)
  have hown : s.vm.findClass R_C = some m.cls := findClass_of_methodNamed B.named
  have hlocks := B.notSynchronized
  subst hsz
  have hD := hD0.self (sz := s.heap.size)
  generalize hAe : (va_A [(a0, .inr (2, [.ref aZ, .int (nI nz), .ref aO, .int orr, .int ol, .int mp, .ref aG, .int pl, .int fa, .int fb, .ref aP, .ref aW, .ref aK])), (aZ, .inl (cZ, 6, .inr (.inr (.inr (.inr fZ))))), (aO, .inl (cI, 1440, .inl fO)), (aP, .inl (cI, 24, .inl fP)), (aW, .inl (cI, 1024, .inl fW)), (aK, .inl (cJ, 1024, .inr (.inl fK))), (za, .inr (1, [.int zh, .int zl, .int zf, .int zp, .int zr, .int (nI b), .int zw, .ref la, .int zs, .ref wa]))] s.heap.size) = A at hD hE ⊢
  have hA : ∀ q : Nat, s.heap.size ≤ q → A q := fun q h => by rw [← hAe]; exact Or.inr h
  have hS : va_S A s.heap s.heap [] := va_S.rf
  obtain ⟨H, hH⟩ : ∃ z, z = s.heap := ⟨_, rfl⟩
  rw [← hH] at hP
  have hS : va_S A s.heap H [] := by rw [hH]; exact hS
  rw [← hH]
  have hl9 := lv_entry ([.ref a0, .int (nI k), .int (nI nn), .int (nI mm)]) (n := 8) (Nat.le_of_ble_eq_true rfl)
  rw [lg_entry_eq]
  generalize (lg_sl ([.ref a0, .int (nI k), .int (nI nn), .int (nI mm)]) ++ List.replicate (8 - (lg_sl ([.ref a0, .int (nI k), .int (nI nn), .int (nI mm)])).length) Slot.unset).toArray = ls at hl9 ⊢
  have hl9 : lv_has ls 8 [(0, .ref a0), (1, .int (nI k)), (2, .int (nI nn)), (3, .int (nI mm))] := hl9
  refine lv_aload_n hx hb d_C_cheapest_0 rfl (lv_at hl9 0 rfl) ?_
  refine lv_iload_n hx hb d_C_cheapest_1 rfl (lv_at hl9 1 rfl) ?_
  have hPc := hP.sub (ws' := [(a0, .inr (2, [.ref aZ, .int (nI nz), .ref aO, .int orr, .int ol, .int mp, .ref aG, .int pl, .int fa, .int fb, .ref aP, .ref aW, .ref aK])), (aZ, .inl (cZ, 6, .inr (.inr (.inr (.inr fZ)))))]) [0, 1] rfl
  have hDc := hD.sub (ws' := [(a0, .inr (2, [.ref aZ, .int (nI nz), .ref aO, .int orr, .int ol, .int mp, .ref aG, .int pl, .int fa, .int fb, .ref aP, .ref aW, .ref aK])), (aZ, .inl (cZ, 6, .inr (.inr (.inr (.inr fZ)))))]) [0, 1] (by decide) rfl
  have hFc := va_A_nil hA hS.1
  refine va_callq (va_runV (C := R_C) (As := [.int (nI k)]) (rest := []) ⟨hx, hb, hml, hown, hG⟩ (c_knownZone l dC dI cI cJ cZ cB a0 aZ aO aG aP aW aK (nI nz) orr ol mp pl fa fb fZ nz k za H.size hk hn hz) (cwV 1 hG g_C_70 rfl rfl rfl (by decide +kernel) ⟨Nat.le_of_ble_eq_true rfl, Nat.le_of_ble_eq_true rfl⟩) ⟨PC.blind, va_recv hK hP (ci := 2) (q0 := 0) rfl rfl, PC.of hPc hK hDc hE hS hFc⟩ rfl rfl hl9.1 rfl (lv_room (Nat.le_of_ble_eq_true rfl)) d_C_cheapest_2 ⟨by first | exact Nat.le_of_ble_eq_true rfl | omega, by first | exact Nat.le_of_ble_eq_true rfl | omega⟩) hS (fun q _ h => hFc q h) hFc (fun r2 u t H1 locs ht hvm hw hB hz1 hk1 hS => ?_)
  have hP := wp_kept hP hk1
  have hw : r2 = some za := hw
  subst hw
  refine W.eq (g2 := F0 m 5 ls [.ref za]) rfl ?_
  refine lv_astore (lv' := [(4, .ref za), (0, .ref a0), (1, .int (nI k)), (2, .int (nI nn)), (3, .int (nI mm))]) hx hb d_C_cheapest_5 hl9 (by decide) rfl (fun ls hl9 => ?_)
  refine lv_iload_n hx hb d_C_cheapest_7 rfl (lv_at hl9 3 rfl) ?_
  refine lv_iload_n hx hb d_C_cheapest_8 rfl (lv_at hl9 4 rfl) ?_
  have hPc := hP.sub (ws' := []) [] rfl
  have hDc := hD.sub (ws' := []) [] (by decide) rfl
  have hFc := va_A_nil hA hS.1
  refine vx_callv (vx_runS (As := [.int (nI nn), .int (nI mm)]) (rest := []) ⟨hx, hb, hml, hown, hG⟩ (c_checkQuarters l dC dI cI cJ cZ cB hl (nI nn) (nI mm) H1.size ) (cwS 2 hG g_C_139 rfl rfl rfl (by decide +kernel) ⟨Nat.le_of_ble_eq_true rfl, Nat.le_of_ble_eq_true rfl⟩) ⟨PC.blind, PC.of hPc hK hDc hE hS hFc⟩ rfl rfl hl9.1 rfl (lv_room (Nat.le_of_ble_eq_true rfl)) d_C_cheapest_9 ⟨by first | exact Nat.le_of_ble_eq_true rfl | omega, by first | exact Nat.le_of_ble_eq_true rfl | omega⟩) hS (fun q _ h => hFc q h) hFc (fun q _ h => hFc q h) (fun E ce q9 u t H3 locs ht hvm hpx hB hz1 hk1 hS hce hcv hcl => ?_) (fun u t H3 locs ht hvm hw hB hz1 hk1 hS => ?_)
  · exact absurd hB.2 (nq_of hn1 hnn hm1 hmm)
  have hw := hw
  have hP := wp_kept hP hk1
  have hq5 : ¬ (((nI nn) < 1 ∨ 10 < (nI nn)) ∨ ((nI mm) < 1 ∨ 30 < (nI mm))) := hw
  refine lv_aload hx hb d_C_cheapest_12 (lv_at hl9 0 rfl) ?_
  have hPc := hP.sub (ws' := [(za, .inr (1, [.int zh, .int zl, .int zf, .int zp, .int zr, .int (nI b), .int zw, .ref la, .int zs, .ref wa]))]) [6] rfl
  have hDc := hD.sub (ws' := [(za, .inr (1, [.int zh, .int zl, .int zf, .int zp, .int zr, .int (nI b), .int zw, .ref la, .int zs, .ref wa]))]) [6] (by decide) rfl
  have hFc := va_A_nil hA hS.1
  refine vx_callv (vx_runS (As := [.ref za]) (rest := []) ⟨hx, hb, hml, hown, hG⟩ (c_checkWants l dC dI cI cJ cZ cB hl za la wa zh zl zf zp zr (nI b) zw zs H3.size ) (cwS 1 hG g_C_142 rfl rfl rfl (by decide +kernel) ⟨Nat.le_of_ble_eq_true rfl, Nat.le_of_ble_eq_true rfl⟩) ⟨PC.blind, PC.of hPc hK hDc hE hS hFc⟩ rfl rfl hl9.1 rfl (lv_room (Nat.le_of_ble_eq_true rfl)) d_C_cheapest_14 ⟨by first | exact Nat.le_of_ble_eq_true rfl | omega, by first | exact Nat.le_of_ble_eq_true rfl | omega⟩) hS (fun q _ h => hFc q h) hFc (fun q _ h => hFc q h) (fun E ce q9 u t H6 locs ht hvm hpx hB hz1 hk1 hS hce hcv hcl => ?_) (fun u t H6 locs ht hvm hw hB hz1 hk1 hS => ?_)
  · exact absurd hB.2 (nb_ne hb1)
  have hw := hw
  have hP := wp_kept hP hk1
  have hq8 : ¬ (nI b) = -1 := hw
  refine lv_aload_n hx hb d_C_cheapest_17 rfl (lv_at hl9 1 rfl) ?_
  refine lv_aload hx hb d_C_cheapest_18 (lv_at hl9 0 rfl) ?_
  refine lv_iload_n hx hb d_C_cheapest_20 rfl (lv_at hl9 3 rfl) ?_
  refine lv_iload_n hx hb d_C_cheapest_21 rfl (lv_at hl9 4 rfl) ?_
  have hPc := hP.sub (ws' := [(a0, .inr (2, [.ref aZ, .int (nI nz), .ref aO, .int orr, .int ol, .int mp, .ref aG, .int pl, .int fa, .int fb, .ref aP, .ref aW, .ref aK])), (aO, .inl (cI, 1440, .inl fO)), (aP, .inl (cI, 24, .inl fP)), (aW, .inl (cI, 1024, .inl fW)), (aK, .inl (cJ, 1024, .inr (.inl fK))), (za, .inr (1, [.int zh, .int zl, .int zf, .int zp, .int zr, .int (nI b), .int zw, .ref la, .int zs, .ref wa]))]) [0, 2, 3, 4, 5, 6] rfl
  have hDc := hD.sub (ws' := [(a0, .inr (2, [.ref aZ, .int (nI nz), .ref aO, .int orr, .int ol, .int mp, .ref aG, .int pl, .int fa, .int fb, .ref aP, .ref aW, .ref aK])), (aO, .inl (cI, 1440, .inl fO)), (aP, .inl (cI, 24, .inl fP)), (aW, .inl (cI, 1024, .inl fW)), (aK, .inl (cJ, 1024, .inr (.inl fK))), (za, .inr (1, [.int zh, .int zl, .int zf, .int zp, .int zr, .int (nI b), .int zw, .ref la, .int zs, .ref wa]))]) [0, 2, 3, 4, 5, 6] (by decide) rfl
  have hFc := va_free (wc := [(a0, .inr (2, [.ref aZ, .int (nI nz), .ref aO, .int orr, .int ol, .int mp, .ref aG, .int pl, .int fa, .int fb, .ref aP, .ref aW, .ref aK])), (aO, .inl (cI, 1440, .inl fO)), (aP, .inl (cI, 24, .inl fP)), (aW, .inl (cI, 1024, .inl fW)), (aK, .inl (cJ, 1024, .inr (.inl fK))), (za, .inr (1, [.int zh, .int zl, .int zf, .int zp, .int zr, .int (nI b), .int zw, .ref la, .int zs, .ref wa]))]) hD hS hA [0, 2, 3, 4, 5, 6] rfl
  refine va_callv (va_runV (C := R_C) (As := [.ref za, .int (nI nn), .int (nI mm)]) (rest := []) ⟨hx, hb, hml, hown, hG⟩ (c_weighSets l dC dI cI cJ cZ cB a0 aZ aO aG aP aW aK (nI nz) orr ol mp pl fa fb fO fP fW fK za la wa zh zl zf zp zr (nI b) zw zs b nn mm H6.size hb1 hnn hmm hzl hzh) (cwV 3 hG g_C_146 rfl rfl rfl (by decide +kernel) ⟨Nat.le_of_ble_eq_true rfl, Nat.le_of_ble_eq_true rfl⟩) ⟨PC.blind, va_recv hK hP (ci := 2) (q0 := 0) rfl rfl, PC.of hPc hK hDc hE hS hFc⟩ rfl rfl hl9.1 rfl (lv_room (Nat.le_of_ble_eq_true rfl)) d_C_cheapest_22 ⟨by first | exact Nat.le_of_ble_eq_true rfl | omega, by first | exact Nat.le_of_ble_eq_true rfl | omega⟩) hS (fun q _ h => hFc q h) hFc (fun u t H9 locs ht hvm hw hB hz1 hk1 hS => ?_)
  rw [ht] at hB
  obtain ⟨hP, hD⟩ := jset (wc := [(a0, .inr (2, [.ref aZ, .int (nI nz), .ref aO, .int orr, .int ol, .int mp, .ref aG, .int pl, .int fa, .int fb, .ref aP, .ref aW, .ref aK])), (aO, .inl (cI, 1440, .inl fO)), (aP, .inl (cI, 24, .inl fP)), (aW, .inl (cI, 1024, .inl fW)), (aK, .inl (cJ, 1024, .inr (.inl fK))), (za, .inr (1, [.int zh, .int zl, .int zf, .int zp, .int zr, .int (nI b), .int zw, .ref la, .int zs, .ref wa]))]) (w1 := [(a0, .inr (2, [.ref aZ, .int (nI nz), .ref aO, .int orr, .int ol, .int mp, .ref aG, .int pl, .int fa, .int fb, .ref aP, .ref aW, .ref aK])), (aO, .inl (cI, 1440, .inl fO)), (aP, .inl (cI, 24, .inl fP)), (aW, .inl (cI, 1024, .inl ((wsO fO fP zl zh zp zf b nn mm fW fK nn).1))), (aK, .inl (cJ, 1024, .inr (.inl ((wsO fO fP zl zh zp zf b nn mm fW fK nn).2)))), (za, .inr (1, [.int zh, .int zl, .int zf, .int zp, .int zr, .int (nI b), .int zw, .ref la, .int zs, .ref wa]))]) [0, 2, 3, 4, 5, 6] rfl rfl hP hD hk1 hB
  have hP : va_P (dC, dI) vwCl [(a0, .inr (2, [.ref aZ, .int (nI nz), .ref aO, .int orr, .int ol, .int mp, .ref aG, .int pl, .int fa, .int fb, .ref aP, .ref aW, .ref aK])), (aZ, .inl (cZ, 6, .inr (.inr (.inr (.inr fZ))))), (aO, .inl (cI, 1440, .inl fO)), (aP, .inl (cI, 24, .inl fP)), (aW, .inl (cI, 1024, .inl ((wsO fO fP zl zh zp zf b nn mm fW fK nn).1))), (aK, .inl (cJ, 1024, .inr (.inl ((wsO fO fP zl zh zp zf b nn mm fW fK nn).2)))), (za, .inr (1, [.int zh, .int zl, .int zf, .int zp, .int zr, .int (nI b), .int zw, .ref la, .int zs, .ref wa]))] H9 := hP
  have hD : va_D A [(a0, .inr (2, [.ref aZ, .int (nI nz), .ref aO, .int orr, .int ol, .int mp, .ref aG, .int pl, .int fa, .int fb, .ref aP, .ref aW, .ref aK])), (aZ, .inl (cZ, 6, .inr (.inr (.inr (.inr fZ))))), (aO, .inl (cI, 1440, .inl fO)), (aP, .inl (cI, 24, .inl fP)), (aW, .inl (cI, 1024, .inl ((wsO fO fP zl zh zp zf b nn mm fW fK nn).1))), (aK, .inl (cJ, 1024, .inr (.inl ((wsO fO fP zl zh zp zf b nn mm fW fK nn).2)))), (za, .inr (1, [.int zh, .int zl, .int zf, .int zp, .int zr, .int (nI b), .int zw, .ref la, .int zs, .ref wa]))] := hD
  refine lv_iconst (v := (-1)) hx hb d_C_cheapest_25 (by decide) ?_
  refine lv_istore (lv' := [(5, .int (-1)), (4, .ref za), (0, .ref a0), (1, .int (nI k)), (2, .int (nI nn)), (3, .int (nI mm))]) hx hb d_C_cheapest_26 hl9 (by decide) rfl (fun ls hl9 => ?_)
  refine lv_iconst (v := 0) hx hb d_C_cheapest_28 (by decide) ?_
  refine lv_istore (lv' := [(6, .int 0), (5, .int (-1)), (4, .ref za), (0, .ref a0), (1, .int (nI k)), (2, .int (nI nn)), (3, .int (nI mm))]) hx hb d_C_cheapest_29 hl9 (by decide) rfl (fun ls hl9 => ?_)
  have hp2 : 2 ^ nn ≤ 1024 := p2_le hnn
  have lp : ∀ (n : Nat) (j : Nat), j ≤ 2 ^ nn → 2 ^ nn + 1 ≤ j + n → ∀ (H : Heap) (locs : List Loc) (ls : Array Slot), va_P (dC, dI) vwCl [(a0, .inr (2, [.ref aZ, .int (nI nz), .ref aO, .int orr, .int ol, .int mp, .ref aG, .int pl, .int fa, .int fb, .ref aP, .ref aW, .ref aK])), (aZ, .inl (cZ, 6, .inr (.inr (.inr (.inr fZ))))), (aO, .inl (cI, 1440, .inl fO)), (aP, .inl (cI, 24, .inl fP)), (aW, .inl (cI, 1024, .inl ((wsO fO fP zl zh zp zf b nn mm fW fK nn).1))), (aK, .inl (cJ, 1024, .inr (.inl ((wsO fO fP zl zh zp zf b nn mm fW fK nn).2)))), (za, .inr (1, [.int zh, .int zl, .int zf, .int zp, .int zr, .int (nI b), .int zw, .ref la, .int zs, .ref wa]))] H → va_D A [(a0, .inr (2, [.ref aZ, .int (nI nz), .ref aO, .int orr, .int ol, .int mp, .ref aG, .int pl, .int fa, .int fb, .ref aP, .ref aW, .ref aK])), (aZ, .inl (cZ, 6, .inr (.inr (.inr (.inr fZ))))), (aO, .inl (cI, 1440, .inl fO)), (aP, .inl (cI, 24, .inl fP)), (aW, .inl (cI, 1024, .inl ((wsO fO fP zl zh zp zf b nn mm fW fK nn).1))), (aK, .inl (cJ, 1024, .inr (.inl ((wsO fO fP zl zh zp zf b nn mm fW fK nn).2)))), (za, .inr (1, [.int zh, .int zl, .int zf, .int zp, .int zr, .int (nI b), .int zw, .ref la, .int zs, .ref wa]))] → va_S A s.heap H locs → lv_has ls 8 [(5, .int (bst (wsO fO fP zl zh zp zf b nn mm fW fK nn).1 (wsO fO fP zl zh zp zf b nn mm fW fK nn).2 zw j)), (6, .int (nI j)), (0, .ref a0), (2, .int (nI nn)), (4, .ref za)] → W p l e (headSpec w_C_cheapest ({ frames := 8, cells := 3, slots := 18, locals := 125 })).room s m ([.ref a0, .int (nI k), .int (nI nn), .int (nI mm)] : List Value).toArray below meth c H locs 3 18 (MQ below (va_Qi (fun (r : Int32) (_ : Unit) => r = bst (wsO fO fP zl zh zp zf b nn mm fW fK nn).1 (wsO fO fP zl zh zp zf b nn mm fW fK nn).2 zw (2 ^ nn)) (fun (_ : Unit) (t : State) => va_P (dC, dI) vwCl [(a0, .inr (2, [.ref aZ, .int (nI nz), .ref aO, .int orr, .int ol, .int mp, .ref aG, .int pl, .int fa, .int fb, .ref aP, .ref aW, .ref aK])), (aZ, .inl (cZ, 6, .inr (.inr (.inr (.inr fZ))))), (aO, .inl (cI, 1440, .inl fO)), (aP, .inl (cI, 24, .inl fP)), (aW, .inl (cI, 1024, .inl ((wsO fO fP zl zh zp zf b nn mm fW fK nn).1))), (aK, .inl (cJ, 1024, .inr (.inl ((wsO fO fP zl zh zp zf b nn mm fW fK nn).2)))), (za, .inr (1, [.int zh, .int zl, .int zf, .int zp, .int zr, .int (nI b), .int zw, .ref la, .int zs, .ref wa]))] t.heap) A) ([.ref a0, .int (nI k), .int (nI nn), .int (nI mm)] : List Value).toArray s 3 18 A) (F0 m 31 ls []) := by
    intro n
    induction n with
    | zero =>
      intro j hj hin
      exact absurd hin (by omega)
    | succ n ih =>
      intro j hj hin H locs ls hP hD hS hl9
      refine lv_iload hx hb d_C_cheapest_31 (lv_at hl9 1 rfl) ?_
      refine lv_iconst (v := 1) hx hb d_C_cheapest_33 (by decide) ?_
      refine lv_iload_n hx hb d_C_cheapest_34 rfl (lv_at hl9 3 rfl) ?_
      refine lv_ishl hx hb d_C_cheapest_35 ?_
      rw [shl1 (show nn ≤ 10 by omega)]
      refine lv_icmp_ge (tgt := 100) hx hb d_C_cheapest_36 (by decide) (fun c1 => ?_) (fun c1 => ?_)
      · have e9 : j = 2 ^ nn := by have := ge_of_c (i := j) (b := 2 ^ nn) (by omega) (by omega) c1; omega
        refine lv_iload hx hb d_C_cheapest_100 (lv_at hl9 0 rfl) ?_
        exact W.iret (v := (bst (wsO fO fP zl zh zp zf b nn mm fW fK nn).1 (wsO fO fP zl zh zp zf b nn mm fW fK nn).2 zw j)) hx hb hr (fun t ht hW => ⟨⟨(bst (wsO fO fP zl zh zp zf b nn mm fW fK nn).1 (wsO fO fP zl zh zp zf b nn mm fW fK nn).2 zw j), (), rfl, by rw [e9], by have h9 := hP; rw [← ht] at h9; exact h9⟩, hS.F ht⟩) hS.2.2 d_C_cheapest_102
      · have e9 : j < 2 ^ nn := lt_of_c (by omega) (by omega) c1
        have hi1 : vp_in (nI j) 1024 := vp_in_nI (by omega) (by omega)
        refine lv_aload_n hx hb d_C_cheapest_39 rfl (lv_at hl9 2 rfl) ?_
        refine va_get (D := (dC, dI)) (ci := 2) (v := .ref aW) (C := R_C) (T := F_C) (N := 13) hx hb hG i_C hown hK hP 0 rfl rfl 11 (by decide) (hG _ k_33) (fun _ h9 => h9) rfl d_C_cheapest_40 ?_
        refine lv_iload hx hb d_C_cheapest_43 (lv_at hl9 1 rfl) ?_
        refine va_iald hx hb hK hP 4 0 rfl rfl (hi1) d_C_cheapest_45 ?_
        refine lv_aload hx hb d_C_cheapest_46 (lv_at hl9 4 rfl) ?_
        refine va_getN (D := (dC, dI)) (ci := 1) (v := .int zw) (C := R_Z) (T := F_Z) (N := 10) hx hb hG i_Z hown hK hP 6 rfl rfl 6 (by decide) (hE.1.use k_192) (fun _ h9 => h9) rfl d_C_cheapest_48 ?_
        rw [nI_clamp (n := j) (by omega)]
        refine lv_icmp_lt (tgt := 58) hx hb d_C_cheapest_51 (by decide) (fun c2 => ?_) (fun c2 => ?_)
        · refine lv_iconst (v := 0) hx hb d_C_cheapest_58 (by decide) ?_
          refine lv_istore (lv' := [(7, .int 0), (5, .int (bst (wsO fO fP zl zh zp zf b nn mm fW fK nn).1 (wsO fO fP zl zh zp zf b nn mm fW fK nn).2 zw j)), (6, .int (nI j)), (0, .ref a0), (2, .int (nI nn)), (4, .ref za)]) hx hb d_C_cheapest_59 hl9 (by decide) rfl (fun ls hl9 => ?_)
          refine lv_iload hx hb d_C_cheapest_61 (lv_at hl9 0 rfl) ?_
          refine lv_if_eq (tgt := 94) hx hb d_C_cheapest_63 (by decide) (fun c3 => ?_) (fun c3 => ?_)
          · have e8 : bst (wsO fO fP zl zh zp zf b nn mm fW fK nn).1 (wsO fO fP zl zh zp zf b nn mm fW fK nn).2 zw j = bst (wsO fO fP zl zh zp zf b nn mm fW fK nn).1 (wsO fO fP zl zh zp zf b nn mm fW fK nn).2 zw (j + 1) := by show _ = if _ then _ else _; rw [if_neg (fun h => Int32.not_le.mpr c2 h.1)]
            refine lv_iinc (v := ((nI j) + 1)) (lv' := [(6, .int ((nI j) + 1)), (7, .int 0), (5, .int (bst (wsO fO fP zl zh zp zf b nn mm fW fK nn).1 (wsO fO fP zl zh zp zf b nn mm fW fK nn).2 zw j)), (0, .ref a0), (2, .int (nI nn)), (4, .ref za)]) hx hb d_C_cheapest_94 hl9 (k := 2) rfl rfl (by decide) rfl (fun ls hl9 => ?_)
            refine lv_goto (tgt := 31) hx hb d_C_cheapest_97 (by decide) ?_
            rw [nI_1, e8] at hl9
            exact ih (j + 1) (by omega) (by omega) _ _ ls hP hD hS (lv_sub hl9 [2, 0, 3, 4, 5] rfl)
          · exact absurd rfl c3
        · refine lv_iconst (v := 1) hx hb d_C_cheapest_54 (by decide) ?_
          refine lv_goto (tgt := 59) hx hb d_C_cheapest_55 (by decide) ?_
          refine lv_istore (lv' := [(7, .int 1), (5, .int (bst (wsO fO fP zl zh zp zf b nn mm fW fK nn).1 (wsO fO fP zl zh zp zf b nn mm fW fK nn).2 zw j)), (6, .int (nI j)), (0, .ref a0), (2, .int (nI nn)), (4, .ref za)]) hx hb d_C_cheapest_59 hl9 (by decide) rfl (fun ls hl9 => ?_)
          refine lv_iload hx hb d_C_cheapest_61 (lv_at hl9 0 rfl) ?_
          refine lv_if_eq (tgt := 94) hx hb d_C_cheapest_63 (by decide) (fun c3 => ?_) (fun c3 => ?_)
          · exact absurd c3 (by decide)
          · refine lv_iload hx hb d_C_cheapest_66 (lv_at hl9 1 rfl) ?_
            refine lv_iconst (v := (-1)) hx hb d_C_cheapest_68 (by decide) ?_
            refine lv_icmp_eq (tgt := 90) hx hb d_C_cheapest_69 (by decide) (fun c4 => ?_) (fun c4 => ?_)
            · have e8 : nI j = bst (wsO fO fP zl zh zp zf b nn mm fW fK nn).1 (wsO fO fP zl zh zp zf b nn mm fW fK nn).2 zw (j + 1) := by show _ = if _ then _ else _; rw [if_pos ⟨Int32.not_lt.mp c2, Or.inl c4⟩]
              refine lv_iload hx hb d_C_cheapest_90 (lv_at hl9 2 rfl) ?_
              refine lv_istore (lv' := [(5, .int (nI j)), (7, .int 1), (6, .int (nI j)), (0, .ref a0), (2, .int (nI nn)), (4, .ref za)]) hx hb d_C_cheapest_92 hl9 (by decide) rfl (fun ls hl9 => ?_)
              refine lv_iinc (v := ((nI j) + 1)) (lv' := [(6, .int ((nI j) + 1)), (5, .int (nI j)), (7, .int 1), (0, .ref a0), (2, .int (nI nn)), (4, .ref za)]) hx hb d_C_cheapest_94 hl9 (k := 2) rfl rfl (by decide) rfl (fun ls hl9 => ?_)
              refine lv_goto (tgt := 31) hx hb d_C_cheapest_97 (by decide) ?_
              rw [nI_1, e8] at hl9
              exact ih (j + 1) (by omega) (by omega) _ _ ls hP hD hS (lv_sub hl9 [1, 0, 3, 4, 5] rfl)
            · have hi2 : vp_in (bst (wsO fO fP zl zh zp zf b nn mm fW fK nn).1 (wsO fO fP zl zh zp zf b nn mm fW fK nn).2 zw j) 1024 := by rcases bst_in (wsO fO fP zl zh zp zf b nn mm fW fK nn).1 (wsO fO fP zl zh zp zf b nn mm fW fK nn).2 zw j with h | ⟨i, hi, h⟩; exact absurd h c4; rw [h]; exact vp_in_nI (by omega) (by omega)
              refine lv_aload_n hx hb d_C_cheapest_72 rfl (lv_at hl9 3 rfl) ?_
              refine va_get (D := (dC, dI)) (ci := 2) (v := .ref aK) (C := R_C) (T := F_C) (N := 13) hx hb hG i_C hown hK hP 0 rfl rfl 12 (by decide) (hG _ k_34) (fun _ h9 => h9) rfl d_C_cheapest_73 ?_
              refine lv_iload hx hb d_C_cheapest_76 (lv_at hl9 2 rfl) ?_
              refine va_lald hx hb hK hP 5 1 rfl rfl (hi1) d_C_cheapest_78 ?_
              refine lv_aload_n hx hb d_C_cheapest_79 rfl (lv_at hl9 3 rfl) ?_
              refine va_get (D := (dC, dI)) (ci := 2) (v := .ref aK) (C := R_C) (T := F_C) (N := 13) hx hb hG i_C hown hK hP 0 rfl rfl 12 (by decide) (hG _ k_34) (fun _ h9 => h9) rfl d_C_cheapest_80 ?_
              refine lv_iload hx hb d_C_cheapest_83 (lv_at hl9 1 rfl) ?_
              refine va_lald hx hb hK hP 5 1 rfl rfl (hi2) d_C_cheapest_85 ?_
              refine W.lcmp hx hb d_C_cheapest_86 ?_
              rw [nI_clamp (n := j) (by omega)]
              refine lv_if_ge (tgt := 94) hx hb d_C_cheapest_87 (by decide) (fun c5 => ?_) (fun c5 => ?_)
              · have e8 : bst (wsO fO fP zl zh zp zf b nn mm fW fK nn).1 (wsO fO fP zl zh zp zf b nn mm fW fK nn).2 zw j = bst (wsO fO fP zl zh zp zf b nn mm fW fK nn).1 (wsO fO fP zl zh zp zf b nn mm fW fK nn).2 zw (j + 1) := by show _ = if _ then _ else _; rw [if_neg (fun h => h.2.elim c4 (fun h => Int64.not_le.mpr h ((lg_cmp_ge _ _).mp c5)))]
                refine lv_iinc (v := ((nI j) + 1)) (lv' := [(6, .int ((nI j) + 1)), (7, .int 1), (5, .int (bst (wsO fO fP zl zh zp zf b nn mm fW fK nn).1 (wsO fO fP zl zh zp zf b nn mm fW fK nn).2 zw j)), (0, .ref a0), (2, .int (nI nn)), (4, .ref za)]) hx hb d_C_cheapest_94 hl9 (k := 2) rfl rfl (by decide) rfl (fun ls hl9 => ?_)
                refine lv_goto (tgt := 31) hx hb d_C_cheapest_97 (by decide) ?_
                rw [nI_1, e8] at hl9
                exact ih (j + 1) (by omega) (by omega) _ _ ls hP hD hS (lv_sub hl9 [2, 0, 3, 4, 5] rfl)
              · have e8 : nI j = bst (wsO fO fP zl zh zp zf b nn mm fW fK nn).1 (wsO fO fP zl zh zp zf b nn mm fW fK nn).2 zw (j + 1) := by show _ = if _ then _ else _; rw [if_pos ⟨Int32.not_lt.mp c2, Or.inr (Int64.not_le.mp (fun h => c5 ((lg_cmp_ge _ _).mpr h)))⟩]
                refine lv_iload hx hb d_C_cheapest_90 (lv_at hl9 2 rfl) ?_
                refine lv_istore (lv' := [(5, .int (nI j)), (7, .int 1), (6, .int (nI j)), (0, .ref a0), (2, .int (nI nn)), (4, .ref za)]) hx hb d_C_cheapest_92 hl9 (by decide) rfl (fun ls hl9 => ?_)
                refine lv_iinc (v := ((nI j) + 1)) (lv' := [(6, .int ((nI j) + 1)), (5, .int (nI j)), (7, .int 1), (0, .ref a0), (2, .int (nI nn)), (4, .ref za)]) hx hb d_C_cheapest_94 hl9 (k := 2) rfl rfl (by decide) rfl (fun ls hl9 => ?_)
                refine lv_goto (tgt := 31) hx hb d_C_cheapest_97 (by decide) ?_
                rw [nI_1, e8] at hl9
                exact ih (j + 1) (by omega) (by omega) _ _ ls hP hD hS (lv_sub hl9 [1, 0, 3, 4, 5] rfl)
  exact lp (2 ^ nn + 1) 0 (Nat.zero_le _) (by omega) _ _ ls hP hD hS (lv_sub hl9 [1, 0, 3, 5, 2] rfl)
set_option maxHeartbeats 4000000 in
set_option maxRecDepth 100000 in
theorem c_costsT (l : Launch) (dC : Nat → ClassId) (dI : Nat → Nat → Nat) (cI cJ cZ cB : ClassId) (hl : l.stackTraces = false) (a0 aZ aO aG aP aW aK : Nat) (zc orr ol mp pl fa fb : Int32) (fZ : Nat → Option Nat) (za la wa : Nat) (zh zl zf zp zr zm zw zs : Int32) (nz k : Nat) (x y sx : Int32) (sz : Nat) (hk : k < nz) (hn : nz ≤ 6) (hz : fZ k = some za) (hbad : (((x < 1 ∨ 10 < x) ∨ (y < 1 ∨ 30 < y)) ∨ (sx < 0 ∨ (1 <<< (x &&& 31)) - 1 < sx)) ∨ zm = -1) : vx_Met l y_C_costs w_C_costs ({ frames := 8, cells := 4, slots := 24, locals := 125 }) (PC (dC, dI) (TY cI cJ cZ cB) [.ref a0, .int (nI k), .int x, .int y, .int sx] [(a0, .inr (2, [.ref aZ, .int (nI nz), .ref aO, .int orr, .int ol, .int mp, .ref aG, .int pl, .int fa, .int fb, .ref aP, .ref aW, .ref aK])), (aZ, .inl (cZ, 6, .inr (.inr (.inr (.inr fZ))))), (za, .inr (1, [.int zh, .int zl, .int zf, .int zp, .int zr, .int zm, .int zw, .ref la, .int zs, .ref wa]))] sz (va_A [] sz)) (va_Ql (fun (r : Int64) (_ : Unit) => False) (fun (_ : Unit) (_ : State) => True) (va_A [] sz)) (vx_X (fun (_ : Unit) => True) (fun (E : String) (_ : Unit) (_ : State) => (E = "java/lang/IllegalArgumentException" ∧ (((x < 1 ∨ 10 < x) ∨ (y < 1 ∨ 30 < y)) ∨ (sx < 0 ∨ (1 <<< (x &&& 31)) - 1 < sx))) ∨ (E = "java/lang/IllegalStateException" ∧ ¬ (((x < 1 ∨ 10 < x) ∨ (y < 1 ∨ 30 < y)) ∨ (sx < 0 ∨ (1 <<< (x &&& 31)) - 1 < sx)) ∧ zm = -1)) (va_A [] sz)) 4 24 (va_A [] sz) := by
  refine vx_ofW (cc := b_C_costs) (maxL := 13) (ret := (some .long)) (by decide) rfl ?_
  intro p e s m args below meth c s₁ B hml hnx hv
  obtain ⟨rfl, hsz, hP, hK, hD0, hE⟩ := hv
  have hx := B.exec
  have hb := B.bytes
  have hr := B.returns
  have hG : ∀ w ∈ GG, w.before _ s = true := fun w h => atoms_spec (ws := w_C_costs) B.pre w (List.mem_cons_of_mem _ h)
  have hown : s.vm.findClass R_C = some m.cls := findClass_of_methodNamed B.named
  have hlocks := B.notSynchronized
  subst hsz
  generalize hAe : (va_A [] s.heap.size) = A at hE ⊢
  have hA : ∀ q : Nat, s.heap.size ≤ q → A q := fun q h => by rw [← hAe]; exact Or.inr h
  have hS : va_S A s.heap s.heap [] := va_S.rf
  have hD := hD0
  obtain ⟨H, hH⟩ : ∃ z, z = s.heap := ⟨_, rfl⟩
  rw [← hH] at hP
  have hS : va_S A s.heap H [] := by rw [hH]; exact hS
  rw [← hH]
  have hl9 := lv_entry ([.ref a0, .int (nI k), .int x, .int y, .int sx]) (n := 13) (Nat.le_of_ble_eq_true rfl)
  rw [lg_entry_eq]
  generalize (lg_sl ([.ref a0, .int (nI k), .int x, .int y, .int sx]) ++ List.replicate (13 - (lg_sl ([.ref a0, .int (nI k), .int x, .int y, .int sx])).length) Slot.unset).toArray = ls at hl9 ⊢
  have hl9 : lv_has ls 13 [(0, .ref a0), (1, .int (nI k)), (2, .int x), (3, .int y), (4, .int sx)] := hl9
  refine lv_aload_n hx hb d_C_costs_0 rfl (lv_at hl9 0 rfl) ?_
  refine lv_iload_n hx hb d_C_costs_1 rfl (lv_at hl9 1 rfl) ?_
  have hPc := hP.sub (ws' := [(a0, .inr (2, [.ref aZ, .int (nI nz), .ref aO, .int orr, .int ol, .int mp, .ref aG, .int pl, .int fa, .int fb, .ref aP, .ref aW, .ref aK])), (aZ, .inl (cZ, 6, .inr (.inr (.inr (.inr fZ)))))]) [0, 1] rfl
  have hDc := hD.sub (ws' := [(a0, .inr (2, [.ref aZ, .int (nI nz), .ref aO, .int orr, .int ol, .int mp, .ref aG, .int pl, .int fa, .int fb, .ref aP, .ref aW, .ref aK])), (aZ, .inl (cZ, 6, .inr (.inr (.inr (.inr fZ)))))]) [0, 1] (by decide) rfl
  have hFc := va_A_nil hA hS.1
  refine va_callq (va_runV (C := R_C) (As := [.int (nI k)]) (rest := []) ⟨hx, hb, hml, hown, hG⟩ (c_knownZone l dC dI cI cJ cZ cB a0 aZ aO aG aP aW aK (nI nz) orr ol mp pl fa fb fZ nz k za H.size hk hn hz) (cwV 1 hG g_C_70 rfl rfl rfl (by decide +kernel) ⟨Nat.le_of_ble_eq_true rfl, Nat.le_of_ble_eq_true rfl⟩) ⟨PC.blind, va_recv hK hP (ci := 2) (q0 := 0) rfl rfl, PC.of hPc hK hDc hE hS hFc⟩ rfl rfl hl9.1 rfl (lv_room (Nat.le_of_ble_eq_true rfl)) d_C_costs_2 ⟨by first | exact Nat.le_of_ble_eq_true rfl | omega, by first | exact Nat.le_of_ble_eq_true rfl | omega⟩) hS (fun q _ h => hFc q h) hFc (fun r2 u t H1 locs ht hvm hw hB hz1 hk1 hS => ?_)
  have hP := wp_kept hP hk1
  have hw : r2 = some za := hw
  subst hw
  refine W.eq (g2 := F0 m 5 ls [.ref za]) rfl ?_
  refine lv_astore (lv' := [(5, .ref za), (0, .ref a0), (1, .int (nI k)), (2, .int x), (3, .int y), (4, .int sx)]) hx hb d_C_costs_5 hl9 (by decide) rfl (fun ls hl9 => ?_)
  refine lv_iload_n hx hb d_C_costs_7 rfl (lv_at hl9 3 rfl) ?_
  refine lv_iload_n hx hb d_C_costs_8 rfl (lv_at hl9 4 rfl) ?_
  have hPc := hP.sub (ws' := []) [] rfl
  have hDc := hD.sub (ws' := []) [] (by decide) rfl
  have hFc := va_A_nil hA hS.1
  refine vx_callv (vx_runS (As := [.int x, .int y]) (rest := []) ⟨hx, hb, hml, hown, hG⟩ (c_checkQuarters l dC dI cI cJ cZ cB hl x y H1.size ) (cwS 2 hG g_C_139 rfl rfl rfl (by decide +kernel) ⟨Nat.le_of_ble_eq_true rfl, Nat.le_of_ble_eq_true rfl⟩) ⟨PC.blind, PC.of hPc hK hDc hE hS hFc⟩ rfl rfl hl9.1 rfl (lv_room (Nat.le_of_ble_eq_true rfl)) d_C_costs_9 ⟨by first | exact Nat.le_of_ble_eq_true rfl | omega, by first | exact Nat.le_of_ble_eq_true rfl | omega⟩) hS (fun q _ h => hFc q h) hFc (fun q _ h => hFc q h) (fun E ce q9 u t H3 locs ht hvm hpx hB hz1 hk1 hS hce hcv hcl => ?_) (fun u t H3 locs ht hvm hw hB hz1 hk1 hS => ?_)
  · exact vx_out (fun x hx => (hnx x hx).elim) hlocks hce hcv hcl (fun t ht ha => ⟨(), trivial, Or.inl ⟨hB.1, Or.inl hB.2⟩, hS.F ht⟩) hS.2.2 (by first | exact Nat.le_of_ble_eq_true rfl | omega) (by first | exact Nat.le_of_ble_eq_true rfl | omega)
  have hw := hw
  have hP := wp_kept hP hk1
  have hq5 : ¬ ((x < 1 ∨ 10 < x) ∨ (y < 1 ∨ 30 < y)) := hw
  have hw1 := hw
  refine lv_iload hx hb d_C_costs_12 (lv_at hl9 5 rfl) ?_
  refine lv_iconst (v := 0) hx hb d_C_costs_14 (by decide) ?_
  refine lv_iconst (v := 1) hx hb d_C_costs_15 (by decide) ?_
  refine lv_iload_n hx hb d_C_costs_16 rfl (lv_at hl9 3 rfl) ?_
  refine lv_ishl hx hb d_C_costs_17 ?_
  refine lv_iconst (v := 1) hx hb d_C_costs_18 (by decide) ?_
  refine lv_isub hx hb d_C_costs_19 ?_
  have hPc := hP.sub (ws' := []) [] rfl
  have hDc := hD.sub (ws' := []) [] (by decide) rfl
  have hFc := va_A_nil hA hS.1
  refine vx_callv (vx_runS (As := [.int sx, .int 0, .int ((1 <<< (x &&& 31)) - 1)]) (rest := []) ⟨hx, hb, hml, hown, hG⟩ (c_checkBounds l dC dI cI cJ cZ cB hl sx 0 ((1 <<< (x &&& 31)) - 1) H3.size ) (cwS 3 hG g_C_56 rfl rfl rfl (by decide +kernel) ⟨Nat.le_of_ble_eq_true rfl, Nat.le_of_ble_eq_true rfl⟩) ⟨PC.blind, PC.of hPc hK hDc hE hS hFc⟩ rfl rfl hl9.1 rfl (lv_room (Nat.le_of_ble_eq_true rfl)) d_C_costs_20 ⟨by first | exact Nat.le_of_ble_eq_true rfl | omega, by first | exact Nat.le_of_ble_eq_true rfl | omega⟩) hS (fun q _ h => hFc q h) hFc (fun q _ h => hFc q h) (fun E ce q9 u t H6 locs ht hvm hpx hB hz1 hk1 hS hce hcv hcl => ?_) (fun u t H6 locs ht hvm hw hB hz1 hk1 hS => ?_)
  · exact vx_out (fun x hx => (hnx x hx).elim) hlocks hce hcv hcl (fun t ht ha => ⟨(), trivial, Or.inl ⟨hB.1, Or.inr hB.2⟩, hS.F ht⟩) hS.2.2 (by first | exact Nat.le_of_ble_eq_true rfl | omega) (by first | exact Nat.le_of_ble_eq_true rfl | omega)
  have hw := hw
  have hP := wp_kept hP hk1
  have hq8 : ¬ (sx < 0 ∨ ((1 <<< (x &&& 31)) - 1) < sx) := hw
  have hw2 := hw
  refine lv_aload hx hb d_C_costs_23 (lv_at hl9 0 rfl) ?_
  have hPc := hP.sub (ws' := [(za, .inr (1, [.int zh, .int zl, .int zf, .int zp, .int zr, .int zm, .int zw, .ref la, .int zs, .ref wa]))]) [2] rfl
  have hDc := hD.sub (ws' := [(za, .inr (1, [.int zh, .int zl, .int zf, .int zp, .int zr, .int zm, .int zw, .ref la, .int zs, .ref wa]))]) [2] (by decide) rfl
  have hFc := va_A_nil hA hS.1
  refine vx_callv (vx_runS (As := [.ref za]) (rest := []) ⟨hx, hb, hml, hown, hG⟩ (c_checkWants l dC dI cI cJ cZ cB hl za la wa zh zl zf zp zr zm zw zs H6.size ) (cwS 1 hG g_C_142 rfl rfl rfl (by decide +kernel) ⟨Nat.le_of_ble_eq_true rfl, Nat.le_of_ble_eq_true rfl⟩) ⟨PC.blind, PC.of hPc hK hDc hE hS hFc⟩ rfl rfl hl9.1 rfl (lv_room (Nat.le_of_ble_eq_true rfl)) d_C_costs_25 ⟨by first | exact Nat.le_of_ble_eq_true rfl | omega, by first | exact Nat.le_of_ble_eq_true rfl | omega⟩) hS (fun q _ h => hFc q h) hFc (fun q _ h => hFc q h) (fun E ce q9 u t H9 locs ht hvm hpx hB hz1 hk1 hS hce hcv hcl => ?_) (fun u t H9 locs ht hvm hw hB hz1 hk1 hS => ?_)
  · exact vx_out (fun x hx => (hnx x hx).elim) hlocks hce hcv hcl (fun t ht ha => ⟨(), trivial, Or.inr ⟨hB.1, fun h => h.elim hw1 hw2, hB.2⟩, hS.F ht⟩) hS.2.2 (by first | exact Nat.le_of_ble_eq_true rfl | omega) (by first | exact Nat.le_of_ble_eq_true rfl | omega)
  have hw := hw
  have hP := wp_kept hP hk1
  have hq11 : ¬ zm = -1 := hw
  exact absurd hbad (fun h => h.elim (fun h => h.elim hw1 hw2) hw)
set_option maxHeartbeats 4000000 in
set_option maxRecDepth 100000 in
theorem c_costs (l : Launch) (dC : Nat → ClassId) (dI : Nat → Nat → Nat) (cI cJ cZ cB : ClassId) (hl : l.stackTraces = false) (a0 aZ aO aG aP aW aK : Nat) (zc orr ol mp pl fa fb : Int32) (fZ : Nat → Option Nat) (fO fP : Nat → Int32) (za la wa : Nat) (zh zl zf zp zr zm zw zs : Int32) (nz k b nn mm S : Nat) (sz : Nat) (hk : k < nz) (hn : nz ≤ 6) (hz : fZ k = some za) (hb1 : b < 1440) (hn1 : 1 ≤ nn) (hnn : nn ≤ 10) (hm1 : 1 ≤ mm) (hmm : mm ≤ 30) (hzl : ¬ zl = 0) (hzh : ¬ zh = 0) (hS2 : S < 2 ^ nn) : Met l y_C_costs w_C_costs ({ frames := 8, cells := 4, slots := 24, locals := 125 }) (PC (dC, dI) (TY cI cJ cZ cB) [.ref a0, .int (nI k), .int (nI nn), .int (nI mm), .int (nI S)] [(a0, .inr (2, [.ref aZ, .int (nI nz), .ref aO, .int orr, .int ol, .int mp, .ref aG, .int pl, .int fa, .int fb, .ref aP, .ref aW, .ref aK])), (aZ, .inl (cZ, 6, .inr (.inr (.inr (.inr fZ))))), (aO, .inl (cI, 1440, .inl fO)), (aP, .inl (cI, 24, .inl fP)), (za, .inr (1, [.int zh, .int zl, .int zf, .int zp, .int zr, .int (nI b), .int zw, .ref la, .int zs, .ref wa]))] sz (va_A [] sz)) (va_Ql (fun (r : Int64) (_ : Unit) => r = if zw ≤ (cso fO fP zl zh zp zf b nn mm S nn).1 then (cso fO fP zl zh zp zf b nn mm S nn).2 else -1) (fun (_ : Unit) (_ : State) => True) (va_A [] sz)) 4 24 (va_A [] sz) := by
  refine Met.ofW (cc := b_C_costs) (maxL := 13) (ret := (some .long)) (by decide) rfl ?_
  intro p e s m args below meth c s₁ B hml hv
  obtain ⟨rfl, hsz, hP, hK, hD0, hE⟩ := hv
  have hx := B.exec
  have hb := B.bytes
  have hr := B.returns
  have hG : ∀ w ∈ GG, w.before _ s = true := fun w h => atoms_spec (ws := w_C_costs) B.pre w (List.mem_cons_of_mem _ h)
  have hown : s.vm.findClass R_C = some m.cls := findClass_of_methodNamed B.named
  have hlocks := B.notSynchronized
  subst hsz
  generalize hAe : (va_A [] s.heap.size) = A at hE ⊢
  have hA : ∀ q : Nat, s.heap.size ≤ q → A q := fun q h => by rw [← hAe]; exact Or.inr h
  have hS : va_S A s.heap s.heap [] := va_S.rf
  have hD := hD0
  obtain ⟨H, hH⟩ : ∃ z, z = s.heap := ⟨_, rfl⟩
  rw [← hH] at hP
  have hS : va_S A s.heap H [] := by rw [hH]; exact hS
  rw [← hH]
  have hl9 := lv_entry ([.ref a0, .int (nI k), .int (nI nn), .int (nI mm), .int (nI S)]) (n := 13) (Nat.le_of_ble_eq_true rfl)
  rw [lg_entry_eq]
  generalize (lg_sl ([.ref a0, .int (nI k), .int (nI nn), .int (nI mm), .int (nI S)]) ++ List.replicate (13 - (lg_sl ([.ref a0, .int (nI k), .int (nI nn), .int (nI mm), .int (nI S)])).length) Slot.unset).toArray = ls at hl9 ⊢
  have hl9 : lv_has ls 13 [(0, .ref a0), (1, .int (nI k)), (2, .int (nI nn)), (3, .int (nI mm)), (4, .int (nI S))] := hl9
  have hp2 : 2 ^ nn ≤ 1024 := p2_le hnn
  refine lv_aload_n hx hb d_C_costs_0 rfl (lv_at hl9 0 rfl) ?_
  refine lv_iload_n hx hb d_C_costs_1 rfl (lv_at hl9 1 rfl) ?_
  have hPc := hP.sub (ws' := [(a0, .inr (2, [.ref aZ, .int (nI nz), .ref aO, .int orr, .int ol, .int mp, .ref aG, .int pl, .int fa, .int fb, .ref aP, .ref aW, .ref aK])), (aZ, .inl (cZ, 6, .inr (.inr (.inr (.inr fZ)))))]) [0, 1] rfl
  have hDc := hD.sub (ws' := [(a0, .inr (2, [.ref aZ, .int (nI nz), .ref aO, .int orr, .int ol, .int mp, .ref aG, .int pl, .int fa, .int fb, .ref aP, .ref aW, .ref aK])), (aZ, .inl (cZ, 6, .inr (.inr (.inr (.inr fZ)))))]) [0, 1] (by decide) rfl
  have hFc := va_A_nil hA hS.1
  refine va_callq (va_runV (C := R_C) (As := [.int (nI k)]) (rest := []) ⟨hx, hb, hml, hown, hG⟩ (c_knownZone l dC dI cI cJ cZ cB a0 aZ aO aG aP aW aK (nI nz) orr ol mp pl fa fb fZ nz k za H.size hk hn hz) (cwV 1 hG g_C_70 rfl rfl rfl (by decide +kernel) ⟨Nat.le_of_ble_eq_true rfl, Nat.le_of_ble_eq_true rfl⟩) ⟨PC.blind, va_recv hK hP (ci := 2) (q0 := 0) rfl rfl, PC.of hPc hK hDc hE hS hFc⟩ rfl rfl hl9.1 rfl (lv_room (Nat.le_of_ble_eq_true rfl)) d_C_costs_2 ⟨by first | exact Nat.le_of_ble_eq_true rfl | omega, by first | exact Nat.le_of_ble_eq_true rfl | omega⟩) hS (fun q _ h => hFc q h) hFc (fun r2 u t H1 locs ht hvm hw hB hz1 hk1 hS => ?_)
  have hP := wp_kept hP hk1
  have hw : r2 = some za := hw
  subst hw
  refine W.eq (g2 := F0 m 5 ls [.ref za]) rfl ?_
  refine lv_astore (lv' := [(5, .ref za), (0, .ref a0), (1, .int (nI k)), (2, .int (nI nn)), (3, .int (nI mm)), (4, .int (nI S))]) hx hb d_C_costs_5 hl9 (by decide) rfl (fun ls hl9 => ?_)
  refine lv_iload_n hx hb d_C_costs_7 rfl (lv_at hl9 3 rfl) ?_
  refine lv_iload_n hx hb d_C_costs_8 rfl (lv_at hl9 4 rfl) ?_
  have hPc := hP.sub (ws' := []) [] rfl
  have hDc := hD.sub (ws' := []) [] (by decide) rfl
  have hFc := va_A_nil hA hS.1
  refine vx_callv (vx_runS (As := [.int (nI nn), .int (nI mm)]) (rest := []) ⟨hx, hb, hml, hown, hG⟩ (c_checkQuarters l dC dI cI cJ cZ cB hl (nI nn) (nI mm) H1.size ) (cwS 2 hG g_C_139 rfl rfl rfl (by decide +kernel) ⟨Nat.le_of_ble_eq_true rfl, Nat.le_of_ble_eq_true rfl⟩) ⟨PC.blind, PC.of hPc hK hDc hE hS hFc⟩ rfl rfl hl9.1 rfl (lv_room (Nat.le_of_ble_eq_true rfl)) d_C_costs_9 ⟨by first | exact Nat.le_of_ble_eq_true rfl | omega, by first | exact Nat.le_of_ble_eq_true rfl | omega⟩) hS (fun q _ h => hFc q h) hFc (fun q _ h => hFc q h) (fun E ce q9 u t H3 locs ht hvm hpx hB hz1 hk1 hS hce hcv hcl => ?_) (fun u t H3 locs ht hvm hw hB hz1 hk1 hS => ?_)
  · exact absurd hB.2 (nq_of hn1 hnn hm1 hmm)
  have hw := hw
  have hP := wp_kept hP hk1
  have hq5 : ¬ (((nI nn) < 1 ∨ 10 < (nI nn)) ∨ ((nI mm) < 1 ∨ 30 < (nI mm))) := hw
  refine lv_iload hx hb d_C_costs_12 (lv_at hl9 5 rfl) ?_
  refine lv_iconst (v := 0) hx hb d_C_costs_14 (by decide) ?_
  refine lv_iconst (v := 1) hx hb d_C_costs_15 (by decide) ?_
  refine lv_iload_n hx hb d_C_costs_16 rfl (lv_at hl9 3 rfl) ?_
  refine lv_ishl hx hb d_C_costs_17 ?_
  refine lv_iconst (v := 1) hx hb d_C_costs_18 (by decide) ?_
  refine lv_isub hx hb d_C_costs_19 ?_
  rw [shl1 hnn, sub1 (show 1 ≤ 2 ^ nn by omega)]
  have hPc := hP.sub (ws' := []) [] rfl
  have hDc := hD.sub (ws' := []) [] (by decide) rfl
  have hFc := va_A_nil hA hS.1
  refine vx_callv (vx_runS (As := [.int (nI S), .int 0, .int (nI (2 ^ nn - 1))]) (rest := []) ⟨hx, hb, hml, hown, hG⟩ (c_checkBounds l dC dI cI cJ cZ cB hl (nI S) 0 (nI (2 ^ nn - 1)) H3.size ) (cwS 3 hG g_C_56 rfl rfl rfl (by decide +kernel) ⟨Nat.le_of_ble_eq_true rfl, Nat.le_of_ble_eq_true rfl⟩) ⟨PC.blind, PC.of hPc hK hDc hE hS hFc⟩ rfl rfl hl9.1 rfl (lv_room (Nat.le_of_ble_eq_true rfl)) d_C_costs_20 ⟨by first | exact Nat.le_of_ble_eq_true rfl | omega, by first | exact Nat.le_of_ble_eq_true rfl | omega⟩) hS (fun q _ h => hFc q h) hFc (fun q _ h => hFc q h) (fun E ce q9 u t H6 locs ht hvm hpx hB hz1 hk1 hS hce hcv hcl => ?_) (fun u t H6 locs ht hvm hw hB hz1 hk1 hS => ?_)
  · exact absurd hB.2 (fun h => h.elim (nI_pos (by omega)) (fun h => absurd ((nI_ltI (by omega) (by omega)).mp h) (by omega)))
  have hw := hw
  have hP := wp_kept hP hk1
  have hq8 : ¬ ((nI S) < 0 ∨ (nI (2 ^ nn - 1)) < (nI S)) := hw
  refine lv_aload hx hb d_C_costs_23 (lv_at hl9 0 rfl) ?_
  have hPc := hP.sub (ws' := [(za, .inr (1, [.int zh, .int zl, .int zf, .int zp, .int zr, .int (nI b), .int zw, .ref la, .int zs, .ref wa]))]) [4] rfl
  have hDc := hD.sub (ws' := [(za, .inr (1, [.int zh, .int zl, .int zf, .int zp, .int zr, .int (nI b), .int zw, .ref la, .int zs, .ref wa]))]) [4] (by decide) rfl
  have hFc := va_A_nil hA hS.1
  refine vx_callv (vx_runS (As := [.ref za]) (rest := []) ⟨hx, hb, hml, hown, hG⟩ (c_checkWants l dC dI cI cJ cZ cB hl za la wa zh zl zf zp zr (nI b) zw zs H6.size ) (cwS 1 hG g_C_142 rfl rfl rfl (by decide +kernel) ⟨Nat.le_of_ble_eq_true rfl, Nat.le_of_ble_eq_true rfl⟩) ⟨PC.blind, PC.of hPc hK hDc hE hS hFc⟩ rfl rfl hl9.1 rfl (lv_room (Nat.le_of_ble_eq_true rfl)) d_C_costs_25 ⟨by first | exact Nat.le_of_ble_eq_true rfl | omega, by first | exact Nat.le_of_ble_eq_true rfl | omega⟩) hS (fun q _ h => hFc q h) hFc (fun q _ h => hFc q h) (fun E ce q9 u t H9 locs ht hvm hpx hB hz1 hk1 hS hce hcv hcl => ?_) (fun u t H9 locs ht hvm hw hB hz1 hk1 hS => ?_)
  · exact absurd hB.2 (nb_ne hb1)
  have hw := hw
  have hP := wp_kept hP hk1
  have hq11 : ¬ (nI b) = -1 := hw
  refine lv_aload_n hx hb d_C_costs_28 rfl (lv_at hl9 1 rfl) ?_
  refine lv_aload hx hb d_C_costs_29 (lv_at hl9 0 rfl) ?_
  refine lv_aload hx hb d_C_costs_31 (lv_at hl9 0 rfl) ?_
  refine va_getN (D := (dC, dI)) (ci := 1) (v := .int zf) (C := R_Z) (T := F_Z) (N := 10) hx hb hG i_Z hown hK hP 4 rfl rfl 2 (by decide) (hE.1.use k_184) (fun _ h9 => h9) rfl d_C_costs_33 ?_
  refine lv_iconst (v := 0) hx hb d_C_costs_36 (by decide) ?_
  refine lv_aload hx hb d_C_costs_37 (lv_at hl9 0 rfl) ?_
  refine lv_iload_n hx hb d_C_costs_39 rfl (lv_at hl9 3 rfl) ?_
  refine lv_iload_n hx hb d_C_costs_40 rfl (lv_at hl9 4 rfl) ?_
  have hPc := hP.sub (ws' := [(za, .inr (1, [.int zh, .int zl, .int zf, .int zp, .int zr, .int (nI b), .int zw, .ref la, .int zs, .ref wa]))]) [4] rfl
  have hDc := hD.sub (ws' := [(za, .inr (1, [.int zh, .int zl, .int zf, .int zp, .int zr, .int (nI b), .int zw, .ref la, .int zs, .ref wa]))]) [4] (by decide) rfl
  have hFc := va_A_nil hA hS.1
  refine va_calli (va_runS (As := [.ref za, .int (nI nn), .int (nI mm)]) (rest := [.int 0, .int zf, .ref za, .ref a0]) ⟨hx, hb, hml, hown, hG⟩ (c_quarterBegin l dC dI cI cJ cZ cB za la wa zh zl zf zp zr (nI b) zw zs (nI nn) (nI mm) H9.size ) (cwS 3 hG g_C_150 rfl rfl rfl (by decide +kernel) ⟨Nat.le_of_ble_eq_true rfl, Nat.le_of_ble_eq_true rfl⟩) ⟨PC.blind, PC.of hPc hK hDc hE hS hFc⟩ rfl rfl hl9.1 rfl (lv_room (Nat.le_of_ble_eq_true rfl)) d_C_costs_41 ⟨by first | exact Nat.le_of_ble_eq_true rfl | omega, by first | exact Nat.le_of_ble_eq_true rfl | omega⟩) hS (fun q _ h => hFc q h) hFc (fun r13 u t H12 locs ht hvm hw hB hz1 hk1 hS => ?_)
  have hP := wp_kept hP hk1
  have hw : r13 = if 0 < (nI b) - (nI nn) * (nI mm) then (nI b) - (nI nn) * (nI mm) else 0 := hw
  subst hw
  rw [qb_eq hb1 hnn hmm]
  refine W.eq (g2 := F0 m 44 ls [.int (nI (b - nn * mm)), .int (nI 0), .int zf, .ref za, .ref a0]) rfl ?_
  refine lv_iconst (v := 0) hx hb d_C_costs_44 (by decide) ?_
  have hPc := hP.sub (ws' := [(a0, .inr (2, [.ref aZ, .int (nI nz), .ref aO, .int orr, .int ol, .int mp, .ref aG, .int pl, .int fa, .int fb, .ref aP, .ref aW, .ref aK])), (aO, .inl (cI, 1440, .inl fO)), (za, .inr (1, [.int zh, .int zl, .int zf, .int zp, .int zr, .int (nI b), .int zw, .ref la, .int zs, .ref wa]))]) [0, 2, 4] rfl
  have hDc := hD.sub (ws' := [(a0, .inr (2, [.ref aZ, .int (nI nz), .ref aO, .int orr, .int ol, .int mp, .ref aG, .int pl, .int fa, .int fb, .ref aP, .ref aW, .ref aK])), (aO, .inl (cI, 1440, .inl fO)), (za, .inr (1, [.int zh, .int zl, .int zf, .int zp, .int zr, .int (nI b), .int zw, .ref la, .int zs, .ref wa]))]) [0, 2, 4] (by decide) rfl
  have hFc := va_A_nil hA hS.1
  refine va_calli (va_runV (C := R_C) (As := [.ref za, .int zf, .int (nI 0), .int (nI (b - nn * mm)), .int 0]) (rest := []) ⟨hx, hb, hml, hown, hG⟩ (c_warmthThrough l dC dI cI cJ cZ cB a0 aZ aO aG aP aW aK (nI nz) orr ol mp pl fa fb fO za la wa zh zl zf zp zr (nI b) zw zs zf 0 0 (b - nn * mm) H12.size (Nat.zero_le _) (by omega) hzl hzh) (cwV 5 hG g_C_154 rfl rfl rfl (by decide +kernel) ⟨Nat.le_of_ble_eq_true rfl, Nat.le_of_ble_eq_true rfl⟩) ⟨PC.blind, va_recv hK hP (ci := 2) (q0 := 0) rfl rfl, PC.of hPc hK hDc hE hS hFc⟩ rfl rfl hl9.1 rfl (lv_room (Nat.le_of_ble_eq_true rfl)) d_C_costs_45 ⟨by first | exact Nat.le_of_ble_eq_true rfl | omega, by first | exact Nat.le_of_ble_eq_true rfl | omega⟩) hS (fun q _ h => hFc q h) hFc (fun r15 u t H14 locs ht hvm hw hB hz1 hk1 hS => ?_)
  have hP := wp_kept hP hk1
  have hw : r15 = wt fO zl zh 0 zf 0 ((b - nn * mm) - 0) := hw
  subst hw
  rw [Nat.sub_zero]
  refine lv_istore (lv' := [(6, .int (wt fO zl zh 0 zf 0 (b - nn * mm))), (5, .ref za), (0, .ref a0), (1, .int (nI k)), (2, .int (nI nn)), (3, .int (nI mm)), (4, .int (nI S))]) hx hb d_C_costs_48 hl9 (by decide) rfl (fun ls hl9 => ?_)
  refine lv_lconst (v := 0) hx hb d_C_costs_50 (by decide) ?_
  refine lv_lstore (lv' := [(7, .long 0), (6, .int (wt fO zl zh 0 zf 0 (b - nn * mm))), (5, .ref za), (0, .ref a0), (1, .int (nI k)), (2, .int (nI nn)), (3, .int (nI mm)), (4, .int (nI S))]) hx hb d_C_costs_51 hl9 (by decide) rfl (fun ls hl9 => ?_)
  refine lv_iconst (v := 0) hx hb d_C_costs_53 (by decide) ?_
  refine lv_istore (lv' := [(9, .int 0), (7, .long 0), (6, .int (wt fO zl zh 0 zf 0 (b - nn * mm))), (5, .ref za), (0, .ref a0), (1, .int (nI k)), (2, .int (nI nn)), (3, .int (nI mm)), (4, .int (nI S))]) hx hb d_C_costs_54 hl9 (by decide) rfl (fun ls hl9 => ?_)
  have lp : ∀ (n : Nat) (j : Nat), j ≤ nn → nn + 1 ≤ j + n → ∀ (H : Heap) (locs : List Loc) (ls : Array Slot), va_P (dC, dI) vwCl [(a0, .inr (2, [.ref aZ, .int (nI nz), .ref aO, .int orr, .int ol, .int mp, .ref aG, .int pl, .int fa, .int fb, .ref aP, .ref aW, .ref aK])), (aZ, .inl (cZ, 6, .inr (.inr (.inr (.inr fZ))))), (aO, .inl (cI, 1440, .inl fO)), (aP, .inl (cI, 24, .inl fP)), (za, .inr (1, [.int zh, .int zl, .int zf, .int zp, .int zr, .int (nI b), .int zw, .ref la, .int zs, .ref wa]))] H → va_S A s.heap H locs → lv_has ls 13 [(6, .int ((cso fO fP zl zh zp zf b nn mm S j).1)), (7, .long ((cso fO fP zl zh zp zf b nn mm S j).2)), (9, .int (nI j)), (0, .ref a0), (2, .int (nI nn)), (3, .int (nI mm)), (4, .int (nI S)), (5, .ref za)] → W p l e (headSpec w_C_costs ({ frames := 8, cells := 4, slots := 24, locals := 125 })).room s m ([.ref a0, .int (nI k), .int (nI nn), .int (nI mm), .int (nI S)] : List Value).toArray below meth c H locs 4 24 (MQ below (va_Ql (fun (r : Int64) (_ : Unit) => r = if zw ≤ (cso fO fP zl zh zp zf b nn mm S nn).1 then (cso fO fP zl zh zp zf b nn mm S nn).2 else -1) (fun (_ : Unit) (_ : State) => True) A) ([.ref a0, .int (nI k), .int (nI nn), .int (nI mm), .int (nI S)] : List Value).toArray s 4 24 A) (F0 m 56 ls []) := by
    intro n
    induction n with
    | zero =>
      intro j hj hin
      exact absurd hin (by omega)
    | succ n ih =>
      intro j hj hin H locs ls hP hS hl9
      refine lv_iload hx hb d_C_costs_56 (lv_at hl9 2 rfl) ?_
      refine lv_iload_n hx hb d_C_costs_58 rfl (lv_at hl9 4 rfl) ?_
      refine lv_icmp_ge (tgt := 164) hx hb d_C_costs_59 (by decide) (fun c1 => ?_) (fun c1 => ?_)
      · have e9 : j = nn := by have := ge_of_c (i := j) (b := nn) (by omega) (by omega) c1; omega
        refine lv_iload hx hb d_C_costs_164 (lv_at hl9 0 rfl) ?_
        refine lv_aload hx hb d_C_costs_166 (lv_at hl9 7 rfl) ?_
        refine va_getN (D := (dC, dI)) (ci := 1) (v := .int zw) (C := R_Z) (T := F_Z) (N := 10) hx hb hG i_Z hown hK hP 4 rfl rfl 6 (by decide) (hE.1.use k_192) (fun _ h9 => h9) rfl d_C_costs_168 ?_
        refine lv_icmp_lt (tgt := 179) hx hb d_C_costs_171 (by decide) (fun c2 => ?_) (fun c2 => ?_)
        · refine lv_ldc2 (v := (-1)) hx hb hown (hG _ k_432) d_C_costs_179 ?_
          exact W.lret (v := (-1)) hx hb hr (fun t ht hW => ⟨⟨(-1), (), rfl, by rw [e9] at c2; exact (if_neg (Int32.not_le.mpr c2)).symm, trivial⟩, hS.F ht⟩) hS.2.2 d_C_costs_182
        · refine lv_lload hx hb d_C_costs_174 (lv_at hl9 1 rfl) ?_
          refine lv_goto (tgt := 182) hx hb d_C_costs_176 (by decide) ?_
          exact W.lret (v := (cso fO fP zl zh zp zf b nn mm S j).2) hx hb hr (fun t ht hW => ⟨⟨(cso fO fP zl zh zp zf b nn mm S j).2, (), rfl, by rw [e9] at c2 ⊢; exact (if_pos (Int32.not_lt.mp c2)).symm, trivial⟩, hS.F ht⟩) hS.2.2 d_C_costs_182
      · have e9 : j < nn := lt_of_c (by omega) (by omega) c1
        refine lv_aload hx hb d_C_costs_62 (lv_at hl9 7 rfl) ?_
        refine lv_iload_n hx hb d_C_costs_64 rfl (lv_at hl9 4 rfl) ?_
        refine lv_iload hx hb d_C_costs_65 (lv_at hl9 2 rfl) ?_
        refine lv_isub hx hb d_C_costs_67 ?_
        refine lv_iload_n hx hb d_C_costs_68 rfl (lv_at hl9 5 rfl) ?_
        rw [pk_sub (show j ≤ nn by omega)]
        have hPc := hP.sub (ws' := [(za, .inr (1, [.int zh, .int zl, .int zf, .int zp, .int zr, .int (nI b), .int zw, .ref la, .int zs, .ref wa]))]) [4] rfl
        have hDc := hD.sub (ws' := [(za, .inr (1, [.int zh, .int zl, .int zf, .int zp, .int zr, .int (nI b), .int zw, .ref la, .int zs, .ref wa]))]) [4] (by decide) rfl
        have hFc := va_A_nil hA hS.1
        refine va_calli (va_runS (As := [.ref za, .int (nI (nn - j)), .int (nI mm)]) (rest := []) ⟨hx, hb, hml, hown, hG⟩ (c_quarterBegin l dC dI cI cJ cZ cB za la wa zh zl zf zp zr (nI b) zw zs (nI (nn - j)) (nI mm) H.size ) (cwS 3 hG g_C_150 rfl rfl rfl (by decide +kernel) ⟨Nat.le_of_ble_eq_true rfl, Nat.le_of_ble_eq_true rfl⟩) ⟨PC.blind, PC.of hPc hK hDc hE hS hFc⟩ rfl rfl hl9.1 rfl (lv_room (Nat.le_of_ble_eq_true rfl)) d_C_costs_69 ⟨by first | exact Nat.le_of_ble_eq_true rfl | omega, by first | exact Nat.le_of_ble_eq_true rfl | omega⟩) hS (fun q _ h => hFc q h) hFc (fun r17 u t H16 locs ht hvm hw hB hz1 hk1 hS => ?_)
        have hP := wp_kept hP hk1
        have hw : r17 = if 0 < (nI b) - (nI (nn - j)) * (nI mm) then (nI b) - (nI (nn - j)) * (nI mm) else 0 := hw
        subst hw
        rw [qb_eq hb1 (by omega) hmm]
        refine lv_istore (lv' := [(10, .int (nI (b - (nn - j) * mm))), (6, .int ((cso fO fP zl zh zp zf b nn mm S j).1)), (7, .long ((cso fO fP zl zh zp zf b nn mm S j).2)), (9, .int (nI j)), (0, .ref a0), (2, .int (nI nn)), (3, .int (nI mm)), (4, .int (nI S)), (5, .ref za)]) hx hb d_C_costs_72 hl9 (by decide) rfl (fun ls hl9 => ?_)
        refine lv_aload hx hb d_C_costs_74 (lv_at hl9 8 rfl) ?_
        refine lv_iload_n hx hb d_C_costs_76 rfl (lv_at hl9 5 rfl) ?_
        refine lv_iload hx hb d_C_costs_77 (lv_at hl9 3 rfl) ?_
        refine lv_isub hx hb d_C_costs_79 ?_
        refine lv_iconst (v := 1) hx hb d_C_costs_80 (by decide) ?_
        refine lv_isub hx hb d_C_costs_81 ?_
        refine lv_iload_n hx hb d_C_costs_82 rfl (lv_at hl9 6 rfl) ?_
        rw [pk_sub (show j ≤ nn by omega), sub1 (show 1 ≤ nn - j by omega)]
        have hPc := hP.sub (ws' := [(za, .inr (1, [.int zh, .int zl, .int zf, .int zp, .int zr, .int (nI b), .int zw, .ref la, .int zs, .ref wa]))]) [4] rfl
        have hDc := hD.sub (ws' := [(za, .inr (1, [.int zh, .int zl, .int zf, .int zp, .int zr, .int (nI b), .int zw, .ref la, .int zs, .ref wa]))]) [4] (by decide) rfl
        have hFc := va_A_nil hA hS.1
        refine va_calli (va_runS (As := [.ref za, .int (nI (nn - j - 1)), .int (nI mm)]) (rest := []) ⟨hx, hb, hml, hown, hG⟩ (c_quarterBegin l dC dI cI cJ cZ cB za la wa zh zl zf zp zr (nI b) zw zs (nI (nn - j - 1)) (nI mm) H16.size ) (cwS 3 hG g_C_150 rfl rfl rfl (by decide +kernel) ⟨Nat.le_of_ble_eq_true rfl, Nat.le_of_ble_eq_true rfl⟩) ⟨PC.blind, PC.of hPc hK hDc hE hS hFc⟩ rfl rfl hl9.1 rfl (lv_room (Nat.le_of_ble_eq_true rfl)) d_C_costs_83 ⟨by first | exact Nat.le_of_ble_eq_true rfl | omega, by first | exact Nat.le_of_ble_eq_true rfl | omega⟩) hS (fun q _ h => hFc q h) hFc (fun r19 u t H18 locs ht hvm hw hB hz1 hk1 hS => ?_)
        have hP := wp_kept hP hk1
        have hw : r19 = if 0 < (nI b) - (nI (nn - j - 1)) * (nI mm) then (nI b) - (nI (nn - j - 1)) * (nI mm) else 0 := hw
        subst hw
        rw [qb_eq hb1 (by omega) hmm]
        refine lv_istore (lv' := [(11, .int (nI (b - (nn - j - 1) * mm))), (10, .int (nI (b - (nn - j) * mm))), (6, .int ((cso fO fP zl zh zp zf b nn mm S j).1)), (7, .long ((cso fO fP zl zh zp zf b nn mm S j).2)), (9, .int (nI j)), (0, .ref a0), (2, .int (nI nn)), (3, .int (nI mm)), (4, .int (nI S)), (5, .ref za)]) hx hb d_C_costs_86 hl9 (by decide) rfl (fun ls hl9 => ?_)
        refine lv_iload hx hb d_C_costs_88 (lv_at hl9 8 rfl) ?_
        refine lv_iload hx hb d_C_costs_90 (lv_at hl9 4 rfl) ?_
        refine lv_ishr hx hb d_C_costs_92 ?_
        refine lv_iconst (v := 1) hx hb d_C_costs_93 (by decide) ?_
        refine lv_iand hx hb d_C_costs_94 ?_
        rw [bit_eq (by omega) (by omega)]
        refine lv_iconst (v := 1) hx hb d_C_costs_95 (by decide) ?_
        refine lv_icmp_ne (tgt := 103) hx hb d_C_costs_96 (by decide) (fun c2 => ?_) (fun c2 => ?_)
        · have h1 : ¬ S / 2 ^ j % 2 = 1 := fun h => c2 (by rw [h]; rfl)
          refine lv_iconst (v := 0) hx hb d_C_costs_103 (by decide) ?_
          refine lv_istore (lv' := [(12, .int 0), (11, .int (nI (b - (nn - j - 1) * mm))), (10, .int (nI (b - (nn - j) * mm))), (6, .int ((cso fO fP zl zh zp zf b nn mm S j).1)), (7, .long ((cso fO fP zl zh zp zf b nn mm S j).2)), (9, .int (nI j)), (0, .ref a0), (2, .int (nI nn)), (3, .int (nI mm)), (4, .int (nI S)), (5, .ref za)]) hx hb d_C_costs_104 hl9 (by decide) rfl (fun ls hl9 => ?_)
          refine lv_aload_n hx hb d_C_costs_106 rfl (lv_at hl9 6 rfl) ?_
          refine lv_aload hx hb d_C_costs_107 (lv_at hl9 10 rfl) ?_
          refine lv_iload hx hb d_C_costs_109 (lv_at hl9 3 rfl) ?_
          refine lv_iload hx hb d_C_costs_111 (lv_at hl9 2 rfl) ?_
          refine lv_iload hx hb d_C_costs_113 (lv_at hl9 1 rfl) ?_
          refine lv_iload hx hb d_C_costs_115 (lv_at hl9 0 rfl) ?_
          refine lv_if_eq (tgt := 128) hx hb d_C_costs_117 (by decide) (fun c3 => ?_) (fun c3 => ?_)
          · refine lv_iconst (v := 0) hx hb d_C_costs_128 (by decide) ?_
            have hPc := hP.sub (ws' := [(a0, .inr (2, [.ref aZ, .int (nI nz), .ref aO, .int orr, .int ol, .int mp, .ref aG, .int pl, .int fa, .int fb, .ref aP, .ref aW, .ref aK])), (aO, .inl (cI, 1440, .inl fO)), (za, .inr (1, [.int zh, .int zl, .int zf, .int zp, .int zr, .int (nI b), .int zw, .ref la, .int zs, .ref wa]))]) [0, 2, 4] rfl
            have hDc := hD.sub (ws' := [(a0, .inr (2, [.ref aZ, .int (nI nz), .ref aO, .int orr, .int ol, .int mp, .ref aG, .int pl, .int fa, .int fb, .ref aP, .ref aW, .ref aK])), (aO, .inl (cI, 1440, .inl fO)), (za, .inr (1, [.int zh, .int zl, .int zf, .int zp, .int zr, .int (nI b), .int zw, .ref la, .int zs, .ref wa]))]) [0, 2, 4] (by decide) rfl
            have hFc := va_A_nil hA hS.1
            refine va_calli (va_runV (C := R_C) (As := [.ref za, .int ((cso fO fP zl zh zp zf b nn mm S j).1), .int (nI (b - (nn - j) * mm)), .int (nI (b - (nn - j - 1) * mm)), .int 0]) (rest := []) ⟨hx, hb, hml, hown, hG⟩ (c_warmthThrough l dC dI cI cJ cZ cB a0 aZ aO aG aP aW aK (nI nz) orr ol mp pl fa fb fO za la wa zh zl zf zp zr (nI b) zw zs ((cso fO fP zl zh zp zf b nn mm S j).1) 0 (b - (nn - j) * mm) (b - (nn - j - 1) * mm) H18.size q_mono (by omega) hzl hzh) (cwV 5 hG g_C_154 rfl rfl rfl (by decide +kernel) ⟨Nat.le_of_ble_eq_true rfl, Nat.le_of_ble_eq_true rfl⟩) ⟨PC.blind, va_recv hK hP (ci := 2) (q0 := 0) rfl rfl, PC.of hPc hK hDc hE hS hFc⟩ rfl rfl hl9.1 rfl (lv_room (Nat.le_of_ble_eq_true rfl)) d_C_costs_129 ⟨by first | exact Nat.le_of_ble_eq_true rfl | omega, by first | exact Nat.le_of_ble_eq_true rfl | omega⟩) hS (fun q _ h => hFc q h) hFc (fun r21 u t H20 locs ht hvm hw hB hz1 hk1 hS => ?_)
            have hP := wp_kept hP hk1
            have hw : r21 = wt fO zl zh 0 ((cso fO fP zl zh zp zf b nn mm S j).1) (b - (nn - j) * mm) ((b - (nn - j - 1) * mm) - (b - (nn - j) * mm)) := hw
            subst hw
            refine lv_istore (lv' := [(6, .int (wt fO zl zh 0 ((cso fO fP zl zh zp zf b nn mm S j).1) (b - (nn - j) * mm) ((b - (nn - j - 1) * mm) - (b - (nn - j) * mm)))), (12, .int 0), (11, .int (nI (b - (nn - j - 1) * mm))), (10, .int (nI (b - (nn - j) * mm))), (7, .long ((cso fO fP zl zh zp zf b nn mm S j).2)), (9, .int (nI j)), (0, .ref a0), (2, .int (nI nn)), (3, .int (nI mm)), (4, .int (nI S)), (5, .ref za)]) hx hb d_C_costs_132 hl9 (by decide) rfl (fun ls hl9 => ?_)
            refine lv_lload hx hb d_C_costs_134 (lv_at hl9 4 rfl) ?_
            refine lv_iload hx hb d_C_costs_136 (lv_at hl9 1 rfl) ?_
            refine lv_if_eq (tgt := 154) hx hb d_C_costs_138 (by decide) (fun c4 => ?_) (fun c4 => ?_)
            · refine lv_lconst (v := 0) hx hb d_C_costs_154 (by decide) ?_
              refine lv_ladd hx hb d_C_costs_155 ?_
              refine lv_lstore (lv' := [(7, .long (((cso fO fP zl zh zp zf b nn mm S j).2) + 0)), (6, .int (wt fO zl zh 0 ((cso fO fP zl zh zp zf b nn mm S j).1) (b - (nn - j) * mm) ((b - (nn - j - 1) * mm) - (b - (nn - j) * mm)))), (12, .int 0), (11, .int (nI (b - (nn - j - 1) * mm))), (10, .int (nI (b - (nn - j) * mm))), (9, .int (nI j)), (0, .ref a0), (2, .int (nI nn)), (3, .int (nI mm)), (4, .int (nI S)), (5, .ref za)]) hx hb d_C_costs_156 hl9 (by decide) rfl (fun ls hl9 => ?_)
              refine lv_iinc (v := ((nI j) + 1)) (lv' := [(9, .int ((nI j) + 1)), (7, .long (((cso fO fP zl zh zp zf b nn mm S j).2) + 0)), (6, .int (wt fO zl zh 0 ((cso fO fP zl zh zp zf b nn mm S j).1) (b - (nn - j) * mm) ((b - (nn - j - 1) * mm) - (b - (nn - j) * mm)))), (12, .int 0), (11, .int (nI (b - (nn - j - 1) * mm))), (10, .int (nI (b - (nn - j) * mm))), (0, .ref a0), (2, .int (nI nn)), (3, .int (nI mm)), (4, .int (nI S)), (5, .ref za)]) hx hb d_C_costs_158 hl9 (k := 5) rfl rfl (by decide) rfl (fun ls hl9 => ?_)
              refine lv_goto (tgt := 56) hx hb d_C_costs_161 (by decide) ?_
              have e7 : wt fO zl zh 0 (cso fO fP zl zh zp zf b nn mm S j).1 (b - (nn - j) * mm) ((b - (nn - j - 1) * mm) - (b - (nn - j) * mm)) = (cso fO fP zl zh zp zf b nn mm S (j + 1)).1 := by show _ = wt fO zl zh (if _ then _ else _) _ _ _; rw [if_neg h1]
              have e6 : (cso fO fP zl zh zp zf b nn mm S j).2 + 0 = (cso fO fP zl zh zp zf b nn mm S (j + 1)).2 := by show _ = _ + (if _ then _ else _); rw [if_neg h1]
              rw [e7, e6, nI_1] at hl9
              exact ih (j + 1) (by omega) (by omega) _ _ ls hP hS (lv_sub hl9 [2, 1, 0, 6, 7, 8, 9, 10] rfl)
            · exact absurd rfl c4
          · exact absurd rfl c3
        · have h1 : S / 2 ^ j % 2 = 1 := bit_1 c2
          refine lv_iconst (v := 1) hx hb d_C_costs_99 (by decide) ?_
          refine lv_goto (tgt := 104) hx hb d_C_costs_100 (by decide) ?_
          refine lv_istore (lv' := [(12, .int 1), (11, .int (nI (b - (nn - j - 1) * mm))), (10, .int (nI (b - (nn - j) * mm))), (6, .int ((cso fO fP zl zh zp zf b nn mm S j).1)), (7, .long ((cso fO fP zl zh zp zf b nn mm S j).2)), (9, .int (nI j)), (0, .ref a0), (2, .int (nI nn)), (3, .int (nI mm)), (4, .int (nI S)), (5, .ref za)]) hx hb d_C_costs_104 hl9 (by decide) rfl (fun ls hl9 => ?_)
          refine lv_aload_n hx hb d_C_costs_106 rfl (lv_at hl9 6 rfl) ?_
          refine lv_aload hx hb d_C_costs_107 (lv_at hl9 10 rfl) ?_
          refine lv_iload hx hb d_C_costs_109 (lv_at hl9 3 rfl) ?_
          refine lv_iload hx hb d_C_costs_111 (lv_at hl9 2 rfl) ?_
          refine lv_iload hx hb d_C_costs_113 (lv_at hl9 1 rfl) ?_
          refine lv_iload hx hb d_C_costs_115 (lv_at hl9 0 rfl) ?_
          refine lv_if_eq (tgt := 128) hx hb d_C_costs_117 (by decide) (fun c3 => ?_) (fun c3 => ?_)
          · exact absurd c3 (by decide)
          · refine lv_aload hx hb d_C_costs_120 (lv_at hl9 10 rfl) ?_
            refine va_getN (D := (dC, dI)) (ci := 1) (v := .int zp) (C := R_Z) (T := F_Z) (N := 10) hx hb hG i_Z hown hK hP 4 rfl rfl 3 (by decide) (hE.1.use k_186) (fun _ h9 => h9) rfl d_C_costs_122 ?_
            refine lv_goto (tgt := 129) hx hb d_C_costs_125 (by decide) ?_
            have hPc := hP.sub (ws' := [(a0, .inr (2, [.ref aZ, .int (nI nz), .ref aO, .int orr, .int ol, .int mp, .ref aG, .int pl, .int fa, .int fb, .ref aP, .ref aW, .ref aK])), (aO, .inl (cI, 1440, .inl fO)), (za, .inr (1, [.int zh, .int zl, .int zf, .int zp, .int zr, .int (nI b), .int zw, .ref la, .int zs, .ref wa]))]) [0, 2, 4] rfl
            have hDc := hD.sub (ws' := [(a0, .inr (2, [.ref aZ, .int (nI nz), .ref aO, .int orr, .int ol, .int mp, .ref aG, .int pl, .int fa, .int fb, .ref aP, .ref aW, .ref aK])), (aO, .inl (cI, 1440, .inl fO)), (za, .inr (1, [.int zh, .int zl, .int zf, .int zp, .int zr, .int (nI b), .int zw, .ref la, .int zs, .ref wa]))]) [0, 2, 4] (by decide) rfl
            have hFc := va_A_nil hA hS.1
            refine va_calli (va_runV (C := R_C) (As := [.ref za, .int ((cso fO fP zl zh zp zf b nn mm S j).1), .int (nI (b - (nn - j) * mm)), .int (nI (b - (nn - j - 1) * mm)), .int zp]) (rest := []) ⟨hx, hb, hml, hown, hG⟩ (c_warmthThrough l dC dI cI cJ cZ cB a0 aZ aO aG aP aW aK (nI nz) orr ol mp pl fa fb fO za la wa zh zl zf zp zr (nI b) zw zs ((cso fO fP zl zh zp zf b nn mm S j).1) zp (b - (nn - j) * mm) (b - (nn - j - 1) * mm) H18.size q_mono (by omega) hzl hzh) (cwV 5 hG g_C_154 rfl rfl rfl (by decide +kernel) ⟨Nat.le_of_ble_eq_true rfl, Nat.le_of_ble_eq_true rfl⟩) ⟨PC.blind, va_recv hK hP (ci := 2) (q0 := 0) rfl rfl, PC.of hPc hK hDc hE hS hFc⟩ rfl rfl hl9.1 rfl (lv_room (Nat.le_of_ble_eq_true rfl)) d_C_costs_129 ⟨by first | exact Nat.le_of_ble_eq_true rfl | omega, by first | exact Nat.le_of_ble_eq_true rfl | omega⟩) hS (fun q _ h => hFc q h) hFc (fun r23 u t H22 locs ht hvm hw hB hz1 hk1 hS => ?_)
            have hP := wp_kept hP hk1
            have hw : r23 = wt fO zl zh zp ((cso fO fP zl zh zp zf b nn mm S j).1) (b - (nn - j) * mm) ((b - (nn - j - 1) * mm) - (b - (nn - j) * mm)) := hw
            subst hw
            refine lv_istore (lv' := [(6, .int (wt fO zl zh zp ((cso fO fP zl zh zp zf b nn mm S j).1) (b - (nn - j) * mm) ((b - (nn - j - 1) * mm) - (b - (nn - j) * mm)))), (12, .int 1), (11, .int (nI (b - (nn - j - 1) * mm))), (10, .int (nI (b - (nn - j) * mm))), (7, .long ((cso fO fP zl zh zp zf b nn mm S j).2)), (9, .int (nI j)), (0, .ref a0), (2, .int (nI nn)), (3, .int (nI mm)), (4, .int (nI S)), (5, .ref za)]) hx hb d_C_costs_132 hl9 (by decide) rfl (fun ls hl9 => ?_)
            refine lv_lload hx hb d_C_costs_134 (lv_at hl9 4 rfl) ?_
            refine lv_iload hx hb d_C_costs_136 (lv_at hl9 1 rfl) ?_
            refine lv_if_eq (tgt := 154) hx hb d_C_costs_138 (by decide) (fun c4 => ?_) (fun c4 => ?_)
            · exact absurd c4 (by decide)
            · refine lv_aload_n hx hb d_C_costs_141 rfl (lv_at hl9 6 rfl) ?_
              refine lv_aload hx hb d_C_costs_142 (lv_at hl9 10 rfl) ?_
              refine lv_iload hx hb d_C_costs_144 (lv_at hl9 3 rfl) ?_
              refine lv_iload hx hb d_C_costs_146 (lv_at hl9 2 rfl) ?_
              have hPc := hP.sub (ws' := [(a0, .inr (2, [.ref aZ, .int (nI nz), .ref aO, .int orr, .int ol, .int mp, .ref aG, .int pl, .int fa, .int fb, .ref aP, .ref aW, .ref aK])), (aP, .inl (cI, 24, .inl fP)), (za, .inr (1, [.int zh, .int zl, .int zf, .int zp, .int zr, .int (nI b), .int zw, .ref la, .int zs, .ref wa]))]) [0, 3, 4] rfl
              have hDc := hD.sub (ws' := [(a0, .inr (2, [.ref aZ, .int (nI nz), .ref aO, .int orr, .int ol, .int mp, .ref aG, .int pl, .int fa, .int fb, .ref aP, .ref aW, .ref aK])), (aP, .inl (cI, 24, .inl fP)), (za, .inr (1, [.int zh, .int zl, .int zf, .int zp, .int zr, .int (nI b), .int zw, .ref la, .int zs, .ref wa]))]) [0, 3, 4] (by decide) rfl
              have hFc := va_A_nil hA hS.1
              refine va_calll (va_runV (C := R_C) (As := [.ref za, .int (nI (b - (nn - j) * mm)), .int (nI (b - (nn - j - 1) * mm))]) (rest := [.long ((cso fO fP zl zh zp zf b nn mm S j).2)]) ⟨hx, hb, hml, hown, hG⟩ (c_costOfMinutes l dC dI cI cJ cZ cB a0 aZ aO aG aP aW aK (nI nz) orr ol mp pl fa fb fP za la wa zh zl zf zp zr (nI b) zw zs (b - (nn - j) * mm) (b - (nn - j - 1) * mm) H22.size q_mono (by omega)) (cwV 3 hG g_C_158 rfl rfl rfl (by decide +kernel) ⟨Nat.le_of_ble_eq_true rfl, Nat.le_of_ble_eq_true rfl⟩) ⟨PC.blind, va_recv hK hP (ci := 2) (q0 := 0) rfl rfl, PC.of hPc hK hDc hE hS hFc⟩ rfl rfl hl9.1 rfl (lv_room (Nat.le_of_ble_eq_true rfl)) d_C_costs_148 ⟨by first | exact Nat.le_of_ble_eq_true rfl | omega, by first | exact Nat.le_of_ble_eq_true rfl | omega⟩) hS (fun q _ h => hFc q h) hFc (fun r25 u t H24 locs ht hvm hw hB hz1 hk1 hS => ?_)
              have hP := wp_kept hP hk1
              have hw : r25 = cm fP zp (b - (nn - j) * mm) ((b - (nn - j - 1) * mm) - (b - (nn - j) * mm)) := hw
              subst hw
              refine lv_goto (tgt := 155) hx hb d_C_costs_151 (by decide) ?_
              refine lv_ladd hx hb d_C_costs_155 ?_
              refine lv_lstore (lv' := [(7, .long (((cso fO fP zl zh zp zf b nn mm S j).2) + (cm fP zp (b - (nn - j) * mm) ((b - (nn - j - 1) * mm) - (b - (nn - j) * mm))))), (6, .int (wt fO zl zh zp ((cso fO fP zl zh zp zf b nn mm S j).1) (b - (nn - j) * mm) ((b - (nn - j - 1) * mm) - (b - (nn - j) * mm)))), (12, .int 1), (11, .int (nI (b - (nn - j - 1) * mm))), (10, .int (nI (b - (nn - j) * mm))), (9, .int (nI j)), (0, .ref a0), (2, .int (nI nn)), (3, .int (nI mm)), (4, .int (nI S)), (5, .ref za)]) hx hb d_C_costs_156 hl9 (by decide) rfl (fun ls hl9 => ?_)
              refine lv_iinc (v := ((nI j) + 1)) (lv' := [(9, .int ((nI j) + 1)), (7, .long (((cso fO fP zl zh zp zf b nn mm S j).2) + (cm fP zp (b - (nn - j) * mm) ((b - (nn - j - 1) * mm) - (b - (nn - j) * mm))))), (6, .int (wt fO zl zh zp ((cso fO fP zl zh zp zf b nn mm S j).1) (b - (nn - j) * mm) ((b - (nn - j - 1) * mm) - (b - (nn - j) * mm)))), (12, .int 1), (11, .int (nI (b - (nn - j - 1) * mm))), (10, .int (nI (b - (nn - j) * mm))), (0, .ref a0), (2, .int (nI nn)), (3, .int (nI mm)), (4, .int (nI S)), (5, .ref za)]) hx hb d_C_costs_158 hl9 (k := 5) rfl rfl (by decide) rfl (fun ls hl9 => ?_)
              refine lv_goto (tgt := 56) hx hb d_C_costs_161 (by decide) ?_
              have e7 : wt fO zl zh zp (cso fO fP zl zh zp zf b nn mm S j).1 (b - (nn - j) * mm) ((b - (nn - j - 1) * mm) - (b - (nn - j) * mm)) = (cso fO fP zl zh zp zf b nn mm S (j + 1)).1 := by show _ = wt fO zl zh (if _ then _ else _) _ _ _; rw [if_pos h1]
              have e6 : (cso fO fP zl zh zp zf b nn mm S j).2 + cm fP zp (b - (nn - j) * mm) ((b - (nn - j - 1) * mm) - (b - (nn - j) * mm)) = (cso fO fP zl zh zp zf b nn mm S (j + 1)).2 := by show _ = _ + (if _ then _ else _); rw [if_pos h1]
              rw [e7, e6, nI_1] at hl9
              exact ih (j + 1) (by omega) (by omega) _ _ ls hP hS (lv_sub hl9 [2, 1, 0, 6, 7, 8, 9, 10] rfl)
  exact lp (nn + 1) 0 (Nat.zero_le _) (by omega) _ _ ls hP hS (lv_sub hl9 [2, 1, 0, 4, 6, 7, 8, 3] rfl)
