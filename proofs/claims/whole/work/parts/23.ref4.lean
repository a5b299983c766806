/-- the outside in minute t, by the first k rows -/
def fo (rM rT : Nat → Int32) (t : Nat) : Nat → Int32
  | 0 => 0
  | k + 1 => if rM k ≤ nI t then rT k else fo rM rT t k
def foA (rO rM rT : Nat → Int32) (nr : Nat) : Nat → Nat → Int32
  | 0 => rO
  | t + 1 => upd (foA rO rM rT nr t) t (fo rM rT t nr)
/-- what a zone gets in a minute, by what is left -/
def hn (F : Nat → Int32) (zp : Int32) (k : Nat) : Int32 := if zp < F k then zp else F k
/-- heated from minute a on, n minutes -/
def wj (o F : Nat → Int32) (L hd zp x : Int32) (a : Nat) : Nat → Int32
  | 0 => x
  | n + 1 => wj o F L hd zp x a n + (o (a + n) - wj o F L hd zp x a n) / L + hn F zp (a + n) / hd
theorem g_M_124 : GoodIn GG (wsS R_M 124 y_M_divisor w_M_divisor) := goodG (List.forall_mem_append.mpr ⟨List.forall_mem_cons.mpr ⟨k_605, List.forall_mem_cons.mpr ⟨k_606, List.forall_mem_cons.mpr ⟨k_2, fun _ h => absurd h List.not_mem_nil⟩⟩⟩, List.forall_mem_cons.mpr ⟨k_607, fun _ h => h⟩⟩)
theorem g_M_103 : GoodIn GG (wsV R_M 103 R_M y_M_heatIn w_M_heatIn) := goodG (List.forall_mem_append.mpr ⟨List.forall_mem_cons.mpr ⟨k_577, List.forall_mem_cons.mpr ⟨k_579, List.forall_mem_cons.mpr ⟨ks_26, List.forall_mem_cons.mpr ⟨k_2, fun _ h => absurd h List.not_mem_nil⟩⟩⟩⟩, List.forall_mem_cons.mpr ⟨k_580, fun _ h => h⟩⟩)
theorem g_M_107 : GoodIn GG (wsV R_M 107 R_M y_M_stepped w_M_stepped) := goodG (List.forall_mem_append.mpr ⟨List.forall_mem_cons.mpr ⟨k_569, List.forall_mem_cons.mpr ⟨k_571, List.forall_mem_cons.mpr ⟨ks_24, List.forall_mem_cons.mpr ⟨k_2, fun _ h => absurd h List.not_mem_nil⟩⟩⟩⟩, List.forall_mem_cons.mpr ⟨k_572, fun _ h => h⟩⟩)
set_option maxHeartbeats 4000000 in
set_option maxRecDepth 100000 in
theorem m_day1 (l : Launch) (dC : Nat → ClassId) (dI : Nat → Nat → Nat) (cI cJ cZ cB : ClassId) (m0 mH mL mB mP mR mA mW mU mV mM mT mQ mO mF mS mE mX mD : Nat) (th zn rw mc ga gb kn : Int32) (rU rV : Nat → Int64) (nz k : Nat) (mn : Int32) (x1 y1 g1 : Int64) (N1 : Nat) (sz : Nat) (hk : k < nz) (hn : nz ≤ 6) (hmn : ¬ (mn < (-1440) ∨ 1440 < mn)) (hx1 : rU k * (gb - ga).toInt64 + mn.toInt64 * rV k * ga.toInt64 = x1) (hy1 : rV k * gb.toInt64 = y1) (hd1 : dvR N1 (dabs x1) y1 g1) (hn1 : ¬ g1 = 0) (hbig : y1 / g1 ≤ 1000000000) : Met l y_M_day w_M_day ({ frames := 1, cells := 0, slots := 0, locals := 29 }) (PC (dC, dI) (TY cI cJ cZ cB) [.ref m0, .int (nI k), .int mn] [(m0, .inr (3, [.int th, .int (nI nz), .ref mH, .ref mL, .ref mB, .ref mP, .ref mR, .ref mA, .ref mW, .ref mU, .ref mV, .int rw, .ref mM, .ref mT, .int mc, .ref mQ, .int ga, .int gb, .int kn, .ref mO, .ref mF, .ref mS, .ref mE, .ref mX, .ref mD])), (mU, .inl (cJ, 6, .inr (.inl rU))), (mV, .inl (cJ, 6, .inr (.inl rV)))] sz (va_A [(m0, .inr (3, [.int th, .int (nI nz), .ref mH, .ref mL, .ref mB, .ref mP, .ref mR, .ref mA, .ref mW, .ref mU, .ref mV, .int rw, .ref mM, .ref mT, .int mc, .ref mQ, .int ga, .int gb, .int kn, .ref mO, .ref mF, .ref mS, .ref mE, .ref mX, .ref mD])), (mU, .inl (cJ, 6, .inr (.inl rU))), (mV, .inl (cJ, 6, .inr (.inl rV)))] sz)) (va_Qv (fun (_ : Unit) => True) (fun (_ : Unit) (t : State) => va_P (dC, dI) vwCl [(m0, .inr (3, [.int 0, .int (nI nz), .ref mH, .ref mL, .ref mB, .ref mP, .ref mR, .ref mA, .ref mW, .ref mU, .ref mV, .int rw, .ref mM, .ref mT, .int mc, .ref mQ, .int ga, .int gb, .int kn, .ref mO, .ref mF, .ref mS, .ref mE, .ref mX, .ref mD])), (mU, .inl (cJ, 6, .inr (.inl (vp_updL rU k (x1 / g1))))), (mV, .inl (cJ, 6, .inr (.inl (vp_updL rV k (y1 / g1)))))] t.heap) (va_A [(m0, .inr (3, [.int th, .int (nI nz), .ref mH, .ref mL, .ref mB, .ref mP, .ref mR, .ref mA, .ref mW, .ref mU, .ref mV, .int rw, .ref mM, .ref mT, .int mc, .ref mQ, .int ga, .int gb, .int kn, .ref mO, .ref mF, .ref mS, .ref mE, .ref mX, .ref mD])), (mU, .inl (cJ, 6, .inr (.inl rU))), (mV, .inl (cJ, 6, .inr (.inl rV)))] sz)) 0 0 (va_A [(m0, .inr (3, [.int th, .int (nI nz), .ref mH, .ref mL, .ref mB, .ref mP, .ref mR, .ref mA, .ref mW, .ref mU, .ref mV, .int rw, .ref mM, .ref mT, .int mc, .ref mQ, .int ga, .int gb, .int kn, .ref mO, .ref mF, .ref mS, .ref mE, .ref mX, .ref mD])), (mU, .inl (cJ, 6, .inr (.inl rU))), (mV, .inl (cJ, 6, .inr (.inl rV)))] sz) := by
  refine Met.ofW (cc := b_M_day) (maxL := 9) (ret := none) (by decide) rfl ?_
  intro p e s m args below meth c s₁ B hml hv
  obtain ⟨rfl, hsz, hP, hK, hD0, hE⟩ := hv
  have hx := B.exec
  have hb := B.bytes
  have hr := B.returns
  have hG : ∀ w ∈ GG, w.before _ s = true := fun w h => atoms_spec (ws := w_M_day) B.pre w (List.mem_cons_of_mem _ h)
  have hown : s.vm.findClass R_M = some m.cls := findClass_of_methodNamed B.named
  have hlocks := B.notSynchronized
  subst hsz
  have hD := hD0.self (sz := s.heap.size)
  generalize hAe : (va_A [(m0, .inr (3, [.int th, .int (nI nz), .ref mH, .ref mL, .ref mB, .ref mP, .ref mR, .ref mA, .ref mW, .ref mU, .ref mV, .int rw, .ref mM, .ref mT, .int mc, .ref mQ, .int ga, .int gb, .int kn, .ref mO, .ref mF, .ref mS, .ref mE, .ref mX, .ref mD])), (mU, .inl (cJ, 6, .inr (.inl rU))), (mV, .inl (cJ, 6, .inr (.inl rV)))] s.heap.size) = A at hD hE ⊢
  have hA : ∀ q : Nat, s.heap.size ≤ q → A q := fun q h => by rw [← hAe]; exact Or.inr h
  have hS : va_S A s.heap s.heap [] := va_S.rf
  obtain ⟨H, hH⟩ : ∃ z, z = s.heap := ⟨_, rfl⟩
  rw [← hH] at hP
  have hS : va_S A s.heap H [] := by rw [hH]; exact hS
  rw [← hH]
  have hl9 := lv_entry ([.ref m0, .int (nI k), .int mn]) (n := 9) (Nat.le_of_ble_eq_true rfl)
  rw [lg_entry_eq]
  generalize (lg_sl ([.ref m0, .int (nI k), .int mn]) ++ List.replicate (9 - (lg_sl ([.ref m0, .int (nI k), .int mn])).length) Slot.unset).toArray = ls at hl9 ⊢
  have hl9 : lv_has ls 9 [(0, .ref m0), (1, .int (nI k)), (2, .int mn)] := hl9
  have hin : vp_in (nI k) 6 := vp_in_nI (by omega) (by decide)
  refine lv_aload_n hx hb d_M_day_0 rfl (lv_at hl9 0 rfl) ?_
  refine lv_iconst (v := 0) hx hb d_M_day_1 (by decide) ?_
  refine va_put (D := (dC, dI)) (ci := 3) (v := .int 0) (ty := .int) (C := R_M) (T := F_M) (N := 25) hx hb hG i_M t_M t_M_ok n_M hown hK hP hD hS 0 rfl rfl 0 (by decide) (hG _ k_440) (fun _ h9 => h9) rfl (by decide +kernel) rfl rfl (Nat.le_of_ble_eq_true rfl) d_M_day_2 (fun H locs hP hD hS => ?_)
  have hP : va_P (dC, dI) vwCl [(m0, .inr (3, [.int 0, .int (nI nz), .ref mH, .ref mL, .ref mB, .ref mP, .ref mR, .ref mA, .ref mW, .ref mU, .ref mV, .int rw, .ref mM, .ref mT, .int mc, .ref mQ, .int ga, .int gb, .int kn, .ref mO, .ref mF, .ref mS, .ref mE, .ref mX, .ref mD])), (mU, .inl (cJ, 6, .inr (.inl rU))), (mV, .inl (cJ, 6, .inr (.inl rV)))] H := hP
  have hD : va_D A [(m0, .inr (3, [.int 0, .int (nI nz), .ref mH, .ref mL, .ref mB, .ref mP, .ref mR, .ref mA, .ref mW, .ref mU, .ref mV, .int rw, .ref mM, .ref mT, .int mc, .ref mQ, .int ga, .int gb, .int kn, .ref mO, .ref mF, .ref mS, .ref mE, .ref mX, .ref mD])), (mU, .inl (cJ, 6, .inr (.inl rU))), (mV, .inl (cJ, 6, .inr (.inl rV)))] := hD
  refine lv_aload_n hx hb d_M_day_5 rfl (lv_at hl9 0 rfl) ?_
  refine lv_aload_n hx hb d_M_day_6 rfl (lv_at hl9 0 rfl) ?_
  refine lv_iload_n hx hb d_M_day_7 rfl (lv_at hl9 1 rfl) ?_
  have hPc := hP.sub (ws' := [(m0, .inr (3, [.int 0, .int (nI nz), .ref mH, .ref mL, .ref mB, .ref mP, .ref mR, .ref mA, .ref mW, .ref mU, .ref mV, .int rw, .ref mM, .ref mT, .int mc, .ref mQ, .int ga, .int gb, .int kn, .ref mO, .ref mF, .ref mS, .ref mE, .ref mX, .ref mD]))]) [0] rfl
  have hDc := hD.sub (ws' := [(m0, .inr (3, [.int 0, .int (nI nz), .ref mH, .ref mL, .ref mB, .ref mP, .ref mR, .ref mA, .ref mW, .ref mU, .ref mV, .int rw, .ref mM, .ref mT, .int mc, .ref mQ, .int ga, .int gb, .int kn, .ref mO, .ref mF, .ref mS, .ref mE, .ref mX, .ref mD]))]) [0] (by decide) rfl
  have hFc := va_A_nil hA hS.1
  refine va_calli (va_runV (C := R_M) (As := [.int (nI k)]) (rest := [.ref m0]) ⟨hx, hb, hml, hown, hG⟩ (m_isZone l dC dI cI cJ cZ cB m0 mH mL mB mP mR mA mW mU mV mM mT mQ mO mF mS mE mX mD 0 (nI nz) rw mc ga gb kn (nI k) H.size ) (cwV 1 hG g_M_95 rfl rfl rfl (by decide +kernel) ⟨Nat.le_of_ble_eq_true rfl, Nat.le_of_ble_eq_true rfl⟩) ⟨PC.blind, va_recv hK hP (ci := 3) (q0 := 0) rfl rfl, PC.of hPc hK hDc hE hS hFc⟩ rfl rfl hl9.1 rfl (lv_room (Nat.le_of_ble_eq_true rfl)) d_M_day_8 ⟨by first | exact Nat.le_of_ble_eq_true rfl | omega, by first | exact Nat.le_of_ble_eq_true rfl | omega⟩) hS (fun q _ h => hFc q h) hFc (fun r2 u t H1 locs ht hvm hw hB hz1 hk1 hS => ?_)
  have hP := wp_kept hP hk1
  have hw : r2 = if ¬ ((nI k) < 0 ∨ (nI nz) ≤ (nI k)) then 1 else 0 := hw
  subst hw
  rw [iz_1 hk hn]
  refine lv_if_eq (tgt := 27) hx hb d_M_day_11 (by decide) (fun c3 => absurd c3 (by decide)) (fun c3 => ?_)
  refine lv_iload_n hx hb d_M_day_14 rfl (lv_at hl9 2 rfl) ?_
  refine lv_sipush (v := (-1440)) hx hb d_M_day_15 (by decide) ?_
  refine lv_sipush (v := 1440) hx hb d_M_day_18 (by decide) ?_
  have hPc := hP.sub (ws' := []) [] rfl
  have hDc := hD.sub (ws' := []) [] (by decide) rfl
  have hFc := va_A_nil hA hS.1
  refine va_calli (va_runS (As := [.int mn, .int (-1440), .int 1440]) (rest := [.ref m0]) ⟨hx, hb, hml, hown, hG⟩ (m_within l dC dI cI cJ cZ cB mn (-1440) 1440 H1.size ) (cwS 3 hG g_M_83 rfl rfl rfl (by decide +kernel) ⟨Nat.le_of_ble_eq_true rfl, Nat.le_of_ble_eq_true rfl⟩) ⟨PC.blind, PC.of hPc hK hDc hE hS hFc⟩ rfl rfl hl9.1 rfl (lv_room (Nat.le_of_ble_eq_true rfl)) d_M_day_21 ⟨by first | exact Nat.le_of_ble_eq_true rfl | omega, by first | exact Nat.le_of_ble_eq_true rfl | omega⟩) hS (fun q _ h => hFc q h) hFc (fun r5 u t H4 locs ht hvm hw hB hz1 hk1 hS => ?_)
  have hP := wp_kept hP hk1
  have hw : r5 = if ¬ (mn < (-1440) ∨ 1440 < mn) then 1 else 0 := hw
  subst hw
  rw [wi_1 hmn]
  refine lv_if_ne (tgt := 31) hx hb d_M_day_24 (by decide) (fun c6 => ?_) (fun c6 => absurd c6 (by decide))
  refine lv_iconst (v := 0) hx hb d_M_day_31 (by decide) ?_
  refine lv_iconst (v := 1) hx hb d_M_day_32 (by decide) ?_
  have hPc := hP.sub (ws' := [(m0, .inr (3, [.int 0, .int (nI nz), .ref mH, .ref mL, .ref mB, .ref mP, .ref mR, .ref mA, .ref mW, .ref mU, .ref mV, .int rw, .ref mM, .ref mT, .int mc, .ref mQ, .int ga, .int gb, .int kn, .ref mO, .ref mF, .ref mS, .ref mE, .ref mX, .ref mD]))]) [0] rfl
  have hDc := hD.sub (ws' := [(m0, .inr (3, [.int 0, .int (nI nz), .ref mH, .ref mL, .ref mB, .ref mP, .ref mR, .ref mA, .ref mW, .ref mU, .ref mV, .int rw, .ref mM, .ref mT, .int mc, .ref mQ, .int ga, .int gb, .int kn, .ref mO, .ref mF, .ref mS, .ref mE, .ref mX, .ref mD]))]) [0] (by decide) rfl
  have hFc := va_free (wc := [(m0, .inr (3, [.int 0, .int (nI nz), .ref mH, .ref mL, .ref mB, .ref mP, .ref mR, .ref mA, .ref mW, .ref mU, .ref mV, .int rw, .ref mM, .ref mT, .int mc, .ref mQ, .int ga, .int gb, .int kn, .ref mO, .ref mF, .ref mS, .ref mE, .ref mX, .ref mD]))]) hD hS hA [0] rfl
  refine va_calli (va_runV (C := R_M) (As := [.int 0, .int 1]) (rest := []) ⟨hx, hb, hml, hown, hG⟩ (m_fails001 l dC dI cI cJ cZ cB m0 mH mL mB mP mR mA mW mU mV mM mT mQ mO mF mS mE mX mD (nI nz) rw mc ga gb kn H4.size ) (cwV 2 hG g_M_87 rfl rfl rfl (by decide +kernel) ⟨Nat.le_of_ble_eq_true rfl, Nat.le_of_ble_eq_true rfl⟩) ⟨PC.blind, va_recv hK hP (ci := 3) (q0 := 0) rfl rfl, PC.of hPc hK hDc hE hS hFc⟩ rfl rfl hl9.1 rfl (lv_room (Nat.le_of_ble_eq_true rfl)) d_M_day_33 ⟨by first | exact Nat.le_of_ble_eq_true rfl | omega, by first | exact Nat.le_of_ble_eq_true rfl | omega⟩) hS (fun q _ h => hFc q h) hFc (fun r8 u t H7 locs ht hvm hw hB hz1 hk1 hS => ?_)
  rw [ht] at hB
  obtain ⟨hP, hD⟩ := jset (wc := [(m0, .inr (3, [.int 0, .int (nI nz), .ref mH, .ref mL, .ref mB, .ref mP, .ref mR, .ref mA, .ref mW, .ref mU, .ref mV, .int rw, .ref mM, .ref mT, .int mc, .ref mQ, .int ga, .int gb, .int kn, .ref mO, .ref mF, .ref mS, .ref mE, .ref mX, .ref mD]))]) (w1 := [(m0, .inr (3, [.int 0, .int (nI nz), .ref mH, .ref mL, .ref mB, .ref mP, .ref mR, .ref mA, .ref mW, .ref mU, .ref mV, .int rw, .ref mM, .ref mT, .int mc, .ref mQ, .int ga, .int gb, .int kn, .ref mO, .ref mF, .ref mS, .ref mE, .ref mX, .ref mD]))]) [0] rfl rfl hP hD hk1 hB
  have hP : va_P (dC, dI) vwCl [(m0, .inr (3, [.int 0, .int (nI nz), .ref mH, .ref mL, .ref mB, .ref mP, .ref mR, .ref mA, .ref mW, .ref mU, .ref mV, .int rw, .ref mM, .ref mT, .int mc, .ref mQ, .int ga, .int gb, .int kn, .ref mO, .ref mF, .ref mS, .ref mE, .ref mX, .ref mD])), (mU, .inl (cJ, 6, .inr (.inl rU))), (mV, .inl (cJ, 6, .inr (.inl rV)))] H7 := hP
  have hD : va_D A [(m0, .inr (3, [.int 0, .int (nI nz), .ref mH, .ref mL, .ref mB, .ref mP, .ref mR, .ref mA, .ref mW, .ref mU, .ref mV, .int rw, .ref mM, .ref mT, .int mc, .ref mQ, .int ga, .int gb, .int kn, .ref mO, .ref mF, .ref mS, .ref mE, .ref mX, .ref mD])), (mU, .inl (cJ, 6, .inr (.inl rU))), (mV, .inl (cJ, 6, .inr (.inl rV)))] := hD
  have hw : r8 = 0 := hw
  subst hw
  refine lv_if_eq (tgt := 40) hx hb d_M_day_36 (by decide) (fun c7 => ?_) (fun c7 => absurd c7 (by decide))
  refine lv_aload_n hx hb d_M_day_40 rfl (lv_at hl9 0 rfl) ?_
  refine va_get (D := (dC, dI)) (ci := 3) (v := .ref mU) (C := R_M) (T := F_M) (N := 25) hx hb hG i_M hown hK hP 0 rfl rfl 9 (by decide) (hG _ k_449) (fun _ h9 => h9) rfl d_M_day_41 ?_
  refine lv_iload_n hx hb d_M_day_44 rfl (lv_at hl9 1 rfl) ?_
  refine va_lald hx hb hK hP 1 1 rfl rfl (hin) d_M_day_45 ?_
  rw [nI_clamp (n := k) (by omega)]
  refine lv_aload_n hx hb d_M_day_46 rfl (lv_at hl9 0 rfl) ?_
  refine va_get (D := (dC, dI)) (ci := 3) (v := .int gb) (C := R_M) (T := F_M) (N := 25) hx hb hG i_M hown hK hP 0 rfl rfl 17 (by decide) (hG _ k_457) (fun _ h9 => h9) rfl d_M_day_47 ?_
  refine lv_aload_n hx hb d_M_day_50 rfl (lv_at hl9 0 rfl) ?_
  refine va_get (D := (dC, dI)) (ci := 3) (v := .int ga) (C := R_M) (T := F_M) (N := 25) hx hb hG i_M hown hK hP 0 rfl rfl 16 (by decide) (hG _ k_456) (fun _ h9 => h9) rfl d_M_day_51 ?_
  refine lv_isub hx hb d_M_day_54 ?_
  refine lv_i2l hx hb d_M_day_55 rfl ?_
  refine lv_lmul hx hb d_M_day_56 ?_
  refine lv_iload_n hx hb d_M_day_57 rfl (lv_at hl9 2 rfl) ?_
  refine lv_i2l hx hb d_M_day_58 rfl ?_
  refine lv_aload_n hx hb d_M_day_59 rfl (lv_at hl9 0 rfl) ?_
  refine va_get (D := (dC, dI)) (ci := 3) (v := .ref mV) (C := R_M) (T := F_M) (N := 25) hx hb hG i_M hown hK hP 0 rfl rfl 10 (by decide) (hG _ k_450) (fun _ h9 => h9) rfl d_M_day_60 ?_
  refine lv_iload_n hx hb d_M_day_63 rfl (lv_at hl9 1 rfl) ?_
  refine va_lald hx hb hK hP 2 1 rfl rfl (hin) d_M_day_64 ?_
  rw [nI_clamp (n := k) (by omega)]
  refine lv_lmul hx hb d_M_day_65 ?_
  refine lv_aload_n hx hb d_M_day_66 rfl (lv_at hl9 0 rfl) ?_
  refine va_get (D := (dC, dI)) (ci := 3) (v := .int ga) (C := R_M) (T := F_M) (N := 25) hx hb hG i_M hown hK hP 0 rfl rfl 16 (by decide) (hG _ k_456) (fun _ h9 => h9) rfl d_M_day_67 ?_
  refine lv_i2l hx hb d_M_day_70 rfl ?_
  refine lv_lmul hx hb d_M_day_71 ?_
  refine lv_ladd hx hb d_M_day_72 ?_
  rw [hx1]
  refine lv_lstore_n (lv' := [(3, .long x1), (0, .ref m0), (1, .int (nI k)), (2, .int mn)]) hx hb d_M_day_73 rfl hl9 (by decide) rfl (fun ls hl9 => ?_)
  refine lv_aload_n hx hb d_M_day_74 rfl (lv_at hl9 1 rfl) ?_
  refine va_get (D := (dC, dI)) (ci := 3) (v := .ref mV) (C := R_M) (T := F_M) (N := 25) hx hb hG i_M hown hK hP 0 rfl rfl 10 (by decide) (hG _ k_450) (fun _ h9 => h9) rfl d_M_day_75 ?_
  refine lv_iload_n hx hb d_M_day_78 rfl (lv_at hl9 2 rfl) ?_
  refine va_lald hx hb hK hP 2 1 rfl rfl (hin) d_M_day_79 ?_
  rw [nI_clamp (n := k) (by omega)]
  refine lv_aload_n hx hb d_M_day_80 rfl (lv_at hl9 1 rfl) ?_
  refine va_get (D := (dC, dI)) (ci := 3) (v := .int gb) (C := R_M) (T := F_M) (N := 25) hx hb hG i_M hown hK hP 0 rfl rfl 17 (by decide) (hG _ k_457) (fun _ h9 => h9) rfl d_M_day_81 ?_
  refine lv_i2l hx hb d_M_day_84 rfl ?_
  refine lv_lmul hx hb d_M_day_85 ?_
  rw [hy1]
  refine lv_lstore (lv' := [(5, .long y1), (3, .long x1), (0, .ref m0), (1, .int (nI k)), (2, .int mn)]) hx hb d_M_day_86 hl9 (by decide) rfl (fun ls hl9 => ?_)
  refine lv_lload_n hx hb d_M_day_88 rfl (lv_at hl9 1 rfl) ?_
  refine lv_lload hx hb d_M_day_89 (lv_at hl9 0 rfl) ?_
  have hPc := hP.sub (ws' := []) [] rfl
  have hDc := hD.sub (ws' := []) [] (by decide) rfl
  have hFc := va_A_nil hA hS.1
  refine va_calll (va_runS (As := [.long x1, .long y1]) (rest := []) ⟨hx, hb, hml, hown, hG⟩ (m_divisor l dC dI cI cJ cZ cB x1 y1 g1 N1 H7.size hd1) (cwS 2 hG g_M_124 rfl rfl rfl (by decide +kernel) ⟨Nat.le_of_ble_eq_true rfl, Nat.le_of_ble_eq_true rfl⟩) ⟨PC.blind, PC.of hPc hK hDc hE hS hFc⟩ rfl rfl hl9.1 rfl (lv_room (Nat.le_of_ble_eq_true rfl)) d_M_day_91 ⟨by first | exact Nat.le_of_ble_eq_true rfl | omega, by first | exact Nat.le_of_ble_eq_true rfl | omega⟩) hS (fun q _ h => hFc q h) hFc (fun r10 u t H9 locs ht hvm hw hB hz1 hk1 hS => ?_)
  have hP := wp_kept hP hk1
  have hw : r10 = g1 := hw
  rw [hw]
  refine lv_lstore (lv' := [(7, .long g1), (5, .long y1), (3, .long x1), (0, .ref m0), (1, .int (nI k)), (2, .int mn)]) hx hb d_M_day_94 hl9 (by decide) rfl (fun ls hl9 => ?_)
  refine lv_lload hx hb d_M_day_96 (lv_at hl9 1 rfl) ?_
  refine lv_lload hx hb d_M_day_98 (lv_at hl9 0 rfl) ?_
  refine lv_ldiv hx hb d_M_day_100 (hn1) ?_
  refine lv_ldc2 (v := 1000000000) hx hb hown (hG _ k_608) d_M_day_101 ?_
  refine W.lcmp hx hb d_M_day_104 ?_
  refine lv_if_le (tgt := 142) hx hb d_M_day_105 (by decide) (fun c1 => ?_) (fun c1 => absurd c1 (fun h => h ((lg_cmp_le _ _).mpr hbig)))
  refine lv_aload_n hx hb d_M_day_142 rfl (lv_at hl9 3 rfl) ?_
  refine va_get (D := (dC, dI)) (ci := 3) (v := .ref mU) (C := R_M) (T := F_M) (N := 25) hx hb hG i_M hown hK hP 0 rfl rfl 9 (by decide) (hG _ k_449) (fun _ h9 => h9) rfl d_M_day_143 ?_
  refine lv_iload_n hx hb d_M_day_146 rfl (lv_at hl9 4 rfl) ?_
  refine lv_lload_n hx hb d_M_day_147 rfl (lv_at hl9 2 rfl) ?_
  refine lv_lload hx hb d_M_day_148 (lv_at hl9 0 rfl) ?_
  refine lv_ldiv hx hb d_M_day_150 (hn1) ?_
  refine va_last hx hb hK hP hD hS 1 1 rfl rfl (hin) d_M_day_151 (fun H locs hP hD hS => ?_)
  have hP : va_P (dC, dI) vwCl [(m0, .inr (3, [.int 0, .int (nI nz), .ref mH, .ref mL, .ref mB, .ref mP, .ref mR, .ref mA, .ref mW, .ref mU, .ref mV, .int rw, .ref mM, .ref mT, .int mc, .ref mQ, .int ga, .int gb, .int kn, .ref mO, .ref mF, .ref mS, .ref mE, .ref mX, .ref mD])), (mU, .inl (cJ, 6, .inr (.inl (vp_updL rU (nI k).toNatClampNeg (x1 / g1))))), (mV, .inl (cJ, 6, .inr (.inl rV)))] H := hP
  have hD : va_D A [(m0, .inr (3, [.int 0, .int (nI nz), .ref mH, .ref mL, .ref mB, .ref mP, .ref mR, .ref mA, .ref mW, .ref mU, .ref mV, .int rw, .ref mM, .ref mT, .int mc, .ref mQ, .int ga, .int gb, .int kn, .ref mO, .ref mF, .ref mS, .ref mE, .ref mX, .ref mD])), (mU, .inl (cJ, 6, .inr (.inl (vp_updL rU (nI k).toNatClampNeg (x1 / g1))))), (mV, .inl (cJ, 6, .inr (.inl rV)))] := hD
  rw [nI_clamp (n := k) (by omega)] at hP hD
  refine lv_aload_n hx hb d_M_day_152 rfl (lv_at hl9 3 rfl) ?_
  refine va_get (D := (dC, dI)) (ci := 3) (v := .ref mV) (C := R_M) (T := F_M) (N := 25) hx hb hG i_M hown hK hP 0 rfl rfl 10 (by decide) (hG _ k_450) (fun _ h9 => h9) rfl d_M_day_153 ?_
  refine lv_iload_n hx hb d_M_day_156 rfl (lv_at hl9 4 rfl) ?_
  refine lv_lload hx hb d_M_day_157 (lv_at hl9 1 rfl) ?_
  refine lv_lload hx hb d_M_day_159 (lv_at hl9 0 rfl) ?_
  refine lv_ldiv hx hb d_M_day_161 (hn1) ?_
  refine va_last hx hb hK hP hD hS 2 1 rfl rfl (hin) d_M_day_162 (fun H locs hP hD hS => ?_)
  have hP : va_P (dC, dI) vwCl [(m0, .inr (3, [.int 0, .int (nI nz), .ref mH, .ref mL, .ref mB, .ref mP, .ref mR, .ref mA, .ref mW, .ref mU, .ref mV, .int rw, .ref mM, .ref mT, .int mc, .ref mQ, .int ga, .int gb, .int kn, .ref mO, .ref mF, .ref mS, .ref mE, .ref mX, .ref mD])), (mU, .inl (cJ, 6, .inr (.inl (vp_updL rU k (x1 / g1))))), (mV, .inl (cJ, 6, .inr (.inl (vp_updL rV (nI k).toNatClampNeg (y1 / g1)))))] H := hP
  have hD : va_D A [(m0, .inr (3, [.int 0, .int (nI nz), .ref mH, .ref mL, .ref mB, .ref mP, .ref mR, .ref mA, .ref mW, .ref mU, .ref mV, .int rw, .ref mM, .ref mT, .int mc, .ref mQ, .int ga, .int gb, .int kn, .ref mO, .ref mF, .ref mS, .ref mE, .ref mX, .ref mD])), (mU, .inl (cJ, 6, .inr (.inl (vp_updL rU k (x1 / g1))))), (mV, .inl (cJ, 6, .inr (.inl (vp_updL rV (nI k).toNatClampNeg (y1 / g1)))))] := hD
  rw [nI_clamp (n := k) (by omega)] at hP hD
  exact W.vret hx hb hr (fun t ht hW => ⟨⟨(), rfl, trivial, by have h9 := hP; rw [← ht] at h9; exact h9⟩, hS.F ht⟩) hS.2.2 d_M_day_163
set_option maxHeartbeats 4000000 in
set_option maxRecDepth 100000 in
theorem m_day2 (l : Launch) (dC : Nat → ClassId) (dI : Nat → Nat → Nat) (cI cJ cZ cB : ClassId) (m0 mH mL mB mP mR mA mW mU mV mM mT mQ mO mF mS mE mX mD : Nat) (th zn rw mc ga gb kn : Int32) (rU rV : Nat → Int64) (nz k : Nat) (mn : Int32) (x1 y1 g1 : Int64) (N1 : Nat) (x2 g2 : Int64) (N2 : Nat) (sz : Nat) (hk : k < nz) (hn : nz ≤ 6) (hmn : ¬ (mn < (-1440) ∨ 1440 < mn)) (hx1 : rU k * (gb - ga).toInt64 + mn.toInt64 * rV k * ga.toInt64 = x1) (hy1 : rV k * gb.toInt64 = y1) (hd1 : dvR N1 (dabs x1) y1 g1) (hn1 : ¬ g1 = 0) (hbig : ¬ y1 / g1 ≤ 1000000000) (hy0 : ¬ y1 = 0) (hx2 : mill x1 y1 = x2) (hd2 : dvR N2 (dabs x2) 1000000 g2) (hn2 : ¬ g2 = 0) : Met l y_M_day w_M_day ({ frames := 1, cells := 0, slots := 0, locals := 29 }) (PC (dC, dI) (TY cI cJ cZ cB) [.ref m0, .int (nI k), .int mn] [(m0, .inr (3, [.int th, .int (nI nz), .ref mH, .ref mL, .ref mB, .ref mP, .ref mR, .ref mA, .ref mW, .ref mU, .ref mV, .int rw, .ref mM, .ref mT, .int mc, .ref mQ, .int ga, .int gb, .int kn, .ref mO, .ref mF, .ref mS, .ref mE, .ref mX, .ref mD])), (mU, .inl (cJ, 6, .inr (.inl rU))), (mV, .inl (cJ, 6, .inr (.inl rV)))] sz (va_A [(m0, .inr (3, [.int th, .int (nI nz), .ref mH, .ref mL, .ref mB, .ref mP, .ref mR, .ref mA, .ref mW, .ref mU, .ref mV, .int rw, .ref mM, .ref mT, .int mc, .ref mQ, .int ga, .int gb, .int kn, .ref mO, .ref mF, .ref mS, .ref mE, .ref mX, .ref mD])), (mU, .inl (cJ, 6, .inr (.inl rU))), (mV, .inl (cJ, 6, .inr (.inl rV)))] sz)) (va_Qv (fun (_ : Unit) => True) (fun (_ : Unit) (t : State) => va_P (dC, dI) vwCl [(m0, .inr (3, [.int 0, .int (nI nz), .ref mH, .ref mL, .ref mB, .ref mP, .ref mR, .ref mA, .ref mW, .ref mU, .ref mV, .int rw, .ref mM, .ref mT, .int mc, .ref mQ, .int ga, .int gb, .int kn, .ref mO, .ref mF, .ref mS, .ref mE, .ref mX, .ref mD])), (mU, .inl (cJ, 6, .inr (.inl (vp_updL rU k (x2 / g2))))), (mV, .inl (cJ, 6, .inr (.inl (vp_updL rV k (1000000 / g2)))))] t.heap) (va_A [(m0, .inr (3, [.int th, .int (nI nz), .ref mH, .ref mL, .ref mB, .ref mP, .ref mR, .ref mA, .ref mW, .ref mU, .ref mV, .int rw, .ref mM, .ref mT, .int mc, .ref mQ, .int ga, .int gb, .int kn, .ref mO, .ref mF, .ref mS, .ref mE, .ref mX, .ref mD])), (mU, .inl (cJ, 6, .inr (.inl rU))), (mV, .inl (cJ, 6, .inr (.inl rV)))] sz)) 0 0 (va_A [(m0, .inr (3, [.int th, .int (nI nz), .ref mH, .ref mL, .ref mB, .ref mP, .ref mR, .ref mA, .ref mW, .ref mU, .ref mV, .int rw, .ref mM, .ref mT, .int mc, .ref mQ, .int ga, .int gb, .int kn, .ref mO, .ref mF, .ref mS, .ref mE, .ref mX, .ref mD])), (mU, .inl (cJ, 6, .inr (.inl rU))), (mV, .inl (cJ, 6, .inr (.inl rV)))] sz) := by
  refine Met.ofW (cc := b_M_day) (maxL := 9) (ret := none) (by decide) rfl ?_
  intro p e s m args below meth c s₁ B hml hv
  obtain ⟨rfl, hsz, hP, hK, hD0, hE⟩ := hv
  have hx := B.exec
  have hb := B.bytes
  have hr := B.returns
  have hG : ∀ w ∈ GG, w.before _ s = true := fun w h => atoms_spec (ws := w_M_day) B.pre w (List.mem_cons_of_mem _ h)
  have hown : s.vm.findClass R_M = some m.cls := findClass_of_methodNamed B.named
  have hlocks := B.notSynchronized
  subst hsz
  have hD := hD0.self (sz := s.heap.size)
  generalize hAe : (va_A [(m0, .inr (3, [.int th, .int (nI nz), .ref mH, .ref mL, .ref mB, .ref mP, .ref mR, .ref mA, .ref mW, .ref mU, .ref mV, .int rw, .ref mM, .ref mT, .int mc, .ref mQ, .int ga, .int gb, .int kn, .ref mO, .ref mF, .ref mS, .ref mE, .ref mX, .ref mD])), (mU, .inl (cJ, 6, .inr (.inl rU))), (mV, .inl (cJ, 6, .inr (.inl rV)))] s.heap.size) = A at hD hE ⊢
  have hA : ∀ q : Nat, s.heap.size ≤ q → A q := fun q h => by rw [← hAe]; exact Or.inr h
  have hS : va_S A s.heap s.heap [] := va_S.rf
  obtain ⟨H, hH⟩ : ∃ z, z = s.heap := ⟨_, rfl⟩
  rw [← hH] at hP
  have hS : va_S A s.heap H [] := by rw [hH]; exact hS
  rw [← hH]
  have hl9 := lv_entry ([.ref m0, .int (nI k), .int mn]) (n := 9) (Nat.le_of_ble_eq_true rfl)
  rw [lg_entry_eq]
  generalize (lg_sl ([.ref m0, .int (nI k), .int mn]) ++ List.replicate (9 - (lg_sl ([.ref m0, .int (nI k), .int mn])).length) Slot.unset).toArray = ls at hl9 ⊢
  have hl9 : lv_has ls 9 [(0, .ref m0), (1, .int (nI k)), (2, .int mn)] := hl9
  have hin : vp_in (nI k) 6 := vp_in_nI (by omega) (by decide)
  refine lv_aload_n hx hb d_M_day_0 rfl (lv_at hl9 0 rfl) ?_
  refine lv_iconst (v := 0) hx hb d_M_day_1 (by decide) ?_
  refine va_put (D := (dC, dI)) (ci := 3) (v := .int 0) (ty := .int) (C := R_M) (T := F_M) (N := 25) hx hb hG i_M t_M t_M_ok n_M hown hK hP hD hS 0 rfl rfl 0 (by decide) (hG _ k_440) (fun _ h9 => h9) rfl (by decide +kernel) rfl rfl (Nat.le_of_ble_eq_true rfl) d_M_day_2 (fun H locs hP hD hS => ?_)
  have hP : va_P (dC, dI) vwCl [(m0, .inr (3, [.int 0, .int (nI nz), .ref mH, .ref mL, .ref mB, .ref mP, .ref mR, .ref mA, .ref mW, .ref mU, .ref mV, .int rw, .ref mM, .ref mT, .int mc, .ref mQ, .int ga, .int gb, .int kn, .ref mO, .ref mF, .ref mS, .ref mE, .ref mX, .ref mD])), (mU, .inl (cJ, 6, .inr (.inl rU))), (mV, .inl (cJ, 6, .inr (.inl rV)))] H := hP
  have hD : va_D A [(m0, .inr (3, [.int 0, .int (nI nz), .ref mH, .ref mL, .ref mB, .ref mP, .ref mR, .ref mA, .ref mW, .ref mU, .ref mV, .int rw, .ref mM, .ref mT, .int mc, .ref mQ, .int ga, .int gb, .int kn, .ref mO, .ref mF, .ref mS, .ref mE, .ref mX, .ref mD])), (mU, .inl (cJ, 6, .inr (.inl rU))), (mV, .inl (cJ, 6, .inr (.inl rV)))] := hD
  refine lv_aload_n hx hb d_M_day_5 rfl (lv_at hl9 0 rfl) ?_
  refine lv_aload_n hx hb d_M_day_6 rfl (lv_at hl9 0 rfl) ?_
  refine lv_iload_n hx hb d_M_day_7 rfl (lv_at hl9 1 rfl) ?_
  have hPc := hP.sub (ws' := [(m0, .inr (3, [.int 0, .int (nI nz), .ref mH, .ref mL, .ref mB, .ref mP, .ref mR, .ref mA, .ref mW, .ref mU, .ref mV, .int rw, .ref mM, .ref mT, .int mc, .ref mQ, .int ga, .int gb, .int kn, .ref mO, .ref mF, .ref mS, .ref mE, .ref mX, .ref mD]))]) [0] rfl
  have hDc := hD.sub (ws' := [(m0, .inr (3, [.int 0, .int (nI nz), .ref mH, .ref mL, .ref mB, .ref mP, .ref mR, .ref mA, .ref mW, .ref mU, .ref mV, .int rw, .ref mM, .ref mT, .int mc, .ref mQ, .int ga, .int gb, .int kn, .ref mO, .ref mF, .ref mS, .ref mE, .ref mX, .ref mD]))]) [0] (by decide) rfl
  have hFc := va_A_nil hA hS.1
  refine va_calli (va_runV (C := R_M) (As := [.int (nI k)]) (rest := [.ref m0]) ⟨hx, hb, hml, hown, hG⟩ (m_isZone l dC dI cI cJ cZ cB m0 mH mL mB mP mR mA mW mU mV mM mT mQ mO mF mS mE mX mD 0 (nI nz) rw mc ga gb kn (nI k) H.size ) (cwV 1 hG g_M_95 rfl rfl rfl (by decide +kernel) ⟨Nat.le_of_ble_eq_true rfl, Nat.le_of_ble_eq_true rfl⟩) ⟨PC.blind, va_recv hK hP (ci := 3) (q0 := 0) rfl rfl, PC.of hPc hK hDc hE hS hFc⟩ rfl rfl hl9.1 rfl (lv_room (Nat.le_of_ble_eq_true rfl)) d_M_day_8 ⟨by first | exact Nat.le_of_ble_eq_true rfl | omega, by first | exact Nat.le_of_ble_eq_true rfl | omega⟩) hS (fun q _ h => hFc q h) hFc (fun r2 u t H1 locs ht hvm hw hB hz1 hk1 hS => ?_)
  have hP := wp_kept hP hk1
  have hw : r2 = if ¬ ((nI k) < 0 ∨ (nI nz) ≤ (nI k)) then 1 else 0 := hw
  subst hw
  rw [iz_1 hk hn]
  refine lv_if_eq (tgt := 27) hx hb d_M_day_11 (by decide) (fun c3 => absurd c3 (by decide)) (fun c3 => ?_)
  refine lv_iload_n hx hb d_M_day_14 rfl (lv_at hl9 2 rfl) ?_
  refine lv_sipush (v := (-1440)) hx hb d_M_day_15 (by decide) ?_
  refine lv_sipush (v := 1440) hx hb d_M_day_18 (by decide) ?_
  have hPc := hP.sub (ws' := []) [] rfl
  have hDc := hD.sub (ws' := []) [] (by decide) rfl
  have hFc := va_A_nil hA hS.1
  refine va_calli (va_runS (As := [.int mn, .int (-1440), .int 1440]) (rest := [.ref m0]) ⟨hx, hb, hml, hown, hG⟩ (m_within l dC dI cI cJ cZ cB mn (-1440) 1440 H1.size ) (cwS 3 hG g_M_83 rfl rfl rfl (by decide +kernel) ⟨Nat.le_of_ble_eq_true rfl, Nat.le_of_ble_eq_true rfl⟩) ⟨PC.blind, PC.of hPc hK hDc hE hS hFc⟩ rfl rfl hl9.1 rfl (lv_room (Nat.le_of_ble_eq_true rfl)) d_M_day_21 ⟨by first | exact Nat.le_of_ble_eq_true rfl | omega, by first | exact Nat.le_of_ble_eq_true rfl | omega⟩) hS (fun q _ h => hFc q h) hFc (fun r5 u t H4 locs ht hvm hw hB hz1 hk1 hS => ?_)
  have hP := wp_kept hP hk1
  have hw : r5 = if ¬ (mn < (-1440) ∨ 1440 < mn) then 1 else 0 := hw
  subst hw
  rw [wi_1 hmn]
  refine lv_if_ne (tgt := 31) hx hb d_M_day_24 (by decide) (fun c6 => ?_) (fun c6 => absurd c6 (by decide))
  refine lv_iconst (v := 0) hx hb d_M_day_31 (by decide) ?_
  refine lv_iconst (v := 1) hx hb d_M_day_32 (by decide) ?_
  have hPc := hP.sub (ws' := [(m0, .inr (3, [.int 0, .int (nI nz), .ref mH, .ref mL, .ref mB, .ref mP, .ref mR, .ref mA, .ref mW, .ref mU, .ref mV, .int rw, .ref mM, .ref mT, .int mc, .ref mQ, .int ga, .int gb, .int kn, .ref mO, .ref mF, .ref mS, .ref mE, .ref mX, .ref mD]))]) [0] rfl
  have hDc := hD.sub (ws' := [(m0, .inr (3, [.int 0, .int (nI nz), .ref mH, .ref mL, .ref mB, .ref mP, .ref mR, .ref mA, .ref mW, .ref mU, .ref mV, .int rw, .ref mM, .ref mT, .int mc, .ref mQ, .int ga, .int gb, .int kn, .ref mO, .ref mF, .ref mS, .ref mE, .ref mX, .ref mD]))]) [0] (by decide) rfl
  have hFc := va_free (wc := [(m0, .inr (3, [.int 0, .int (nI nz), .ref mH, .ref mL, .ref mB, .ref mP, .ref mR, .ref mA, .ref mW, .ref mU, .ref mV, .int rw, .ref mM, .ref mT, .int mc, .ref mQ, .int ga, .int gb, .int kn, .ref mO, .ref mF, .ref mS, .ref mE, .ref mX, .ref mD]))]) hD hS hA [0] rfl
  refine va_calli (va_runV (C := R_M) (As := [.int 0, .int 1]) (rest := []) ⟨hx, hb, hml, hown, hG⟩ (m_fails001 l dC dI cI cJ cZ cB m0 mH mL mB mP mR mA mW mU mV mM mT mQ mO mF mS mE mX mD (nI nz) rw mc ga gb kn H4.size ) (cwV 2 hG g_M_87 rfl rfl rfl (by decide +kernel) ⟨Nat.le_of_ble_eq_true rfl, Nat.le_of_ble_eq_true rfl⟩) ⟨PC.blind, va_recv hK hP (ci := 3) (q0 := 0) rfl rfl, PC.of hPc hK hDc hE hS hFc⟩ rfl rfl hl9.1 rfl (lv_room (Nat.le_of_ble_eq_true rfl)) d_M_day_33 ⟨by first | exact Nat.le_of_ble_eq_true rfl | omega, by first | exact Nat.le_of_ble_eq_true rfl | omega⟩) hS (fun q _ h => hFc q h) hFc (fun r8 u t H7 locs ht hvm hw hB hz1 hk1 hS => ?_)
  rw [ht] at hB
  obtain ⟨hP, hD⟩ := jset (wc := [(m0, .inr (3, [.int 0, .int (nI nz), .ref mH, .ref mL, .ref mB, .ref mP, .ref mR, .ref mA, .ref mW, .ref mU, .ref mV, .int rw, .ref mM, .ref mT, .int mc, .ref mQ, .int ga, .int gb, .int kn, .ref mO, .ref mF, .ref mS, .ref mE, .ref mX, .ref mD]))]) (w1 := [(m0, .inr (3, [.int 0, .int (nI nz), .ref mH, .ref mL, .ref mB, .ref mP, .ref mR, .ref mA, .ref mW, .ref mU, .ref mV, .int rw, .ref mM, .ref mT, .int mc, .ref mQ, .int ga, .int gb, .int kn, .ref mO, .ref mF, .ref mS, .ref mE, .ref mX, .ref mD]))]) [0] rfl rfl hP hD hk1 hB
  have hP : va_P (dC, dI) vwCl [(m0, .inr (3, [.int 0, .int (nI nz), .ref mH, .ref mL, .ref mB, .ref mP, .ref mR, .ref mA, .ref mW, .ref mU, .ref mV, .int rw, .ref mM, .ref mT, .int mc, .ref mQ, .int ga, .int gb, .int kn, .ref mO, .ref mF, .ref mS, .ref mE, .ref mX, .ref mD])), (mU, .inl (cJ, 6, .inr (.inl rU))), (mV, .inl (cJ, 6, .inr (.inl rV)))] H7 := hP
  have hD : va_D A [(m0, .inr (3, [.int 0, .int (nI nz), .ref mH, .ref mL, .ref mB, .ref mP, .ref mR, .ref mA, .ref mW, .ref mU, .ref mV, .int rw, .ref mM, .ref mT, .int mc, .ref mQ, .int ga, .int gb, .int kn, .ref mO, .ref mF, .ref mS, .ref mE, .ref mX, .ref mD])), (mU, .inl (cJ, 6, .inr (.inl rU))), (mV, .inl (cJ, 6, .inr (.inl rV)))] := hD
  have hw : r8 = 0 := hw
  subst hw
  refine lv_if_eq (tgt := 40) hx hb d_M_day_36 (by decide) (fun c7 => ?_) (fun c7 => absurd c7 (by decide))
  refine lv_aload_n hx hb d_M_day_40 rfl (lv_at hl9 0 rfl) ?_
  refine va_get (D := (dC, dI)) (ci := 3) (v := .ref mU) (C := R_M) (T := F_M) (N := 25) hx hb hG i_M hown hK hP 0 rfl rfl 9 (by decide) (hG _ k_449) (fun _ h9 => h9) rfl d_M_day_41 ?_
  refine lv_iload_n hx hb d_M_day_44 rfl (lv_at hl9 1 rfl) ?_
  refine va_lald hx hb hK hP 1 1 rfl rfl (hin) d_M_day_45 ?_
  rw [nI_clamp (n := k) (by omega)]
  refine lv_aload_n hx hb d_M_day_46 rfl (lv_at hl9 0 rfl) ?_
  refine va_get (D := (dC, dI)) (ci := 3) (v := .int gb) (C := R_M) (T := F_M) (N := 25) hx hb hG i_M hown hK hP 0 rfl rfl 17 (by decide) (hG _ k_457) (fun _ h9 => h9) rfl d_M_day_47 ?_
  refine lv_aload_n hx hb d_M_day_50 rfl (lv_at hl9 0 rfl) ?_
  refine va_get (D := (dC, dI)) (ci := 3) (v := .int ga) (C := R_M) (T := F_M) (N := 25) hx hb hG i_M hown hK hP 0 rfl rfl 16 (by decide) (hG _ k_456) (fun _ h9 => h9) rfl d_M_day_51 ?_
  refine lv_isub hx hb d_M_day_54 ?_
  refine lv_i2l hx hb d_M_day_55 rfl ?_
  refine lv_lmul hx hb d_M_day_56 ?_
  refine lv_iload_n hx hb d_M_day_57 rfl (lv_at hl9 2 rfl) ?_
  refine lv_i2l hx hb d_M_day_58 rfl ?_
  refine lv_aload_n hx hb d_M_day_59 rfl (lv_at hl9 0 rfl) ?_
  refine va_get (D := (dC, dI)) (ci := 3) (v := .ref mV) (C := R_M) (T := F_M) (N := 25) hx hb hG i_M hown hK hP 0 rfl rfl 10 (by decide) (hG _ k_450) (fun _ h9 => h9) rfl d_M_day_60 ?_
  refine lv_iload_n hx hb d_M_day_63 rfl (lv_at hl9 1 rfl) ?_
  refine va_lald hx hb hK hP 2 1 rfl rfl (hin) d_M_day_64 ?_
  rw [nI_clamp (n := k) (by omega)]
  refine lv_lmul hx hb d_M_day_65 ?_
  refine lv_aload_n hx hb d_M_day_66 rfl (lv_at hl9 0 rfl) ?_
  refine va_get (D := (dC, dI)) (ci := 3) (v := .int ga) (C := R_M) (T := F_M) (N := 25) hx hb hG i_M hown hK hP 0 rfl rfl 16 (by decide) (hG _ k_456) (fun _ h9 => h9) rfl d_M_day_67 ?_
  refine lv_i2l hx hb d_M_day_70 rfl ?_
  refine lv_lmul hx hb d_M_day_71 ?_
  refine lv_ladd hx hb d_M_day_72 ?_
  rw [hx1]
  refine lv_lstore_n (lv' := [(3, .long x1), (0, .ref m0), (1, .int (nI k)), (2, .int mn)]) hx hb d_M_day_73 rfl hl9 (by decide) rfl (fun ls hl9 => ?_)
  refine lv_aload_n hx hb d_M_day_74 rfl (lv_at hl9 1 rfl) ?_
  refine va_get (D := (dC, dI)) (ci := 3) (v := .ref mV) (C := R_M) (T := F_M) (N := 25) hx hb hG i_M hown hK hP 0 rfl rfl 10 (by decide) (hG _ k_450) (fun _ h9 => h9) rfl d_M_day_75 ?_
  refine lv_iload_n hx hb d_M_day_78 rfl (lv_at hl9 2 rfl) ?_
  refine va_lald hx hb hK hP 2 1 rfl rfl (hin) d_M_day_79 ?_
  rw [nI_clamp (n := k) (by omega)]
  refine lv_aload_n hx hb d_M_day_80 rfl (lv_at hl9 1 rfl) ?_
  refine va_get (D := (dC, dI)) (ci := 3) (v := .int gb) (C := R_M) (T := F_M) (N := 25) hx hb hG i_M hown hK hP 0 rfl rfl 17 (by decide) (hG _ k_457) (fun _ h9 => h9) rfl d_M_day_81 ?_
  refine lv_i2l hx hb d_M_day_84 rfl ?_
  refine lv_lmul hx hb d_M_day_85 ?_
  rw [hy1]
  refine lv_lstore (lv' := [(5, .long y1), (3, .long x1), (0, .ref m0), (1, .int (nI k)), (2, .int mn)]) hx hb d_M_day_86 hl9 (by decide) rfl (fun ls hl9 => ?_)
  refine lv_lload_n hx hb d_M_day_88 rfl (lv_at hl9 1 rfl) ?_
  refine lv_lload hx hb d_M_day_89 (lv_at hl9 0 rfl) ?_
  have hPc := hP.sub (ws' := []) [] rfl
  have hDc := hD.sub (ws' := []) [] (by decide) rfl
  have hFc := va_A_nil hA hS.1
  refine va_calll (va_runS (As := [.long x1, .long y1]) (rest := []) ⟨hx, hb, hml, hown, hG⟩ (m_divisor l dC dI cI cJ cZ cB x1 y1 g1 N1 H7.size hd1) (cwS 2 hG g_M_124 rfl rfl rfl (by decide +kernel) ⟨Nat.le_of_ble_eq_true rfl, Nat.le_of_ble_eq_true rfl⟩) ⟨PC.blind, PC.of hPc hK hDc hE hS hFc⟩ rfl rfl hl9.1 rfl (lv_room (Nat.le_of_ble_eq_true rfl)) d_M_day_91 ⟨by first | exact Nat.le_of_ble_eq_true rfl | omega, by first | exact Nat.le_of_ble_eq_true rfl | omega⟩) hS (fun q _ h => hFc q h) hFc (fun r10 u t H9 locs ht hvm hw hB hz1 hk1 hS => ?_)
  have hP := wp_kept hP hk1
  have hw : r10 = g1 := hw
  rw [hw]
  refine lv_lstore (lv' := [(7, .long g1), (5, .long y1), (3, .long x1), (0, .ref m0), (1, .int (nI k)), (2, .int mn)]) hx hb d_M_day_94 hl9 (by decide) rfl (fun ls hl9 => ?_)
  refine lv_lload hx hb d_M_day_96 (lv_at hl9 1 rfl) ?_
  refine lv_lload hx hb d_M_day_98 (lv_at hl9 0 rfl) ?_
  refine lv_ldiv hx hb d_M_day_100 (hn1) ?_
  refine lv_ldc2 (v := 1000000000) hx hb hown (hG _ k_608) d_M_day_101 ?_
  refine W.lcmp hx hb d_M_day_104 ?_
  refine lv_if_le (tgt := 142) hx hb d_M_day_105 (by decide) (fun c1 => absurd c1 (fun h => hbig ((lg_cmp_le _ _).mp h))) (fun c1 => ?_)
  refine lv_lload_n hx hb d_M_day_108 rfl (lv_at hl9 2 rfl) ?_
  refine lv_lload hx hb d_M_day_109 (lv_at hl9 1 rfl) ?_
  refine lv_ldiv hx hb d_M_day_111 (hy0) ?_
  refine lv_ldc2 (v := 1000000) hx hb hown (hG _ k_609) d_M_day_112 ?_
  refine lv_lmul hx hb d_M_day_115 ?_
  refine lv_lload_n hx hb d_M_day_116 rfl (lv_at hl9 2 rfl) ?_
  refine lv_lload hx hb d_M_day_117 (lv_at hl9 1 rfl) ?_
  refine lv_lrem hx hb d_M_day_119 (hy0) ?_
  refine lv_ldc2 (v := 1000000) hx hb hown (hG _ k_609) d_M_day_120 ?_
  refine lv_lmul hx hb d_M_day_123 ?_
  refine lv_lload hx hb d_M_day_124 (lv_at hl9 1 rfl) ?_
  refine lv_ldiv hx hb d_M_day_126 (hy0) ?_
  refine lv_ladd hx hb d_M_day_127 ?_
  refine W.eq (g2 := F0 m 128 ls [.long (mill x1 y1)]) rfl ?_
  rw [hx2]
  refine lv_lstore_n (lv' := [(3, .long x2), (7, .long g1), (5, .long y1), (0, .ref m0), (1, .int (nI k)), (2, .int mn)]) hx hb d_M_day_128 rfl hl9 (by decide) rfl (fun ls hl9 => ?_)
  refine lv_ldc2 (v := 1000000) hx hb hown (hG _ k_609) d_M_day_129 ?_
  refine lv_lstore (lv' := [(5, .long 1000000), (3, .long x2), (7, .long g1), (0, .ref m0), (1, .int (nI k)), (2, .int mn)]) hx hb d_M_day_132 hl9 (by decide) rfl (fun ls hl9 => ?_)
  refine lv_lload_n hx hb d_M_day_134 rfl (lv_at hl9 1 rfl) ?_
  refine lv_lload hx hb d_M_day_135 (lv_at hl9 0 rfl) ?_
  have hPc := hP.sub (ws' := []) [] rfl
  have hDc := hD.sub (ws' := []) [] (by decide) rfl
  have hFc := va_A_nil hA hS.1
  refine va_calll (va_runS (As := [.long x2, .long 1000000]) (rest := []) ⟨hx, hb, hml, hown, hG⟩ (m_divisor l dC dI cI cJ cZ cB x2 1000000 g2 N2 H9.size hd2) (cwS 2 hG g_M_124 rfl rfl rfl (by decide +kernel) ⟨Nat.le_of_ble_eq_true rfl, Nat.le_of_ble_eq_true rfl⟩) ⟨PC.blind, PC.of hPc hK hDc hE hS hFc⟩ rfl rfl hl9.1 rfl (lv_room (Nat.le_of_ble_eq_true rfl)) d_M_day_137 ⟨by first | exact Nat.le_of_ble_eq_true rfl | omega, by first | exact Nat.le_of_ble_eq_true rfl | omega⟩) hS (fun q _ h => hFc q h) hFc (fun r12 u t H11 locs ht hvm hw hB hz1 hk1 hS => ?_)
  have hP := wp_kept hP hk1
  have hw : r12 = g2 := hw
  rw [hw]
  refine lv_lstore (lv' := [(7, .long g2), (5, .long 1000000), (3, .long x2), (0, .ref m0), (1, .int (nI k)), (2, .int mn)]) hx hb d_M_day_140 hl9 (by decide) rfl (fun ls hl9 => ?_)
  refine lv_aload_n hx hb d_M_day_142 rfl (lv_at hl9 3 rfl) ?_
  refine va_get (D := (dC, dI)) (ci := 3) (v := .ref mU) (C := R_M) (T := F_M) (N := 25) hx hb hG i_M hown hK hP 0 rfl rfl 9 (by decide) (hG _ k_449) (fun _ h9 => h9) rfl d_M_day_143 ?_
  refine lv_iload_n hx hb d_M_day_146 rfl (lv_at hl9 4 rfl) ?_
  refine lv_lload_n hx hb d_M_day_147 rfl (lv_at hl9 2 rfl) ?_
  refine lv_lload hx hb d_M_day_148 (lv_at hl9 0 rfl) ?_
  refine lv_ldiv hx hb d_M_day_150 (hn2) ?_
  refine va_last hx hb hK hP hD hS 1 1 rfl rfl (hin) d_M_day_151 (fun H locs hP hD hS => ?_)
  have hP : va_P (dC, dI) vwCl [(m0, .inr (3, [.int 0, .int (nI nz), .ref mH, .ref mL, .ref mB, .ref mP, .ref mR, .ref mA, .ref mW, .ref mU, .ref mV, .int rw, .ref mM, .ref mT, .int mc, .ref mQ, .int ga, .int gb, .int kn, .ref mO, .ref mF, .ref mS, .ref mE, .ref mX, .ref mD])), (mU, .inl (cJ, 6, .inr (.inl (vp_updL rU (nI k).toNatClampNeg (x2 / g2))))), (mV, .inl (cJ, 6, .inr (.inl rV)))] H := hP
  have hD : va_D A [(m0, .inr (3, [.int 0, .int (nI nz), .ref mH, .ref mL, .ref mB, .ref mP, .ref mR, .ref mA, .ref mW, .ref mU, .ref mV, .int rw, .ref mM, .ref mT, .int mc, .ref mQ, .int ga, .int gb, .int kn, .ref mO, .ref mF, .ref mS, .ref mE, .ref mX, .ref mD])), (mU, .inl (cJ, 6, .inr (.inl (vp_updL rU (nI k).toNatClampNeg (x2 / g2))))), (mV, .inl (cJ, 6, .inr (.inl rV)))] := hD
  rw [nI_clamp (n := k) (by omega)] at hP hD
  refine lv_aload_n hx hb d_M_day_152 rfl (lv_at hl9 3 rfl) ?_
  refine va_get (D := (dC, dI)) (ci := 3) (v := .ref mV) (C := R_M) (T := F_M) (N := 25) hx hb hG i_M hown hK hP 0 rfl rfl 10 (by decide) (hG _ k_450) (fun _ h9 => h9) rfl d_M_day_153 ?_
  refine lv_iload_n hx hb d_M_day_156 rfl (lv_at hl9 4 rfl) ?_
  refine lv_lload hx hb d_M_day_157 (lv_at hl9 1 rfl) ?_
  refine lv_lload hx hb d_M_day_159 (lv_at hl9 0 rfl) ?_
  refine lv_ldiv hx hb d_M_day_161 (hn2) ?_
  refine va_last hx hb hK hP hD hS 2 1 rfl rfl (hin) d_M_day_162 (fun H locs hP hD hS => ?_)
  have hP : va_P (dC, dI) vwCl [(m0, .inr (3, [.int 0, .int (nI nz), .ref mH, .ref mL, .ref mB, .ref mP, .ref mR, .ref mA, .ref mW, .ref mU, .ref mV, .int rw, .ref mM, .ref mT, .int mc, .ref mQ, .int ga, .int gb, .int kn, .ref mO, .ref mF, .ref mS, .ref mE, .ref mX, .ref mD])), (mU, .inl (cJ, 6, .inr (.inl (vp_updL rU k (x2 / g2))))), (mV, .inl (cJ, 6, .inr (.inl (vp_updL rV (nI k).toNatClampNeg (1000000 / g2)))))] H := hP
  have hD : va_D A [(m0, .inr (3, [.int 0, .int (nI nz), .ref mH, .ref mL, .ref mB, .ref mP, .ref mR, .ref mA, .ref mW, .ref mU, .ref mV, .int rw, .ref mM, .ref mT, .int mc, .ref mQ, .int ga, .int gb, .int kn, .ref mO, .ref mF, .ref mS, .ref mE, .ref mX, .ref mD])), (mU, .inl (cJ, 6, .inr (.inl (vp_updL rU k (x2 / g2))))), (mV, .inl (cJ, 6, .inr (.inl (vp_updL rV (nI k).toNatClampNeg (1000000 / g2)))))] := hD
  rw [nI_clamp (n := k) (by omega)] at hP hD
  exact W.vret hx hb hr (fun t ht hW => ⟨⟨(), rfl, trivial, by have h9 := hP; rw [← ht] at h9; exact h9⟩, hS.F ht⟩) hS.2.2 d_M_day_163
set_option maxHeartbeats 4000000 in
set_option maxRecDepth 100000 in
theorem m_dayX (l : Launch) (dC : Nat → ClassId) (dI : Nat → Nat → Nat) (cI cJ cZ cB : ClassId) (m0 mH mL mB mP mR mA mW mU mV mM mT mQ mO mF mS mE mX mD : Nat) (th zn rw mc ga gb kn : Int32) (nz : Nat) (x y : Int32) (sz : Nat) (hbad : (x < 0 ∨ nI nz ≤ x) ∨ (y < (-1440) ∨ 1440 < y)) : Met l y_M_day w_M_day ({ frames := 1, cells := 0, slots := 0, locals := 22 }) (PC (dC, dI) (TY cI cJ cZ cB) [.ref m0, .int x, .int y] [(m0, .inr (3, [.int th, .int (nI nz), .ref mH, .ref mL, .ref mB, .ref mP, .ref mR, .ref mA, .ref mW, .ref mU, .ref mV, .int rw, .ref mM, .ref mT, .int mc, .ref mQ, .int ga, .int gb, .int kn, .ref mO, .ref mF, .ref mS, .ref mE, .ref mX, .ref mD]))] sz (va_A [(m0, .inr (3, [.int th, .int (nI nz), .ref mH, .ref mL, .ref mB, .ref mP, .ref mR, .ref mA, .ref mW, .ref mU, .ref mV, .int rw, .ref mM, .ref mT, .int mc, .ref mQ, .int ga, .int gb, .int kn, .ref mO, .ref mF, .ref mS, .ref mE, .ref mX, .ref mD]))] sz)) (va_Qv (fun (_ : Unit) => True) (fun (_ : Unit) (t : State) => va_P (dC, dI) vwCl [(m0, .inr (3, [.int 1, .int (nI nz), .ref mH, .ref mL, .ref mB, .ref mP, .ref mR, .ref mA, .ref mW, .ref mU, .ref mV, .int rw, .ref mM, .ref mT, .int mc, .ref mQ, .int ga, .int gb, .int kn, .ref mO, .ref mF, .ref mS, .ref mE, .ref mX, .ref mD]))] t.heap) (va_A [(m0, .inr (3, [.int th, .int (nI nz), .ref mH, .ref mL, .ref mB, .ref mP, .ref mR, .ref mA, .ref mW, .ref mU, .ref mV, .int rw, .ref mM, .ref mT, .int mc, .ref mQ, .int ga, .int gb, .int kn, .ref mO, .ref mF, .ref mS, .ref mE, .ref mX, .ref mD]))] sz)) 0 0 (va_A [(m0, .inr (3, [.int th, .int (nI nz), .ref mH, .ref mL, .ref mB, .ref mP, .ref mR, .ref mA, .ref mW, .ref mU, .ref mV, .int rw, .ref mM, .ref mT, .int mc, .ref mQ, .int ga, .int gb, .int kn, .ref mO, .ref mF, .ref mS, .ref mE, .ref mX, .ref mD]))] sz) := by
  refine Met.ofW (cc := b_M_day) (maxL := 9) (ret := none) (by decide) rfl ?_
  intro p e s m args below meth c s₁ B hml hv
  obtain ⟨rfl, hsz, hP, hK, hD0, hE⟩ := hv
  have hx := B.exec
  have hb := B.bytes
  have hr := B.returns
  have hG : ∀ w ∈ GG, w.before _ s = true := fun w h => atoms_spec (ws := w_M_day) B.pre w (List.mem_cons_of_mem _ h)
  have hown : s.vm.findClass R_M = some m.cls := findClass_of_methodNamed B.named
  have hlocks := B.notSynchronized
  subst hsz
  have hD := hD0.self (sz := s.heap.size)
  generalize hAe : (va_A [(m0, .inr (3, [.int th, .int (nI nz), .ref mH, .ref mL, .ref mB, .ref mP, .ref mR, .ref mA, .ref mW, .ref mU, .ref mV, .int rw, .ref mM, .ref mT, .int mc, .ref mQ, .int ga, .int gb, .int kn, .ref mO, .ref mF, .ref mS, .ref mE, .ref mX, .ref mD]))] s.heap.size) = A at hD hE ⊢
  have hA : ∀ q : Nat, s.heap.size ≤ q → A q := fun q h => by rw [← hAe]; exact Or.inr h
  have hS : va_S A s.heap s.heap [] := va_S.rf
  obtain ⟨H, hH⟩ : ∃ z, z = s.heap := ⟨_, rfl⟩
  rw [← hH] at hP
  have hS : va_S A s.heap H [] := by rw [hH]; exact hS
  rw [← hH]
  have hl9 := lv_entry ([.ref m0, .int x, .int y]) (n := 9) (Nat.le_of_ble_eq_true rfl)
  rw [lg_entry_eq]
  generalize (lg_sl ([.ref m0, .int x, .int y]) ++ List.replicate (9 - (lg_sl ([.ref m0, .int x, .int y])).length) Slot.unset).toArray = ls at hl9 ⊢
  have hl9 : lv_has ls 9 [(0, .ref m0), (1, .int x), (2, .int y)] := hl9
  by_cases h0 : (x < 0 ∨ nI nz ≤ x)
  · refine lv_aload_n hx hb d_M_day_0 rfl (lv_at hl9 0 rfl) ?_
    refine lv_iconst (v := 0) hx hb d_M_day_1 (by decide) ?_
    refine va_put (D := (dC, dI)) (ci := 3) (v := .int 0) (ty := .int) (C := R_M) (T := F_M) (N := 25) hx hb hG i_M t_M t_M_ok n_M hown hK hP hD hS 0 rfl rfl 0 (by decide) (hG _ k_440) (fun _ h9 => h9) rfl (by decide +kernel) rfl rfl (Nat.le_of_ble_eq_true rfl) d_M_day_2 (fun H locs hP hD hS => ?_)
    have hP : va_P (dC, dI) vwCl [(m0, .inr (3, [.int 0, .int (nI nz), .ref mH, .ref mL, .ref mB, .ref mP, .ref mR, .ref mA, .ref mW, .ref mU, .ref mV, .int rw, .ref mM, .ref mT, .int mc, .ref mQ, .int ga, .int gb, .int kn, .ref mO, .ref mF, .ref mS, .ref mE, .ref mX, .ref mD]))] H := hP
    have hD : va_D A [(m0, .inr (3, [.int 0, .int (nI nz), .ref mH, .ref mL, .ref mB, .ref mP, .ref mR, .ref mA, .ref mW, .ref mU, .ref mV, .int rw, .ref mM, .ref mT, .int mc, .ref mQ, .int ga, .int gb, .int kn, .ref mO, .ref mF, .ref mS, .ref mE, .ref mX, .ref mD]))] := hD
    refine lv_aload_n hx hb d_M_day_5 rfl (lv_at hl9 0 rfl) ?_
    refine lv_aload_n hx hb d_M_day_6 rfl (lv_at hl9 0 rfl) ?_
    refine lv_iload_n hx hb d_M_day_7 rfl (lv_at hl9 1 rfl) ?_
    have hPc := hP.sub (ws' := [(m0, .inr (3, [.int 0, .int (nI nz), .ref mH, .ref mL, .ref mB, .ref mP, .ref mR, .ref mA, .ref mW, .ref mU, .ref mV, .int rw, .ref mM, .ref mT, .int mc, .ref mQ, .int ga, .int gb, .int kn, .ref mO, .ref mF, .ref mS, .ref mE, .ref mX, .ref mD]))]) [0] rfl
    have hDc := hD.sub (ws' := [(m0, .inr (3, [.int 0, .int (nI nz), .ref mH, .ref mL, .ref mB, .ref mP, .ref mR, .ref mA, .ref mW, .ref mU, .ref mV, .int rw, .ref mM, .ref mT, .int mc, .ref mQ, .int ga, .int gb, .int kn, .ref mO, .ref mF, .ref mS, .ref mE, .ref mX, .ref mD]))]) [0] (by decide) rfl
    have hFc := va_A_nil hA hS.1
    refine va_calli (va_runV (C := R_M) (As := [.int x]) (rest := [.ref m0]) ⟨hx, hb, hml, hown, hG⟩ (m_isZone l dC dI cI cJ cZ cB m0 mH mL mB mP mR mA mW mU mV mM mT mQ mO mF mS mE mX mD 0 (nI nz) rw mc ga gb kn x H.size ) (cwV 1 hG g_M_95 rfl rfl rfl (by decide +kernel) ⟨Nat.le_of_ble_eq_true rfl, Nat.le_of_ble_eq_true rfl⟩) ⟨PC.blind, va_recv hK hP (ci := 3) (q0 := 0) rfl rfl, PC.of hPc hK hDc hE hS hFc⟩ rfl rfl hl9.1 rfl (lv_room (Nat.le_of_ble_eq_true rfl)) d_M_day_8 ⟨by first | exact Nat.le_of_ble_eq_true rfl | omega, by first | exact Nat.le_of_ble_eq_true rfl | omega⟩) hS (fun q _ h => hFc q h) hFc (fun r2 u t H1 locs ht hvm hw hB hz1 hk1 hS => ?_)
    have hP := wp_kept hP hk1
    have hw : r2 = if ¬ (x < 0 ∨ (nI nz) ≤ x) then 1 else 0 := hw
    subst hw
    rw [iz_0 h0]
    refine lv_if_eq (tgt := 27) hx hb d_M_day_11 (by decide) (fun c3 => ?_) (fun c3 => absurd c3 (by decide))
    refine lv_iconst (v := 1) hx hb d_M_day_27 (by decide) ?_
    refine lv_goto (tgt := 32) hx hb d_M_day_28 (by decide) ?_
    refine lv_iconst (v := 1) hx hb d_M_day_32 (by decide) ?_
    have hPc := hP.sub (ws' := [(m0, .inr (3, [.int 0, .int (nI nz), .ref mH, .ref mL, .ref mB, .ref mP, .ref mR, .ref mA, .ref mW, .ref mU, .ref mV, .int rw, .ref mM, .ref mT, .int mc, .ref mQ, .int ga, .int gb, .int kn, .ref mO, .ref mF, .ref mS, .ref mE, .ref mX, .ref mD]))]) [0] rfl
    have hDc := hD.sub (ws' := [(m0, .inr (3, [.int 0, .int (nI nz), .ref mH, .ref mL, .ref mB, .ref mP, .ref mR, .ref mA, .ref mW, .ref mU, .ref mV, .int rw, .ref mM, .ref mT, .int mc, .ref mQ, .int ga, .int gb, .int kn, .ref mO, .ref mF, .ref mS, .ref mE, .ref mX, .ref mD]))]) [0] (by decide) rfl
    have hFc := va_free (wc := [(m0, .inr (3, [.int 0, .int (nI nz), .ref mH, .ref mL, .ref mB, .ref mP, .ref mR, .ref mA, .ref mW, .ref mU, .ref mV, .int rw, .ref mM, .ref mT, .int mc, .ref mQ, .int ga, .int gb, .int kn, .ref mO, .ref mF, .ref mS, .ref mE, .ref mX, .ref mD]))]) hD hS hA [0] rfl
    refine va_calli (va_runV (C := R_M) (As := [.int 1, .int 1]) (rest := []) ⟨hx, hb, hml, hown, hG⟩ (m_fails011 l dC dI cI cJ cZ cB m0 mH mL mB mP mR mA mW mU mV mM mT mQ mO mF mS mE mX mD (nI nz) rw mc ga gb kn H1.size ) (cwV 2 hG g_M_87 rfl rfl rfl (by decide +kernel) ⟨Nat.le_of_ble_eq_true rfl, Nat.le_of_ble_eq_true rfl⟩) ⟨PC.blind, va_recv hK hP (ci := 3) (q0 := 0) rfl rfl, PC.of hPc hK hDc hE hS hFc⟩ rfl rfl hl9.1 rfl (lv_room (Nat.le_of_ble_eq_true rfl)) d_M_day_33 ⟨by first | exact Nat.le_of_ble_eq_true rfl | omega, by first | exact Nat.le_of_ble_eq_true rfl | omega⟩) hS (fun q _ h => hFc q h) hFc (fun r5 u t H4 locs ht hvm hw hB hz1 hk1 hS => ?_)
    rw [ht] at hB
    obtain ⟨hP, hD⟩ := jset (wc := [(m0, .inr (3, [.int 0, .int (nI nz), .ref mH, .ref mL, .ref mB, .ref mP, .ref mR, .ref mA, .ref mW, .ref mU, .ref mV, .int rw, .ref mM, .ref mT, .int mc, .ref mQ, .int ga, .int gb, .int kn, .ref mO, .ref mF, .ref mS, .ref mE, .ref mX, .ref mD]))]) (w1 := [(m0, .inr (3, [.int 1, .int (nI nz), .ref mH, .ref mL, .ref mB, .ref mP, .ref mR, .ref mA, .ref mW, .ref mU, .ref mV, .int rw, .ref mM, .ref mT, .int mc, .ref mQ, .int ga, .int gb, .int kn, .ref mO, .ref mF, .ref mS, .ref mE, .ref mX, .ref mD]))]) [0] rfl rfl hP hD hk1 hB
    have hP : va_P (dC, dI) vwCl [(m0, .inr (3, [.int 1, .int (nI nz), .ref mH, .ref mL, .ref mB, .ref mP, .ref mR, .ref mA, .ref mW, .ref mU, .ref mV, .int rw, .ref mM, .ref mT, .int mc, .ref mQ, .int ga, .int gb, .int kn, .ref mO, .ref mF, .ref mS, .ref mE, .ref mX, .ref mD]))] H4 := hP
    have hD : va_D A [(m0, .inr (3, [.int 1, .int (nI nz), .ref mH, .ref mL, .ref mB, .ref mP, .ref mR, .ref mA, .ref mW, .ref mU, .ref mV, .int rw, .ref mM, .ref mT, .int mc, .ref mQ, .int ga, .int gb, .int kn, .ref mO, .ref mF, .ref mS, .ref mE, .ref mX, .ref mD]))] := hD
    have hw : r5 = 1 := hw
    subst hw
    refine lv_if_eq (tgt := 40) hx hb d_M_day_36 (by decide) (fun c6 => absurd c6 (by decide)) (fun c6 => ?_)
    exact W.vret hx hb hr (fun t ht hW => ⟨⟨(), rfl, trivial, by have h9 := hP; rw [← ht] at h9; exact h9⟩, hS.F ht⟩) hS.2.2 d_M_day_39
  · by_cases h1 : (y < (-1440) ∨ 1440 < y)
    · refine lv_aload_n hx hb d_M_day_0 rfl (lv_at hl9 0 rfl) ?_
      refine lv_iconst (v := 0) hx hb d_M_day_1 (by decide) ?_
      refine va_put (D := (dC, dI)) (ci := 3) (v := .int 0) (ty := .int) (C := R_M) (T := F_M) (N := 25) hx hb hG i_M t_M t_M_ok n_M hown hK hP hD hS 0 rfl rfl 0 (by decide) (hG _ k_440) (fun _ h9 => h9) rfl (by decide +kernel) rfl rfl (Nat.le_of_ble_eq_true rfl) d_M_day_2 (fun H locs hP hD hS => ?_)
      have hP : va_P (dC, dI) vwCl [(m0, .inr (3, [.int 0, .int (nI nz), .ref mH, .ref mL, .ref mB, .ref mP, .ref mR, .ref mA, .ref mW, .ref mU, .ref mV, .int rw, .ref mM, .ref mT, .int mc, .ref mQ, .int ga, .int gb, .int kn, .ref mO, .ref mF, .ref mS, .ref mE, .ref mX, .ref mD]))] H := hP
      have hD : va_D A [(m0, .inr (3, [.int 0, .int (nI nz), .ref mH, .ref mL, .ref mB, .ref mP, .ref mR, .ref mA, .ref mW, .ref mU, .ref mV, .int rw, .ref mM, .ref mT, .int mc, .ref mQ, .int ga, .int gb, .int kn, .ref mO, .ref mF, .ref mS, .ref mE, .ref mX, .ref mD]))] := hD
      refine lv_aload_n hx hb d_M_day_5 rfl (lv_at hl9 0 rfl) ?_
      refine lv_aload_n hx hb d_M_day_6 rfl (lv_at hl9 0 rfl) ?_
      refine lv_iload_n hx hb d_M_day_7 rfl (lv_at hl9 1 rfl) ?_
      have hPc := hP.sub (ws' := [(m0, .inr (3, [.int 0, .int (nI nz), .ref mH, .ref mL, .ref mB, .ref mP, .ref mR, .ref mA, .ref mW, .ref mU, .ref mV, .int rw, .ref mM, .ref mT, .int mc, .ref mQ, .int ga, .int gb, .int kn, .ref mO, .ref mF, .ref mS, .ref mE, .ref mX, .ref mD]))]) [0] rfl
      have hDc := hD.sub (ws' := [(m0, .inr (3, [.int 0, .int (nI nz), .ref mH, .ref mL, .ref mB, .ref mP, .ref mR, .ref mA, .ref mW, .ref mU, .ref mV, .int rw, .ref mM, .ref mT, .int mc, .ref mQ, .int ga, .int gb, .int kn, .ref mO, .ref mF, .ref mS, .ref mE, .ref mX, .ref mD]))]) [0] (by decide) rfl
      have hFc := va_A_nil hA hS.1
      refine va_calli (va_runV (C := R_M) (As := [.int x]) (rest := [.ref m0]) ⟨hx, hb, hml, hown, hG⟩ (m_isZone l dC dI cI cJ cZ cB m0 mH mL mB mP mR mA mW mU mV mM mT mQ mO mF mS mE mX mD 0 (nI nz) rw mc ga gb kn x H.size ) (cwV 1 hG g_M_95 rfl rfl rfl (by decide +kernel) ⟨Nat.le_of_ble_eq_true rfl, Nat.le_of_ble_eq_true rfl⟩) ⟨PC.blind, va_recv hK hP (ci := 3) (q0 := 0) rfl rfl, PC.of hPc hK hDc hE hS hFc⟩ rfl rfl hl9.1 rfl (lv_room (Nat.le_of_ble_eq_true rfl)) d_M_day_8 ⟨by first | exact Nat.le_of_ble_eq_true rfl | omega, by first | exact Nat.le_of_ble_eq_true rfl | omega⟩) hS (fun q _ h => hFc q h) hFc (fun r8 u t H7 locs ht hvm hw hB hz1 hk1 hS => ?_)
      have hP := wp_kept hP hk1
      have hw : r8 = if ¬ (x < 0 ∨ (nI nz) ≤ x) then 1 else 0 := hw
      subst hw
      rw [iz_1g h0]
      refine lv_if_eq (tgt := 27) hx hb d_M_day_11 (by decide) (fun c9 => absurd c9 (by decide)) (fun c9 => ?_)
      refine lv_iload_n hx hb d_M_day_14 rfl (lv_at hl9 2 rfl) ?_
      refine lv_sipush (v := (-1440)) hx hb d_M_day_15 (by decide) ?_
      refine lv_sipush (v := 1440) hx hb d_M_day_18 (by decide) ?_
      have hPc := hP.sub (ws' := []) [] rfl
      have hDc := hD.sub (ws' := []) [] (by decide) rfl
      have hFc := va_A_nil hA hS.1
      refine va_calli (va_runS (As := [.int y, .int (-1440), .int 1440]) (rest := [.ref m0]) ⟨hx, hb, hml, hown, hG⟩ (m_within l dC dI cI cJ cZ cB y (-1440) 1440 H7.size ) (cwS 3 hG g_M_83 rfl rfl rfl (by decide +kernel) ⟨Nat.le_of_ble_eq_true rfl, Nat.le_of_ble_eq_true rfl⟩) ⟨PC.blind, PC.of hPc hK hDc hE hS hFc⟩ rfl rfl hl9.1 rfl (lv_room (Nat.le_of_ble_eq_true rfl)) d_M_day_21 ⟨by first | exact Nat.le_of_ble_eq_true rfl | omega, by first | exact Nat.le_of_ble_eq_true rfl | omega⟩) hS (fun q _ h => hFc q h) hFc (fun r11 u t H10 locs ht hvm hw hB hz1 hk1 hS => ?_)
      have hP := wp_kept hP hk1
      have hw : r11 = if ¬ (y < (-1440) ∨ 1440 < y) then 1 else 0 := hw
      subst hw
      rw [wi_0 h1]
      refine lv_if_ne (tgt := 31) hx hb d_M_day_24 (by decide) (fun c12 => absurd c12 (by decide)) (fun c12 => ?_)
      refine lv_iconst (v := 1) hx hb d_M_day_27 (by decide) ?_
      refine lv_goto (tgt := 32) hx hb d_M_day_28 (by decide) ?_
      refine lv_iconst (v := 1) hx hb d_M_day_32 (by decide) ?_
      have hPc := hP.sub (ws' := [(m0, .inr (3, [.int 0, .int (nI nz), .ref mH, .ref mL, .ref mB, .ref mP, .ref mR, .ref mA, .ref mW, .ref mU, .ref mV, .int rw, .ref mM, .ref mT, .int mc, .ref mQ, .int ga, .int gb, .int kn, .ref mO, .ref mF, .ref mS, .ref mE, .ref mX, .ref mD]))]) [0] rfl
      have hDc := hD.sub (ws' := [(m0, .inr (3, [.int 0, .int (nI nz), .ref mH, .ref mL, .ref mB, .ref mP, .ref mR, .ref mA, .ref mW, .ref mU, .ref mV, .int rw, .ref mM, .ref mT, .int mc, .ref mQ, .int ga, .int gb, .int kn, .ref mO, .ref mF, .ref mS, .ref mE, .ref mX, .ref mD]))]) [0] (by decide) rfl
      have hFc := va_free (wc := [(m0, .inr (3, [.int 0, .int (nI nz), .ref mH, .ref mL, .ref mB, .ref mP, .ref mR, .ref mA, .ref mW, .ref mU, .ref mV, .int rw, .ref mM, .ref mT, .int mc, .ref mQ, .int ga, .int gb, .int kn, .ref mO, .ref mF, .ref mS, .ref mE, .ref mX, .ref mD]))]) hD hS hA [0] rfl
      refine va_calli (va_runV (C := R_M) (As := [.int 1, .int 1]) (rest := []) ⟨hx, hb, hml, hown, hG⟩ (m_fails011 l dC dI cI cJ cZ cB m0 mH mL mB mP mR mA mW mU mV mM mT mQ mO mF mS mE mX mD (nI nz) rw mc ga gb kn H10.size ) (cwV 2 hG g_M_87 rfl rfl rfl (by decide +kernel) ⟨Nat.le_of_ble_eq_true rfl, Nat.le_of_ble_eq_true rfl⟩) ⟨PC.blind, va_recv hK hP (ci := 3) (q0 := 0) rfl rfl, PC.of hPc hK hDc hE hS hFc⟩ rfl rfl hl9.1 rfl (lv_room (Nat.le_of_ble_eq_true rfl)) d_M_day_33 ⟨by first | exact Nat.le_of_ble_eq_true rfl | omega, by first | exact Nat.le_of_ble_eq_true rfl | omega⟩) hS (fun q _ h => hFc q h) hFc (fun r14 u t H13 locs ht hvm hw hB hz1 hk1 hS => ?_)
      rw [ht] at hB
      obtain ⟨hP, hD⟩ := jset (wc := [(m0, .inr (3, [.int 0, .int (nI nz), .ref mH, .ref mL, .ref mB, .ref mP, .ref mR, .ref mA, .ref mW, .ref mU, .ref mV, .int rw, .ref mM, .ref mT, .int mc, .ref mQ, .int ga, .int gb, .int kn, .ref mO, .ref mF, .ref mS, .ref mE, .ref mX, .ref mD]))]) (w1 := [(m0, .inr (3, [.int 1, .int (nI nz), .ref mH, .ref mL, .ref mB, .ref mP, .ref mR, .ref mA, .ref mW, .ref mU, .ref mV, .int rw, .ref mM, .ref mT, .int mc, .ref mQ, .int ga, .int gb, .int kn, .ref mO, .ref mF, .ref mS, .ref mE, .ref mX, .ref mD]))]) [0] rfl rfl hP hD hk1 hB
      have hP : va_P (dC, dI) vwCl [(m0, .inr (3, [.int 1, .int (nI nz), .ref mH, .ref mL, .ref mB, .ref mP, .ref mR, .ref mA, .ref mW, .ref mU, .ref mV, .int rw, .ref mM, .ref mT, .int mc, .ref mQ, .int ga, .int gb, .int kn, .ref mO, .ref mF, .ref mS, .ref mE, .ref mX, .ref mD]))] H13 := hP
      have hD : va_D A [(m0, .inr (3, [.int 1, .int (nI nz), .ref mH, .ref mL, .ref mB, .ref mP, .ref mR, .ref mA, .ref mW, .ref mU, .ref mV, .int rw, .ref mM, .ref mT, .int mc, .ref mQ, .int ga, .int gb, .int kn, .ref mO, .ref mF, .ref mS, .ref mE, .ref mX, .ref mD]))] := hD
      have hw : r14 = 1 := hw
      subst hw
      refine lv_if_eq (tgt := 40) hx hb d_M_day_36 (by decide) (fun c15 => absurd c15 (by decide)) (fun c15 => ?_)
      exact W.vret hx hb hr (fun t ht hW => ⟨⟨(), rfl, trivial, by have h9 := hP; rw [← ht] at h9; exact h9⟩, hS.F ht⟩) hS.2.2 d_M_day_39
    · exact absurd hbad (fun h => h.elim h0 h1)
set_option maxHeartbeats 4000000 in
set_option maxRecDepth 100000 in
theorem m_stepped (l : Launch) (dC : Nat → ClassId) (dI : Nat → Nat → Nat) (cI cJ cZ cB : ClassId) (m0 mH mL mB mP mR mA mW mU mV mM mT mQ mO mF mS mE mX mD : Nat) (th zn rw mc ga gb kn : Int32) (rH rL rO : Nat → Int32)  (k j : Nat) (x h : Int32) (sz : Nat) (hk6 : k < 6) (hj : j < 1440) (hzl : ¬ rL k = 0) (hzh : ¬ rH k = 0) : Met l y_M_stepped w_M_stepped ({ frames := 0, cells := 0, slots := 0, locals := 0 }) (PC (dC, dI) (TY cI cJ cZ cB) [.ref m0, .int (nI k), .int x, .int (nI j), .int h] [(m0, .inr (3, [.int th, .int zn, .ref mH, .ref mL, .ref mB, .ref mP, .ref mR, .ref mA, .ref mW, .ref mU, .ref mV, .int rw, .ref mM, .ref mT, .int mc, .ref mQ, .int ga, .int gb, .int kn, .ref mO, .ref mF, .ref mS, .ref mE, .ref mX, .ref mD])), (mH, .inl (cI, 6, .inl rH)), (mL, .inl (cI, 6, .inl rL)), (mO, .inl (cI, 1440, .inl rO))] sz (va_A [] sz)) (va_Qi (fun (r : Int32) (_ : Unit) => r = x + (rO j - x) / rL k + h / rH k) (fun (_ : Unit) (_ : State) => True) (va_A [] sz)) 0 0 (va_A [] sz) := by
  refine Met.ofW (cc := b_M_stepped) (maxL := 5) (ret := (some .int)) (by decide) rfl ?_
  intro p e s m args below meth c s₁ B hml hv
  obtain ⟨rfl, hsz, hP, hK, hD0, hE⟩ := hv
  have hx := B.exec
  have hb := B.bytes
  have hr := B.returns
  have hG : ∀ w ∈ GG, w.before _ s = true := fun w h => atoms_spec (ws := w_M_stepped) B.pre w (List.mem_cons_of_mem _ h)
  have hown : s.vm.findClass R_M = some m.cls := findClass_of_methodNamed B.named
  have hlocks := B.notSynchronized
  subst hsz
  generalize hAe : (va_A [] s.heap.size) = A at hE ⊢
  have hA : ∀ q : Nat, s.heap.size ≤ q → A q := fun q h => by rw [← hAe]; exact Or.inr h
  have hS : va_S A s.heap s.heap [] := va_S.rf
  have hD := hD0
  obtain ⟨H, hH⟩ : ∃ z, z = s.heap := ⟨_, rfl⟩
  rw [← hH] at hP
  have hS : va_S A s.heap H [] := by rw [hH]; exact hS
  rw [← hH]
  have hl9 := lv_entry ([.ref m0, .int (nI k), .int x, .int (nI j), .int h]) (n := 5) (Nat.le_of_ble_eq_true rfl)
  rw [lg_entry_eq]
  generalize (lg_sl ([.ref m0, .int (nI k), .int x, .int (nI j), .int h]) ++ List.replicate (5 - (lg_sl ([.ref m0, .int (nI k), .int x, .int (nI j), .int h])).length) Slot.unset).toArray = ls at hl9 ⊢
  have hl9 : lv_has ls 5 [(0, .ref m0), (1, .int (nI k)), (2, .int x), (3, .int (nI j)), (4, .int h)] := hl9
  have hin : vp_in (nI k) 6 := vp_in_nI hk6 (by decide)
  have hin2 : vp_in (nI j) 1440 := vp_in_nI hj (by decide)
  refine lv_iload_n hx hb d_M_stepped_0 rfl (lv_at hl9 2 rfl) ?_
  refine lv_aload_n hx hb d_M_stepped_1 rfl (lv_at hl9 0 rfl) ?_
  refine va_get (D := (dC, dI)) (ci := 3) (v := .ref mO) (C := R_M) (T := F_M) (N := 25) hx hb hG i_M hown hK hP 0 rfl rfl 19 (by decide) (hG _ k_459) (fun _ h9 => h9) rfl d_M_stepped_2 ?_
  refine lv_iload_n hx hb d_M_stepped_5 rfl (lv_at hl9 3 rfl) ?_
  refine va_iald hx hb hK hP 3 0 rfl rfl (hin2) d_M_stepped_6 ?_
  rw [nI_clamp (n := j) (by omega)]
  refine lv_iload_n hx hb d_M_stepped_7 rfl (lv_at hl9 2 rfl) ?_
  refine lv_isub hx hb d_M_stepped_8 ?_
  refine lv_aload_n hx hb d_M_stepped_9 rfl (lv_at hl9 0 rfl) ?_
  refine va_get (D := (dC, dI)) (ci := 3) (v := .ref mL) (C := R_M) (T := F_M) (N := 25) hx hb hG i_M hown hK hP 0 rfl rfl 3 (by decide) (hG _ k_443) (fun _ h9 => h9) rfl d_M_stepped_10 ?_
  refine lv_iload_n hx hb d_M_stepped_13 rfl (lv_at hl9 1 rfl) ?_
  refine va_iald hx hb hK hP 2 0 rfl rfl (hin) d_M_stepped_14 ?_
  rw [nI_clamp (n := k) (by omega)]
  refine lv_idiv hx hb d_M_stepped_15 (hzl) ?_
  refine lv_iadd hx hb d_M_stepped_16 ?_
  refine lv_iload hx hb d_M_stepped_17 (lv_at hl9 4 rfl) ?_
  refine lv_aload_n hx hb d_M_stepped_19 rfl (lv_at hl9 0 rfl) ?_
  refine va_get (D := (dC, dI)) (ci := 3) (v := .ref mH) (C := R_M) (T := F_M) (N := 25) hx hb hG i_M hown hK hP 0 rfl rfl 2 (by decide) (hG _ k_442) (fun _ h9 => h9) rfl d_M_stepped_20 ?_
  refine lv_iload_n hx hb d_M_stepped_23 rfl (lv_at hl9 1 rfl) ?_
  refine va_iald hx hb hK hP 1 0 rfl rfl (hin) d_M_stepped_24 ?_
  rw [nI_clamp (n := k) (by omega)]
  refine lv_idiv hx hb d_M_stepped_25 (hzh) ?_
  refine lv_iadd hx hb d_M_stepped_26 ?_
  exact W.iret (v := ((x + (((rO j) - x) / (rL k))) + (h / (rH k)))) hx hb hr (fun t ht hW => ⟨⟨((x + (((rO j) - x) / (rL k))) + (h / (rH k))), (), rfl, rfl, trivial⟩, hS.F ht⟩) hS.2.2 d_M_stepped_27
set_option maxHeartbeats 4000000 in
set_option maxRecDepth 100000 in
theorem m_heatIn (l : Launch) (dC : Nat → ClassId) (dI : Nat → Nat → Nat) (cI cJ cZ cB : ClassId) (m0 mH mL mB mP mR mA mW mU mV mM mT mQ mO mF mS mE mX mD : Nat) (th zn rw mc ga gb kn : Int32) (rP rF : Nat → Int32)  (k j : Nat) (sz : Nat) (hk6 : k < 6) (hj : j < 1440) : Met l y_M_heatIn w_M_heatIn ({ frames := 0, cells := 0, slots := 0, locals := 0 }) (PC (dC, dI) (TY cI cJ cZ cB) [.ref m0, .int (nI k), .int (nI j)] [(m0, .inr (3, [.int th, .int zn, .ref mH, .ref mL, .ref mB, .ref mP, .ref mR, .ref mA, .ref mW, .ref mU, .ref mV, .int rw, .ref mM, .ref mT, .int mc, .ref mQ, .int ga, .int gb, .int kn, .ref mO, .ref mF, .ref mS, .ref mE, .ref mX, .ref mD])), (mP, .inl (cI, 6, .inl rP)), (mF, .inl (cI, 1440, .inl rF))] sz (va_A [] sz)) (va_Qi (fun (r : Int32) (_ : Unit) => r = hn rF (rP k) j) (fun (_ : Unit) (_ : State) => True) (va_A [] sz)) 0 0 (va_A [] sz) := by
  refine Met.ofW (cc := b_M_heatIn) (maxL := 3) (ret := (some .int)) (by decide) rfl ?_
  intro p e s m args below meth c s₁ B hml hv
  obtain ⟨rfl, hsz, hP, hK, hD0, hE⟩ := hv
  have hx := B.exec
  have hb := B.bytes
  have hr := B.returns
  have hG : ∀ w ∈ GG, w.before _ s = true := fun w h => atoms_spec (ws := w_M_heatIn) B.pre w (List.mem_cons_of_mem _ h)
  have hown : s.vm.findClass R_M = some m.cls := findClass_of_methodNamed B.named
  have hlocks := B.notSynchronized
  subst hsz
  generalize hAe : (va_A [] s.heap.size) = A at hE ⊢
  have hA : ∀ q : Nat, s.heap.size ≤ q → A q := fun q h => by rw [← hAe]; exact Or.inr h
  have hS : va_S A s.heap s.heap [] := va_S.rf
  have hD := hD0
  obtain ⟨H, hH⟩ : ∃ z, z = s.heap := ⟨_, rfl⟩
  rw [← hH] at hP
  have hS : va_S A s.heap H [] := by rw [hH]; exact hS
  rw [← hH]
  have hl9 := lv_entry ([.ref m0, .int (nI k), .int (nI j)]) (n := 3) (Nat.le_of_ble_eq_true rfl)
  rw [lg_entry_eq]
  generalize (lg_sl ([.ref m0, .int (nI k), .int (nI j)]) ++ List.replicate (3 - (lg_sl ([.ref m0, .int (nI k), .int (nI j)])).length) Slot.unset).toArray = ls at hl9 ⊢
  have hl9 : lv_has ls 3 [(0, .ref m0), (1, .int (nI k)), (2, .int (nI j))] := hl9
  have hin : vp_in (nI k) 6 := vp_in_nI hk6 (by decide)
  have hin2 : vp_in (nI j) 1440 := vp_in_nI hj (by decide)
  refine lv_aload_n hx hb d_M_heatIn_0 rfl (lv_at hl9 0 rfl) ?_
  refine va_get (D := (dC, dI)) (ci := 3) (v := .ref mP) (C := R_M) (T := F_M) (N := 25) hx hb hG i_M hown hK hP 0 rfl rfl 5 (by decide) (hG _ k_445) (fun _ h9 => h9) rfl d_M_heatIn_1 ?_
  refine lv_iload_n hx hb d_M_heatIn_4 rfl (lv_at hl9 1 rfl) ?_
  refine va_iald hx hb hK hP 1 0 rfl rfl (hin) d_M_heatIn_5 ?_
  rw [nI_clamp (n := k) (by omega)]
  refine lv_aload_n hx hb d_M_heatIn_6 rfl (lv_at hl9 0 rfl) ?_
  refine va_get (D := (dC, dI)) (ci := 3) (v := .ref mF) (C := R_M) (T := F_M) (N := 25) hx hb hG i_M hown hK hP 0 rfl rfl 20 (by decide) (hG _ k_460) (fun _ h9 => h9) rfl d_M_heatIn_7 ?_
  refine lv_iload_n hx hb d_M_heatIn_10 rfl (lv_at hl9 2 rfl) ?_
  refine va_iald hx hb hK hP 2 0 rfl rfl (hin2) d_M_heatIn_11 ?_
  rw [nI_clamp (n := j) (by omega)]
  refine lv_icmp_ge (tgt := 24) hx hb d_M_heatIn_12 (by decide) (fun c1 => ?_) (fun c1 => ?_)
  · refine lv_aload_n hx hb d_M_heatIn_24 rfl (lv_at hl9 0 rfl) ?_
    refine va_get (D := (dC, dI)) (ci := 3) (v := .ref mF) (C := R_M) (T := F_M) (N := 25) hx hb hG i_M hown hK hP 0 rfl rfl 20 (by decide) (hG _ k_460) (fun _ h9 => h9) rfl d_M_heatIn_25 ?_
    refine lv_iload_n hx hb d_M_heatIn_28 rfl (lv_at hl9 2 rfl) ?_
    refine va_iald hx hb hK hP 2 0 rfl rfl (hin2) d_M_heatIn_29 ?_
    rw [nI_clamp (n := j) (by omega)]
    exact W.iret (v := (rF j)) hx hb hr (fun t ht hW => ⟨⟨(rF j), (), rfl, (if_neg (Int32.not_lt.mpr c1)).symm, trivial⟩, hS.F ht⟩) hS.2.2 d_M_heatIn_30
  · refine lv_aload_n hx hb d_M_heatIn_15 rfl (lv_at hl9 0 rfl) ?_
    refine va_get (D := (dC, dI)) (ci := 3) (v := .ref mP) (C := R_M) (T := F_M) (N := 25) hx hb hG i_M hown hK hP 0 rfl rfl 5 (by decide) (hG _ k_445) (fun _ h9 => h9) rfl d_M_heatIn_16 ?_
    refine lv_iload_n hx hb d_M_heatIn_19 rfl (lv_at hl9 1 rfl) ?_
    refine va_iald hx hb hK hP 1 0 rfl rfl (hin) d_M_heatIn_20 ?_
    rw [nI_clamp (n := k) (by omega)]
    refine lv_goto (tgt := 30) hx hb d_M_heatIn_21 (by decide) ?_
    exact W.iret (v := (rP k)) hx hb hr (fun t ht hW => ⟨⟨(rP k), (), rfl, (if_pos (Int32.not_le.mp c1)).symm, trivial⟩, hS.F ht⟩) hS.2.2 d_M_heatIn_30
set_option maxHeartbeats 4000000 in
set_option maxRecDepth 100000 in
theorem m_findOutsides (l : Launch) (dC : Nat → ClassId) (dI : Nat → Nat → Nat) (cI cJ cZ cB : ClassId) (m0 mH mL mB mP mR mA mW mU mV mM mT mQ mO mF mS mE mX mD : Nat) (th zn rw mc ga gb kn : Int32) (rM rT rO : Nat → Int32)  (nr : Nat) (rO1 : Nat → Int32) (sz : Nat) (hnr : nr ≤ 24) (ho : foA rO rM rT nr 1440 = rO1) : Met l y_M_findOutsides w_M_findOutsides ({ frames := 0, cells := 0, slots := 0, locals := 0 }) (PC (dC, dI) (TY cI cJ cZ cB) [.ref m0] [(m0, .inr (3, [.int th, .int zn, .ref mH, .ref mL, .ref mB, .ref mP, .ref mR, .ref mA, .ref mW, .ref mU, .ref mV, .int (nI nr), .ref mM, .ref mT, .int mc, .ref mQ, .int ga, .int gb, .int kn, .ref mO, .ref mF, .ref mS, .ref mE, .ref mX, .ref mD])), (mM, .inl (cI, 24, .inl rM)), (mT, .inl (cI, 24, .inl rT)), (mO, .inl (cI, 1440, .inl rO))] sz (va_A [(m0, .inr (3, [.int th, .int zn, .ref mH, .ref mL, .ref mB, .ref mP, .ref mR, .ref mA, .ref mW, .ref mU, .ref mV, .int (nI nr), .ref mM, .ref mT, .int mc, .ref mQ, .int ga, .int gb, .int kn, .ref mO, .ref mF, .ref mS, .ref mE, .ref mX, .ref mD])), (mM, .inl (cI, 24, .inl rM)), (mT, .inl (cI, 24, .inl rT)), (mO, .inl (cI, 1440, .inl rO))] sz)) (va_Qv (fun (_ : Unit) => True) (fun (_ : Unit) (t : State) => va_P (dC, dI) vwCl [(m0, .inr (3, [.int th, .int zn, .ref mH, .ref mL, .ref mB, .ref mP, .ref mR, .ref mA, .ref mW, .ref mU, .ref mV, .int (nI nr), .ref mM, .ref mT, .int mc, .ref mQ, .int ga, .int gb, .int kn, .ref mO, .ref mF, .ref mS, .ref mE, .ref mX, .ref mD])), (mM, .inl (cI, 24, .inl rM)), (mT, .inl (cI, 24, .inl rT)), (mO, .inl (cI, 1440, .inl rO1))] t.heap) (va_A [(m0, .inr (3, [.int th, .int zn, .ref mH, .ref mL, .ref mB, .ref mP, .ref mR, .ref mA, .ref mW, .ref mU, .ref mV, .int (nI nr), .ref mM, .ref mT, .int mc, .ref mQ, .int ga, .int gb, .int kn, .ref mO, .ref mF, .ref mS, .ref mE, .ref mX, .ref mD])), (mM, .inl (cI, 24, .inl rM)), (mT, .inl (cI, 24, .inl rT)), (mO, .inl (cI, 1440, .inl rO))] sz)) 0 0 (va_A [(m0, .inr (3, [.int th, .int zn, .ref mH, .ref mL, .ref mB, .ref mP, .ref mR, .ref mA, .ref mW, .ref mU, .ref mV, .int (nI nr), .ref mM, .ref mT, .int mc, .ref mQ, .int ga, .int gb, .int kn, .ref mO, .ref mF, .ref mS, .ref mE, .ref mX, .ref mD])), (mM, .inl (cI, 24, .inl rM)), (mT, .inl (cI, 24, .inl rT)), (mO, .inl (cI, 1440, .inl rO))] sz) := by
  refine Met.ofW (cc := b_M_findOutsides) (maxL := 4) (ret := none) (by decide) rfl ?_
  intro p e s m args below meth c s₁ B hml hv
  obtain ⟨rfl, hsz, hP, hK, hD0, hE⟩ := hv
  have hx := B.exec
  have hb := B.bytes
  have hr := B.returns
  have hG : ∀ w ∈ GG, w.before _ s = true := fun w h => atoms_spec (ws := w_M_findOutsides) B.pre w (List.mem_cons_of_mem _ h)
  have hown : s.vm.findClass R_M = some m.cls := findClass_of_methodNamed B.named
  have hlocks := B.notSynchronized
  subst hsz
  have hD := hD0.self (sz := s.heap.size)
  generalize hAe : (va_A [(m0, .inr (3, [.int th, .int zn, .ref mH, .ref mL, .ref mB, .ref mP, .ref mR, .ref mA, .ref mW, .ref mU, .ref mV, .int (nI nr), .ref mM, .ref mT, .int mc, .ref mQ, .int ga, .int gb, .int kn, .ref mO, .ref mF, .ref mS, .ref mE, .ref mX, .ref mD])), (mM, .inl (cI, 24, .inl rM)), (mT, .inl (cI, 24, .inl rT)), (mO, .inl (cI, 1440, .inl rO))] s.heap.size) = A at hD hE ⊢
  have hA : ∀ q : Nat, s.heap.size ≤ q → A q := fun q h => by rw [← hAe]; exact Or.inr h
  have hS : va_S A s.heap s.heap [] := va_S.rf
  obtain ⟨H, hH⟩ : ∃ z, z = s.heap := ⟨_, rfl⟩
  rw [← hH] at hP
  have hS : va_S A s.heap H [] := by rw [hH]; exact hS
  rw [← hH]
  have hl9 := lv_entry ([.ref m0]) (n := 4) (Nat.le_of_ble_eq_true rfl)
  rw [lg_entry_eq]
  generalize (lg_sl ([.ref m0]) ++ List.replicate (4 - (lg_sl ([.ref m0])).length) Slot.unset).toArray = ls at hl9 ⊢
  have hl9 : lv_has ls 4 [(0, .ref m0)] := hl9
  refine lv_iconst (v := 0) hx hb d_M_findOutsides_0 (by decide) ?_
  refine lv_istore_n (lv' := [(1, .int 0), (0, .ref m0)]) hx hb d_M_findOutsides_1 rfl hl9 (by decide) rfl (fun ls hl9 => ?_)
  have lp : ∀ (n : Nat) (t9 : Nat), t9 ≤ 1440 → 1441 ≤ t9 + n → ∀ (H : Heap) (locs : List Loc) (ls : Array Slot), va_P (dC, dI) vwCl [(m0, .inr (3, [.int th, .int zn, .ref mH, .ref mL, .ref mB, .ref mP, .ref mR, .ref mA, .ref mW, .ref mU, .ref mV, .int (nI nr), .ref mM, .ref mT, .int mc, .ref mQ, .int ga, .int gb, .int kn, .ref mO, .ref mF, .ref mS, .ref mE, .ref mX, .ref mD])), (mM, .inl (cI, 24, .inl rM)), (mT, .inl (cI, 24, .inl rT)), (mO, .inl (cI, 1440, .inl (foA rO rM rT nr t9)))] H → va_D A [(m0, .inr (3, [.int th, .int zn, .ref mH, .ref mL, .ref mB, .ref mP, .ref mR, .ref mA, .ref mW, .ref mU, .ref mV, .int (nI nr), .ref mM, .ref mT, .int mc, .ref mQ, .int ga, .int gb, .int kn, .ref mO, .ref mF, .ref mS, .ref mE, .ref mX, .ref mD])), (mM, .inl (cI, 24, .inl rM)), (mT, .inl (cI, 24, .inl rT)), (mO, .inl (cI, 1440, .inl (foA rO rM rT nr t9)))] → va_S A s.heap H locs → lv_has ls 4 [(1, .int (nI t9)), (0, .ref m0)] → W p l e (headSpec w_M_findOutsides ({ frames := 0, cells := 0, slots := 0, locals := 0 })).room s m ([.ref m0] : List Value).toArray below meth c H locs 0 0 (MQ below (va_Qv (fun (_ : Unit) => True) (fun (_ : Unit) (t : State) => va_P (dC, dI) vwCl [(m0, .inr (3, [.int th, .int zn, .ref mH, .ref mL, .ref mB, .ref mP, .ref mR, .ref mA, .ref mW, .ref mU, .ref mV, .int (nI nr), .ref mM, .ref mT, .int mc, .ref mQ, .int ga, .int gb, .int kn, .ref mO, .ref mF, .ref mS, .ref mE, .ref mX, .ref mD])), (mM, .inl (cI, 24, .inl rM)), (mT, .inl (cI, 24, .inl rT)), (mO, .inl (cI, 1440, .inl rO1))] t.heap) A) ([.ref m0] : List Value).toArray s 0 0 A) (F0 m 2 ls []) := by
    intro n
    induction n with
    | zero =>
      intro t9 ht9 hin
      exact absurd hin (by omega)
    | succ n ih =>
      intro t9 ht9 hin H locs ls hP hD hS hl9
      have ih0 := ih
      refine lv_iload_n hx hb d_M_findOutsides_2 rfl (lv_at hl9 0 rfl) ?_
      refine lv_sipush (v := 1440) hx hb d_M_findOutsides_3 (by decide) ?_
      refine lv_icmp_ge (tgt := 61) hx hb d_M_findOutsides_6 (by decide) (fun c1 => ?_) (fun c1 => ?_)
      · have e9 : t9 = 1440 := by have := ge_of_c (i := t9) (b := 1440) (by omega) (by decide) c1; omega
        rw [e9, ho] at hP hD
        exact W.vret hx hb hr (fun t ht hW => ⟨⟨(), rfl, trivial, by have h9 := hP; rw [← ht] at h9; exact h9⟩, hS.F ht⟩) hS.2.2 d_M_findOutsides_61
      · have e9 : t9 < 1440 := lt_of_c (b := 1440) (by omega) (by decide) c1
        refine lv_iconst (v := 0) hx hb d_M_findOutsides_9 (by decide) ?_
        refine lv_istore_n (lv' := [(2, .int 0), (1, .int (nI t9)), (0, .ref m0)]) hx hb d_M_findOutsides_10 rfl hl9 (by decide) rfl (fun ls hl9 => ?_)
        refine lv_iconst (v := 0) hx hb d_M_findOutsides_11 (by decide) ?_
        refine lv_istore_n (lv' := [(3, .int 0), (2, .int 0), (1, .int (nI t9)), (0, .ref m0)]) hx hb d_M_findOutsides_12 rfl hl9 (by decide) rfl (fun ls hl9 => ?_)
        have lp2 : ∀ (n : Nat) (j : Nat), j ≤ nr → nr + 1 ≤ j + n → ∀ (H : Heap) (locs : List Loc) (ls : Array Slot), va_P (dC, dI) vwCl [(m0, .inr (3, [.int th, .int zn, .ref mH, .ref mL, .ref mB, .ref mP, .ref mR, .ref mA, .ref mW, .ref mU, .ref mV, .int (nI nr), .ref mM, .ref mT, .int mc, .ref mQ, .int ga, .int gb, .int kn, .ref mO, .ref mF, .ref mS, .ref mE, .ref mX, .ref mD])), (mM, .inl (cI, 24, .inl rM)), (mT, .inl (cI, 24, .inl rT)), (mO, .inl (cI, 1440, .inl (foA rO rM rT nr t9)))] H → va_D A [(m0, .inr (3, [.int th, .int zn, .ref mH, .ref mL, .ref mB, .ref mP, .ref mR, .ref mA, .ref mW, .ref mU, .ref mV, .int (nI nr), .ref mM, .ref mT, .int mc, .ref mQ, .int ga, .int gb, .int kn, .ref mO, .ref mF, .ref mS, .ref mE, .ref mX, .ref mD])), (mM, .inl (cI, 24, .inl rM)), (mT, .inl (cI, 24, .inl rT)), (mO, .inl (cI, 1440, .inl (foA rO rM rT nr t9)))] → va_S A s.heap H locs → lv_has ls 4 [(2, .int (fo rM rT t9 j)), (3, .int (nI j)), (1, .int (nI t9)), (0, .ref m0)] → W p l e (headSpec w_M_findOutsides ({ frames := 0, cells := 0, slots := 0, locals := 0 })).room s m ([.ref m0] : List Value).toArray below meth c H locs 0 0 (MQ below (va_Qv (fun (_ : Unit) => True) (fun (_ : Unit) (t : State) => va_P (dC, dI) vwCl [(m0, .inr (3, [.int th, .int zn, .ref mH, .ref mL, .ref mB, .ref mP, .ref mR, .ref mA, .ref mW, .ref mU, .ref mV, .int (nI nr), .ref mM, .ref mT, .int mc, .ref mQ, .int ga, .int gb, .int kn, .ref mO, .ref mF, .ref mS, .ref mE, .ref mX, .ref mD])), (mM, .inl (cI, 24, .inl rM)), (mT, .inl (cI, 24, .inl rT)), (mO, .inl (cI, 1440, .inl rO1))] t.heap) A) ([.ref m0] : List Value).toArray s 0 0 A) (F0 m 13 ls []) := by
          intro n
          induction n with
          | zero =>
            intro j hj hin9
            exact absurd hin9 (by omega)
          | succ n ih =>
            intro j hj hin9 H locs ls hP hD hS hl9
            refine lv_iload_n hx hb d_M_findOutsides_13 rfl (lv_at hl9 1 rfl) ?_
            refine lv_aload_n hx hb d_M_findOutsides_14 rfl (lv_at hl9 3 rfl) ?_
            refine va_get (D := (dC, dI)) (ci := 3) (v := .int (nI nr)) (C := R_M) (T := F_M) (N := 25) hx hb hG i_M hown hK hP 0 rfl rfl 11 (by decide) (hG _ k_451) (fun _ h9 => h9) rfl d_M_findOutsides_15 ?_
            refine lv_icmp_ge (tgt := 48) hx hb d_M_findOutsides_18 (by decide) (fun c2 => ?_) (fun c2 => ?_)
            · have e8 : j = nr := by have := ge_of_c (i := j) (b := nr) (by omega) (by omega) c2; omega
              have hin2 : vp_in (nI t9) 1440 := vp_in_nI e9 (by decide)
              refine lv_aload_n hx hb d_M_findOutsides_48 rfl (lv_at hl9 3 rfl) ?_
              refine va_get (D := (dC, dI)) (ci := 3) (v := .ref mO) (C := R_M) (T := F_M) (N := 25) hx hb hG i_M hown hK hP 0 rfl rfl 19 (by decide) (hG _ k_459) (fun _ h9 => h9) rfl d_M_findOutsides_49 ?_
              refine lv_iload_n hx hb d_M_findOutsides_52 rfl (lv_at hl9 2 rfl) ?_
              refine lv_iload_n hx hb d_M_findOutsides_53 rfl (lv_at hl9 0 rfl) ?_
              refine va_iast hx hb hK hP hD hS 3 0 rfl rfl (hin2) d_M_findOutsides_54 (fun H locs hP hD hS => ?_)
              have hP : va_P (dC, dI) vwCl [(m0, .inr (3, [.int th, .int zn, .ref mH, .ref mL, .ref mB, .ref mP, .ref mR, .ref mA, .ref mW, .ref mU, .ref mV, .int (nI nr), .ref mM, .ref mT, .int mc, .ref mQ, .int ga, .int gb, .int kn, .ref mO, .ref mF, .ref mS, .ref mE, .ref mX, .ref mD])), (mM, .inl (cI, 24, .inl rM)), (mT, .inl (cI, 24, .inl rT)), (mO, .inl (cI, 1440, .inl (upd (foA rO rM rT nr t9) (nI t9).toNatClampNeg (fo rM rT t9 j))))] H := hP
              have hD : va_D A [(m0, .inr (3, [.int th, .int zn, .ref mH, .ref mL, .ref mB, .ref mP, .ref mR, .ref mA, .ref mW, .ref mU, .ref mV, .int (nI nr), .ref mM, .ref mT, .int mc, .ref mQ, .int ga, .int gb, .int kn, .ref mO, .ref mF, .ref mS, .ref mE, .ref mX, .ref mD])), (mM, .inl (cI, 24, .inl rM)), (mT, .inl (cI, 24, .inl rT)), (mO, .inl (cI, 1440, .inl (upd (foA rO rM rT nr t9) (nI t9).toNatClampNeg (fo rM rT t9 j))))] := hD
              rw [nI_clamp (n := t9) (by omega)] at hP hD
              refine lv_iinc (v := ((nI t9) + 1)) (lv' := [(1, .int ((nI t9) + 1)), (2, .int (fo rM rT t9 j)), (3, .int (nI j)), (0, .ref m0)]) hx hb d_M_findOutsides_55 hl9 (k := 2) rfl rfl (by decide) rfl (fun ls hl9 => ?_)
              refine lv_goto (tgt := 2) hx hb d_M_findOutsides_58 (by decide) ?_
              have e7 : (upd (foA rO rM rT nr t9) t9 (fo rM rT t9 j)) = (foA rO rM rT nr (t9 + 1)) := by rw [e8]; rfl
              rw [e7] at hP hD
              rw [nI_1] at hl9
              exact ih0 (t9 + 1) (by omega) (by omega) _ _ ls hP hD hS (lv_sub hl9 [0, 3] rfl)
            · have e8 : j < nr := lt_of_c (by omega) (by omega) c2
              have hin3 : vp_in (nI j) 24 := vp_in_nI (by omega) (by decide)
              refine lv_aload_n hx hb d_M_findOutsides_21 rfl (lv_at hl9 3 rfl) ?_
              refine va_get (D := (dC, dI)) (ci := 3) (v := .ref mM) (C := R_M) (T := F_M) (N := 25) hx hb hG i_M hown hK hP 0 rfl rfl 12 (by decide) (hG _ k_452) (fun _ h9 => h9) rfl d_M_findOutsides_22 ?_
              refine lv_iload_n hx hb d_M_findOutsides_25 rfl (lv_at hl9 1 rfl) ?_
              refine va_iald hx hb hK hP 1 0 rfl rfl (hin3) d_M_findOutsides_26 ?_
              rw [nI_clamp (n := j) (by omega)]
              refine lv_iload_n hx hb d_M_findOutsides_27 rfl (lv_at hl9 2 rfl) ?_
              refine lv_icmp_gt (tgt := 40) hx hb d_M_findOutsides_28 (by decide) (fun c3 => ?_) (fun c3 => ?_)
              · have e7 : fo rM rT t9 j = fo rM rT t9 (j + 1) := (if_neg (Int32.not_le.mpr c3)).symm
                refine lv_iload_n hx hb d_M_findOutsides_40 rfl (lv_at hl9 0 rfl) ?_
                refine lv_istore_n (lv' := [(2, .int (fo rM rT t9 j)), (3, .int (nI j)), (1, .int (nI t9)), (0, .ref m0)]) hx hb d_M_findOutsides_41 rfl hl9 (by decide) rfl (fun ls hl9 => ?_)
                refine lv_iinc (v := ((nI j) + 1)) (lv' := [(3, .int ((nI j) + 1)), (2, .int (fo rM rT t9 j)), (1, .int (nI t9)), (0, .ref m0)]) hx hb d_M_findOutsides_42 hl9 (k := 1) rfl rfl (by decide) rfl (fun ls hl9 => ?_)
                refine lv_goto (tgt := 13) hx hb d_M_findOutsides_45 (by decide) ?_
                rw [nI_1, e7] at hl9
                exact ih (j + 1) (by omega) (by omega) _ _ ls hP hD hS (lv_sub hl9 [1, 0, 2, 3] rfl)
              · have e7 : rT j = fo rM rT t9 (j + 1) := (if_pos (Int32.not_lt.mp c3)).symm
                refine lv_aload_n hx hb d_M_findOutsides_31 rfl (lv_at hl9 3 rfl) ?_
                refine va_get (D := (dC, dI)) (ci := 3) (v := .ref mT) (C := R_M) (T := F_M) (N := 25) hx hb hG i_M hown hK hP 0 rfl rfl 13 (by decide) (hG _ k_453) (fun _ h9 => h9) rfl d_M_findOutsides_32 ?_
                refine lv_iload_n hx hb d_M_findOutsides_35 rfl (lv_at hl9 1 rfl) ?_
                refine va_iald hx hb hK hP 2 0 rfl rfl (hin3) d_M_findOutsides_36 ?_
                rw [nI_clamp (n := j) (by omega)]
                refine lv_goto (tgt := 41) hx hb d_M_findOutsides_37 (by decide) ?_
                refine lv_istore_n (lv' := [(2, .int (rT j)), (3, .int (nI j)), (1, .int (nI t9)), (0, .ref m0)]) hx hb d_M_findOutsides_41 rfl hl9 (by decide) rfl (fun ls hl9 => ?_)
                refine lv_iinc (v := ((nI j) + 1)) (lv' := [(3, .int ((nI j) + 1)), (2, .int (rT j)), (1, .int (nI t9)), (0, .ref m0)]) hx hb d_M_findOutsides_42 hl9 (k := 1) rfl rfl (by decide) rfl (fun ls hl9 => ?_)
                refine lv_goto (tgt := 13) hx hb d_M_findOutsides_45 (by decide) ?_
                rw [nI_1, e7] at hl9
                exact ih (j + 1) (by omega) (by omega) _ _ ls hP hD hS (lv_sub hl9 [1, 0, 2, 3] rfl)
        exact lp2 (nr + 1) 0 (Nat.zero_le _) (by omega) _ _ ls hP hD hS (lv_sub hl9 [1, 0, 2, 3] rfl)
  exact lp 1441 0 (by omega) (by omega) _ _ ls hP hD hS (lv_sub hl9 [0, 1] rfl)
set_option maxHeartbeats 4000000 in
set_option maxRecDepth 100000 in
theorem m_isWarm (l : Launch) (dC : Nat → ClassId) (dI : Nat → Nat → Nat) (cI cJ cZ cB : ClassId) (m0 mH mL mB mP mR mA mW mU mV mM mT mQ mO mF mS mE mX mD : Nat) (th zn rw mc ga gb kn : Int32) (rH rL rP rA rW rO rF : Nat → Int32)  (k a b : Nat) (x : Int32) (sz : Nat) (hk6 : k < 6) (hab : a ≤ b) (hb1 : b < 1440) (hAb : rA k = nI b) (hzl : ¬ rL k = 0) (hzh : ¬ rH k = 0) : Met l y_M_isWarm w_M_isWarm ({ frames := 1, cells := 0, slots := 0, locals := 24 }) (PC (dC, dI) (TY cI cJ cZ cB) [.ref m0, .int (nI k), .int (nI a), .int x] [(m0, .inr (3, [.int th, .int zn, .ref mH, .ref mL, .ref mB, .ref mP, .ref mR, .ref mA, .ref mW, .ref mU, .ref mV, .int rw, .ref mM, .ref mT, .int mc, .ref mQ, .int ga, .int gb, .int kn, .ref mO, .ref mF, .ref mS, .ref mE, .ref mX, .ref mD])), (mH, .inl (cI, 6, .inl rH)), (mL, .inl (cI, 6, .inl rL)), (mP, .inl (cI, 6, .inl rP)), (mA, .inl (cI, 6, .inl rA)), (mW, .inl (cI, 6, .inl rW)), (mO, .inl (cI, 1440, .inl rO)), (mF, .inl (cI, 1440, .inl rF))] sz (va_A [] sz)) (va_Qi (fun (r : Int32) (_ : Unit) => r = if rW k ≤ wj rO rF (rL k) (rH k) (rP k) x a (b - a) then 1 else 0) (fun (_ : Unit) (_ : State) => True) (va_A [] sz)) 0 0 (va_A [] sz) := by
  refine Met.ofW (cc := b_M_isWarm) (maxL := 6) (ret := (some .boolean)) (by decide) rfl ?_
  intro p e s m args below meth c s₁ B hml hv
  obtain ⟨rfl, hsz, hP, hK, hD0, hE⟩ := hv
  have hx := B.exec
  have hb := B.bytes
  have hr := B.returns
  have hG : ∀ w ∈ GG, w.before _ s = true := fun w h => atoms_spec (ws := w_M_isWarm) B.pre w (List.mem_cons_of_mem _ h)
  have hown : s.vm.findClass R_M = some m.cls := findClass_of_methodNamed B.named
  have hlocks := B.notSynchronized
  subst hsz
  generalize hAe : (va_A [] s.heap.size) = A at hE ⊢
  have hA : ∀ q : Nat, s.heap.size ≤ q → A q := fun q h => by rw [← hAe]; exact Or.inr h
  have hS : va_S A s.heap s.heap [] := va_S.rf
  have hD := hD0
  obtain ⟨H, hH⟩ : ∃ z, z = s.heap := ⟨_, rfl⟩
  rw [← hH] at hP
  have hS : va_S A s.heap H [] := by rw [hH]; exact hS
  rw [← hH]
  have hl9 := lv_entry ([.ref m0, .int (nI k), .int (nI a), .int x]) (n := 6) (Nat.le_of_ble_eq_true rfl)
  rw [lg_entry_eq]
  generalize (lg_sl ([.ref m0, .int (nI k), .int (nI a), .int x]) ++ List.replicate (6 - (lg_sl ([.ref m0, .int (nI k), .int (nI a), .int x])).length) Slot.unset).toArray = ls at hl9 ⊢
  have hl9 : lv_has ls 6 [(0, .ref m0), (1, .int (nI k)), (2, .int (nI a)), (3, .int x)] := hl9
  have hin : vp_in (nI k) 6 := vp_in_nI hk6 (by decide)
  refine lv_iload_n hx hb d_M_isWarm_0 rfl (lv_at hl9 3 rfl) ?_
  refine lv_istore (lv' := [(4, .int x), (0, .ref m0), (1, .int (nI k)), (2, .int (nI a)), (3, .int x)]) hx hb d_M_isWarm_1 hl9 (by decide) rfl (fun ls hl9 => ?_)
  refine lv_iload_n hx hb d_M_isWarm_3 rfl (lv_at hl9 3 rfl) ?_
  refine lv_istore (lv' := [(5, .int (nI a)), (4, .int x), (0, .ref m0), (1, .int (nI k)), (2, .int (nI a)), (3, .int x)]) hx hb d_M_isWarm_4 hl9 (by decide) rfl (fun ls hl9 => ?_)
  have lp : ∀ (n : Nat) (i : Nat), a ≤ i → i ≤ b → b + 1 ≤ i + n → ∀ (H : Heap) (locs : List Loc) (ls : Array Slot), va_P (dC, dI) vwCl [(m0, .inr (3, [.int th, .int zn, .ref mH, .ref mL, .ref mB, .ref mP, .ref mR, .ref mA, .ref mW, .ref mU, .ref mV, .int rw, .ref mM, .ref mT, .int mc, .ref mQ, .int ga, .int gb, .int kn, .ref mO, .ref mF, .ref mS, .ref mE, .ref mX, .ref mD])), (mH, .inl (cI, 6, .inl rH)), (mL, .inl (cI, 6, .inl rL)), (mP, .inl (cI, 6, .inl rP)), (mA, .inl (cI, 6, .inl rA)), (mW, .inl (cI, 6, .inl rW)), (mO, .inl (cI, 1440, .inl rO)), (mF, .inl (cI, 1440, .inl rF))] H → va_S A s.heap H locs → lv_has ls 6 [(4, .int (wj rO rF (rL k) (rH k) (rP k) x a (i - a))), (5, .int (nI i)), (0, .ref m0), (1, .int (nI k))] → W p l e (headSpec w_M_isWarm ({ frames := 1, cells := 0, slots := 0, locals := 24 })).room s m ([.ref m0, .int (nI k), .int (nI a), .int x] : List Value).toArray below meth c H locs 0 0 (MQ below (va_Qi (fun (r : Int32) (_ : Unit) => r = if rW k ≤ wj rO rF (rL k) (rH k) (rP k) x a (b - a) then 1 else 0) (fun (_ : Unit) (_ : State) => True) A) ([.ref m0, .int (nI k), .int (nI a), .int x] : List Value).toArray s 0 0 A) (F0 m 6 ls []) := by
    intro n
    induction n with
    | zero =>
      intro i hai hib hin9
      exact absurd hin9 (by omega)
    | succ n ih =>
      intro i hai hib hin9 H locs ls hP hS hl9
      refine lv_iload hx hb d_M_isWarm_6 (lv_at hl9 1 rfl) ?_
      refine lv_aload_n hx hb d_M_isWarm_8 rfl (lv_at hl9 2 rfl) ?_
      refine va_get (D := (dC, dI)) (ci := 3) (v := .ref mA) (C := R_M) (T := F_M) (N := 25) hx hb hG i_M hown hK hP 0 rfl rfl 7 (by decide) (hG _ k_447) (fun _ h9 => h9) rfl d_M_isWarm_9 ?_
      refine lv_iload_n hx hb d_M_isWarm_12 rfl (lv_at hl9 3 rfl) ?_
      refine va_iald hx hb hK hP 4 0 rfl rfl (hin) d_M_isWarm_13 ?_
      rw [nI_clamp (n := k) (by omega)]
      rw [hAb]
      refine lv_icmp_ge (tgt := 41) hx hb d_M_isWarm_14 (by decide) (fun c1 => ?_) (fun c1 => ?_)
      · have e9 : i = b := by have := ge_of_c (i := i) (b := b) (by omega) (by omega) c1; omega
        refine lv_iload hx hb d_M_isWarm_41 (lv_at hl9 0 rfl) ?_
        refine lv_aload_n hx hb d_M_isWarm_43 rfl (lv_at hl9 2 rfl) ?_
        refine va_get (D := (dC, dI)) (ci := 3) (v := .ref mW) (C := R_M) (T := F_M) (N := 25) hx hb hG i_M hown hK hP 0 rfl rfl 8 (by decide) (hG _ k_448) (fun _ h9 => h9) rfl d_M_isWarm_44 ?_
        refine lv_iload_n hx hb d_M_isWarm_47 rfl (lv_at hl9 3 rfl) ?_
        refine va_iald hx hb hK hP 5 0 rfl rfl (hin) d_M_isWarm_48 ?_
        rw [nI_clamp (n := k) (by omega)]
        refine lv_icmp_lt (tgt := 56) hx hb d_M_isWarm_49 (by decide) (fun c2 => ?_) (fun c2 => ?_)
        · refine lv_iconst (v := 0) hx hb d_M_isWarm_56 (by decide) ?_
          exact W.zret (v := 0) hx hb hr rfl (fun t ht hW => ⟨⟨0, (), rfl, by rw [e9] at c2; exact (if_neg (Int32.not_le.mpr c2)).symm, trivial⟩, hS.F ht⟩) hS.2.2 d_M_isWarm_57
        · refine lv_iconst (v := 1) hx hb d_M_isWarm_52 (by decide) ?_
          refine lv_goto (tgt := 57) hx hb d_M_isWarm_53 (by decide) ?_
          exact W.zret (v := 1) hx hb hr rfl (fun t ht hW => ⟨⟨1, (), rfl, by rw [e9] at c2; exact (if_pos (Int32.not_lt.mp c2)).symm, trivial⟩, hS.F ht⟩) hS.2.2 d_M_isWarm_57
      · have e9 : i < b := lt_of_c (by omega) (by omega) c1
        refine lv_aload_n hx hb d_M_isWarm_17 rfl (lv_at hl9 2 rfl) ?_
        refine lv_iload_n hx hb d_M_isWarm_18 rfl (lv_at hl9 3 rfl) ?_
        refine lv_iload hx hb d_M_isWarm_19 (lv_at hl9 0 rfl) ?_
        refine lv_iload hx hb d_M_isWarm_21 (lv_at hl9 1 rfl) ?_
        refine lv_aload_n hx hb d_M_isWarm_23 rfl (lv_at hl9 2 rfl) ?_
        refine lv_iload_n hx hb d_M_isWarm_24 rfl (lv_at hl9 3 rfl) ?_
        refine lv_iload hx hb d_M_isWarm_25 (lv_at hl9 1 rfl) ?_
        have hPc := hP.sub (ws' := [(m0, .inr (3, [.int th, .int zn, .ref mH, .ref mL, .ref mB, .ref mP, .ref mR, .ref mA, .ref mW, .ref mU, .ref mV, .int rw, .ref mM, .ref mT, .int mc, .ref mQ, .int ga, .int gb, .int kn, .ref mO, .ref mF, .ref mS, .ref mE, .ref mX, .ref mD])), (mP, .inl (cI, 6, .inl rP)), (mF, .inl (cI, 1440, .inl rF))]) [0, 3, 7] rfl
        have hDc := hD.sub (ws' := [(m0, .inr (3, [.int th, .int zn, .ref mH, .ref mL, .ref mB, .ref mP, .ref mR, .ref mA, .ref mW, .ref mU, .ref mV, .int rw, .ref mM, .ref mT, .int mc, .ref mQ, .int ga, .int gb, .int kn, .ref mO, .ref mF, .ref mS, .ref mE, .ref mX, .ref mD])), (mP, .inl (cI, 6, .inl rP)), (mF, .inl (cI, 1440, .inl rF))]) [0, 3, 7] (by decide) rfl
        have hFc := va_A_nil hA hS.1
        refine va_calli (va_runV (C := R_M) (As := [.int (nI k), .int (nI i)]) (rest := [.int (nI i), .int (wj rO rF (rL k) (rH k) (rP k) x a (i - a)), .int (nI k), .ref m0]) ⟨hx, hb, hml, hown, hG⟩ (m_heatIn l dC dI cI cJ cZ cB m0 mH mL mB mP mR mA mW mU mV mM mT mQ mO mF mS mE mX mD th zn rw mc ga gb kn rP rF k i H.size hk6 (by omega)) (cwV 2 hG g_M_103 rfl rfl rfl (by decide +kernel) ⟨Nat.le_of_ble_eq_true rfl, Nat.le_of_ble_eq_true rfl⟩) ⟨PC.blind, va_recv hK hP (ci := 3) (q0 := 0) rfl rfl, PC.of hPc hK hDc hE hS hFc⟩ rfl rfl hl9.1 rfl (lv_room (Nat.le_of_ble_eq_true rfl)) d_M_isWarm_27 ⟨by first | exact Nat.le_of_ble_eq_true rfl | omega, by first | exact Nat.le_of_ble_eq_true rfl | omega⟩) hS (fun q _ h => hFc q h) hFc (fun r2 u t H1 locs ht hvm hw hB hz1 hk1 hS => ?_)
        have hP := wp_kept hP hk1
        have hw : r2 = hn rF (rP k) i := hw
        subst hw
        have hPc := hP.sub (ws' := [(m0, .inr (3, [.int th, .int zn, .ref mH, .ref mL, .ref mB, .ref mP, .ref mR, .ref mA, .ref mW, .ref mU, .ref mV, .int rw, .ref mM, .ref mT, .int mc, .ref mQ, .int ga, .int gb, .int kn, .ref mO, .ref mF, .ref mS, .ref mE, .ref mX, .ref mD])), (mH, .inl (cI, 6, .inl rH)), (mL, .inl (cI, 6, .inl rL)), (mO, .inl (cI, 1440, .inl rO))]) [0, 1, 2, 6] rfl
        have hDc := hD.sub (ws' := [(m0, .inr (3, [.int th, .int zn, .ref mH, .ref mL, .ref mB, .ref mP, .ref mR, .ref mA, .ref mW, .ref mU, .ref mV, .int rw, .ref mM, .ref mT, .int mc, .ref mQ, .int ga, .int gb, .int kn, .ref mO, .ref mF, .ref mS, .ref mE, .ref mX, .ref mD])), (mH, .inl (cI, 6, .inl rH)), (mL, .inl (cI, 6, .inl rL)), (mO, .inl (cI, 1440, .inl rO))]) [0, 1, 2, 6] (by decide) rfl
        have hFc := va_A_nil hA hS.1
        refine va_calli (va_runV (C := R_M) (As := [.int (nI k), .int (wj rO rF (rL k) (rH k) (rP k) x a (i - a)), .int (nI i), .int (hn rF (rP k) i)]) (rest := []) ⟨hx, hb, hml, hown, hG⟩ (m_stepped l dC dI cI cJ cZ cB m0 mH mL mB mP mR mA mW mU mV mM mT mQ mO mF mS mE mX mD th zn rw mc ga gb kn rH rL rO k i (wj rO rF (rL k) (rH k) (rP k) x a (i - a)) (hn rF (rP k) i) H1.size hk6 (by omega) hzl hzh) (cwV 4 hG g_M_107 rfl rfl rfl (by decide +kernel) ⟨Nat.le_of_ble_eq_true rfl, Nat.le_of_ble_eq_true rfl⟩) ⟨PC.blind, va_recv hK hP (ci := 3) (q0 := 0) rfl rfl, PC.of hPc hK hDc hE hS hFc⟩ rfl rfl hl9.1 rfl (lv_room (Nat.le_of_ble_eq_true rfl)) d_M_isWarm_30 ⟨by first | exact Nat.le_of_ble_eq_true rfl | omega, by first | exact Nat.le_of_ble_eq_true rfl | omega⟩) hS (fun q _ h => hFc q h) hFc (fun r4 u t H3 locs ht hvm hw hB hz1 hk1 hS => ?_)
        have hP := wp_kept hP hk1
        have hw : r4 = (wj rO rF (rL k) (rH k) (rP k) x a (i - a)) + (rO i - (wj rO rF (rL k) (rH k) (rP k) x a (i - a))) / rL k + (hn rF (rP k) i) / rH k := hw
        subst hw
        refine lv_istore (lv' := [(4, .int ((wj rO rF (rL k) (rH k) (rP k) x a (i - a)) + (rO i - (wj rO rF (rL k) (rH k) (rP k) x a (i - a))) / rL k + (hn rF (rP k) i) / rH k)), (5, .int (nI i)), (0, .ref m0), (1, .int (nI k))]) hx hb d_M_isWarm_33 hl9 (by decide) rfl (fun ls hl9 => ?_)
        refine lv_iinc (v := ((nI i) + 1)) (lv' := [(5, .int ((nI i) + 1)), (4, .int ((wj rO rF (rL k) (rH k) (rP k) x a (i - a)) + (rO i - (wj rO rF (rL k) (rH k) (rP k) x a (i - a))) / rL k + (hn rF (rP k) i) / rH k)), (0, .ref m0), (1, .int (nI k))]) hx hb d_M_isWarm_35 hl9 (k := 1) rfl rfl (by decide) rfl (fun ls hl9 => ?_)
        refine lv_goto (tgt := 6) hx hb d_M_isWarm_38 (by decide) ?_
        have e8 : wj rO rF (rL k) (rH k) (rP k) x a (i - a) + (rO i - wj rO rF (rL k) (rH k) (rP k) x a (i - a)) / rL k + hn rF (rP k) i / rH k = wj rO rF (rL k) (rH k) (rP k) x a (i + 1 - a) := by rw [show i + 1 - a = (i - a) + 1 by omega]; show _ = wj rO rF (rL k) (rH k) (rP k) x a (i - a) + (rO (a + (i - a)) - wj rO rF (rL k) (rH k) (rP k) x a (i - a)) / rL k + hn rF (rP k) (a + (i - a)) / rH k; rw [show a + (i - a) = i by omega]
        rw [e8, nI_1] at hl9
        exact ih (i + 1) (by omega) (by omega) (by omega) _ _ ls hP hS (lv_sub hl9 [1, 0, 2, 3] rfl)
  have hl9 : lv_has ls 6 [(5, .int (nI a)), (4, .int (wj rO rF (rL k) (rH k) (rP k) x a (a - a))), (0, .ref m0), (1, .int (nI k))] := by rw [Nat.sub_self]; exact lv_sub hl9 [0, 1, 2, 3] rfl
  exact lp (b + 1 - a) a (Nat.le_refl a) hab (by omega) _ _ ls hP hS (lv_sub hl9 [1, 0, 2, 3] rfl)
