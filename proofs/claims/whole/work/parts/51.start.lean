theorem g_L_72 : GoodIn GG w_C_init := goodG (List.forall_mem_cons.mpr ⟨k_15, fun _ h => h⟩)
theorem g_L_75 : GoodIn GG w_M_init := goodG (List.forall_mem_cons.mpr ⟨k_437, fun _ h => h⟩)
/-! ===== what the Statement gives of the start ===== -/
theorem start_str {args : Array Value} {s : State} {k : Nat} {tx : String} {cur : ClassId} (hcur : s.vm.findClass "StartTimes" = some cur) (h : (Cond.stringRef "StartTimes" k tx).before args s = true) : ∃ sa : Nat, vk_R "StartTimes" k tx sa s := by
  obtain ⟨kk, cf, i, a, -, -, -, -, -, he⟩ := Cond.stringRef_spec hcur (show (Cond.stringRef "StartTimes" k tx).holds args s none s [] = true from h)
  exact ⟨a, vk_R.of h he⟩
theorem start_ev {s : State} {b : Nat} (hts : ∀ w ∈ lw_tbl, w.before #[Value.ref b] s = true) (hgv : (Jvm.Cond.and given_1 narrow_1).before #[Value.ref b] s = true) : EV (fun q : Nat => s.heap.size ≤ q) s ∧ va_Nc "java/lang/IllegalStateException" "java/lang/IllegalArgumentException" s := by
  have ht : ∀ w ∈ tables_1, w.before #[Value.ref b] s = true := fun w h => hts w (List.mem_append_right _ h)
  have hs := flat_of_before _ hgv
  have hG : ∀ w ∈ GG, w.before #[Value.ref b] s = true := fun w h => hts w (List.mem_filter.mp h).1
  obtain ⟨c2, iS2, hKn2⟩ := u_known (C := R_C) (T := F_C) (N := 13) (n := 13) hG i_C (hG _ k_12)
  have hcur : s.vm.findClass "StartTimes" = some c2 := hKn2.2.1
  have hfree : ∀ a : Nat, a < s.heap.size → ¬ (fun q : Nat => s.heap.size ≤ q) a := fun a h => Nat.not_le.mpr h
  refine ⟨⟨⟨fun w hw hn => va_Nw.of (nx_ot hn) (ht w hw), ?_, ?_⟩, ?_, ?_⟩, ?_⟩
  · intro q hq
    simp only [nx_S, List.mem_cons, List.not_mem_nil, or_false] at hq
    rcases hq with rfl | rfl | rfl | rfl | rfl | rfl
    · exact start_str hcur (ht _ (tn0 (List.mem_of_getElem? (i := 116) rfl)))
    · exact start_str hcur (ht _ (tn0 (List.mem_of_getElem? (i := 152) rfl)))
    · exact start_str hcur (ht _ (tn0 (List.mem_of_getElem? (i := 231) rfl)))
    · exact start_str hcur (ht _ (tn1 (List.mem_of_getElem? (i := 6) rfl)))
    · exact start_str hcur (ht _ (tn1 (List.mem_of_getElem? (i := 7) rfl)))
    · exact start_str hcur (ht _ (tn1 (List.mem_of_getElem? (i := 169) rfl)))
  · exact va_AO.of (ht _ (tn0 (List.mem_of_getElem? (i := 20) rfl)))
  · exact vx_Zqof (ht _ (tn0 (List.mem_of_getElem? (i := 103) rfl))) (hG _ k_3) (hs _ (by decide +kernel)) hfree
  · exact vx_Zqof (ht _ (tn0 (List.mem_of_getElem? (i := 105) rfl))) (hG _ k_3) (hs _ (by decide +kernel)) hfree
  · exact va_Nc.of (hs _ (by decide +kernel))
set_option maxHeartbeats 4000000 in
set_option maxRecDepth 100000 in
theorem whole_start {p : Program} {e : Env} {s : State} {m : MethodId} {below : List Frame} {meth : Method} {c : Code} (l : Launch) (hl : l.stackTraces = false) {b L : Nat} {xs : Nat → Int32} (hL : L ≤ 2560) (C0 : lw_At p s m meth c b L xs) : W p l e room_1 s m #[Value.ref b] below meth c s.heap [] 0 0 (lw_Z below #[Value.ref b] s) (entryFrame m ([Value.ref b] : List Value).toArray 8) := by
  obtain ⟨hx, hb, hr, hml, hown, hts, hX, hbl, hlocks, hgv⟩ := C0
  have hG : ∀ w ∈ GG, w.before #[Value.ref b] s = true := fun w h => hts w (List.mem_filter.mp h).1
  obtain ⟨A, hAe⟩ : ∃ A : Nat → Prop, A = (fun q : Nat => s.heap.size ≤ q) := ⟨_, rfl⟩
  have hA : ∀ q : Nat, s.heap.size ≤ q → A q := fun q h => by rw [hAe]; exact h
  have hEN := start_ev hts hgv
  have hE : EV A s := by rw [hAe]; exact hEN.1
  have hN := hEN.2
  obtain ⟨c0, iS0, hKn0⟩ := u_known (C := R_E) (T := F_E) (N := 2) (n := 2) hG i_E (hG _ k_165)
  obtain ⟨c1, iS1, hKn1⟩ := u_known (C := R_Z) (T := F_Z) (N := 10) (n := 10) hG i_Z (hG _ k_159)
  obtain ⟨c2, iS2, hKn2⟩ := u_known (C := R_C) (T := F_C) (N := 13) (n := 13) hG i_C (hG _ k_12)
  obtain ⟨c3, iS3, hKn3⟩ := u_known (C := R_M) (T := F_M) (N := 25) (n := 25) hG i_M (hG _ k_434)
  obtain ⟨dC, dI, hKc⟩ : ∃ (dC : Nat → ClassId) (dI : Nat → Nat → Nat), ∀ (k : Nat) (q : vw_C), vwCl[k]? = some q → u_Kn s q.1 q.2.1 q.2.2 (dC k) (dI k) := by
    refine ⟨fun k => if k = 0 then c0 else if k = 1 then c1 else if k = 2 then c2 else c3, fun k => if k = 0 then iS0 else if k = 1 then iS1 else if k = 2 then iS2 else iS3, ?_⟩
    intro k q hq
    match k, hq with
    | 0, hq => cases hq; exact hKn0
    | 1, hq => cases hq; exact hKn1
    | 2, hq => cases hq; exact hKn2
    | 3, hq => cases hq; exact hKn3
    | k + 4, hq => simp [vwCl] at hq
  obtain ⟨cI, hI1⟩ := ty_prim (hG _ k_62) (fun C h => by cases h)
  obtain ⟨cJ, hJ1⟩ := ty_prim (hG _ k_63) (fun C h => by cases h)
  obtain ⟨cB, hB1⟩ := ty_prim (hG _ k_516) (fun C h => by cases h)
  obtain ⟨cZ, hZ1⟩ := ty_obj (s := s) (C := "StartTimes$Zone") hE.1.2.2
  have hK : va_K (dC, dI) vwCl (TY cI cJ cZ cB) s := by
    refine ⟨hKc, fun k q h => ?_⟩
    match k, h with
    | 0, h => cases h; exact hI1
    | 1, h => cases h; exact hJ1
    | 2, h => cases h; exact hZ1
    | 3, h => cases h; exact hB1
    | k + 4, h => simp at h
  have hS : va_S A s.heap s.heap [] := va_S.rf
  have hP : va_P (dC, dI) vwCl [] s.heap := fun k q h => by simp at h
  have hD : va_D A [] := ⟨fun i j p q h => by simp at h, fun k q h => by simp at h⟩
  have hl9 := lv_entry ([.ref b]) (n := 8) (Nat.le_of_ble_eq_true rfl)
  rw [lg_entry_eq]
  generalize (lg_sl ([.ref b]) ++ List.replicate (8 - (lg_sl ([.ref b])).length) Slot.unset).toArray = ls at hl9 ⊢
  have hl9 : lv_has ls 8 [(0, .ref b)] := hl9
  refine va_new (ci := 2) (fs := [.null, .int 0, .null, .int 0, .int 0, .int 0, .null, .int 0, .int 0, .int 0, .null, .null, .null]) (C := R_C) (T := F_C) (N := 13) hx hb hG i_C t_C t_C_ok hown (hG _ k_11) (hG _ k_12) (hG _ k_1) hK hP hD hS hA rfl (by decide +kernel) (by first | exact Nat.le_of_ble_eq_true rfl | omega) (by first | exact Nat.le_of_ble_eq_true rfl | omega) d_L_law_0 (fun a0 H hP hD hS => ?_)
  have hP : va_P (dC, dI) vwCl [(a0, .inr (2, [.null, .int 0, .null, .int 0, .int 0, .int 0, .null, .int 0, .int 0, .int 0, .null, .null, .null]))] H := hP
  have hD : va_D A [(a0, .inr (2, [.null, .int 0, .null, .int 0, .int 0, .int 0, .null, .int 0, .int 0, .int 0, .null, .null, .null]))] := hD
  refine lv_dup hx hb d_L_law_3 rfl ?_
  have hPc := hP.sub (ws' := [(a0, .inr (2, [.null, .int 0, .null, .int 0, .int 0, .int 0, .null, .int 0, .int 0, .int 0, .null, .null, .null]))]) [0] rfl
  have hDc := hD.sub (ws' := [(a0, .inr (2, [.null, .int 0, .null, .int 0, .int 0, .int 0, .null, .int 0, .int 0, .int 0, .null, .null, .null]))]) [0] (by decide) rfl
  have hFc := va_free (wc := [(a0, .inr (2, [.null, .int 0, .null, .int 0, .int 0, .int 0, .null, .int 0, .int 0, .int 0, .null, .null, .null]))]) hD hS hA [0] rfl
  refine va_callv (va_runI (As := []) (rest := [.ref a0]) ⟨hx, hb, hml, hown, hG⟩ (c_C_init l dC dI cI cJ cZ cB a0 H.size ) (cwI 0 hG g_L_72 rfl rfl rfl (hG _ k_1) (hG _ k_13) (hG _ k_14) rfl (by decide +kernel) ⟨Nat.le_of_ble_eq_true rfl, Nat.le_of_ble_eq_true rfl⟩) ⟨PC.blind, PC.of hPc hK hDc hE hS hFc⟩ rfl rfl hl9.1 rfl (lv_room (Nat.le_of_ble_eq_true rfl)) d_L_law_4 ⟨by first | exact Nat.le_of_ble_eq_true rfl | omega, by first | exact Nat.le_of_ble_eq_true rfl | omega⟩) hS (fun q _ h => hFc q h) hFc (fun u t H1 locs ht hvm hw hB hz1 hk1 hS => ?_)
  obtain ⟨aZ, aO, aG, aP, aW, aK⟩ := u
  obtain ⟨hP1, hD1⟩ := hB
  rw [ht] at hP1
  obtain ⟨hP, hD⟩ := va_join (wr := []) (w1 := [(a0, .inr (2, [.ref aZ, .int 0, .ref aO, .int 0, .int (-1), .int 100000, .ref aG, .int 0, .int 1, .int 2, .ref aP, .ref aW, .ref aK])), (aZ, .inl (cZ, 6, .inr (.inr (.inr (.inr (fun _ => none)))))), (aO, .inl (cI, 1440, .inl (fun _ => 0))), (aG, .inl (cI, 1440, .inl (fun _ => 0))), (aP, .inl (cI, 24, .inl (fun _ => 0))), (aW, .inl (cI, 1024, .inl (fun _ => 0))), (aK, .inl (cJ, 1024, .inr (.inl (fun _ => 0))))]) hP hD [0] [] rfl rfl (by decide) (by decide) hk1 hFc hP1 hD1
  have hP : va_P (dC, dI) vwCl [(a0, .inr (2, [.ref aZ, .int 0, .ref aO, .int 0, .int (-1), .int 100000, .ref aG, .int 0, .int 1, .int 2, .ref aP, .ref aW, .ref aK])), (aZ, .inl (cZ, 6, .inr (.inr (.inr (.inr (fun _ => none)))))), (aO, .inl (cI, 1440, .inl (fun _ => 0))), (aG, .inl (cI, 1440, .inl (fun _ => 0))), (aP, .inl (cI, 24, .inl (fun _ => 0))), (aW, .inl (cI, 1024, .inl (fun _ => 0))), (aK, .inl (cJ, 1024, .inr (.inl (fun _ => 0))))] H1 := hP
  have hD : va_D A [(a0, .inr (2, [.ref aZ, .int 0, .ref aO, .int 0, .int (-1), .int 100000, .ref aG, .int 0, .int 1, .int 2, .ref aP, .ref aW, .ref aK])), (aZ, .inl (cZ, 6, .inr (.inr (.inr (.inr (fun _ => none)))))), (aO, .inl (cI, 1440, .inl (fun _ => 0))), (aG, .inl (cI, 1440, .inl (fun _ => 0))), (aP, .inl (cI, 24, .inl (fun _ => 0))), (aW, .inl (cI, 1024, .inl (fun _ => 0))), (aK, .inl (cJ, 1024, .inr (.inl (fun _ => 0))))] := hD
  refine lv_astore_n (lv' := [(1, .ref a0), (0, .ref b)]) hx hb d_L_law_7 rfl hl9 (by decide) rfl (fun ls hl9 => ?_)
  refine va_new (ci := 3) (fs := [.int 0, .int 0, .null, .null, .null, .null, .null, .null, .null, .null, .null, .int 0, .null, .null, .int 0, .null, .int 0, .int 0, .int 0, .null, .null, .null, .null, .null, .null]) (C := R_M) (T := F_M) (N := 25) hx hb hG i_M t_M t_M_ok hown (hG _ k_433) (hG _ k_434) (hG _ k_2) hK hP hD hS hA rfl (by decide +kernel) (by first | exact Nat.le_of_ble_eq_true rfl | omega) (by first | exact Nat.le_of_ble_eq_true rfl | omega) d_L_law_8 (fun m0 H hP hD hS => ?_)
  have hP : va_P (dC, dI) vwCl [(a0, .inr (2, [.ref aZ, .int 0, .ref aO, .int 0, .int (-1), .int 100000, .ref aG, .int 0, .int 1, .int 2, .ref aP, .ref aW, .ref aK])), (aZ, .inl (cZ, 6, .inr (.inr (.inr (.inr (fun _ => none)))))), (aO, .inl (cI, 1440, .inl (fun _ => 0))), (aG, .inl (cI, 1440, .inl (fun _ => 0))), (aP, .inl (cI, 24, .inl (fun _ => 0))), (aW, .inl (cI, 1024, .inl (fun _ => 0))), (aK, .inl (cJ, 1024, .inr (.inl (fun _ => 0)))), (m0, .inr (3, [.int 0, .int 0, .null, .null, .null, .null, .null, .null, .null, .null, .null, .int 0, .null, .null, .int 0, .null, .int 0, .int 0, .int 0, .null, .null, .null, .null, .null, .null]))] H := hP
  have hD : va_D A [(a0, .inr (2, [.ref aZ, .int 0, .ref aO, .int 0, .int (-1), .int 100000, .ref aG, .int 0, .int 1, .int 2, .ref aP, .ref aW, .ref aK])), (aZ, .inl (cZ, 6, .inr (.inr (.inr (.inr (fun _ => none)))))), (aO, .inl (cI, 1440, .inl (fun _ => 0))), (aG, .inl (cI, 1440, .inl (fun _ => 0))), (aP, .inl (cI, 24, .inl (fun _ => 0))), (aW, .inl (cI, 1024, .inl (fun _ => 0))), (aK, .inl (cJ, 1024, .inr (.inl (fun _ => 0)))), (m0, .inr (3, [.int 0, .int 0, .null, .null, .null, .null, .null, .null, .null, .null, .null, .int 0, .null, .null, .int 0, .null, .int 0, .int 0, .int 0, .null, .null, .null, .null, .null, .null]))] := hD
  refine lv_dup hx hb d_L_law_11 rfl ?_
  have hPc := hP.sub (ws' := [(m0, .inr (3, [.int 0, .int 0, .null, .null, .null, .null, .null, .null, .null, .null, .null, .int 0, .null, .null, .int 0, .null, .int 0, .int 0, .int 0, .null, .null, .null, .null, .null, .null]))]) [7] rfl
  have hDc := hD.sub (ws' := [(m0, .inr (3, [.int 0, .int 0, .null, .null, .null, .null, .null, .null, .null, .null, .null, .int 0, .null, .null, .int 0, .null, .int 0, .int 0, .int 0, .null, .null, .null, .null, .null, .null]))]) [7] (by decide) rfl
  have hFc := va_free (wc := [(m0, .inr (3, [.int 0, .int 0, .null, .null, .null, .null, .null, .null, .null, .null, .null, .int 0, .null, .null, .int 0, .null, .int 0, .int 0, .int 0, .null, .null, .null, .null, .null, .null]))]) hD hS hA [7] rfl
  refine va_callv (va_runI (As := []) (rest := [.ref m0]) ⟨hx, hb, hml, hown, hG⟩ (m_M_init l dC dI cI cJ cZ cB m0 H.size ) (cwI 0 hG g_L_75 rfl rfl rfl (hG _ k_2) (hG _ k_435) (hG _ k_436) rfl (by decide +kernel) ⟨Nat.le_of_ble_eq_true rfl, Nat.le_of_ble_eq_true rfl⟩) ⟨PC.blind, PC.of hPc hK hDc hE hS hFc⟩ rfl rfl hl9.1 rfl (lv_room (Nat.le_of_ble_eq_true rfl)) d_L_law_12 ⟨by first | exact Nat.le_of_ble_eq_true rfl | omega, by first | exact Nat.le_of_ble_eq_true rfl | omega⟩) hS (fun q _ h => hFc q h) hFc (fun u t H2 locs ht hvm hw hB hz1 hk1 hS => ?_)
  obtain ⟨mH, mL, mB, mP, mR, mA, mW, mU, mV, mM, mT, mQ, mO, mF, mS, mE, mX, mD⟩ := u
  obtain ⟨hP1, hD1⟩ := hB
  rw [ht] at hP1
  obtain ⟨hP, hD⟩ := va_join (wr := [(a0, .inr (2, [.ref aZ, .int 0, .ref aO, .int 0, .int (-1), .int 100000, .ref aG, .int 0, .int 1, .int 2, .ref aP, .ref aW, .ref aK])), (aZ, .inl (cZ, 6, .inr (.inr (.inr (.inr (fun _ => none)))))), (aO, .inl (cI, 1440, .inl (fun _ => 0))), (aG, .inl (cI, 1440, .inl (fun _ => 0))), (aP, .inl (cI, 24, .inl (fun _ => 0))), (aW, .inl (cI, 1024, .inl (fun _ => 0))), (aK, .inl (cJ, 1024, .inr (.inl (fun _ => 0))))]) (w1 := [(m0, .inr (3, [.int 0, .int 0, .ref mH, .ref mL, .ref mB, .ref mP, .ref mR, .ref mA, .ref mW, .ref mU, .ref mV, .int 0, .ref mM, .ref mT, .int 100000, .ref mQ, .int 1, .int 2, .int 0, .ref mO, .ref mF, .ref mS, .ref mE, .ref mX, .ref mD])), (mH, .inl (cI, 6, .inl (fun _ => 0))), (mL, .inl (cI, 6, .inl (fun _ => 0))), (mB, .inl (cI, 6, .inl (fun _ => 0))), (mP, .inl (cI, 6, .inl (fun _ => 0))), (mR, .inl (cI, 6, .inl (fun _ => 0))), (mA, .inl (cI, 6, .inl (fun _ => 0))), (mW, .inl (cI, 6, .inl (fun _ => 0))), (mU, .inl (cJ, 6, .inr (.inl (fun _ => 0)))), (mV, .inl (cJ, 6, .inr (.inl (fun _ => 0)))), (mM, .inl (cI, 24, .inl (fun _ => 0))), (mT, .inl (cI, 24, .inl (fun _ => 0))), (mQ, .inl (cI, 24, .inl (fun _ => 0))), (mO, .inl (cI, 1440, .inl (fun _ => 0))), (mF, .inl (cI, 1440, .inl (fun _ => 0))), (mS, .inl (cI, 6, .inl (fun _ => 0))), (mE, .inl (cB, 6, .inl (fun _ => 0))), (mX, .inl (cI, 8700, .inl (fun _ => 0))), (mD, .inl (cB, 6, .inl (fun _ => 0)))]) hP hD [7] [0, 1, 2, 3, 4, 5, 6] rfl rfl (by decide) (by decide) hk1 hFc hP1 hD1
  have hP : va_P (dC, dI) vwCl [(a0, .inr (2, [.ref aZ, .int 0, .ref aO, .int 0, .int (-1), .int 100000, .ref aG, .int 0, .int 1, .int 2, .ref aP, .ref aW, .ref aK])), (aZ, .inl (cZ, 6, .inr (.inr (.inr (.inr (fun _ => none)))))), (aO, .inl (cI, 1440, .inl (fun _ => 0))), (aG, .inl (cI, 1440, .inl (fun _ => 0))), (aP, .inl (cI, 24, .inl (fun _ => 0))), (aW, .inl (cI, 1024, .inl (fun _ => 0))), (aK, .inl (cJ, 1024, .inr (.inl (fun _ => 0)))), (m0, .inr (3, [.int 0, .int 0, .ref mH, .ref mL, .ref mB, .ref mP, .ref mR, .ref mA, .ref mW, .ref mU, .ref mV, .int 0, .ref mM, .ref mT, .int 100000, .ref mQ, .int 1, .int 2, .int 0, .ref mO, .ref mF, .ref mS, .ref mE, .ref mX, .ref mD])), (mH, .inl (cI, 6, .inl (fun _ => 0))), (mL, .inl (cI, 6, .inl (fun _ => 0))), (mB, .inl (cI, 6, .inl (fun _ => 0))), (mP, .inl (cI, 6, .inl (fun _ => 0))), (mR, .inl (cI, 6, .inl (fun _ => 0))), (mA, .inl (cI, 6, .inl (fun _ => 0))), (mW, .inl (cI, 6, .inl (fun _ => 0))), (mU, .inl (cJ, 6, .inr (.inl (fun _ => 0)))), (mV, .inl (cJ, 6, .inr (.inl (fun _ => 0)))), (mM, .inl (cI, 24, .inl (fun _ => 0))), (mT, .inl (cI, 24, .inl (fun _ => 0))), (mQ, .inl (cI, 24, .inl (fun _ => 0))), (mO, .inl (cI, 1440, .inl (fun _ => 0))), (mF, .inl (cI, 1440, .inl (fun _ => 0))), (mS, .inl (cI, 6, .inl (fun _ => 0))), (mE, .inl (cB, 6, .inl (fun _ => 0))), (mX, .inl (cI, 8700, .inl (fun _ => 0))), (mD, .inl (cB, 6, .inl (fun _ => 0)))] H2 := hP
  have hD : va_D A [(a0, .inr (2, [.ref aZ, .int 0, .ref aO, .int 0, .int (-1), .int 100000, .ref aG, .int 0, .int 1, .int 2, .ref aP, .ref aW, .ref aK])), (aZ, .inl (cZ, 6, .inr (.inr (.inr (.inr (fun _ => none)))))), (aO, .inl (cI, 1440, .inl (fun _ => 0))), (aG, .inl (cI, 1440, .inl (fun _ => 0))), (aP, .inl (cI, 24, .inl (fun _ => 0))), (aW, .inl (cI, 1024, .inl (fun _ => 0))), (aK, .inl (cJ, 1024, .inr (.inl (fun _ => 0)))), (m0, .inr (3, [.int 0, .int 0, .ref mH, .ref mL, .ref mB, .ref mP, .ref mR, .ref mA, .ref mW, .ref mU, .ref mV, .int 0, .ref mM, .ref mT, .int 100000, .ref mQ, .int 1, .int 2, .int 0, .ref mO, .ref mF, .ref mS, .ref mE, .ref mX, .ref mD])), (mH, .inl (cI, 6, .inl (fun _ => 0))), (mL, .inl (cI, 6, .inl (fun _ => 0))), (mB, .inl (cI, 6, .inl (fun _ => 0))), (mP, .inl (cI, 6, .inl (fun _ => 0))), (mR, .inl (cI, 6, .inl (fun _ => 0))), (mA, .inl (cI, 6, .inl (fun _ => 0))), (mW, .inl (cI, 6, .inl (fun _ => 0))), (mU, .inl (cJ, 6, .inr (.inl (fun _ => 0)))), (mV, .inl (cJ, 6, .inr (.inl (fun _ => 0)))), (mM, .inl (cI, 24, .inl (fun _ => 0))), (mT, .inl (cI, 24, .inl (fun _ => 0))), (mQ, .inl (cI, 24, .inl (fun _ => 0))), (mO, .inl (cI, 1440, .inl (fun _ => 0))), (mF, .inl (cI, 1440, .inl (fun _ => 0))), (mS, .inl (cI, 6, .inl (fun _ => 0))), (mE, .inl (cB, 6, .inl (fun _ => 0))), (mX, .inl (cI, 8700, .inl (fun _ => 0))), (mD, .inl (cB, 6, .inl (fun _ => 0)))] := hD
  refine lv_astore_n (lv' := [(2, .ref m0), (1, .ref a0), (0, .ref b)]) hx hb d_L_law_15 rfl hl9 (by decide) rfl (fun ls hl9 => ?_)
  refine lv_iconst (v := 1) hx hb d_L_law_16 (by decide) ?_
  refine va_newa (atype := .long) hx hb (hG _ k_63) rfl hK hP hD hS hA (n := 1) (N' := 1) (a0 := (1, .inr (.inl (fun _ => 0)))) (fun _ => rfl) (by decide +kernel) (by decide +kernel) (by decide +kernel) (by first | exact Nat.le_of_ble_eq_true rfl | omega) (by first | exact Nat.le_of_ble_eq_true rfl | omega) d_L_law_17 (fun ou c9 H hK9 hP hD hS => ?_)
  have e9 : c9 = cJ := ty_same hK9 (i := 1) (j := 4) rfl rfl
  rw [e9] at hP hD
  have hP : va_P (dC, dI) vwCl [(a0, .inr (2, [.ref aZ, .int 0, .ref aO, .int 0, .int (-1), .int 100000, .ref aG, .int 0, .int 1, .int 2, .ref aP, .ref aW, .ref aK])), (aZ, .inl (cZ, 6, .inr (.inr (.inr (.inr (fun _ => none)))))), (aO, .inl (cI, 1440, .inl (fun _ => 0))), (aG, .inl (cI, 1440, .inl (fun _ => 0))), (aP, .inl (cI, 24, .inl (fun _ => 0))), (aW, .inl (cI, 1024, .inl (fun _ => 0))), (aK, .inl (cJ, 1024, .inr (.inl (fun _ => 0)))), (m0, .inr (3, [.int 0, .int 0, .ref mH, .ref mL, .ref mB, .ref mP, .ref mR, .ref mA, .ref mW, .ref mU, .ref mV, .int 0, .ref mM, .ref mT, .int 100000, .ref mQ, .int 1, .int 2, .int 0, .ref mO, .ref mF, .ref mS, .ref mE, .ref mX, .ref mD])), (mH, .inl (cI, 6, .inl (fun _ => 0))), (mL, .inl (cI, 6, .inl (fun _ => 0))), (mB, .inl (cI, 6, .inl (fun _ => 0))), (mP, .inl (cI, 6, .inl (fun _ => 0))), (mR, .inl (cI, 6, .inl (fun _ => 0))), (mA, .inl (cI, 6, .inl (fun _ => 0))), (mW, .inl (cI, 6, .inl (fun _ => 0))), (mU, .inl (cJ, 6, .inr (.inl (fun _ => 0)))), (mV, .inl (cJ, 6, .inr (.inl (fun _ => 0)))), (mM, .inl (cI, 24, .inl (fun _ => 0))), (mT, .inl (cI, 24, .inl (fun _ => 0))), (mQ, .inl (cI, 24, .inl (fun _ => 0))), (mO, .inl (cI, 1440, .inl (fun _ => 0))), (mF, .inl (cI, 1440, .inl (fun _ => 0))), (mS, .inl (cI, 6, .inl (fun _ => 0))), (mE, .inl (cB, 6, .inl (fun _ => 0))), (mX, .inl (cI, 8700, .inl (fun _ => 0))), (mD, .inl (cB, 6, .inl (fun _ => 0))), (ou, .inl (cJ, 1, .inr (.inl (fun _ => 0))))] H := hP
  have hD : va_D A [(a0, .inr (2, [.ref aZ, .int 0, .ref aO, .int 0, .int (-1), .int 100000, .ref aG, .int 0, .int 1, .int 2, .ref aP, .ref aW, .ref aK])), (aZ, .inl (cZ, 6, .inr (.inr (.inr (.inr (fun _ => none)))))), (aO, .inl (cI, 1440, .inl (fun _ => 0))), (aG, .inl (cI, 1440, .inl (fun _ => 0))), (aP, .inl (cI, 24, .inl (fun _ => 0))), (aW, .inl (cI, 1024, .inl (fun _ => 0))), (aK, .inl (cJ, 1024, .inr (.inl (fun _ => 0)))), (m0, .inr (3, [.int 0, .int 0, .ref mH, .ref mL, .ref mB, .ref mP, .ref mR, .ref mA, .ref mW, .ref mU, .ref mV, .int 0, .ref mM, .ref mT, .int 100000, .ref mQ, .int 1, .int 2, .int 0, .ref mO, .ref mF, .ref mS, .ref mE, .ref mX, .ref mD])), (mH, .inl (cI, 6, .inl (fun _ => 0))), (mL, .inl (cI, 6, .inl (fun _ => 0))), (mB, .inl (cI, 6, .inl (fun _ => 0))), (mP, .inl (cI, 6, .inl (fun _ => 0))), (mR, .inl (cI, 6, .inl (fun _ => 0))), (mA, .inl (cI, 6, .inl (fun _ => 0))), (mW, .inl (cI, 6, .inl (fun _ => 0))), (mU, .inl (cJ, 6, .inr (.inl (fun _ => 0)))), (mV, .inl (cJ, 6, .inr (.inl (fun _ => 0)))), (mM, .inl (cI, 24, .inl (fun _ => 0))), (mT, .inl (cI, 24, .inl (fun _ => 0))), (mQ, .inl (cI, 24, .inl (fun _ => 0))), (mO, .inl (cI, 1440, .inl (fun _ => 0))), (mF, .inl (cI, 1440, .inl (fun _ => 0))), (mS, .inl (cI, 6, .inl (fun _ => 0))), (mE, .inl (cB, 6, .inl (fun _ => 0))), (mX, .inl (cI, 8700, .inl (fun _ => 0))), (mD, .inl (cB, 6, .inl (fun _ => 0))), (ou, .inl (cJ, 1, .inr (.inl (fun _ => 0))))] := hD
  refine lv_astore_n (lv' := [(3, .ref ou), (2, .ref m0), (1, .ref a0), (0, .ref b)]) hx hb d_L_law_19 rfl hl9 (by decide) rfl (fun ls hl9 => ?_)
  refine lv_iconst (v := 0) hx hb d_L_law_20 (by decide) ?_
  refine lv_istore (lv' := [(4, .int 0), (3, .ref ou), (2, .ref m0), (1, .ref a0), (0, .ref b)]) hx hb d_L_law_21 hl9 (by decide) rfl (fun ls hl9 => ?_)
  subst hAe
  have hI : Inv (([], 0, 0, (-1), 100000, 0, 1, 2, 0, (fun _ => none), (fun _ => 0), (fun _ => 0), (fun _ => 0), (fun _ => 0), (fun _ => 0), (fun _ => 0), (fun _ => 0), (fun _ => 0), (fun _ => 0), (fun _ => 0), (fun _ => 0), (fun _ => 0), (fun _ => 0), (fun _ => 0), (fun _ => 0), (fun _ => 0), (fun _ => 0), (fun _ => 0), (fun _ => 0), (fun _ => 0), (fun _ => 0), (fun _ => 0), (fun _ => 0)) : JS) := by
    refine ⟨⟨rfl, by decide, by decide, Or.inl rfl⟩, ⟨⟨by decide, by decide⟩, by decide, by decide, by decide, by decide⟩, fun j _ => ⟨show (0 : Int) ≤ (0 : Int32).toInt by decide, show (0 : Int32).toInt ≤ 1000 by decide⟩, ⟨fun k _ => ⟨show (-10000 : Int) ≤ (0 : Int32).toInt by decide, show (0 : Int32).toInt ≤ 10000 by decide⟩, fun t _ => rfl, Or.inl ⟨rfl, rfl⟩⟩, fun j z h => by simp at h, fun j h => absurd h (Nat.not_lt_zero j), fun j _ _ => ⟨rfl, rfl, rfl, rfl⟩, fun h => absurd h (by decide)⟩
  refine W.widen (k := 27 + 5 * 0) (n := 16721 + 1465 * 0) (by omega) (by omega) ?_
  exact law_loop (cI := cI) (cJ := cJ) (cZ := cZ) (cB := cB) (dC := dC) (dI := dI) ⟨hx, hb, hml, hown, hG, hX, hbl, hK, hN, hE, hl, hL⟩ hr hlocks (L + 1) 0 (Nat.zero_le L) (by omega) (([], 0, 0, (-1), 100000, 0, 1, 2, 0, (fun _ => none), (fun _ => 0), (fun _ => 0), (fun _ => 0), (fun _ => 0), (fun _ => 0), (fun _ => 0), (fun _ => 0), (fun _ => 0), (fun _ => 0), (fun _ => 0), (fun _ => 0), (fun _ => 0), (fun _ => 0), (fun _ => 0), (fun _ => 0), (fun _ => 0), (fun _ => 0), (fun _ => 0), (fun _ => 0), (fun _ => 0), (fun _ => 0), (fun _ => 0), (fun _ => 0)) : JS) _ _ ls hI (hP.sub [0, 1, 2, 3, 4, 5, 6, 26, 7, 8, 9, 10, 11, 12, 13, 14, 15, 16, 17, 18, 19, 20, 21, 22, 23, 24, 25] rfl) (hD.sub [0, 1, 2, 3, 4, 5, 6, 26, 7, 8, 9, 10, 11, 12, 13, 14, 15, 16, 17, 18, 19, 20, 21, 22, 23, 24, 25] (by decide) rfl) hS (lv_sub hl9 [0, 1, 2, 3, 4] rfl)
