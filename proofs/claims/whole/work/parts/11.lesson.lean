/-- the remainders' chain, n of them at most -/
def cdv (d r : Int64) : Nat → Int64
  | 0 => d
  | n + 1 => if r = 0 then d else cdv r (d - d / r * r) n
def labs (x : Int64) : Int64 := if 0 < x then x else -x
def mill (a b : Int64) : Int64 := a / b * 1000000 + (a - a / b * b) * 1000000 / b
theorem g_E_34 : GoodIn GG (wsS R_E 34 y_E_commonDivisor w_E_commonDivisor) := goodG (List.forall_mem_append.mpr ⟨List.forall_mem_cons.mpr ⟨k_356, List.forall_mem_cons.mpr ⟨k_357, List.forall_mem_cons.mpr ⟨k_9, fun _ h => absurd h List.not_mem_nil⟩⟩⟩, List.forall_mem_cons.mpr ⟨k_358, fun _ h => h⟩⟩)
theorem g_E_16 : GoodIn GG (wsV R_E 16 R_E y_E_keepInLowestTerms w_E_keepInLowestTerms) := goodG (List.forall_mem_append.mpr ⟨List.forall_mem_cons.mpr ⟨k_349, List.forall_mem_cons.mpr ⟨k_351, List.forall_mem_cons.mpr ⟨ks_13, List.forall_mem_cons.mpr ⟨k_9, fun _ h => absurd h List.not_mem_nil⟩⟩⟩⟩, List.forall_mem_cons.mpr ⟨k_352, fun _ h => h⟩⟩)
theorem g_E_22 : GoodIn GG (wsV R_E 22 R_E y_E_millionths w_E_millionths) := goodG (List.forall_mem_append.mpr ⟨List.forall_mem_cons.mpr ⟨k_360, List.forall_mem_cons.mpr ⟨k_362, List.forall_mem_cons.mpr ⟨ks_14, List.forall_mem_cons.mpr ⟨k_9, fun _ h => absurd h List.not_mem_nil⟩⟩⟩⟩, List.forall_mem_cons.mpr ⟨k_363, fun _ h => h⟩⟩)
set_option maxHeartbeats 4000000 in
set_option maxRecDepth 100000 in
theorem c_commonDivisor (l : Launch) (dC : Nat → ClassId) (dI : Nat → Nat → Nat) (cI cJ cZ cB : ClassId) (x y : Int64) (sz : Nat) : Met l y_E_commonDivisor w_E_commonDivisor ({ frames := 0, cells := 0, slots := 0, locals := 0 }) (PC (dC, dI) (TY cI cJ cZ cB) [.long x, .long y] [] sz (va_A [] sz)) (va_Ql (fun (r : Int64) (_ : Unit) => r = cdv y x 100) (fun (_ : Unit) (_ : State) => True) (va_A [] sz)) 0 0 (va_A [] sz) := by
  refine Met.ofW (cc := b_E_commonDivisor) (maxL := 11) (ret := (some .long)) (by decide) rfl ?_
  intro p e s m args below meth c s₁ B hml hv
  obtain ⟨rfl, hsz, hP, hK, hD0, hE⟩ := hv
  have hx := B.exec
  have hb := B.bytes
  have hr := B.returns
  have hG : ∀ w ∈ GG, w.before _ s = true := fun w h => atoms_spec (ws := w_E_commonDivisor) B.pre w (List.mem_cons_of_mem _ h)
  have hown : s.vm.findClass R_E = some m.cls := findClass_of_methodNamed B.named
  have hlocks := B.notSynchronized
  subst hsz
  generalize hAe : (va_A [] s.heap.size) = A at hE ⊢
  have hA : ∀ q : Nat, s.heap.size ≤ q → A q := fun q h => by rw [← hAe]; exact Or.inr h
  have hS : va_S A s.heap s.heap [] := va_S.rf
  have hD := hD0
  obtain ⟨H, hH⟩ : ∃ z, z = s.heap := ⟨_, rfl⟩
  rw [← hH] at hP
  have hS : va_S A s.heap H [] := by rw [hH]; exact hS
  rw [← hH]
  have hl9 := lv_entry ([.long x, .long y]) (n := 11) (Nat.le_of_ble_eq_true rfl)
  rw [lg_entry_eq]
  generalize (lg_sl ([.long x, .long y]) ++ List.replicate (11 - (lg_sl ([.long x, .long y])).length) Slot.unset).toArray = ls at hl9 ⊢
  have hl9 : lv_has ls 11 [(0, .long x), (2, .long y)] := hl9
  refine lv_lload_n hx hb d_E_commonDivisor_0 rfl (lv_at hl9 1 rfl) ?_
  refine lv_lstore (lv' := [(4, .long y), (0, .long x), (2, .long y)]) hx hb d_E_commonDivisor_1 hl9 (by decide) rfl (fun ls hl9 => ?_)
  refine lv_lload_n hx hb d_E_commonDivisor_3 rfl (lv_at hl9 1 rfl) ?_
  refine lv_lstore (lv' := [(6, .long x), (4, .long y), (0, .long x), (2, .long y)]) hx hb d_E_commonDivisor_4 hl9 (by decide) rfl (fun ls hl9 => ?_)
  refine lv_iconst (v := 0) hx hb d_E_commonDivisor_6 (by decide) ?_
  refine lv_istore (lv' := [(8, .int 0), (6, .long x), (4, .long y), (0, .long x), (2, .long y)]) hx hb d_E_commonDivisor_7 hl9 (by decide) rfl (fun ls hl9 => ?_)
  have lp : ∀ (n : Nat) (i : Nat) (d q : Int64), i ≤ 100 → 101 ≤ i + n → cdv d q (100 - i) = cdv y x 100 → ∀ (H : Heap) (locs : List Loc) (ls : Array Slot), va_P (dC, dI) vwCl [] H → va_S A s.heap H locs → lv_has ls 11 [(4, .long d), (6, .long q), (8, .int (nI i))] → W p l e (headSpec w_E_commonDivisor ({ frames := 0, cells := 0, slots := 0, locals := 0 })).room s m ([.long x, .long y] : List Value).toArray below meth c H locs 0 0 (MQ below (va_Ql (fun (r : Int64) (_ : Unit) => r = cdv y x 100) (fun (_ : Unit) (_ : State) => True) A) ([.long x, .long y] : List Value).toArray s 0 0 A) (F0 m 9 ls []) := by
    intro n
    induction n with
    | zero =>
      intro i d q hi hin he
      exact absurd hin (by omega)
    | succ n ih =>
      intro i d q hi hin he H locs ls hP hS hl9
      refine lv_iload hx hb d_E_commonDivisor_9 (lv_at hl9 2 rfl) ?_
      refine lv_bipush (v := 100) hx hb d_E_commonDivisor_11 (by decide) ?_
      refine lv_icmp_ge (tgt := 44) hx hb d_E_commonDivisor_13 (by decide) (fun c1 => ?_) (fun c1 => ?_)
      · have e9 : 100 - i = 0 := by have := ge_of_c (i := i) (b := 100) (by omega) (by decide) c1; omega
        have e8 : d = cdv y x 100 := by rw [← he, e9]; rfl
        refine lv_lload hx hb d_E_commonDivisor_44 (lv_at hl9 0 rfl) ?_
        exact W.lret (v := d) hx hb hr (fun t ht hW => ⟨⟨d, (), rfl, e8, trivial⟩, hS.F ht⟩) hS.2.2 d_E_commonDivisor_46
      · have e9 : i < 100 := lt_of_c (b := 100) (by omega) (by decide) c1
        have e7 : 100 - i = (100 - (i + 1)) + 1 := by omega
        refine lv_lload hx hb d_E_commonDivisor_16 (lv_at hl9 1 rfl) ?_
        refine lv_lconst (v := 0) hx hb d_E_commonDivisor_18 (by decide) ?_
        refine W.lcmp hx hb d_E_commonDivisor_19 ?_
        refine lv_if_eq (tgt := 44) hx hb d_E_commonDivisor_20 (by decide) (fun c2 => ?_) (fun c2 => ?_)
        · have e8 : d = cdv y x 100 := by rw [← he, e7]; show d = if q = 0 then d else _; rw [if_pos ((lg_cmp_eq _ _).mp c2)]
          refine lv_lload hx hb d_E_commonDivisor_44 (lv_at hl9 0 rfl) ?_
          exact W.lret (v := d) hx hb hr (fun t ht hW => ⟨⟨d, (), rfl, e8, trivial⟩, hS.F ht⟩) hS.2.2 d_E_commonDivisor_46
        · have hq : ¬ q = 0 := fun h => c2 ((lg_cmp_eq _ _).mpr h)
          refine lv_lload hx hb d_E_commonDivisor_23 (lv_at hl9 0 rfl) ?_
          refine lv_lload hx hb d_E_commonDivisor_25 (lv_at hl9 1 rfl) ?_
          refine lv_lrem hx hb d_E_commonDivisor_27 (hq) ?_
          refine lv_lstore (lv' := [(9, .long (d - d / q * q)), (4, .long d), (6, .long q), (8, .int (nI i))]) hx hb d_E_commonDivisor_28 hl9 (by decide) rfl (fun ls hl9 => ?_)
          refine lv_lload hx hb d_E_commonDivisor_30 (lv_at hl9 2 rfl) ?_
          refine lv_lstore (lv' := [(4, .long q), (9, .long (d - d / q * q)), (6, .long q), (8, .int (nI i))]) hx hb d_E_commonDivisor_32 hl9 (by decide) rfl (fun ls hl9 => ?_)
          refine lv_lload hx hb d_E_commonDivisor_34 (lv_at hl9 1 rfl) ?_
          refine lv_lstore (lv' := [(6, .long (d - d / q * q)), (4, .long q), (9, .long (d - d / q * q)), (8, .int (nI i))]) hx hb d_E_commonDivisor_36 hl9 (by decide) rfl (fun ls hl9 => ?_)
          refine lv_iinc (v := ((nI i) + 1)) (lv' := [(8, .int ((nI i) + 1)), (6, .long (d - d / q * q)), (4, .long q), (9, .long (d - d / q * q))]) hx hb d_E_commonDivisor_38 hl9 (k := 3) rfl rfl (by decide) rfl (fun ls hl9 => ?_)
          refine lv_goto (tgt := 9) hx hb d_E_commonDivisor_41 (by decide) ?_
          rw [nI_1] at hl9
          exact ih (i + 1) q (d - d / q * q) (by omega) (by omega) (by rw [← he, e7]; show _ = if q = 0 then d else _; rw [if_neg hq]) _ _ ls hP hS (lv_sub hl9 [2, 1, 0] rfl)
  exact lp 101 0 y x (by omega) (by omega) rfl _ _ ls hP hS (lv_sub hl9 [2, 1, 0] rfl)
set_option maxHeartbeats 4000000 in
set_option maxRecDepth 100000 in
theorem c_keepInLowestTerms (l : Launch) (dC : Nat → ClassId) (dI : Nat → Nat → Nat) (cI cJ cZ cB : ClassId) (la : Nat) (ea eb x y g : Int64) (sz : Nat) (hgd : cdv y (labs x) 100 = g) (hg : ¬ g = 0) : Met l y_E_keepInLowestTerms w_E_keepInLowestTerms ({ frames := 1, cells := 0, slots := 0, locals := 30 }) (PC (dC, dI) (TY cI cJ cZ cB) [.ref la, .long x, .long y] [(la, .inr (0, [.long ea, .long eb]))] sz (va_A [(la, .inr (0, [.long ea, .long eb]))] sz)) (va_Qv (fun (_ : Unit) => True) (fun (_ : Unit) (t : State) => va_P (dC, dI) vwCl [(la, .inr (0, [.long (x / g), .long (y / g)]))] t.heap) (va_A [(la, .inr (0, [.long ea, .long eb]))] sz)) 0 0 (va_A [(la, .inr (0, [.long ea, .long eb]))] sz) := by
  refine Met.ofW (cc := b_E_keepInLowestTerms) (maxL := 7) (ret := none) (by decide) rfl ?_
  intro p e s m args below meth c s₁ B hml hv
  obtain ⟨rfl, hsz, hP, hK, hD0, hE⟩ := hv
  have hx := B.exec
  have hb := B.bytes
  have hr := B.returns
  have hG : ∀ w ∈ GG, w.before _ s = true := fun w h => atoms_spec (ws := w_E_keepInLowestTerms) B.pre w (List.mem_cons_of_mem _ h)
  have hown : s.vm.findClass R_E = some m.cls := findClass_of_methodNamed B.named
  have hlocks := B.notSynchronized
  subst hsz
  have hD := hD0.self (sz := s.heap.size)
  generalize hAe : (va_A [(la, .inr (0, [.long ea, .long eb]))] s.heap.size) = A at hD hE ⊢
  have hA : ∀ q : Nat, s.heap.size ≤ q → A q := fun q h => by rw [← hAe]; exact Or.inr h
  have hS : va_S A s.heap s.heap [] := va_S.rf
  obtain ⟨H, hH⟩ : ∃ z, z = s.heap := ⟨_, rfl⟩
  rw [← hH] at hP
  have hS : va_S A s.heap H [] := by rw [hH]; exact hS
  rw [← hH]
  have hl9 := lv_entry ([.ref la, .long x, .long y]) (n := 7) (Nat.le_of_ble_eq_true rfl)
  rw [lg_entry_eq]
  generalize (lg_sl ([.ref la, .long x, .long y]) ++ List.replicate (7 - (lg_sl ([.ref la, .long x, .long y])).length) Slot.unset).toArray = ls at hl9 ⊢
  have hl9 : lv_has ls 7 [(0, .ref la), (1, .long x), (3, .long y)] := hl9
  refine lv_lload_n hx hb d_E_keepInLowestTerms_0 rfl (lv_at hl9 1 rfl) ?_
  refine va_mabs_long hx hb (hml.trans hl9.1.symm) hown (hG _ k_353) (hG _ k_354) (hG _ k_10) (hG _ k_355) (Nat.le_of_ble_eq_true rfl) (Nat.le_of_ble_eq_true rfl) (Nat.le_of_ble_eq_true rfl) (Nat.le_of_ble_eq_true rfl) d_E_keepInLowestTerms_1 ?_
  refine W.eq (g2 := F0 m 4 ls [.long (labs x)]) rfl ?_
  refine lv_lload_n hx hb d_E_keepInLowestTerms_4 rfl (lv_at hl9 2 rfl) ?_
  have hPc := hP.sub (ws' := []) [] rfl
  have hDc := hD.sub (ws' := []) [] (by decide) rfl
  have hFc := va_A_nil hA hS.1
  refine va_calll (va_runS (As := [.long (labs x), .long y]) (rest := []) ⟨hx, hb, hml, hown, hG⟩ (c_commonDivisor l dC dI cI cJ cZ cB (labs x) y H.size ) (cwS 2 hG g_E_34 rfl rfl rfl (by decide +kernel) ⟨Nat.le_of_ble_eq_true rfl, Nat.le_of_ble_eq_true rfl⟩) ⟨PC.blind, PC.of hPc hK hDc hE hS hFc⟩ rfl rfl hl9.1 rfl (lv_room (Nat.le_of_ble_eq_true rfl)) d_E_keepInLowestTerms_5 ⟨by first | exact Nat.le_of_ble_eq_true rfl | omega, by first | exact Nat.le_of_ble_eq_true rfl | omega⟩) hS (fun q _ h => hFc q h) hFc (fun r2 u t H1 locs ht hvm hw hB hz1 hk1 hS => ?_)
  have hP := wp_kept hP hk1
  have hw : r2 = cdv y (labs x) 100 := hw
  subst hw
  rw [hgd]
  refine lv_lstore (lv' := [(5, .long g), (0, .ref la), (1, .long x), (3, .long y)]) hx hb d_E_keepInLowestTerms_8 hl9 (by decide) rfl (fun ls hl9 => ?_)
  refine lv_aload_n hx hb d_E_keepInLowestTerms_10 rfl (lv_at hl9 1 rfl) ?_
  refine lv_lload_n hx hb d_E_keepInLowestTerms_11 rfl (lv_at hl9 2 rfl) ?_
  refine lv_lload hx hb d_E_keepInLowestTerms_12 (lv_at hl9 0 rfl) ?_
  refine lv_ldiv hx hb d_E_keepInLowestTerms_14 (hg) ?_
  refine va_put (D := (dC, dI)) (ci := 0) (v := .long (x / g)) (ty := .long) (C := R_E) (T := F_E) (N := 2) hx hb hG i_E t_E t_E_ok n_E hown hK hP hD hS 0 rfl rfl 0 (by decide) (hG _ k_170) (fun _ h9 => h9) rfl (by decide +kernel) rfl rfl (Nat.le_of_ble_eq_true rfl) d_E_keepInLowestTerms_15 (fun H locs hP hD hS => ?_)
  have hP : va_P (dC, dI) vwCl [(la, .inr (0, [.long (x / g), .long eb]))] H := hP
  have hD : va_D A [(la, .inr (0, [.long (x / g), .long eb]))] := hD
  refine lv_aload_n hx hb d_E_keepInLowestTerms_18 rfl (lv_at hl9 1 rfl) ?_
  refine lv_lload_n hx hb d_E_keepInLowestTerms_19 rfl (lv_at hl9 3 rfl) ?_
  refine lv_lload hx hb d_E_keepInLowestTerms_20 (lv_at hl9 0 rfl) ?_
  refine lv_ldiv hx hb d_E_keepInLowestTerms_22 (hg) ?_
  refine va_put (D := (dC, dI)) (ci := 0) (v := .long (y / g)) (ty := .long) (C := R_E) (T := F_E) (N := 2) hx hb hG i_E t_E t_E_ok n_E hown hK hP hD hS 0 rfl rfl 1 (by decide) (hG _ k_172) (fun _ h9 => h9) rfl (by decide +kernel) rfl rfl (Nat.le_of_ble_eq_true rfl) d_E_keepInLowestTerms_23 (fun H locs hP hD hS => ?_)
  have hP : va_P (dC, dI) vwCl [(la, .inr (0, [.long (x / g), .long (y / g)]))] H := hP
  have hD : va_D A [(la, .inr (0, [.long (x / g), .long (y / g)]))] := hD
  exact W.vret hx hb hr (fun t ht hW => ⟨⟨(), rfl, trivial, by have h9 := hP; rw [← ht] at h9; exact h9⟩, hS.F ht⟩) hS.2.2 d_E_keepInLowestTerms_26
set_option maxHeartbeats 4000000 in
set_option maxRecDepth 100000 in
theorem c_millionths (l : Launch) (dC : Nat → ClassId) (dI : Nat → Nat → Nat) (cI cJ cZ cB : ClassId) (la : Nat) (ea eb : Int64) (sz : Nat) (hne : ¬ eb = 0) : Met l y_E_millionths w_E_millionths ({ frames := 0, cells := 0, slots := 0, locals := 0 }) (PC (dC, dI) (TY cI cJ cZ cB) [.ref la] [(la, .inr (0, [.long ea, .long eb]))] sz (va_A [] sz)) (va_Ql (fun (r : Int64) (_ : Unit) => r = mill ea eb) (fun (_ : Unit) (_ : State) => True) (va_A [] sz)) 0 0 (va_A [] sz) := by
  refine Met.ofW (cc := b_E_millionths) (maxL := 1) (ret := (some .long)) (by decide) rfl ?_
  intro p e s m args below meth c s₁ B hml hv
  obtain ⟨rfl, hsz, hP, hK, hD0, hE⟩ := hv
  have hx := B.exec
  have hb := B.bytes
  have hr := B.returns
  have hG : ∀ w ∈ GG, w.before _ s = true := fun w h => atoms_spec (ws := w_E_millionths) B.pre w (List.mem_cons_of_mem _ h)
  have hown : s.vm.findClass R_E = some m.cls := findClass_of_methodNamed B.named
  have hlocks := B.notSynchronized
  subst hsz
  generalize hAe : (va_A [] s.heap.size) = A at hE ⊢
  have hA : ∀ q : Nat, s.heap.size ≤ q → A q := fun q h => by rw [← hAe]; exact Or.inr h
  have hS : va_S A s.heap s.heap [] := va_S.rf
  have hD := hD0
  obtain ⟨H, hH⟩ : ∃ z, z = s.heap := ⟨_, rfl⟩
  rw [← hH] at hP
  have hS : va_S A s.heap H [] := by rw [hH]; exact hS
  rw [← hH]
  have hl9 := lv_entry ([.ref la]) (n := 1) (Nat.le_of_ble_eq_true rfl)
  rw [lg_entry_eq]
  generalize (lg_sl ([.ref la]) ++ List.replicate (1 - (lg_sl ([.ref la])).length) Slot.unset).toArray = ls at hl9 ⊢
  have hl9 : lv_has ls 1 [(0, .ref la)] := hl9
  refine lv_aload_n hx hb d_E_millionths_0 rfl (lv_at hl9 0 rfl) ?_
  refine va_get (D := (dC, dI)) (ci := 0) (v := .long ea) (C := R_E) (T := F_E) (N := 2) hx hb hG i_E hown hK hP 0 rfl rfl 0 (by decide) (hG _ k_170) (fun _ h9 => h9) rfl d_E_millionths_1 ?_
  refine lv_aload_n hx hb d_E_millionths_4 rfl (lv_at hl9 0 rfl) ?_
  refine va_get (D := (dC, dI)) (ci := 0) (v := .long eb) (C := R_E) (T := F_E) (N := 2) hx hb hG i_E hown hK hP 0 rfl rfl 1 (by decide) (hG _ k_172) (fun _ h9 => h9) rfl d_E_millionths_5 ?_
  refine lv_ldiv hx hb d_E_millionths_8 (hne) ?_
  refine lv_ldc2 (v := 1000000) hx hb hown (hG _ k_364) d_E_millionths_9 ?_
  refine lv_lmul hx hb d_E_millionths_12 ?_
  refine lv_aload_n hx hb d_E_millionths_13 rfl (lv_at hl9 0 rfl) ?_
  refine va_get (D := (dC, dI)) (ci := 0) (v := .long ea) (C := R_E) (T := F_E) (N := 2) hx hb hG i_E hown hK hP 0 rfl rfl 0 (by decide) (hG _ k_170) (fun _ h9 => h9) rfl d_E_millionths_14 ?_
  refine lv_aload_n hx hb d_E_millionths_17 rfl (lv_at hl9 0 rfl) ?_
  refine va_get (D := (dC, dI)) (ci := 0) (v := .long eb) (C := R_E) (T := F_E) (N := 2) hx hb hG i_E hown hK hP 0 rfl rfl 1 (by decide) (hG _ k_172) (fun _ h9 => h9) rfl d_E_millionths_18 ?_
  refine lv_lrem hx hb d_E_millionths_21 (hne) ?_
  refine lv_ldc2 (v := 1000000) hx hb hown (hG _ k_364) d_E_millionths_22 ?_
  refine lv_lmul hx hb d_E_millionths_25 ?_
  refine lv_aload_n hx hb d_E_millionths_26 rfl (lv_at hl9 0 rfl) ?_
  refine va_get (D := (dC, dI)) (ci := 0) (v := .long eb) (C := R_E) (T := F_E) (N := 2) hx hb hG i_E hown hK hP 0 rfl rfl 1 (by decide) (hG _ k_172) (fun _ h9 => h9) rfl d_E_millionths_27 ?_
  refine lv_ldiv hx hb d_E_millionths_30 (hne) ?_
  refine lv_ladd hx hb d_E_millionths_31 ?_
  exact W.lret (v := (((ea / eb) * 1000000) + (((ea - ea / eb * eb) * 1000000) / eb))) hx hb hr (fun t ht hW => ⟨⟨(((ea / eb) * 1000000) + (((ea - ea / eb * eb) * 1000000) / eb)), (), rfl, rfl, trivial⟩, hS.F ht⟩) hS.2.2 d_E_millionths_32
set_option maxHeartbeats 4000000 in
set_option maxRecDepth 100000 in
theorem c_wholeMinutes (l : Launch) (dC : Nat → ClassId) (dI : Nat → Nat → Nat) (cI cJ cZ cB : ClassId) (la : Nat) (ea eb : Int64) (sz : Nat) (hne : ¬ eb = 0) : Met l y_E_wholeMinutes w_E_wholeMinutes ({ frames := 0, cells := 0, slots := 0, locals := 0 }) (PC (dC, dI) (TY cI cJ cZ cB) [.ref la] [(la, .inr (0, [.long ea, .long eb]))] sz (va_A [] sz)) (va_Qi (fun (r : Int32) (_ : Unit) => r = (ea / eb).toInt32) (fun (_ : Unit) (_ : State) => True) (va_A [] sz)) 0 0 (va_A [] sz) := by
  refine Met.ofW (cc := b_E_wholeMinutes) (maxL := 1) (ret := (some .int)) (by decide) rfl ?_
  intro p e s m args below meth c s₁ B hml hv
  obtain ⟨rfl, hsz, hP, hK, hD0, hE⟩ := hv
  have hx := B.exec
  have hb := B.bytes
  have hr := B.returns
  have hG : ∀ w ∈ GG, w.before _ s = true := fun w h => atoms_spec (ws := w_E_wholeMinutes) B.pre w (List.mem_cons_of_mem _ h)
  have hown : s.vm.findClass R_E = some m.cls := findClass_of_methodNamed B.named
  have hlocks := B.notSynchronized
  subst hsz
  generalize hAe : (va_A [] s.heap.size) = A at hE ⊢
  have hA : ∀ q : Nat, s.heap.size ≤ q → A q := fun q h => by rw [← hAe]; exact Or.inr h
  have hS : va_S A s.heap s.heap [] := va_S.rf
  have hD := hD0
  obtain ⟨H, hH⟩ : ∃ z, z = s.heap := ⟨_, rfl⟩
  rw [← hH] at hP
  have hS : va_S A s.heap H [] := by rw [hH]; exact hS
  rw [← hH]
  have hl9 := lv_entry ([.ref la]) (n := 1) (Nat.le_of_ble_eq_true rfl)
  rw [lg_entry_eq]
  generalize (lg_sl ([.ref la]) ++ List.replicate (1 - (lg_sl ([.ref la])).length) Slot.unset).toArray = ls at hl9 ⊢
  have hl9 : lv_has ls 1 [(0, .ref la)] := hl9
  refine lv_aload_n hx hb d_E_wholeMinutes_0 rfl (lv_at hl9 0 rfl) ?_
  refine va_get (D := (dC, dI)) (ci := 0) (v := .long ea) (C := R_E) (T := F_E) (N := 2) hx hb hG i_E hown hK hP 0 rfl rfl 0 (by decide) (hG _ k_170) (fun _ h9 => h9) rfl d_E_wholeMinutes_1 ?_
  refine lv_aload_n hx hb d_E_wholeMinutes_4 rfl (lv_at hl9 0 rfl) ?_
  refine va_get (D := (dC, dI)) (ci := 0) (v := .long eb) (C := R_E) (T := F_E) (N := 2) hx hb hG i_E hown hK hP 0 rfl rfl 1 (by decide) (hG _ k_172) (fun _ h9 => h9) rfl d_E_wholeMinutes_5 ?_
  refine lv_ldiv hx hb d_E_wholeMinutes_8 (hne) ?_
  refine lv_l2i hx hb d_E_wholeMinutes_9 rfl ?_
  exact W.iret (v := (ea / eb).toInt32) hx hb hr (fun t ht hW => ⟨⟨(ea / eb).toInt32, (), rfl, rfl, trivial⟩, hS.F ht⟩) hS.2.2 d_E_wholeMinutes_10
set_option maxHeartbeats 4000000 in
set_option maxRecDepth 100000 in
theorem c_learn1 (l : Launch) (dC : Nat → ClassId) (dI : Nat → Nat → Nat) (cI cJ cZ cB : ClassId) (la : Nat) (ea eb : Int64) (mn fa fb : Int32) (x1 y1 g1 a1 b1 : Int64) (sz : Nat) (hx1 : ea * (fb - fa).toInt64 + mn.toInt64 * eb * fa.toInt64 = x1) (hy1 : eb * fb.toInt64 = y1) (hg1 : cdv y1 (labs x1) 100 = g1) (hn1 : ¬ g1 = 0) (ha1 : x1 / g1 = a1) (hb1 : y1 / g1 = b1) (hbig : b1 ≤ 1000000000) : Met l y_E_learn w_E_learn ({ frames := 2, cells := 0, slots := 0, locals := 56 }) (PC (dC, dI) (TY cI cJ cZ cB) [.ref la, .int mn, .int fa, .int fb] [(la, .inr (0, [.long ea, .long eb]))] sz (va_A [(la, .inr (0, [.long ea, .long eb]))] sz)) (va_Qv (fun (_ : Unit) => True) (fun (_ : Unit) (t : State) => va_P (dC, dI) vwCl [(la, .inr (0, [.long a1, .long b1]))] t.heap) (va_A [(la, .inr (0, [.long ea, .long eb]))] sz)) 0 0 (va_A [(la, .inr (0, [.long ea, .long eb]))] sz) := by
  refine Met.ofW (cc := b_E_learn) (maxL := 8) (ret := none) (by decide) rfl ?_
  intro p e s m args below meth c s₁ B hml hv
  obtain ⟨rfl, hsz, hP, hK, hD0, hE⟩ := hv
  have hx := B.exec
  have hb := B.bytes
  have hr := B.returns
  have hG : ∀ w ∈ GG, w.before _ s = true := fun w h => atoms_spec (ws := w_E_learn) B.pre w (List.mem_cons_of_mem _ h)
  have hown : s.vm.findClass R_E = some m.cls := findClass_of_methodNamed B.named
  have hlocks := B.notSynchronized
  subst hsz
  have hD := hD0.self (sz := s.heap.size)
  generalize hAe : (va_A [(la, .inr (0, [.long ea, .long eb]))] s.heap.size) = A at hD hE ⊢
  have hA : ∀ q : Nat, s.heap.size ≤ q → A q := fun q h => by rw [← hAe]; exact Or.inr h
  have hS : va_S A s.heap s.heap [] := va_S.rf
  obtain ⟨H, hH⟩ : ∃ z, z = s.heap := ⟨_, rfl⟩
  rw [← hH] at hP
  have hS : va_S A s.heap H [] := by rw [hH]; exact hS
  rw [← hH]
  have hl9 := lv_entry ([.ref la, .int mn, .int fa, .int fb]) (n := 8) (Nat.le_of_ble_eq_true rfl)
  rw [lg_entry_eq]
  generalize (lg_sl ([.ref la, .int mn, .int fa, .int fb]) ++ List.replicate (8 - (lg_sl ([.ref la, .int mn, .int fa, .int fb])).length) Slot.unset).toArray = ls at hl9 ⊢
  have hl9 : lv_has ls 8 [(0, .ref la), (1, .int mn), (2, .int fa), (3, .int fb)] := hl9
  refine lv_aload_n hx hb d_E_learn_0 rfl (lv_at hl9 0 rfl) ?_
  refine va_get (D := (dC, dI)) (ci := 0) (v := .long ea) (C := R_E) (T := F_E) (N := 2) hx hb hG i_E hown hK hP 0 rfl rfl 0 (by decide) (hG _ k_170) (fun _ h9 => h9) rfl d_E_learn_1 ?_
  refine lv_iload_n hx hb d_E_learn_4 rfl (lv_at hl9 3 rfl) ?_
  refine lv_iload_n hx hb d_E_learn_5 rfl (lv_at hl9 2 rfl) ?_
  refine lv_isub hx hb d_E_learn_6 ?_
  refine lv_i2l hx hb d_E_learn_7 rfl ?_
  refine lv_lmul hx hb d_E_learn_8 ?_
  refine lv_lstore (lv' := [(4, .long (ea * ((fb - fa).toInt64))), (0, .ref la), (1, .int mn), (2, .int fa), (3, .int fb)]) hx hb d_E_learn_9 hl9 (by decide) rfl (fun ls hl9 => ?_)
  refine lv_iload_n hx hb d_E_learn_11 rfl (lv_at hl9 2 rfl) ?_
  refine lv_i2l hx hb d_E_learn_12 rfl ?_
  refine lv_aload_n hx hb d_E_learn_13 rfl (lv_at hl9 1 rfl) ?_
  refine va_get (D := (dC, dI)) (ci := 0) (v := .long eb) (C := R_E) (T := F_E) (N := 2) hx hb hG i_E hown hK hP 0 rfl rfl 1 (by decide) (hG _ k_172) (fun _ h9 => h9) rfl d_E_learn_14 ?_
  refine lv_lmul hx hb d_E_learn_17 ?_
  refine lv_iload_n hx hb d_E_learn_18 rfl (lv_at hl9 3 rfl) ?_
  refine lv_i2l hx hb d_E_learn_19 rfl ?_
  refine lv_lmul hx hb d_E_learn_20 ?_
  refine lv_lstore (lv' := [(6, .long ((mn.toInt64 * eb) * fa.toInt64)), (4, .long (ea * ((fb - fa).toInt64))), (0, .ref la), (1, .int mn), (2, .int fa), (3, .int fb)]) hx hb d_E_learn_21 hl9 (by decide) rfl (fun ls hl9 => ?_)
  refine lv_aload_n hx hb d_E_learn_23 rfl (lv_at hl9 2 rfl) ?_
  refine lv_lload hx hb d_E_learn_24 (lv_at hl9 1 rfl) ?_
  refine lv_lload hx hb d_E_learn_26 (lv_at hl9 0 rfl) ?_
  refine lv_ladd hx hb d_E_learn_28 ?_
  refine lv_aload_n hx hb d_E_learn_29 rfl (lv_at hl9 2 rfl) ?_
  refine va_get (D := (dC, dI)) (ci := 0) (v := .long eb) (C := R_E) (T := F_E) (N := 2) hx hb hG i_E hown hK hP 0 rfl rfl 1 (by decide) (hG _ k_172) (fun _ h9 => h9) rfl d_E_learn_30 ?_
  refine lv_iload_n hx hb d_E_learn_33 rfl (lv_at hl9 5 rfl) ?_
  refine lv_i2l hx hb d_E_learn_34 rfl ?_
  refine lv_lmul hx hb d_E_learn_35 ?_
  rw [hx1, hy1]
  have hPc := hP.sub (ws' := [(la, .inr (0, [.long ea, .long eb]))]) [0] rfl
  have hDc := hD.sub (ws' := [(la, .inr (0, [.long ea, .long eb]))]) [0] (by decide) rfl
  have hFc := va_free (wc := [(la, .inr (0, [.long ea, .long eb]))]) hD hS hA [0] rfl
  refine va_callv (va_runV (C := R_E) (As := [.long x1, .long y1]) (rest := []) ⟨hx, hb, hml, hown, hG⟩ (c_keepInLowestTerms l dC dI cI cJ cZ cB la ea eb x1 y1 g1 H.size hg1 hn1) (cwV 2 hG g_E_16 rfl rfl rfl (by decide +kernel) ⟨Nat.le_of_ble_eq_true rfl, Nat.le_of_ble_eq_true rfl⟩) ⟨PC.blind, va_recv hK hP (ci := 0) (q0 := 0) rfl rfl, PC.of hPc hK hDc hE hS hFc⟩ rfl rfl hl9.1 rfl (lv_room (Nat.le_of_ble_eq_true rfl)) d_E_learn_36 ⟨by first | exact Nat.le_of_ble_eq_true rfl | omega, by first | exact Nat.le_of_ble_eq_true rfl | omega⟩) hS (fun q _ h => hFc q h) hFc (fun u t H1 locs ht hvm hw hB hz1 hk1 hS => ?_)
  rw [ht] at hB
  obtain ⟨hP, hD⟩ := jset (wc := [(la, .inr (0, [.long ea, .long eb]))]) (w1 := [(la, .inr (0, [.long (x1 / g1), .long (y1 / g1)]))]) [0] rfl rfl hP hD hk1 hB
  have hP : va_P (dC, dI) vwCl [(la, .inr (0, [.long (x1 / g1), .long (y1 / g1)]))] H1 := hP
  have hD : va_D A [(la, .inr (0, [.long (x1 / g1), .long (y1 / g1)]))] := hD
  rw [ha1, hb1] at hP hD
  refine lv_aload_n hx hb d_E_learn_39 rfl (lv_at hl9 2 rfl) ?_
  refine va_get (D := (dC, dI)) (ci := 0) (v := .long b1) (C := R_E) (T := F_E) (N := 2) hx hb hG i_E hown hK hP 0 rfl rfl 1 (by decide) (hG _ k_172) (fun _ h9 => h9) rfl d_E_learn_40 ?_
  refine lv_ldc2 (v := 1000000000) hx hb hown (hG _ k_359) d_E_learn_43 ?_
  refine W.lcmp hx hb d_E_learn_46 ?_
  refine lv_if_le (tgt := 61) hx hb d_E_learn_47 (by decide) (fun c1 => ?_) (fun c1 => ?_)
  · exact W.vret hx hb hr (fun t ht hW => ⟨⟨(), rfl, trivial, by have h9 := hP; rw [← ht] at h9; exact h9⟩, hS.F ht⟩) hS.2.2 d_E_learn_61
  · exact absurd ((lg_cmp_le _ _).mpr hbig) c1
set_option maxHeartbeats 4000000 in
set_option maxRecDepth 100000 in
theorem c_learn2 (l : Launch) (dC : Nat → ClassId) (dI : Nat → Nat → Nat) (cI cJ cZ cB : ClassId) (la : Nat) (ea eb : Int64) (mn fa fb : Int32) (x1 y1 g1 a1 b1 : Int64) (x2 g2 : Int64) (sz : Nat) (hx1 : ea * (fb - fa).toInt64 + mn.toInt64 * eb * fa.toInt64 = x1) (hy1 : eb * fb.toInt64 = y1) (hg1 : cdv y1 (labs x1) 100 = g1) (hn1 : ¬ g1 = 0) (ha1 : x1 / g1 = a1) (hb1 : y1 / g1 = b1) (hbig : ¬ b1 ≤ 1000000000) (hb0 : ¬ b1 = 0) (hx2 : mill a1 b1 = x2) (hg2 : cdv 1000000 (labs x2) 100 = g2) (hn2 : ¬ g2 = 0) : Met l y_E_learn w_E_learn ({ frames := 2, cells := 0, slots := 0, locals := 56 }) (PC (dC, dI) (TY cI cJ cZ cB) [.ref la, .int mn, .int fa, .int fb] [(la, .inr (0, [.long ea, .long eb]))] sz (va_A [(la, .inr (0, [.long ea, .long eb]))] sz)) (va_Qv (fun (_ : Unit) => True) (fun (_ : Unit) (t : State) => va_P (dC, dI) vwCl [(la, .inr (0, [.long (x2 / g2), .long (1000000 / g2)]))] t.heap) (va_A [(la, .inr (0, [.long ea, .long eb]))] sz)) 0 0 (va_A [(la, .inr (0, [.long ea, .long eb]))] sz) := by
  refine Met.ofW (cc := b_E_learn) (maxL := 8) (ret := none) (by decide) rfl ?_
  intro p e s m args below meth c s₁ B hml hv
  obtain ⟨rfl, hsz, hP, hK, hD0, hE⟩ := hv
  have hx := B.exec
  have hb := B.bytes
  have hr := B.returns
  have hG : ∀ w ∈ GG, w.before _ s = true := fun w h => atoms_spec (ws := w_E_learn) B.pre w (List.mem_cons_of_mem _ h)
  have hown : s.vm.findClass R_E = some m.cls := findClass_of_methodNamed B.named
  have hlocks := B.notSynchronized
  subst hsz
  have hD := hD0.self (sz := s.heap.size)
  generalize hAe : (va_A [(la, .inr (0, [.long ea, .long eb]))] s.heap.size) = A at hD hE ⊢
  have hA : ∀ q : Nat, s.heap.size ≤ q → A q := fun q h => by rw [← hAe]; exact Or.inr h
  have hS : va_S A s.heap s.heap [] := va_S.rf
  obtain ⟨H, hH⟩ : ∃ z, z = s.heap := ⟨_, rfl⟩
  rw [← hH] at hP
  have hS : va_S A s.heap H [] := by rw [hH]; exact hS
  rw [← hH]
  have hl9 := lv_entry ([.ref la, .int mn, .int fa, .int fb]) (n := 8) (Nat.le_of_ble_eq_true rfl)
  rw [lg_entry_eq]
  generalize (lg_sl ([.ref la, .int mn, .int fa, .int fb]) ++ List.replicate (8 - (lg_sl ([.ref la, .int mn, .int fa, .int fb])).length) Slot.unset).toArray = ls at hl9 ⊢
  have hl9 : lv_has ls 8 [(0, .ref la), (1, .int mn), (2, .int fa), (3, .int fb)] := hl9
  refine lv_aload_n hx hb d_E_learn_0 rfl (lv_at hl9 0 rfl) ?_
  refine va_get (D := (dC, dI)) (ci := 0) (v := .long ea) (C := R_E) (T := F_E) (N := 2) hx hb hG i_E hown hK hP 0 rfl rfl 0 (by decide) (hG _ k_170) (fun _ h9 => h9) rfl d_E_learn_1 ?_
  refine lv_iload_n hx hb d_E_learn_4 rfl (lv_at hl9 3 rfl) ?_
  refine lv_iload_n hx hb d_E_learn_5 rfl (lv_at hl9 2 rfl) ?_
  refine lv_isub hx hb d_E_learn_6 ?_
  refine lv_i2l hx hb d_E_learn_7 rfl ?_
  refine lv_lmul hx hb d_E_learn_8 ?_
  refine lv_lstore (lv' := [(4, .long (ea * ((fb - fa).toInt64))), (0, .ref la), (1, .int mn), (2, .int fa), (3, .int fb)]) hx hb d_E_learn_9 hl9 (by decide) rfl (fun ls hl9 => ?_)
  refine lv_iload_n hx hb d_E_learn_11 rfl (lv_at hl9 2 rfl) ?_
  refine lv_i2l hx hb d_E_learn_12 rfl ?_
  refine lv_aload_n hx hb d_E_learn_13 rfl (lv_at hl9 1 rfl) ?_
  refine va_get (D := (dC, dI)) (ci := 0) (v := .long eb) (C := R_E) (T := F_E) (N := 2) hx hb hG i_E hown hK hP 0 rfl rfl 1 (by decide) (hG _ k_172) (fun _ h9 => h9) rfl d_E_learn_14 ?_
  refine lv_lmul hx hb d_E_learn_17 ?_
  refine lv_iload_n hx hb d_E_learn_18 rfl (lv_at hl9 3 rfl) ?_
  refine lv_i2l hx hb d_E_learn_19 rfl ?_
  refine lv_lmul hx hb d_E_learn_20 ?_
  refine lv_lstore (lv' := [(6, .long ((mn.toInt64 * eb) * fa.toInt64)), (4, .long (ea * ((fb - fa).toInt64))), (0, .ref la), (1, .int mn), (2, .int fa), (3, .int fb)]) hx hb d_E_learn_21 hl9 (by decide) rfl (fun ls hl9 => ?_)
  refine lv_aload_n hx hb d_E_learn_23 rfl (lv_at hl9 2 rfl) ?_
  refine lv_lload hx hb d_E_learn_24 (lv_at hl9 1 rfl) ?_
  refine lv_lload hx hb d_E_learn_26 (lv_at hl9 0 rfl) ?_
  refine lv_ladd hx hb d_E_learn_28 ?_
  refine lv_aload_n hx hb d_E_learn_29 rfl (lv_at hl9 2 rfl) ?_
  refine va_get (D := (dC, dI)) (ci := 0) (v := .long eb) (C := R_E) (T := F_E) (N := 2) hx hb hG i_E hown hK hP 0 rfl rfl 1 (by decide) (hG _ k_172) (fun _ h9 => h9) rfl d_E_learn_30 ?_
  refine lv_iload_n hx hb d_E_learn_33 rfl (lv_at hl9 5 rfl) ?_
  refine lv_i2l hx hb d_E_learn_34 rfl ?_
  refine lv_lmul hx hb d_E_learn_35 ?_
  rw [hx1, hy1]
  have hPc := hP.sub (ws' := [(la, .inr (0, [.long ea, .long eb]))]) [0] rfl
  have hDc := hD.sub (ws' := [(la, .inr (0, [.long ea, .long eb]))]) [0] (by decide) rfl
  have hFc := va_free (wc := [(la, .inr (0, [.long ea, .long eb]))]) hD hS hA [0] rfl
  refine va_callv (va_runV (C := R_E) (As := [.long x1, .long y1]) (rest := []) ⟨hx, hb, hml, hown, hG⟩ (c_keepInLowestTerms l dC dI cI cJ cZ cB la ea eb x1 y1 g1 H.size hg1 hn1) (cwV 2 hG g_E_16 rfl rfl rfl (by decide +kernel) ⟨Nat.le_of_ble_eq_true rfl, Nat.le_of_ble_eq_true rfl⟩) ⟨PC.blind, va_recv hK hP (ci := 0) (q0 := 0) rfl rfl, PC.of hPc hK hDc hE hS hFc⟩ rfl rfl hl9.1 rfl (lv_room (Nat.le_of_ble_eq_true rfl)) d_E_learn_36 ⟨by first | exact Nat.le_of_ble_eq_true rfl | omega, by first | exact Nat.le_of_ble_eq_true rfl | omega⟩) hS (fun q _ h => hFc q h) hFc (fun u t H1 locs ht hvm hw hB hz1 hk1 hS => ?_)
  rw [ht] at hB
  obtain ⟨hP, hD⟩ := jset (wc := [(la, .inr (0, [.long ea, .long eb]))]) (w1 := [(la, .inr (0, [.long (x1 / g1), .long (y1 / g1)]))]) [0] rfl rfl hP hD hk1 hB
  have hP : va_P (dC, dI) vwCl [(la, .inr (0, [.long (x1 / g1), .long (y1 / g1)]))] H1 := hP
  have hD : va_D A [(la, .inr (0, [.long (x1 / g1), .long (y1 / g1)]))] := hD
  rw [ha1, hb1] at hP hD
  refine lv_aload_n hx hb d_E_learn_39 rfl (lv_at hl9 2 rfl) ?_
  refine va_get (D := (dC, dI)) (ci := 0) (v := .long b1) (C := R_E) (T := F_E) (N := 2) hx hb hG i_E hown hK hP 0 rfl rfl 1 (by decide) (hG _ k_172) (fun _ h9 => h9) rfl d_E_learn_40 ?_
  refine lv_ldc2 (v := 1000000000) hx hb hown (hG _ k_359) d_E_learn_43 ?_
  refine W.lcmp hx hb d_E_learn_46 ?_
  refine lv_if_le (tgt := 61) hx hb d_E_learn_47 (by decide) (fun c1 => ?_) (fun c1 => ?_)
  · exact absurd ((lg_cmp_le _ _).mp c1) hbig
  · refine lv_aload_n hx hb d_E_learn_50 rfl (lv_at hl9 2 rfl) ?_
    refine lv_aload_n hx hb d_E_learn_51 rfl (lv_at hl9 2 rfl) ?_
    have hPc := hP.sub (ws' := [(la, .inr (0, [.long a1, .long b1]))]) [0] rfl
    have hDc := hD.sub (ws' := [(la, .inr (0, [.long a1, .long b1]))]) [0] (by decide) rfl
    have hFc := va_A_nil hA hS.1
    refine va_calll (va_runV (C := R_E) (As := []) (rest := [.ref la]) ⟨hx, hb, hml, hown, hG⟩ (c_millionths l dC dI cI cJ cZ cB la a1 b1 H1.size hb0) (cwV 0 hG g_E_22 rfl rfl rfl (by decide +kernel) ⟨Nat.le_of_ble_eq_true rfl, Nat.le_of_ble_eq_true rfl⟩) ⟨PC.blind, va_recv hK hP (ci := 0) (q0 := 0) rfl rfl, PC.of hPc hK hDc hE hS hFc⟩ rfl rfl hl9.1 rfl (lv_room (Nat.le_of_ble_eq_true rfl)) d_E_learn_52 ⟨by first | exact Nat.le_of_ble_eq_true rfl | omega, by first | exact Nat.le_of_ble_eq_true rfl | omega⟩) hS (fun q _ h => hFc q h) hFc (fun r4 u t H3 locs ht hvm hw hB hz1 hk1 hS => ?_)
    have hP := wp_kept hP hk1
    have hw : r4 = mill a1 b1 := hw
    subst hw
    rw [hx2]
    refine lv_ldc2 (v := 1000000) hx hb hown (hG _ k_364) d_E_learn_55 ?_
    have hPc := hP.sub (ws' := [(la, .inr (0, [.long a1, .long b1]))]) [0] rfl
    have hDc := hD.sub (ws' := [(la, .inr (0, [.long a1, .long b1]))]) [0] (by decide) rfl
    have hFc := va_free (wc := [(la, .inr (0, [.long a1, .long b1]))]) hD hS hA [0] rfl
    refine va_callv (va_runV (C := R_E) (As := [.long x2, .long 1000000]) (rest := []) ⟨hx, hb, hml, hown, hG⟩ (c_keepInLowestTerms l dC dI cI cJ cZ cB la a1 b1 x2 1000000 g2 H3.size hg2 hn2) (cwV 2 hG g_E_16 rfl rfl rfl (by decide +kernel) ⟨Nat.le_of_ble_eq_true rfl, Nat.le_of_ble_eq_true rfl⟩) ⟨PC.blind, va_recv hK hP (ci := 0) (q0 := 0) rfl rfl, PC.of hPc hK hDc hE hS hFc⟩ rfl rfl hl9.1 rfl (lv_room (Nat.le_of_ble_eq_true rfl)) d_E_learn_58 ⟨by first | exact Nat.le_of_ble_eq_true rfl | omega, by first | exact Nat.le_of_ble_eq_true rfl | omega⟩) hS (fun q _ h => hFc q h) hFc (fun u t H5 locs ht hvm hw hB hz1 hk1 hS => ?_)
    rw [ht] at hB
    obtain ⟨hP, hD⟩ := jset (wc := [(la, .inr (0, [.long a1, .long b1]))]) (w1 := [(la, .inr (0, [.long (x2 / g2), .long (1000000 / g2)]))]) [0] rfl rfl hP hD hk1 hB
    have hP : va_P (dC, dI) vwCl [(la, .inr (0, [.long (x2 / g2), .long (1000000 / g2)]))] H5 := hP
    have hD : va_D A [(la, .inr (0, [.long (x2 / g2), .long (1000000 / g2)]))] := hD
    exact W.vret hx hb hr (fun t ht hW => ⟨⟨(), rfl, trivial, by have h9 := hP; rw [← ht] at h9; exact h9⟩, hS.F ht⟩) hS.2.2 d_E_learn_61
