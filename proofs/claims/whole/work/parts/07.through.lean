/-- n minutes on from minute a with the heat h -/
def wt (o : Nat → Int32) (L hd h x : Int32) (a : Nat) : Nat → Int32
  | 0 => x
  | n + 1 => wt o L hd h x a n + (o (a + n) - wt o L hd h x a n) / L + h / hd
theorem g_C_179 : GoodIn GG (wsV R_C 179 R_C y_C_warmthAfter w_C_warmthAfter) := goodG (List.forall_mem_append.mpr ⟨List.forall_mem_cons.mpr ⟨k_279, List.forall_mem_cons.mpr ⟨k_281, List.forall_mem_cons.mpr ⟨ks_6, List.forall_mem_cons.mpr ⟨k_1, fun _ h => absurd h List.not_mem_nil⟩⟩⟩⟩, List.forall_mem_cons.mpr ⟨k_282, fun _ h => h⟩⟩)
set_option maxHeartbeats 4000000 in
set_option maxRecDepth 100000 in
theorem c_warmthThrough (l : Launch) (dC : Nat → ClassId) (dI : Nat → Nat → Nat) (cI cJ cZ cB : ClassId) (a0 aZ aO aG aP aW aK : Nat) (zc orr ol mp pl fa fb : Int32) (fO : Nat → Int32) (za la wa : Nat) (zh zl zf zp zr zm zw zs : Int32) (x h : Int32) (a b : Nat) (sz : Nat) (hab : a ≤ b) (hb1 : b ≤ 1440) (hzl : ¬ zl = 0) (hzh : ¬ zh = 0) : Met l y_C_warmthThrough w_C_warmthThrough ({ frames := 1, cells := 0, slots := 0, locals := 24 }) (PC (dC, dI) (TY cI cJ cZ cB) [.ref a0, .ref za, .int x, .int (nI a), .int (nI b), .int h] [(a0, .inr (2, [.ref aZ, .int zc, .ref aO, .int orr, .int ol, .int mp, .ref aG, .int pl, .int fa, .int fb, .ref aP, .ref aW, .ref aK])), (aO, .inl (cI, 1440, .inl fO)), (za, .inr (1, [.int zh, .int zl, .int zf, .int zp, .int zr, .int zm, .int zw, .ref la, .int zs, .ref wa]))] sz (va_A [] sz)) (va_Qi (fun (r : Int32) (_ : Unit) => r = wt fO zl zh h x a (b - a)) (fun (_ : Unit) (_ : State) => True) (va_A [] sz)) 0 0 (va_A [] sz) := by
  refine Met.ofW (cc := b_C_warmthThrough) (maxL := 8) (ret := (some .int)) (by decide) rfl ?_
  intro p e s m args below meth c s₁ B hml hv
  obtain ⟨rfl, hsz, hP, hK, hD0, hE⟩ := hv
  have hx := B.exec
  have hb := B.bytes
  have hr := B.returns
  have hG : ∀ w ∈ GG, w.before _ s = true := fun w h => atoms_spec (ws := w_C_warmthThrough) B.pre w (List.mem_cons_of_mem _ h)
  have hown : s.vm.findClass R_C = some m.cls := findClass_of_methodNamed B.named
  have hlocks := B.notSynchronized
  subst hsz
  generalize hAe : (va_A [] s.heap.size) = A at hE ⊢
  have hA : ∀ q : Nat, s.heap.size ≤ q → A q := fun q h => by rw [← hAe]; exact Or.inr h
  have hS : va_S A s.heap s.heap [] := va_S.rf
  have hD := hD0
  obtain ⟨H, hH⟩ : ∃ z, z = s.heap := ⟨_, rfl⟩
  rw [← hH] at hP
  have hS : va_S A s.heap H [] := by rw [hH]; exact hS
  rw [← hH]
  have hl9 := lv_entry ([.ref a0, .ref za, .int x, .int (nI a), .int (nI b), .int h]) (n := 8) (Nat.le_of_ble_eq_true rfl)
  rw [lg_entry_eq]
  generalize (lg_sl ([.ref a0, .ref za, .int x, .int (nI a), .int (nI b), .int h]) ++ List.replicate (8 - (lg_sl ([.ref a0, .ref za, .int x, .int (nI a), .int (nI b), .int h])).length) Slot.unset).toArray = ls at hl9 ⊢
  have hl9 : lv_has ls 8 [(0, .ref a0), (1, .ref za), (2, .int x), (3, .int (nI a)), (4, .int (nI b)), (5, .int h)] := hl9
  refine lv_iload_n hx hb d_C_warmthThrough_0 rfl (lv_at hl9 2 rfl) ?_
  refine lv_istore (lv' := [(6, .int x), (0, .ref a0), (1, .ref za), (2, .int x), (3, .int (nI a)), (4, .int (nI b)), (5, .int h)]) hx hb d_C_warmthThrough_1 hl9 (by decide) rfl (fun ls hl9 => ?_)
  refine lv_iload_n hx hb d_C_warmthThrough_3 rfl (lv_at hl9 4 rfl) ?_
  refine lv_istore (lv' := [(7, .int (nI a)), (6, .int x), (0, .ref a0), (1, .ref za), (2, .int x), (3, .int (nI a)), (4, .int (nI b)), (5, .int h)]) hx hb d_C_warmthThrough_4 hl9 (by decide) rfl (fun ls hl9 => ?_)
  have lp : ∀ (n : Nat) (i : Nat), a ≤ i → i ≤ b → b + 1 ≤ i + n → ∀ (H : Heap) (locs : List Loc) (ls : Array Slot), va_P (dC, dI) vwCl [(a0, .inr (2, [.ref aZ, .int zc, .ref aO, .int orr, .int ol, .int mp, .ref aG, .int pl, .int fa, .int fb, .ref aP, .ref aW, .ref aK])), (aO, .inl (cI, 1440, .inl fO)), (za, .inr (1, [.int zh, .int zl, .int zf, .int zp, .int zr, .int zm, .int zw, .ref la, .int zs, .ref wa]))] H → va_S A s.heap H locs → lv_has ls 8 [(6, .int (wt fO zl zh h x a (i - a))), (7, .int (nI i)), (0, .ref a0), (1, .ref za), (4, .int (nI b)), (5, .int h)] → W p l e (headSpec w_C_warmthThrough ({ frames := 1, cells := 0, slots := 0, locals := 24 })).room s m ([.ref a0, .ref za, .int x, .int (nI a), .int (nI b), .int h] : List Value).toArray below meth c H locs 0 0 (MQ below (va_Qi (fun (r : Int32) (_ : Unit) => r = wt fO zl zh h x a (b - a)) (fun (_ : Unit) (_ : State) => True) A) ([.ref a0, .ref za, .int x, .int (nI a), .int (nI b), .int h] : List Value).toArray s 0 0 A) (F0 m 6 ls []) := by
    intro n
    induction n with
    | zero =>
      intro i hai hib hin
      exact absurd hin (by omega)
    | succ n ih =>
      intro i hai hib hin H locs ls hP hS hl9
      refine lv_iload hx hb d_C_warmthThrough_6 (lv_at hl9 1 rfl) ?_
      refine lv_iload hx hb d_C_warmthThrough_8 (lv_at hl9 4 rfl) ?_
      refine lv_icmp_ge (tgt := 32) hx hb d_C_warmthThrough_10 (by decide) (fun c1 => ?_) (fun c1 => ?_)
      · have e9 : i = b := by have := (nI_leI (a := b) (b := i) (by omega) (by omega)).mp c1; omega
        subst e9
        refine lv_iload hx hb d_C_warmthThrough_32 (lv_at hl9 0 rfl) ?_
        exact W.iret (v := (wt fO zl zh h x a (i - a))) hx hb hr (fun t ht hW => ⟨⟨(wt fO zl zh h x a (i - a)), (), rfl, rfl, trivial⟩, hS.F ht⟩) hS.2.2 d_C_warmthThrough_34
      · have e9 : i < b := by rcases Nat.lt_or_ge i b with q | q; exact q; exact absurd ((nI_leI (a := b) (b := i) (by omega) (by omega)).mpr q) c1
        have hin : vp_in (nI i) 1440 := vp_in_nI (by omega) (by omega)
        refine lv_aload_n hx hb d_C_warmthThrough_13 rfl (lv_at hl9 2 rfl) ?_
        refine lv_aload_n hx hb d_C_warmthThrough_14 rfl (lv_at hl9 3 rfl) ?_
        refine lv_iload hx hb d_C_warmthThrough_15 (lv_at hl9 0 rfl) ?_
        refine lv_iload hx hb d_C_warmthThrough_17 (lv_at hl9 1 rfl) ?_
        refine lv_iload hx hb d_C_warmthThrough_19 (lv_at hl9 5 rfl) ?_
        have hPc := hP.sub (ws' := [(a0, .inr (2, [.ref aZ, .int zc, .ref aO, .int orr, .int ol, .int mp, .ref aG, .int pl, .int fa, .int fb, .ref aP, .ref aW, .ref aK])), (aO, .inl (cI, 1440, .inl fO)), (za, .inr (1, [.int zh, .int zl, .int zf, .int zp, .int zr, .int zm, .int zw, .ref la, .int zs, .ref wa]))]) [0, 1, 2] rfl
        have hDc := hD.sub (ws' := [(a0, .inr (2, [.ref aZ, .int zc, .ref aO, .int orr, .int ol, .int mp, .ref aG, .int pl, .int fa, .int fb, .ref aP, .ref aW, .ref aK])), (aO, .inl (cI, 1440, .inl fO)), (za, .inr (1, [.int zh, .int zl, .int zf, .int zp, .int zr, .int zm, .int zw, .ref la, .int zs, .ref wa]))]) [0, 1, 2] (by decide) rfl
        have hFc := va_A_nil hA hS.1
        refine va_calli (va_runV (C := R_C) (As := [.ref za, .int (wt fO zl zh h x a (i - a)), .int (nI i), .int h]) (rest := []) ⟨hx, hb, hml, hown, hG⟩ (c_warmthAfter l dC dI cI cJ cZ cB a0 aZ aO aG aP aW aK zc orr ol mp pl fa fb fO za la wa zh zl zf zp zr zm zw zs (wt fO zl zh h x a (i - a)) (nI i) h H.size hin hzl hzh) (cwV 4 hG g_C_179 rfl rfl rfl (by decide +kernel) ⟨Nat.le_of_ble_eq_true rfl, Nat.le_of_ble_eq_true rfl⟩) ⟨PC.blind, va_recv hK hP (ci := 2) (q0 := 0) rfl rfl, PC.of hPc hK hDc hE hS hFc⟩ rfl rfl hl9.1 rfl (lv_room (Nat.le_of_ble_eq_true rfl)) d_C_warmthThrough_21 ⟨by first | exact Nat.le_of_ble_eq_true rfl | omega, by first | exact Nat.le_of_ble_eq_true rfl | omega⟩) hS (fun q _ h => hFc q h) hFc (fun r2 u t H1 locs ht hvm hw hB hz1 hk1 hS => ?_)
        have hP := wp_kept hP hk1
        have hw : r2 = (wt fO zl zh h x a (i - a)) + (fO (nI i).toNatClampNeg - (wt fO zl zh h x a (i - a))) / zl + h / zh := hw
        subst hw
        refine lv_istore (lv' := [(6, .int ((wt fO zl zh h x a (i - a)) + (fO (nI i).toNatClampNeg - (wt fO zl zh h x a (i - a))) / zl + h / zh)), (7, .int (nI i)), (0, .ref a0), (1, .ref za), (4, .int (nI b)), (5, .int h)]) hx hb d_C_warmthThrough_24 hl9 (by decide) rfl (fun ls hl9 => ?_)
        refine lv_iinc (v := ((nI i) + 1)) (lv' := [(7, .int ((nI i) + 1)), (6, .int ((wt fO zl zh h x a (i - a)) + (fO (nI i).toNatClampNeg - (wt fO zl zh h x a (i - a))) / zl + h / zh)), (0, .ref a0), (1, .ref za), (4, .int (nI b)), (5, .int h)]) hx hb d_C_warmthThrough_26 hl9 (k := 1) rfl rfl (by decide) rfl (fun ls hl9 => ?_)
        refine lv_goto (tgt := 6) hx hb d_C_warmthThrough_29 (by decide) ?_
        have e8 : wt fO zl zh h x a (i - a) + (fO (nI i).toNatClampNeg - wt fO zl zh h x a (i - a)) / zl + h / zh = wt fO zl zh h x a (i + 1 - a) := by rw [show i + 1 - a = (i - a) + 1 by omega, nI_clamp (by omega)]; show _ = wt fO zl zh h x a (i - a) + (fO (a + (i - a)) - wt fO zl zh h x a (i - a)) / zl + h / zh; rw [show a + (i - a) = i by omega]
        rw [e8, nI_1] at hl9
        exact ih (i + 1) (by omega) (by omega) (by omega) _ _ ls hP hS (lv_sub hl9 [1, 0, 2, 3, 4, 5] rfl)
  have e7 : x = wt fO zl zh h x a (a - a) := by rw [Nat.sub_self]; rfl
  have hl9 : lv_has ls 8 [(7, .int (nI a)), (6, .int (wt fO zl zh h x a (a - a))), (0, .ref a0), (1, .ref za), (2, .int x), (3, .int (nI a)), (4, .int (nI b)), (5, .int h)] := by rw [← e7]; exact hl9
  exact lp (b + 1 - a) a (Nat.le_refl a) hab (by omega) _ _ ls hP hS (lv_sub hl9 [1, 0, 2, 3, 6, 7] rfl)
