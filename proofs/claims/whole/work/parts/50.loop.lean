theorem sw_cases (v : Int32) : (v.toInt < 0 ∨ 16 < v.toInt) ∨ v = 0 ∨ v = 1 ∨ v = 2 ∨ v = 3 ∨ v = 4 ∨ v = 5 ∨ v = 6 ∨ v = 7 ∨ v = 8 ∨ v = 9 ∨ v = 10 ∨ v = 11 ∨ v = 12 ∨ v = 13 ∨ v = 14 ∨ v = 15 ∨ v = 16 := by
  by_cases h0 : v.toInt < 0 ∨ 16 < v.toInt
  · exact Or.inl h0
  have h1 : v.toInt = 0 ∨ v.toInt = 1 ∨ v.toInt = 2 ∨ v.toInt = 3 ∨ v.toInt = 4 ∨ v.toInt = 5 ∨ v.toInt = 6 ∨ v.toInt = 7 ∨ v.toInt = 8 ∨ v.toInt = 9 ∨ v.toInt = 10 ∨ v.toInt = 11 ∨ v.toInt = 12 ∨ v.toInt = 13 ∨ v.toInt = 14 ∨ v.toInt = 15 ∨ v.toInt = 16 := by omega
  rcases h1 with h | h | h | h | h | h | h | h | h | h | h | h | h | h | h | h | h
  · exact Or.inr (Or.inl (Int32.toInt_inj.mp (h.trans (by decide))))
  · exact Or.inr (Or.inr (Or.inl (Int32.toInt_inj.mp (h.trans (by decide)))))
  · exact Or.inr (Or.inr (Or.inr (Or.inl (Int32.toInt_inj.mp (h.trans (by decide))))))
  · exact Or.inr (Or.inr (Or.inr (Or.inr (Or.inl (Int32.toInt_inj.mp (h.trans (by decide)))))))
  · exact Or.inr (Or.inr (Or.inr (Or.inr (Or.inr (Or.inl (Int32.toInt_inj.mp (h.trans (by decide))))))))
  · exact Or.inr (Or.inr (Or.inr (Or.inr (Or.inr (Or.inr (Or.inl (Int32.toInt_inj.mp (h.trans (by decide)))))))))
  · exact Or.inr (Or.inr (Or.inr (Or.inr (Or.inr (Or.inr (Or.inr (Or.inl (Int32.toInt_inj.mp (h.trans (by decide))))))))))
  · exact Or.inr (Or.inr (Or.inr (Or.inr (Or.inr (Or.inr (Or.inr (Or.inr (Or.inl (Int32.toInt_inj.mp (h.trans (by decide)))))))))))
  · exact Or.inr (Or.inr (Or.inr (Or.inr (Or.inr (Or.inr (Or.inr (Or.inr (Or.inr (Or.inl (Int32.toInt_inj.mp (h.trans (by decide))))))))))))
  · exact Or.inr (Or.inr (Or.inr (Or.inr (Or.inr (Or.inr (Or.inr (Or.inr (Or.inr (Or.inr (Or.inl (Int32.toInt_inj.mp (h.trans (by decide)))))))))))))
  · exact Or.inr (Or.inr (Or.inr (Or.inr (Or.inr (Or.inr (Or.inr (Or.inr (Or.inr (Or.inr (Or.inr (Or.inl (Int32.toInt_inj.mp (h.trans (by decide))))))))))))))
  · exact Or.inr (Or.inr (Or.inr (Or.inr (Or.inr (Or.inr (Or.inr (Or.inr (Or.inr (Or.inr (Or.inr (Or.inr (Or.inl (Int32.toInt_inj.mp (h.trans (by decide)))))))))))))))
  · exact Or.inr (Or.inr (Or.inr (Or.inr (Or.inr (Or.inr (Or.inr (Or.inr (Or.inr (Or.inr (Or.inr (Or.inr (Or.inr (Or.inl (Int32.toInt_inj.mp (h.trans (by decide))))))))))))))))
  · exact Or.inr (Or.inr (Or.inr (Or.inr (Or.inr (Or.inr (Or.inr (Or.inr (Or.inr (Or.inr (Or.inr (Or.inr (Or.inr (Or.inr (Or.inl (Int32.toInt_inj.mp (h.trans (by decide)))))))))))))))))
  · exact Or.inr (Or.inr (Or.inr (Or.inr (Or.inr (Or.inr (Or.inr (Or.inr (Or.inr (Or.inr (Or.inr (Or.inr (Or.inr (Or.inr (Or.inr (Or.inl (Int32.toInt_inj.mp (h.trans (by decide))))))))))))))))))
  · exact Or.inr (Or.inr (Or.inr (Or.inr (Or.inr (Or.inr (Or.inr (Or.inr (Or.inr (Or.inr (Or.inr (Or.inr (Or.inr (Or.inr (Or.inr (Or.inr (Or.inl (Int32.toInt_inj.mp (h.trans (by decide)))))))))))))))))))
  · exact Or.inr (Or.inr (Or.inr (Or.inr (Or.inr (Or.inr (Or.inr (Or.inr (Or.inr (Or.inr (Or.inr (Or.inr (Or.inr (Or.inr (Or.inr (Or.inr (Or.inr (Int32.toInt_inj.mp (h.trans (by decide)))))))))))))))))))
set_option maxHeartbeats 4000000 in
set_option maxRecDepth 100000 in
/-- the law's loop: k rounds done -/
theorem law_loop {p : Program} {l : Launch} {e : Env} {s : State} {m : MethodId} {below : List Frame} {meth : Method} {c : Code} {b L : Nat} {xs : Nat → Int32} {dC : Nat → ClassId} {dI : Nat → Nat → Nat} {cI cJ cZ cB : ClassId} (C0 : LC p l s m meth c b L xs dC dI cI cJ cZ cB) (hr : meth.sig.returnType = ret) (hlocks : meth.locks = false) {a0 aZ aO aG aP aW aK ou : Nat} {m0 mH mL mB mP mR mA mW mU mV mM mT mQ mO mF mS mE mX mD : Nat} : ∀ (n k : Nat), 5 * k ≤ L → L + 1 ≤ 5 * k + n → ∀ (J : JS) (H : Heap) (locs : List Loc) (ls : Array Slot), Inv J → va_P (dC, dI) vwCl (wC cI cJ cZ a0 aZ aO aG aP aW aK ou J ++ wR cI cJ cB m0 mH mL mB mP mR mA mW mU mV mM mT mQ mO mF mS mE mX mD J) H → va_D (fun q : Nat => s.heap.size ≤ q) (wC cI cJ cZ a0 aZ aO aG aP aW aK ou J ++ wR cI cJ cB m0 mH mL mB mP mR mA mW mU mV mM mT mQ mO mF mS mE mX mD J) → va_S (fun q : Nat => s.heap.size ≤ q) s.heap H locs → lv_has ls 8 [(4, .int (nI (5 * k))), (3, .ref ou), (2, .ref m0), (1, .ref a0), (0, .ref b)] → W p l e room_1 s m #[Value.ref b] below meth c H locs (27 + 5 * k) (16721 + 1465 * k) (lw_Z below #[Value.ref b] s) (F0 m 23 ls []) := by
  have C1 := C0
  obtain ⟨hx, hb, hml, hown, hG, hX, hbl, hK, hN, hE, hl, hL⟩ := C0
  have hA : ∀ q : Nat, s.heap.size ≤ q → (fun q : Nat => s.heap.size ≤ q) q := fun _ h => h
  have hbA : ¬ (fun q : Nat => s.heap.size ≤ q) b := Nat.not_le.mpr hbl
  intro n
  induction n with
  | zero =>
    intro k h1 h2
    exact absurd h2 (by omega)
  | succ n ih =>
    intro k hk1 hk2 J H locs ls hI hP hD hS hl9
    refine lv_iload hx hb d_L_law_23 (lv_at hl9 0 rfl) ?_
    refine lv_aload_n hx hb d_L_law_25 rfl (lv_at hl9 4 rfl) ?_
    refine va_slen hx hb hX hbl hbA hS d_L_law_26 ?_
    refine lv_iconst (v := 5) hx hb d_L_law_27 (by decide) ?_
    refine lv_isub hx hb d_L_law_28 ?_
    refine lv_icmp_gt (tgt := 1215) hx hb d_L_law_29 (by decide) (fun c0 => ?_) (fun c0 => ?_)
    · refine lv_iconst (v := 1) hx hb d_L_law_1215 (by decide) ?_
      refine va_forget (fun q hq => hS.2.2 q hq) ?_
      refine W.widen (k := room_1.cells) (n := room_1.slots) (Nat.le_trans (show _ ≤ 2587 by omega) lw_rc) (Nat.le_trans (show _ ≤ 766801 by omega) lw_rs) ?_
      exact lw_ret hx hb hr hlocks d_L_law_1216
    · have h5 : 5 * k + 5 ≤ L := by
        have e1 : (Int32.ofNat L - 5).toInt = (L : Int) - 5 := by
          rw [Int32.toInt_sub, show (Int32.ofNat L).toInt = (L : Int) from nI_toInt (by omega), show (5 : Int32).toInt = 5 from rfl]
          exact bm32 (by omega) (by omega)
        rw [Int32.lt_iff_toInt_lt, e1, nI_toInt (by omega)] at c0
        omega
      have kk : LK p l e s m below meth c b dC dI cI cJ cZ cB a0 aZ aO aG aP aW aK ou m0 mH mL mB mP mR mA mW mU mV mM mT mQ mO mF mS mE mX mD (5 * k) (27 + 5 * k + 5) (16721 + 1465 * k + 1465) := by
        intro J H locs ls hI hP hD hS hl9
        refine lv_iinc (v := nI (5 * k) + 5) (lv' := [(4, .int (nI (5 * k) + 5)), (3, .ref ou), (2, .ref m0), (1, .ref a0), (0, .ref b)]) hx hb d_L_law_1209 hl9 (k := 0) rfl rfl (by decide) rfl (fun ls hl9 => ?_)
        refine lv_goto (tgt := 23) hx hb d_L_law_1212 (by decide) ?_
        rw [show nI (5 * k) + 5 = nI (5 * (k + 1)) from nI_add (5 * k) 5] at hl9
        have h9 := ih (k + 1) (by omega) (by omega) J H locs ls hI hP hD hS hl9
        rw [show 27 + 5 * (k + 1) = 27 + 5 * k + 5 by omega, show 16721 + 1465 * (k + 1) = 16721 + 1465 * k + 1465 by omega] at h9
        exact h9
      have hin0 : vp_in (nI (5 * k)) L := vp_in_nI (by omega) (by omega)
      have hc : (27 + 5 * k + 5) ≤ room_1.cells ∧ (16721 + 1465 * k + 1465) ≤ room_1.slots := ⟨Nat.le_trans (show _ ≤ 2587 by omega) lw_rc, Nat.le_trans (show _ ≤ 766801 by omega) lw_rs⟩
      refine lv_aload_n hx hb d_L_law_32 rfl (lv_at hl9 4 rfl) ?_
      refine lv_iload hx hb d_L_law_33 (lv_at hl9 0 rfl) ?_
      refine va_sld hx hb hX hbl hbA hS hin0 d_L_law_35 ?_
      refine lv_bipush (v := 31) hx hb d_L_law_36 (by decide) ?_
      refine lv_iand hx hb d_L_law_38 ?_
      rcases sw_cases (xs (nI (5 * k)).toNatClampNeg &&& 31) with h | h | h | h | h | h | h | h | h | h | h | h | h | h | h | h | h | h
      · refine lv_tableOut (tgt := 1209) hx hb d_L_law_39 h (by decide) ?_
        refine W.widen (k := (27 + 5 * k + 5)) (n := (16721 + 1465 * k + 1465)) (by omega) (by omega) ?_
        exact kk J H locs ls hI hP hD hS hl9
      · rw [h]
        refine lv_tableIn (tgt := 120) (off := 81) hx hb d_L_law_39 (by decide) (by decide) (by decide) (by decide) ?_
        exact law_zone C1 h5 hc hI hP hD hS hl9 kk
      · rw [h]
        refine lv_tableIn (tgt := 188) (off := 149) hx hb d_L_law_39 (by decide) (by decide) (by decide) (by decide) ?_
        exact law_set C1 h5 hc hI hP hD hS hl9 kk
      · rw [h]
        refine lv_tableIn (tgt := 268) (off := 229) hx hb d_L_law_39 (by decide) (by decide) (by decide) (by decide) ?_
        exact law_want C1 h5 hc hI hP hD hS hl9 kk
      · rw [h]
        refine lv_tableIn (tgt := 328) (off := 289) hx hb d_L_law_39 (by decide) (by decide) (by decide) (by decide) ?_
        exact law_outside C1 h5 hc hI hP hD hS hl9 kk
      · rw [h]
        refine lv_tableIn (tgt := 396) (off := 357) hx hb d_L_law_39 (by decide) (by decide) (by decide) (by decide) ?_
        exact law_machine C1 h5 hc hI hP hD hS hl9 kk
      · rw [h]
        refine lv_tableIn (tgt := 452) (off := 413) hx hb d_L_law_39 (by decide) (by decide) (by decide) (by decide) ?_
        exact law_start C1 h5 hc hI hP hD hS hl9 kk
      · rw [h]
        refine lv_tableIn (tgt := 508) (off := 469) hx hb d_L_law_39 (by decide) (by decide) (by decide) (by decide) ?_
        exact law_late C1 h5 hc hI hP hD hS hl9 kk
      · rw [h]
        refine lv_tableIn (tgt := 571) (off := 532) hx hb d_L_law_39 (by decide) (by decide) (by decide) (by decide) ?_
        exact law_at C1 h5 hc hI hP hD hS hl9 kk
      · rw [h]
        refine lv_tableIn (tgt := 639) (off := 600) hx hb d_L_law_39 (by decide) (by decide) (by decide) (by decide) ?_
        exact law_used C1 h5 hc hI hP hD hS hl9 kk
      · rw [h]
        refine lv_tableIn (tgt := 695) (off := 656) hx hb d_L_law_39 (by decide) (by decide) (by decide) (by decide) ?_
        exact law_cold C1 h5 hc hI hP hD hS hl9 kk
      · rw [h]
        refine lv_tableIn (tgt := 751) (off := 712) hx hb d_L_law_39 (by decide) (by decide) (by decide) (by decide) ?_
        exact law_fade C1 h5 hc hI hP hD hS hl9 kk
      · rw [h]
        refine lv_tableIn (tgt := 799) (off := 760) hx hb d_L_law_39 (by decide) (by decide) (by decide) (by decide) ?_
        exact law_day C1 h5 hc hI hP hD hS hl9 kk
      · rw [h]
        refine lv_tableIn (tgt := 847) (off := 808) hx hb d_L_law_39 (by decide) (by decide) (by decide) (by decide) ?_
        exact law_lesson C1 h5 hc hI hP hD hS hl9 kk
      · rw [h]
        refine lv_tableIn (tgt := 914) (off := 875) hx hb d_L_law_39 (by decide) (by decide) (by decide) (by decide) ?_
        exact law_taught C1 h5 hc hI hP hD hS hl9 kk
      · rw [h]
        refine lv_tableIn (tgt := 970) (off := 931) hx hb d_L_law_39 (by decide) (by decide) (by decide) (by decide) ?_
        exact law_price C1 h5 hc hI hP hD hS hl9 kk
      · rw [h]
        refine lv_tableIn (tgt := 1038) (off := 999) hx hb d_L_law_39 (by decide) (by decide) (by decide) (by decide) ?_
        exact law_cheapest C1 h5 hc hI hP hD hS hl9 kk
      · rw [h]
        refine lv_tableIn (tgt := 1118) (off := 1079) hx hb d_L_law_39 (by decide) (by decide) (by decide) (by decide) ?_
        exact law_costs C1 h5 hc hI hP hD hS hl9 kk
