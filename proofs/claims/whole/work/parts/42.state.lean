/-! ===== the joint state of class and reference ===== -/
abbrev JS : Type := List ZD × Nat × Nat × Int32 × Int32 × Int32 × Int32 × Int32 × Int32 × (Nat → Option Nat) × (Nat → Int32) × (Nat → Int32) × (Nat → Int32) × (Nat → Int32) × (Nat → Int64) × (Nat → Int64) × (Nat → Int32) × (Nat → Int32) × (Nat → Int32) × (Nat → Int32) × (Nat → Int32) × (Nat → Int32) × (Nat → Int32) × (Nat → Int64) × (Nat → Int64) × (Nat → Int32) × (Nat → Int32) × (Nat → Int32) × (Nat → Int32) × (Nat → Int32) × (Nat → Int32) × (Nat → Int32) × (Nat → Int32)
def xC (cI cJ cZ : ClassId) (a0 aZ aO aG aP aW aK ou : Nat) (J : JS) : va_W := match J with
  | (zs, nz, nr, ol, mp, pl, fa, fb, th, fZ, fO, fG, fP, fW, fK, fU, rH, rL, rB, rP, rR, rA, rW, rU, rV, rM, rT, rO, rF, rS, rE, rX, rD) => [(a0, .inr (2, [.ref aZ, .int (nI nz), .ref aO, .int (nI nr), .int ol, .int mp, .ref aG, .int pl, .int fa, .int fb, .ref aP, .ref aW, .ref aK])), (aZ, .inl (cZ, 6, .inr (.inr (.inr (.inr fZ))))), (aO, .inl (cI, 1440, .inl fO)), (aG, .inl (cI, 1440, .inl fG)), (aP, .inl (cI, 24, .inl fP)), (aW, .inl (cI, 1024, .inl fW)), (aK, .inl (cJ, 1024, .inr (.inl fK))), (ou, .inl (cJ, 1, .inr (.inl fU)))]
def wC (cI cJ cZ : ClassId) (a0 aZ aO aG aP aW aK ou : Nat) (J : JS) : va_W := xC cI cJ cZ a0 aZ aO aG aP aW aK ou J ++ J.1.flatMap (tri cI)
def wR (cI cJ cB : ClassId) (m0 mH mL mB mP mR mA mW mU mV mM mT mQ mO mF mS mE mX mD : Nat) (J : JS) : va_W := match J with
  | (zs, nz, nr, ol, mp, pl, fa, fb, th, fZ, fO, fG, fP, fW, fK, fU, rH, rL, rB, rP, rR, rA, rW, rU, rV, rM, rT, rO, rF, rS, rE, rX, rD) => [(m0, .inr (3, [.int th, .int (nI nz), .ref mH, .ref mL, .ref mB, .ref mP, .ref mR, .ref mA, .ref mW, .ref mU, .ref mV, .int (nI nr), .ref mM, .ref mT, .int mp, .ref mQ, .int fa, .int fb, .int pl, .ref mO, .ref mF, .ref mS, .ref mE, .ref mX, .ref mD])), (mH, .inl (cI, 6, .inl rH)), (mL, .inl (cI, 6, .inl rL)), (mB, .inl (cI, 6, .inl rB)), (mP, .inl (cI, 6, .inl rP)), (mR, .inl (cI, 6, .inl rR)), (mA, .inl (cI, 6, .inl rA)), (mW, .inl (cI, 6, .inl rW)), (mU, .inl (cJ, 6, .inr (.inl rU))), (mV, .inl (cJ, 6, .inr (.inl rV))), (mM, .inl (cI, 24, .inl rM)), (mT, .inl (cI, 24, .inl rT)), (mQ, .inl (cI, 24, .inl fP)), (mO, .inl (cI, 1440, .inl rO)), (mF, .inl (cI, 1440, .inl rF)), (mS, .inl (cI, 6, .inl rS)), (mE, .inl (cB, 6, .inl rE)), (mX, .inl (cI, 8700, .inl rX)), (mD, .inl (cB, 6, .inl rD))]
def outJ (J : JS) : Int64 := match J with
  | (zs, nz, nr, ol, mp, pl, fa, fb, th, fZ, fO, fG, fP, fW, fK, fU, rH, rL, rB, rP, rR, rA, rW, rU, rV, rM, rT, rO, rF, rS, rE, rX, rD) => fU 0
def thJ (J : JS) : Int32 := match J with
  | (zs, nz, nr, ol, mp, pl, fa, fb, th, fZ, fO, fG, fP, fW, fK, fU, rH, rL, rB, rP, rR, rA, rW, rU, rV, rM, rT, rO, rF, rS, rE, rX, rD) => th
/-- what holds between them -/
def Inv (J : JS) : Prop := match J with
  | (zs, nz, nr, ol, mp, pl, fa, fb, th, fZ, fO, fG, fP, fW, fK, fU, rH, rL, rB, rP, rR, rA, rW, rU, rV, rM, rT, rO, rF, rS, rE, rX, rD) => (zs.length = nz ∧ nz ≤ 6 ∧ nr ≤ 24 ∧ (pl = 0 ∨ pl = 1)) ∧ ((0 ≤ mp.toInt ∧ mp.toInt ≤ 1000000) ∧ 0 ≤ fa.toInt ∧ fa.toInt ≤ fb.toInt ∧ 1 ≤ fb.toInt ∧ fb.toInt ≤ 100) ∧ (∀ j, j < 24 → 0 ≤ (fP j).toInt ∧ (fP j).toInt ≤ 1000) ∧
    (Ob fO ∧ (∀ t, t < 1440 → fo rM rT t nr = fO t) ∧ ((nr = 0 ∧ ol = -1) ∨ (0 < nr ∧ ol = rM (nr - 1) ∧ 0 ≤ ol.toInt))) ∧
    (∀ (j : Nat) (z : ZD), zs[j]? = some z → fZ j = some z.1.1 ∧ ZB z ∧ Told rH rL rB rP rR rA rW j z ∧ rU j = z.2.2.1.1 ∧ rV j = z.2.2.1.2) ∧
    (∀ j, j < nz → LB (rU j) (rV j)) ∧ (∀ j, nz ≤ j → j < 6 → rB j = 0 ∧ rR j = 0 ∧ rW j = 0 ∧ rU j = 0) ∧
    (pl = 1 → (∀ j, j < 1440 → rF j = mp - fG j) ∧ ∀ (j : Nat) (z : ZD), zs[j]? = some z → Pln rS rE rX j z)
/-- one call on both sides: the class's part through the law's helper, the reference's, and what they say -/
def SC (l : Launch) (dC : Nat → ClassId) (dI : Nat → Nat → Nat) (cI cJ cZ cB : ClassId) (a0 aZ aO aG aP aW aK ou : Nat) (yL : MethodName) (wL : List Cond) (av : List Value) (J : JS) (k : Int32) (J1 : Nat × Nat × Nat → JS) : Prop :=
  ∀ sz, Met l yL wL RL (PCL (dC, dI) (TY cI cJ cZ cB) av (wC cI cJ cZ a0 aZ aO aG aP aW aK ou J) sz (va_A (wC cI cJ cZ a0 aZ aO aG aP aW aK ou J) sz)) (va_Qi (fun (r : Int32) (_ : Nat × Nat × Nat) => r = k) (fun (u : Nat × Nat × Nat) (t : State) => va_P (dC, dI) vwCl (wC cI cJ cZ a0 aZ aO aG aP aW aK ou (J1 u)) t.heap ∧ va_D (va_A (wC cI cJ cZ a0 aZ aO aG aP aW aK ou J) sz) (wC cI cJ cZ a0 aZ aO aG aP aW aK ou (J1 u))) (va_A (wC cI cJ cZ a0 aZ aO aG aP aW aK ou J) sz)) 5 1465 (va_A (wC cI cJ cZ a0 aZ aO aG aP aW aK ou J) sz)
def SMi (l : Launch) (dC : Nat → ClassId) (dI : Nat → Nat → Nat) (cI cJ cZ cB : ClassId) (m0 mH mL mB mP mR mA mW mU mV mM mT mQ mO mF mS mE mX mD : Nat) (yM : MethodName) (wM : List Cond) (av : List Value) (J : JS) (k b : Int32) (J1 : JS) : Prop :=
  ∀ sz, Met l yM wM RM (PC (dC, dI) (TY cI cJ cZ cB) av (wR cI cJ cB m0 mH mL mB mP mR mA mW mU mV mM mT mQ mO mF mS mE mX mD J) sz (va_A (wR cI cJ cB m0 mH mL mB mP mR mA mW mU mV mM mT mQ mO mF mS mE mX mD J) sz)) (va_Qi (fun (r : Int32) (_ : Unit) => k = 0 → r = b) (fun (_ : Unit) (t : State) => va_P (dC, dI) vwCl (wR cI cJ cB m0 mH mL mB mP mR mA mW mU mV mM mT mQ mO mF mS mE mX mD J1) t.heap ∧ va_D (va_A (wR cI cJ cB m0 mH mL mB mP mR mA mW mU mV mM mT mQ mO mF mS mE mX mD J) sz) (wR cI cJ cB m0 mH mL mB mP mR mA mW mU mV mM mT mQ mO mF mS mE mX mD J1)) (va_A (wR cI cJ cB m0 mH mL mB mP mR mA mW mU mV mM mT mQ mO mF mS mE mX mD J) sz)) 0 0 (va_A (wR cI cJ cB m0 mH mL mB mP mR mA mW mU mV mM mT mQ mO mF mS mE mX mD J) sz)
def SMl (l : Launch) (dC : Nat → ClassId) (dI : Nat → Nat → Nat) (cI cJ cZ cB : ClassId) (m0 mH mL mB mP mR mA mW mU mV mM mT mQ mO mF mS mE mX mD : Nat) (yM : MethodName) (wM : List Cond) (av : List Value) (J : JS) (k : Int32) (b : Int64) (J1 : JS) : Prop :=
  ∀ sz, Met l yM wM RM (PC (dC, dI) (TY cI cJ cZ cB) av (wR cI cJ cB m0 mH mL mB mP mR mA mW mU mV mM mT mQ mO mF mS mE mX mD J) sz (va_A (wR cI cJ cB m0 mH mL mB mP mR mA mW mU mV mM mT mQ mO mF mS mE mX mD J) sz)) (va_Ql (fun (r : Int64) (_ : Unit) => k = 0 → r = b) (fun (_ : Unit) (t : State) => va_P (dC, dI) vwCl (wR cI cJ cB m0 mH mL mB mP mR mA mW mU mV mM mT mQ mO mF mS mE mX mD J1) t.heap ∧ va_D (va_A (wR cI cJ cB m0 mH mL mB mP mR mA mW mU mV mM mT mQ mO mF mS mE mX mD J) sz) (wR cI cJ cB m0 mH mL mB mP mR mA mW mU mV mM mT mQ mO mF mS mE mX mD J1)) (va_A (wR cI cJ cB m0 mH mL mB mP mR mA mW mU mV mM mT mQ mO mF mS mE mX mD J) sz)) 0 0 (va_A (wR cI cJ cB m0 mH mL mB mP mR mA mW mU mV mM mT mQ mO mF mS mE mX mD J) sz)
def SMv (l : Launch) (dC : Nat → ClassId) (dI : Nat → Nat → Nat) (cI cJ cZ cB : ClassId) (m0 mH mL mB mP mR mA mW mU mV mM mT mQ mO mF mS mE mX mD : Nat) (yM : MethodName) (wM : List Cond) (av : List Value) (J : JS) (J1 : JS) : Prop :=
  ∀ sz, Met l yM wM RM (PC (dC, dI) (TY cI cJ cZ cB) av (wR cI cJ cB m0 mH mL mB mP mR mA mW mU mV mM mT mQ mO mF mS mE mX mD J) sz (va_A (wR cI cJ cB m0 mH mL mB mP mR mA mW mU mV mM mT mQ mO mF mS mE mX mD J) sz)) (va_Qv (fun (_ : Unit) => True) (fun (_ : Unit) (t : State) => va_P (dC, dI) vwCl (wR cI cJ cB m0 mH mL mB mP mR mA mW mU mV mM mT mQ mO mF mS mE mX mD J1) t.heap ∧ va_D (va_A (wR cI cJ cB m0 mH mL mB mP mR mA mW mU mV mM mT mQ mO mF mS mE mX mD J) sz) (wR cI cJ cB m0 mH mL mB mP mR mA mW mU mV mM mT mQ mO mF mS mE mX mD J1)) (va_A (wR cI cJ cB m0 mH mL mB mP mR mA mW mU mV mM mT mQ mO mF mS mE mX mD J) sz)) 0 0 (va_A (wR cI cJ cB m0 mH mL mB mP mR mA mW mU mV mM mT mQ mO mF mS mE mX mD J) sz)
/-! ===== arguments within their bounds ===== -/
theorem bnd {x a b : Int32} (h : ¬ (x < a ∨ b < x)) : a.toInt ≤ x.toInt ∧ x.toInt ≤ b.toInt := by
  rw [Int32.lt_iff_toInt_lt, Int32.lt_iff_toInt_lt] at h
  omega
theorem bnd_z {x : Int32} {nz : Nat} (hn : nz ≤ 6) (h : ¬ (x < 0 ∨ nI nz ≤ x)) : ∃ k, k < nz ∧ x = nI k := by
  have h0 : ¬ x < 0 := fun q => h (Or.inl q)
  have h1 := nI_self h0
  refine ⟨x.toNatClampNeg, ?_, h1⟩
  have h2 : ¬ nI nz ≤ x := fun q => h (Or.inr q)
  rw [Int32.le_iff_toInt_le, nI_toInt (by omega)] at h2
  rw [Int32.lt_iff_toInt_lt] at h0
  have h3 : (0 : Int32).toInt = 0 := rfl
  have h4 : x.toInt < 6 := by omega
  have h5 : ((x.toNatClampNeg : Nat) : Int) = x.toInt := by
    rw [Int32.toNatClampNeg, Int.toNat_of_nonneg (by omega)]
  omega
theorem bnd_n {x : Int32} {b : Nat} (hb : b < 2 ^ 31) (h : ¬ (x < 0 ∨ nI b < x)) : ∃ j, j ≤ b ∧ x = nI j := by
  have h0 : ¬ x < 0 := fun q => h (Or.inl q)
  refine ⟨x.toNatClampNeg, ?_, nI_self h0⟩
  have h2 : ¬ nI b < x := fun q => h (Or.inr q)
  rw [Int32.lt_iff_toInt_lt, nI_toInt hb] at h2
  rw [Int32.lt_iff_toInt_lt] at h0
  have h3 : (0 : Int32).toInt = 0 := rfl
  have h5 : ((x.toNatClampNeg : Nat) : Int) = x.toInt := by
    rw [Int32.toNatClampNeg, Int.toNat_of_nonneg (by omega)]
  omega
theorem bnd_m {x : Int32} (h : ¬ (x < (-1) ∨ 1439 < x)) : x = -1 ∨ ∃ b, b < 1440 ∧ x = nI b := by
  by_cases h0 : x < 0
  · left
    have h1 := bnd h
    rw [Int32.lt_iff_toInt_lt] at h0
    have h3 : (0 : Int32).toInt = 0 := rfl
    have h4 : (-1 : Int32).toInt = -1 := rfl
    exact Int32.toInt_inj.mp (by omega)
  · right
    obtain ⟨j, hj, e⟩ := bnd_n (b := 1439) (by decide) (fun q => q.elim h0 (fun q => h (Or.inr q)))
    exact ⟨j, by omega, e⟩
theorem get_len {α : Type} {l : List α} {k n : Nat} (hl : l.length = n) (hk : k < n) : ∃ l1 z l2, l = l1 ++ z :: l2 ∧ l1.length = k := split_at l k (by omega)
theorem told_hl {H L B P R A W : Nat → Int32} {k : Nat} {z : ZD} (hb : ZB z) (ht : Told H L B P R A W k z) : ¬ L k = 0 ∧ ¬ H k = 0 := by
  constructor
  · intro q; rw [ht.2.1] at q; have := hb.2.1.1; rw [q] at this; exact absurd this (by decide)
  · intro q; rw [ht.1] at q; have := hb.1.1; rw [q] at this; exact absurd this (by decide)
theorem zb_ok {z : ZD} (hb : ZB z) : ZOk z := by
  refine ⟨fun q => ?_, fun q => ?_, hb.2.2.2.2.2⟩
  · have := hb.1.1; rw [q] at this; exact absurd this (by decide)
  · have := hb.2.1.1; rw [q] at this; exact absurd this (by decide)
