def iN (x : Int32) : Nat := x.toBitVec.toNat
theorem nI_iN (x : Int32) : nI (iN x) = x := by
  apply Int32.toBitVec_inj.mp
  simp [nI, iN]
theorem isN_j {n : Nat} {k : Int32} (hn : n ≤ 31) (h : isN n k) : k = nI k.toNatClampNeg ∧ k.toNatClampNeg < n := by
  obtain ⟨j, hj, rfl⟩ := isN_of (by omega) h
  rw [nI_clamp (by omega)]; exact ⟨rfl, hj⟩
theorem isN_nI {n j : Nat} (hn : n ≤ 31) (hj : j < n) : isN n (nI j) := ⟨nI_pos (by omega), nI_ge hj (by omega)⟩
theorem pos_j {k : Int32} (h : ¬ k < 0) : k = nI k.toNatClampNeg := by
  obtain ⟨j, hj, rfl⟩ := nI_of h
  rw [nI_clamp hj]
/-- what an act throws: 0 nothing -/
noncomputable def tUpd (n : Nat) (k kd : Int32) : Nat := cif (isN n k) (cif (kd < 0 ∨ ¬ kd ≤ 3) 2 0) 1
noncomputable def tQry (n : Nat) (k kd : Int32) : Nat := cif (isN n k) (cif (kd < 10 ∨ ¬ kd ≤ 15) 2 0) 1
noncomputable def tDel (i : Int32) (M : MS) : Nat := cif (¬ i < 0 ∧ i < nI M.2.2.length) 0 1
noncomputable def tCal (p0 : Int32) : Nat := cif (p0 < 0 ∨ ¬ p0 ≤ 2000) 1 0
noncomputable def tCra (n : Nat) (k : Int32) : Nat := cif (isN n k) 0 1
/-- the plain machine behind an act -/
noncomputable def mActB (n T : Nat) (k kd a b : Int32) (M : MS) : MS := cif (T = 0 ∧ mGo n k.toNatClampNeg M) (mBeg n k.toNatClampNeg kd.toNatClampNeg (iN a) (iN b) M) M
noncomputable def rActB (n T : Nat) (k : Int32) (M : MS) : Int32 := cif (T = 0 ∧ mGo n k.toNatClampNeg M) (nI (M.1 0 0 3 + 1)) (-1)
noncomputable def mDel (n : Nat) (i : Int32) (M : MS) : MS × Int32 := cif (¬ i < 0 ∧ i < nI M.2.2.length) (match M.2.2[i.toNatClampNeg]? with
  | none => (M, -1)
  | some x => cif (2000 < M.2.2.length - 1 + mLeads n x M) (M, -1) (mCome n i.toNatClampNeg x M, nI x.1)) (M, 0)
noncomputable def mCal (n : Nat) (p0 : Int32) (M : MS) : MS × Int32 := cif (p0 < 0 ∨ ¬ p0 ≤ 2000) (M, 0) ((mCalm n p0.toNatClampNeg M).1, nI (mCalm n p0.toNatClampNeg M).2)
noncomputable def mCra (n : Nat) (k : Int32) (M : MS) : MS × Int32 := cif (isN n k ∧ ¬ M.1 2 k.toNatClampNeg 6 = 0) (mCrash k.toNatClampNeg M, 1) (M, 0)
theorem mActB_ok {n T : Nat} {k kd a b : Int32} {M : MS} (hi : mInv n M) (hT : T = 0 → isN n k ∧ (kd.toNatClampNeg ≤ 3 ∨ (10 ≤ kd.toNatClampNeg ∧ kd.toNatClampNeg ≤ 15))) (hn : n ≤ 31) : mInv n (mActB n T k kd a b M) ∧ (mActB n T k kd a b M).1 0 0 5 ≤ M.1 0 0 5 + 2000 := by
  unfold mActB
  by_cases h : T = 0 ∧ mGo n k.toNatClampNeg M
  · rw [cif_pos h]
    refine ⟨mBeg_inv hi (isN_j hn (hT h.1).1).2 h.2 (hT h.1).2, ?_⟩
    have e : (mBeg n k.toNatClampNeg kd.toNatClampNeg (iN a) (iN b) M).1 0 0 5 = M.1 0 0 5 + 1 := by simp [mBeg, mBegC, mTo, mEnter, mNew, mI, mR, mL]
    omega
  · rw [cif_neg h]; exact ⟨hi, by omega⟩
theorem mDel_ok {n : Nat} {i : Int32} {M : MS} (hi : mInv n M) : mInv n (mDel n i M).1 ∧ (mDel n i M).1.1 0 0 5 ≤ M.1 0 0 5 + 2000 := by
  unfold mDel
  by_cases h : ¬ i < 0 ∧ i < nI M.2.2.length
  · rw [cif_pos h]
    cases hx : M.2.2[i.toNatClampNeg]? with
    | none => exact ⟨hi, by simp⟩
    | some x =>
      simp only
      by_cases hr : 2000 < M.2.2.length - 1 + mLeads n x M
      · rw [cif_pos hr]; exact ⟨hi, by simp⟩
      · rw [cif_neg hr]; exact ⟨mCome_inv hi hx, by simp only [mCome_05]; omega⟩
  · rw [cif_neg h]; exact ⟨hi, by simp⟩
theorem mCal_ok {n : Nat} {p0 : Int32} {M : MS} (hi : mInv n M) : mInv n (mCal n p0 M).1 ∧ (mCal n p0 M).1.1 0 0 5 ≤ M.1 0 0 5 + 2000 := by
  unfold mCal
  by_cases h : p0 < 0 ∨ ¬ p0 ≤ 2000
  · rw [cif_pos h]; exact ⟨hi, by simp⟩
  · rw [cif_neg h]
    have h1 := mCalm_ok p0.toNatClampNeg M hi
    refine ⟨h1.1, ?_⟩
    have h2 : p0.toNatClampNeg ≤ 2000 := by
      obtain ⟨j, hj, e⟩ := nI_of2 (M := 2000) (n := 2000) (by decide) (fun q => h (Or.inl q)) (Classical.byContradiction (fun q => h (Or.inr q)))
      rw [e, nI_clamp (by omega)]; exact hj
    have := h1.2.1
    simp only; omega
theorem mCra_ok {n : Nat} {k : Int32} {M : MS} (hi : mInv n M) : mInv n (mCra n k M).1 ∧ (mCra n k M).1.1 0 0 5 ≤ M.1 0 0 5 + 2000 := by
  unfold mCra
  by_cases h : isN n k ∧ ¬ M.1 2 k.toNatClampNeg 6 = 0
  · rw [cif_pos h]; exact ⟨mCrash_inv hi, by simp [mCrash, mI]⟩
  · rw [cif_neg h]; exact ⟨hi, by simp⟩
theorem kind_3 {kd : Int32} (h1 : ¬ kd < 0) (h2 : kd ≤ 3) : kd = nI kd.toNatClampNeg ∧ kd.toNatClampNeg ≤ 3 := by
  obtain ⟨j, hj, e⟩ := nI_of2 (M := 3) (n := 3) (by decide) h1 h2
  rw [e, nI_clamp (by omega)]; exact ⟨rfl, hj⟩
theorem kind_15 {kd : Int32} (h1 : ¬ kd < 10) (h2 : kd ≤ 15) : kd = nI kd.toNatClampNeg ∧ 10 ≤ kd.toNatClampNeg ∧ kd.toNatClampNeg ≤ 15 := by
  have h0 : ¬ kd < 0 := fun q => h1 (by rw [Int32.lt_iff_toInt_lt] at q ⊢; have g0 : (0 : Int32).toInt = 0 := rfl; have g1 : (10 : Int32).toInt = 10 := (by decide); omega)
  obtain ⟨j, hj, e⟩ := nI_of2 (M := 15) (n := 15) (by decide) h0 h2
  rw [e, nI_clamp (by omega)]
  rw [e, show (10 : Int32) = nI 10 from by decide +kernel, nI_ltI (by omega) (by decide)] at h1
  exact ⟨rfl, by omega, hj⟩
/-- what the asks answer -/
noncomputable def aView (n : Nat) (M : MS) (o k : Int32) : Int32 := cif ((¬ o < 1 ∧ ¬ nI (M.1 0 0 3) < o) ∧ ¬ M.1 3 o.toNatClampNeg 7 = 0 ∧ isN n k) (nI (M.2.1 3 o.toNatClampNeg 6 k.toNatClampNeg)) (-1)
noncomputable def aNode (n : Nat) (M : MS) (k w : Int32) : Int32 := cif (¬ isN n k ∨ w.toInt < 0 ∨ 5 < w.toInt) (-1) (cif (w = 0) (cif (M.1 2 k.toNatClampNeg 6 = 0) 0 1) (cif (w = 1) (nI (M.1 2 k.toNatClampNeg 7)) (cif (w = 2) (nI (M.1 2 k.toNatClampNeg 8)) (cif (w = 3) (nI (M.1 2 k.toNatClampNeg 10)) (cif (w = 4) (nI (M.1 2 k.toNatClampNeg 9)) (nI (M.1 2 k.toNatClampNeg 11)))))))
noncomputable def aKept (n : Nat) (M : MS) (k i : Int32) : Int32 := cif (isN n k ∧ isN n i) (nI (M.2.1 2 k.toNatClampNeg 1 i.toNatClampNeg)) (-1)
noncomputable def aMsg (M : MS) (i w : Int32) : Int32 := cif (¬ i < 0 ∧ i < nI M.2.2.length) (match M.2.2[i.toNatClampNeg]? with
  | none => -1
  | some x => cif (w = 0) (nI x.1) (cif (w = 1) (nI x.2.1) (cif (w = 2) (nI x.2.2.1) (cif (w = 3) (nI x.2.2.2.1) (-1))))) (-1)
noncomputable def aVec (n : Nat) (M : MS) (i k : Int32) : Int32 := cif ((¬ i < 0 ∧ i < nI M.2.2.length) ∧ isN n k) (match M.2.2[i.toNatClampNeg]? with
  | none => -1
  | some x => cif (x.1 = 1 ∨ x.1 = 2) (nI (x.2.2.2.2 k.toNatClampNeg)) (-1)) (-1)
