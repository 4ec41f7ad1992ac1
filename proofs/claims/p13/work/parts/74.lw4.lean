/-- a NODE that is IDLE has heard none -/
def mIdl (n : Nat) (m : MS) : Prop := ∀ k, k < n → m.1 2 k 7 = 0 → m.1 2 k 9 = 0
theorem mIdl.same {n : Nat} {m m' : MS} (h : mIdl n m) (h7 : ∀ k, m'.1 2 k 7 = m.1 2 k 7) (h9 : ∀ k, m'.1 2 k 9 = m.1 2 k 9) : mIdl n m' := fun k hk q => by rw [h9]; rw [h7] at q; exact h k hk q
theorem mIdl.at {n j : Nat} {m m' : MS} (h : mIdl n m) (h7 : ∀ k, ¬ k = j → m'.1 2 k 7 = m.1 2 k 7) (h9 : ∀ k, ¬ k = j → m'.1 2 k 9 = m.1 2 k 9) (hj : m'.1 2 j 9 = 0) : mIdl n m' := fun k hk q => by
  by_cases e : k = j
  · rw [e]; exact hj
  · rw [h9 k e]; rw [h7 k e] at q; exact h k hk q
theorem mIdl.to {n kd ph k : Nat} {v : Nat → Nat} {m : MS} (h : mIdl n m) : mIdl n (mTo n kd ph k v m) := h.at (j := k) (fun b e => by simp [mTo, mEnter, mI, mR, mL, e]) (fun b e => by simp [mTo, mEnter, mI, mR, mL, e]) (by simp [mTo, mEnter, mI, mR, mL])
theorem mIdl.begC {n k : Nat} {m : MS} (h : mIdl n m) : mIdl n (mBegC n k m) := (h.to (kd := 0) (ph := 1) (k := k) (v := fun _ => 0)).same (fun _ => rfl) (fun _ => rfl)
theorem mIdl.endOp {n k t : Nat} {m : MS} (h : mIdl n m) : mIdl n (mEndOp k t m) := h.at (j := k) (fun b e => by simp [mEndOp, mI, e]) (fun b e => by simp [mEndOp, mI, e]) (by simp [mEndOp, mI])
theorem mIdl.use {n k t : Nat} {r : Nat → Nat} {m : MS} (h : mIdl n m) : mIdl n (mUse n k t r m) := by
  unfold mUse cif
  split
  · exact (h.same (fun _ => by simp [mSee, mI, mR]) (fun _ => by simp [mSee, mI, mR]) : mIdl n (mSee t r m)).endOp
  · rw [mWrt_eq]
    refine mIdl.to (h.same (fun _ => ?_) (fun _ => ?_)) <;> simp [mWrt1, mSee, mI, mR]
theorem mIdl.eCo {n k t : Nat} {m : MS} (h : mIdl n m) : mIdl n (mECo n k t m) := by
  unfold mECo cif
  split
  · exact mIdl.begC (h.same (fun _ => by simp [mRem, mCo, mI, mR]) (fun _ => by simp [mRem, mCo, mI, mR]))
  · split
    · exact mIdl.use (h.same (fun _ => by simp [mCo, mI]) (fun _ => by simp [mCo, mI]))
    · split
      · exact mIdl.use (h.same (fun _ => by simp [mBor, mCo, mI]) (fun _ => by simp [mBor, mCo, mI]))
      · exact mIdl.begC (h.same (fun _ => by simp [mRem, mMvd, mCo, mI, mR]) (fun _ => by simp [mRem, mMvd, mCo, mI, mR]))
theorem mIdl.mid {n : Nat} {x : Ms} {m : MS} (h : mIdl n m) : mIdl n (mMid n x m) := by
  unfold mMid cif
  split
  · exact h
  · split
    · exact h.same (fun _ => by simp [mSnd, mI, mL]) (fun _ => by simp [mSnd, mI, mL])
    · split
      · exact h.same (fun _ => by simp [mSnd, mUp, mI, mL, mR]) (fun _ => by simp [mSnd, mUp, mI, mL, mR])
      · split
        · rename_i w
          have h1 : mIdl n (mH1 x.2.2.1 x.2.1 x.2.2.2.2 m) := fun k hk q => by
            rw [mH1_e2 k 7 (by decide)] at q
            by_cases e : k = x.2.2.1
            · rw [e] at q; exact absurd q (by rcases w.2 with w | w <;> omega)
            · have e9 : (mH1 x.2.2.1 x.2.1 x.2.2.2.2 m).1 2 k 9 = m.1 2 k 9 := by
                unfold mH1 cif; split <;> simp [mH0, mUp, mI, mR, e]
              rw [e9]; exact h k hk q
          unfold mHr2 cif
          split
          · exact h1
          · split
            · exact h1.to
            · split
              · exact h1.eCo
              · exact h1.endOp
        · exact h
theorem mIdl.come {n a : Nat} {x : Ms} {m : MS} (h : mIdl n m) : mIdl n (mCome n a x m) := mIdl.mid (h.same (fun _ => by simp [mOff, mI, mL]) (fun _ => by simp [mOff, mI, mL]))
theorem mIdl.calm {n : Nat} : ∀ (t : Nat) (m : MS), mIdl n m → mIdl n (mCalm n t m).1
  | 0, m, h => h
  | t + 1, m, h => by
    cases hx : m.2.2[0]? with
    | none => rw [mCalm_e hx]; exact h
    | some x =>
      by_cases hr : 2000 < m.2.2.length - 1 + mLeads n x m
      · rw [mCalm_no hx hr]; exact h
      · rw [mCalm_go hx hr]; exact mIdl.calm t _ h.come
theorem mIdl.actB {n T : Nat} {k kd a b : Int32} {m : MS} (h : mIdl n m) : mIdl n (mActB n T k kd a b m) := by
  unfold mActB cif
  split
  · rw [mBeg_eq]
    refine mIdl.begC (h.same (fun _ => ?_) (fun _ => ?_)) <;> simp [mNew0]
  · exact h
theorem mIdl.del {n : Nat} {i : Int32} {m : MS} (h : mIdl n m) : mIdl n (mDel n i m).1 := by
  unfold mDel cif
  split
  · split
    · exact h
    · split
      · exact h
      · exact h.come
  · exact h
theorem mIdl.cal {n : Nat} {i : Int32} {m : MS} (h : mIdl n m) : mIdl n (mCal n i m).1 := by
  unfold mCal cif
  split
  · exact h
  · exact mIdl.calm _ _ h
theorem mIdl.cra {n : Nat} {i : Int32} {m : MS} (h : mIdl n m) : mIdl n (mCra n i m).1 := by
  unfold mCra cif
  split
  · exact h.same (fun _ => by simp [mCrash, mI]) (fun _ => by simp [mCrash, mI])
  · exact h
theorem ite_cif {α : Type} {P : Prop} [h : Decidable P] {a b : α} : (if P then a else b) = cif P a b := by
  by_cases q : P
  · rw [if_pos q, cif_pos q]
  · rw [if_neg q, cif_neg q]
theorem isO_iff {bg : Nat} {x : Int32} : isO bg x ↔ ¬ x < 1 ∧ ¬ nI bg < x := by rw [Int32.not_lt (a := nI bg)]
set_option maxHeartbeats 4000000 in
set_option maxRecDepth 100000 in
theorem s_told (l : Launch) (D : va_G) (cI cZ cN cO : ClassId) (A : Nat → Prop) (E : CE) (n : Nat) (σ : CS) (M : MS) (p0 p1 : Int32) (ok : cOK n (M.1 0 0 3) σ) (hCR : CR n (M.1 0 0 3) σ M) (hi : mInv n M) : Met l yX3_told (.code yX3_told cX3_told 4 (some .int) :: gw) ({ frames := 4, cells := 0, slots := 0, locals := 94 }) (va_Pc (.ref (E.1 0) :: [.int p0, .int p1]) (cH D cI cZ cN cO A E n (M.1 0 0 3) σ)) (vp_Si (fun r => True)) 0 0 (fun _ => False) := by
  by_cases h : isO (M.1 0 0 3) p0
  · obtain ⟨o, h1, h2, rfl⟩ := isO_nat ok.2.2.1 h
    exact (k_told_yes l D cI cZ cN cO A E n (M.1 0 0 3) σ o p1 ok h1 h2).up (fun _ _ q => q) (fun a s o1 t q => by obtain ⟨r, g1, g2, g3⟩ := q; exact ⟨r, g1, trivial, g3⟩)
  · exact (k_told_no l D cI cZ cN cO A E n (M.1 0 0 3) σ p0 p1 ok h).up (fun _ _ q => q) (fun a s o1 t q => by obtain ⟨r, g1, g2, g3⟩ := q; exact ⟨r, g1, trivial, g3⟩)
set_option maxHeartbeats 4000000 in
set_option maxRecDepth 100000 in
theorem s_answer (l : Launch) (D : va_G) (cI cZ cN cO : ClassId) (A : Nat → Prop) (E : CE) (n : Nat) (σ : CS) (M : MS) (p0 : Int32) (ok : cOK n (M.1 0 0 3) σ) (hCR : CR n (M.1 0 0 3) σ M) (hi : mInv n M) : Met l yX3_answer (.code yX3_answer cX3_answer 3 (some .long) :: gw) ({ frames := 4, cells := 0, slots := 0, locals := 94 }) (va_Pc (.ref (E.1 0) :: [.int p0]) (cH D cI cZ cN cO A E n (M.1 0 0 3) σ)) (vp_Sl (fun r => r = cif (isO (M.1 0 0 3) p0 ∧ ¬ σ.1 3 p0.toNatClampNeg 8 = -1) (cFold (M.1 0 0 3) σ p0.toNatClampNeg) 0)) 0 0 (fun _ => False) := by
  by_cases h : isO (M.1 0 0 3) p0
  · obtain ⟨o, h1, h2, rfl⟩ := isO_nat ok.2.2.1 h
    have h511 := ok.2.2.1
    have ej := nI_clamp (show o < 2 ^ 31 by omega)
    refine (k_answer_yes l D cI cZ cN cO A E n (M.1 0 0 3) σ o ok h1 h2).up (fun _ _ q => q) (fun a s o1 t q => ?_)
    obtain ⟨r, g1, g2, g3⟩ := q
    refine ⟨r, g1, ?_, g3⟩
    rw [g2, ej]
    by_cases e : σ.1 3 o 8 = -1
    · rw [cif_pos e, cif_neg (fun q => q.2 e)]
    · rw [cif_neg e, cif_pos ⟨h, e⟩]
  · exact (k_answer_no l D cI cZ cN cO A E n (M.1 0 0 3) σ p0 ok h).up (fun _ _ q => q) (fun a s o1 t q => by obtain ⟨r, g1, g2, g3⟩ := q; exact ⟨r, g1, by rw [g2, cif_neg (fun q => h q.1)], g3⟩)
set_option maxHeartbeats 4000000 in
set_option maxRecDepth 100000 in
theorem s_view (l : Launch) (D : va_G) (cI cZ cN cO : ClassId) (A : Nat → Prop) (E : CE) (n : Nat) (σ : CS) (M : MS) (p0 p1 : Int32) (ok : cOK n (M.1 0 0 3) σ) (hCR : CR n (M.1 0 0 3) σ M) (hi : mInv n M) : Met l yX3_view (.code yX3_view cX3_view 4 (some .int) :: gw) ({ frames := 4, cells := 0, slots := 0, locals := 94 }) (va_Pc (.ref (E.1 0) :: [.int p0, .int p1]) (cH D cI cZ cN cO A E n (M.1 0 0 3) σ)) (vp_Si (fun r => r = aView n M p0 p1)) 0 0 (fun _ => False) := by
  have hn := ok.2.1
  unfold aView
  rw [← isO_iff]
  by_cases h : isO (M.1 0 0 3) p0
  · obtain ⟨o, h1, h2, rfl⟩ := isO_nat ok.2.2.1 h
    have h511 := ok.2.2.1
    have ej := nI_clamp (show o < 2 ^ 31 by omega)
    have ho := (hi.1.2.2 o h1 h2).2.2.2
    have e7 : σ.1 3 o 7 = 0 ↔ M.1 3 o 7 = 0 := by rw [hCR.op h1 h2 7 (by decide) (by decide) (by decide), nJ0, nI_eq (by omega) (by decide)]
    refine (k_view_yes l D cI cZ cN cO A E n (M.1 0 0 3) σ o p1 ok h1 h2).up (fun _ _ q => q) (fun a s o1 t q => ?_)
    obtain ⟨r, g1, g2, g3⟩ := q
    refine ⟨r, g1, ?_, g3⟩
    rw [g2, ej]
    by_cases e : ¬ σ.1 3 o 7 = 0 ∧ isN n p1
    · rw [if_pos e, cif_pos ⟨h, fun q => e.1 (e7.mpr q), e.2⟩, hCR.vw h1 h2 (isN_j hn e.2).2]
    · rw [if_neg e, cif_neg (fun q => e ⟨fun z => q.2.1 (e7.mp z), q.2.2⟩)]
  · exact (k_view_no l D cI cZ cN cO A E n (M.1 0 0 3) σ p0 p1 ok h).up (fun _ _ q => q) (fun a s o1 t q => by obtain ⟨r, g1, g2, g3⟩ := q; exact ⟨r, g1, by rw [g2, cif_neg (fun q => h q.1)], g3⟩)
set_option maxHeartbeats 4000000 in
set_option maxRecDepth 100000 in
theorem s_node (l : Launch) (D : va_G) (cI cZ cN cO : ClassId) (A : Nat → Prop) (E : CE) (n : Nat) (σ : CS) (M : MS) (p0 p1 : Int32) (ok : cOK n (M.1 0 0 3) σ) (hCR : CR n (M.1 0 0 3) σ M) (hi : mInv n M) : Met l yX3_node (.code yX3_node cX3_node 3 (some .int) :: gw) ({ frames := 1, cells := 0, slots := 0, locals := 21 }) (va_Pc (.ref (E.1 0) :: [.int p0, .int p1]) (cH D cI cZ cN cO A E n (M.1 0 0 3) σ)) (vp_Si (fun r => r = aNode n M p0 p1)) 0 0 (fun _ => False) := by
  have hn := ok.2.1
  unfold aNode
  by_cases h : isN n p0
  · obtain ⟨j, hj, rfl⟩ := isN_of (by omega) h
    have ej := nI_clamp (show j < 2 ^ 31 by omega)
    have hup := (hi.1.2.1 j hj).2.2.2.2.2.2.1
    refine (k_node_yes l D cI cZ cN cO A E n (M.1 0 0 3) σ j p1 ok hj).up (fun _ _ q => q) (fun a s o1 t q => ?_)
    obtain ⟨r, g1, g2, g3⟩ := q
    refine ⟨r, g1, ?_, g3⟩
    rw [g2, ej]
    by_cases h0 : p1.toInt < 0 ∨ 5 < p1.toInt
    · rw [if_pos h0, cif_pos (Or.inr h0)]
    rw [if_neg h0, cif_neg (fun q => q.elim (fun z => z h) h0)]
    have e6 : σ.1 2 j 6 = 0 ↔ M.1 2 j 6 = 0 := by rw [hCR.nd hj 6 (by decide) (by decide), nJ0, nI_eq (by omega) (by decide)]
    by_cases w0 : p1 = 0
    · rw [if_pos w0, cif_pos w0]
      by_cases z : M.1 2 j 6 = 0
      · rw [if_pos (e6.mpr z), cif_pos z]
      · rw [if_neg (fun q => z (e6.mp q)), cif_neg z]
    rw [if_neg w0, cif_neg w0]
    by_cases w1 : p1 = 1
    · rw [if_pos w1, cif_pos w1, hCR.nd hj 7 (by decide) (by decide)]
    rw [if_neg w1, cif_neg w1]
    by_cases w2 : p1 = 2
    · rw [if_pos w2, cif_pos w2, hCR.nd hj 8 (by decide) (by decide)]
    rw [if_neg w2, cif_neg w2]
    by_cases w3 : p1 = 3
    · rw [if_pos w3, cif_pos w3, (hCR.2.2.2.1 j hj).1]
    rw [if_neg w3, cif_neg w3]
    by_cases w4 : p1 = 4
    · rw [if_pos w4, cif_pos w4, hCR.nd hj 9 (by decide) (by decide)]
    rw [if_neg w4, cif_neg w4, (hCR.2.2.2.1 j hj).2 j hj, if_pos rfl]
  · exact (k_node_no l D cI cZ cN cO A E n (M.1 0 0 3) σ p0 p1 ok h).up (fun _ _ q => q) (fun a s o1 t q => by obtain ⟨r, g1, g2, g3⟩ := q; exact ⟨r, g1, by rw [g2, cif_pos (Or.inl h)], g3⟩)
set_option maxHeartbeats 4000000 in
set_option maxRecDepth 100000 in
theorem s_kept (l : Launch) (D : va_G) (cI cZ cN cO : ClassId) (A : Nat → Prop) (E : CE) (n : Nat) (σ : CS) (M : MS) (p0 p1 : Int32) (ok : cOK n (M.1 0 0 3) σ) (hCR : CR n (M.1 0 0 3) σ M) (hi : mInv n M) : Met l yX3_kept (.code yX3_kept cX3_kept 3 (some .int) :: gw) ({ frames := 1, cells := 0, slots := 0, locals := 21 }) (va_Pc (.ref (E.1 0) :: [.int p0, .int p1]) (cH D cI cZ cN cO A E n (M.1 0 0 3) σ)) (vp_Si (fun r => r = aKept n M p0 p1)) 0 0 (fun _ => False) := by
  have hn := ok.2.1
  unfold aKept
  by_cases h : isN n p0 ∧ isN n p1
  · obtain ⟨j, hj, rfl⟩ := isN_of (by omega) h.1
    obtain ⟨i, hii, rfl⟩ := isN_of (by omega) h.2
    exact (k_kept_yes l D cI cZ cN cO A E n (M.1 0 0 3) σ j i ok hj hii).up (fun _ _ q => q) (fun a s o1 t q => by obtain ⟨r, g1, g2, g3⟩ := q; exact ⟨r, g1, by rw [g2, cif_pos h, nI_clamp (by omega), nI_clamp (by omega), hCR.rw hj 1 (by decide) (by decide) hii], g3⟩)
  · exact (k_kept_no l D cI cZ cN cO A E n (M.1 0 0 3) σ p0 p1 ok h).up (fun _ _ q => q) (fun a s o1 t q => by obtain ⟨r, g1, g2, g3⟩ := q; exact ⟨r, g1, by rw [g2, cif_neg h], g3⟩)
set_option maxHeartbeats 4000000 in
set_option maxRecDepth 100000 in
theorem s_message (l : Launch) (D : va_G) (cI cZ cN cO : ClassId) (A : Nat → Prop) (E : CE) (n : Nat) (σ : CS) (M : MS) (p0 p1 : Int32) (ok : cOK n (M.1 0 0 3) σ) (hCR : CR n (M.1 0 0 3) σ M) (hi : mInv n M) : Met l yX3_message (.code yX3_message cX3_message 3 (some .int) :: gw) ({ frames := 2, cells := 0, slots := 0, locals := 44 }) (va_Pc (.ref (E.1 0) :: [.int p0, .int p1]) (cH D cI cZ cN cO A E n (M.1 0 0 3) σ)) (vp_Si (fun r => r = aMsg M p0 p1)) 0 0 (fun _ => False) := by
  have hn := ok.2.1
  have hle := hCR.2.2.2.2.1
  have eh : holds σ p0 ↔ ¬ p0 < 0 ∧ p0 < nI M.2.2.length := by unfold holds; rw [hCR.2.2.2.2.2.1]
  unfold aMsg
  by_cases h : ¬ p0 < 0 ∧ p0 < nI M.2.2.length
  · obtain ⟨a, ha, rfl⟩ := nI_of h.1
    have hal : a < M.2.2.length := (nI_ltI ha (by omega)).mp h.2
    obtain ⟨y, hx⟩ : ∃ y, M.2.2[a]? = some y := ⟨_, List.getElem?_eq_getElem hal⟩
    have hm := hCR.2.2.2.2.2.2.2.2.2 a y hx
    refine (k_message_yes l D cI cZ cN cO A E n (M.1 0 0 3) σ a p1 ok (by rw [hCR.2.2.2.2.ln]; exact hal)).up (fun _ _ q => q) (fun a s o1 t q => ?_)
    obtain ⟨r, g1, g2, g3⟩ := q
    refine ⟨r, g1, ?_, g3⟩
    rw [g2, cif_pos h, nI_clamp ha, hx, hm.1, hm.2.1, hm.2.2.1, hm.2.2.2.1]
    simp only
    by_cases w0 : p1 = 0
    · rw [if_neg (by rw [w0]; decide), if_pos w0, cif_pos w0]
    by_cases w1 : p1 = 1
    · rw [if_neg (by rw [w1]; decide), if_neg w0, if_pos w1, cif_neg w0, cif_pos w1]
    by_cases w2 : p1 = 2
    · rw [if_neg (by rw [w2]; decide), if_neg w0, if_neg w1, if_pos w2, cif_neg w0, cif_neg w1, cif_pos w2]
    rw [cif_neg w0, cif_neg w1, cif_neg w2]
    by_cases w3 : p1 = 3
    · rw [if_neg (by rw [w3]; decide), if_neg w0, if_neg w1, if_neg w2, cif_pos w3]
    · rw [cif_neg w3]
      by_cases h0 : p1.toInt < 0 ∨ 3 < p1.toInt
      · rw [if_pos h0]
      · exfalso
        have g0 : ¬ p1.toInt = 0 := fun q => w0 (Int32.toInt_inj.mp q)
        have g1 : ¬ p1.toInt = 1 := fun q => w1 (Int32.toInt_inj.mp q)
        have g2 : ¬ p1.toInt = 2 := fun q => w2 (Int32.toInt_inj.mp q)
        have g3 : ¬ p1.toInt = 3 := fun q => w3 (Int32.toInt_inj.mp q)
        omega
  · exact (k_message_no l D cI cZ cN cO A E n (M.1 0 0 3) σ p0 p1 ok (fun q => h (eh.mp q))).up (fun _ _ q => q) (fun a s o1 t q => by obtain ⟨r, g1, g2, g3⟩ := q; exact ⟨r, g1, by rw [g2, cif_neg h], g3⟩)
set_option maxHeartbeats 4000000 in
set_option maxRecDepth 100000 in
theorem s_vector (l : Launch) (D : va_G) (cI cZ cN cO : ClassId) (A : Nat → Prop) (E : CE) (n : Nat) (σ : CS) (M : MS) (p0 p1 : Int32) (ok : cOK n (M.1 0 0 3) σ) (hCR : CR n (M.1 0 0 3) σ M) (hi : mInv n M) : Met l yX3_vector (.code yX3_vector cX3_vector 3 (some .int) :: gw) ({ frames := 2, cells := 0, slots := 0, locals := 44 }) (va_Pc (.ref (E.1 0) :: [.int p0, .int p1]) (cH D cI cZ cN cO A E n (M.1 0 0 3) σ)) (vp_Si (fun r => r = aVec n M p0 p1)) 0 0 (fun _ => False) := by
  have hn := ok.2.1
  have hle := hCR.2.2.2.2.1
  have eh : holds σ p0 ↔ ¬ p0 < 0 ∧ p0 < nI M.2.2.length := by unfold holds; rw [hCR.2.2.2.2.2.1]
  unfold aVec
  by_cases h : (¬ p0 < 0 ∧ p0 < nI M.2.2.length) ∧ isN n p1
  · obtain ⟨a, ha, rfl⟩ := nI_of h.1.1
    have hal : a < M.2.2.length := (nI_ltI ha (by omega)).mp h.1.2
    obtain ⟨i, hii, rfl⟩ := isN_of (by omega) h.2
    obtain ⟨y, hx⟩ : ∃ y, M.2.2[a]? = some y := ⟨_, List.getElem?_eq_getElem hal⟩
    have hm := hCR.2.2.2.2.2.2.2.2.2 a y hx
    have hk3 := (hi.2.2.1.2.2 y (List.mem_of_getElem? hx)).1
    have e12 : (nI y.1 = 1 ∨ nI y.1 = 2) ↔ (y.1 = 1 ∨ y.1 = 2) := by rw [nJ1, nJ2, nI_eq (by omega) (by decide), nI_eq (by omega) (by decide)]
    refine (k_vector_yes l D cI cZ cN cO A E n (M.1 0 0 3) σ a i ok (by rw [hCR.2.2.2.2.ln]; exact hal) hii).up (fun _ _ q => q) (fun a s o1 t q => ?_)
    obtain ⟨r, g1, g2, g3⟩ := q
    refine ⟨r, g1, ?_, g3⟩
    rw [g2, cif_pos h, nI_clamp ha, nI_clamp (by omega), hx, hm.1]
    simp only
    by_cases z : y.1 = 1 ∨ y.1 = 2
    · rw [if_pos (e12.mpr z), cif_pos z, hm.2.2.2.2 z i hii]
    · rw [if_neg (fun q => z (e12.mp q)), cif_neg z]
  · exact (k_vector_no l D cI cZ cN cO A E n (M.1 0 0 3) σ p0 p1 ok (fun q => h ⟨eh.mp q.1, q.2⟩)).up (fun _ _ q => q) (fun a s o1 t q => by obtain ⟨r, g1, g2, g3⟩ := q; exact ⟨r, g1, by rw [g2, cif_neg h], g3⟩)
set_option maxHeartbeats 4000000 in
set_option maxRecDepth 100000 in
theorem s_count (l : Launch) (D : va_G) (cI cZ cN cO : ClassId) (A : Nat → Prop) (E : CE) (n : Nat) (σ : CS) (M : MS) (p0 : Int32) (ok : cOK n (M.1 0 0 3) σ) (hCR : CR n (M.1 0 0 3) σ M) (hi : mInv n M) : Met l yX3_count (.code yX3_count cX3_count 2 (some .int) :: gw) ({ frames := 1, cells := 0, slots := 0, locals := 25 }) (va_Pc (.ref (E.1 0) :: [.int p0]) (cH D cI cZ cN cO A E n (M.1 0 0 3) σ)) (vp_Si (fun r => True)) 0 0 (fun _ => False) := by
  exact (k_X3_count l D cI cZ cN cO A E n (M.1 0 0 3) σ p0 ok).up (fun _ _ q => q) (fun a s o1 t q => by obtain ⟨r, g1, g2, g3⟩ := q; exact ⟨r, g1, trivial, g3⟩)
set_option maxHeartbeats 4000000 in
set_option maxRecDepth 100000 in
theorem s_astray (l : Launch) (D : va_G) (cI cZ cN cO : ClassId) (A : Nat → Prop) (E : CE) (n : Nat) (σ : CS) (M : MS) (ok : cOK n (M.1 0 0 3) σ) (hCR : CR n (M.1 0 0 3) σ M) (hi : mInv n M) : Met l yX3_astray (.code yX3_astray cX3_astray 6 (some .int) :: gw) ({ frames := 2, cells := 0, slots := 0, locals := 48 }) (va_Pc (.ref (E.1 0) :: []) (cH D cI cZ cN cO A E n (M.1 0 0 3) σ)) (vp_Si (fun r => r = cAst n (M.1 0 0 3) σ (M.1 0 0 3))) 0 0 (fun _ => False) := by
  exact k_X3_astray l D cI cZ cN cO A E n (M.1 0 0 3) σ ok
set_option maxHeartbeats 4000000 in
set_option maxRecDepth 100000 in
theorem t_told (l : Launch) (D : va_G) (cI cZ cN cO : ClassId) (mm : Nat) (d : Nat → Nat) (n : Nat) (σ : RS) (M : MS) (p0 p1 : Int32) (ok : rOK n σ) (hR : RR n σ 2001 0 M) (hi : mInv n M) (hn : n ≤ 31) : Met l yX4_told (.code yX4_told cX4_told 3 (some .int) :: gw) ({ frames := 1, cells := 0, slots := 0, locals := 21 }) (va_Pc (.ref mm :: [.int p0, .int p1]) (rH D cI cZ cN cO (rAd mm d) mm d σ)) (va_Qi (fun (r : Int32) (_ : Unit) => True) (fun _ t => rZ D cI cZ cN cO mm d n M 0 t) (rAd mm d)) 0 0 (rAd mm d) := by
  exact (q_told l D cI cZ cN cO (rAd mm d) mm d n σ p0 p1 ok).up (fun _ _ q => q) (fun a s o1 t q => ⟨by obtain ⟨⟨r, u, g1, g2, g4, g5⟩, -⟩ := q; exact ⟨r, u, g1, trivial, _, g4, g5, hR.skip1, rfl⟩, q.2⟩)
set_option maxHeartbeats 4000000 in
set_option maxRecDepth 100000 in
theorem t_count (l : Launch) (D : va_G) (cI cZ cN cO : ClassId) (mm : Nat) (d : Nat → Nat) (n : Nat) (σ : RS) (M : MS) (p0 : Int32) (ok : rOK n σ) (hR : RR n σ 2001 0 M) (hi : mInv n M) (hn : n ≤ 31) : Met l yX4_count (.code yX4_count cX4_count 6 (some .int) :: gw) ({ frames := 1, cells := 0, slots := 0, locals := 24 }) (va_Pc (.ref mm :: [.int p0]) (rH D cI cZ cN cO (rAd mm d) mm d σ)) (va_Qi (fun (r : Int32) (_ : Unit) => True) (fun _ t => rZ D cI cZ cN cO mm d n M 0 t) (rAd mm d)) 0 0 (rAd mm d) := by
  exact (q_count l D cI cZ cN cO (rAd mm d) mm d n σ p0 ok).up (fun _ _ q => q) (fun a s o1 t q => ⟨by obtain ⟨⟨r, u, g1, g2, g4, g5⟩, -⟩ := q; exact ⟨r, u, g1, trivial, _, g4, g5, hR.skip1, rfl⟩, q.2⟩)
set_option maxHeartbeats 4000000 in
set_option maxRecDepth 100000 in
theorem t_astray (l : Launch) (D : va_G) (cI cZ cN cO : ClassId) (mm : Nat) (d : Nat → Nat) (n : Nat) (σ : RS) (M : MS) (ok : rOK n σ) (hR : RR n σ 2001 0 M) (hi : mInv n M) (hn : n ≤ 31) : Met l yX4_astray (.code yX4_astray cX4_astray 7 (some .int) :: gw) ({ frames := 1, cells := 0, slots := 0, locals := 23 }) (va_Pc (.ref mm :: []) (rH D cI cZ cN cO (rAd mm d) mm d σ)) (va_Qi (fun (r : Int32) (_ : Unit) => True) (fun _ t => rZ D cI cZ cN cO mm d n M 0 t) (rAd mm d)) 0 0 (rAd mm d) := by
  exact (q_astray l D cI cZ cN cO (rAd mm d) mm d n σ ok).up (fun _ _ q => q) (fun a s o1 t q => ⟨by obtain ⟨⟨r, u, g1, g2, g4, g5⟩, -⟩ := q; exact ⟨r, u, g1, trivial, _, g4, g5, hR.skip1, rfl⟩, q.2⟩)
set_option maxHeartbeats 4000000 in
set_option maxRecDepth 100000 in
theorem t_view (l : Launch) (D : va_G) (cI cZ cN cO : ClassId) (mm : Nat) (d : Nat → Nat) (n : Nat) (σ : RS) (M : MS) (p0 p1 : Int32) (ok : rOK n σ) (hR : RR n σ 2001 0 M) (hi : mInv n M) (hn : n ≤ 31) : Met l yX4_view (.code yX4_view cX4_view 3 (some .int) :: gw) ({ frames := 1, cells := 0, slots := 0, locals := 21 }) (va_Pc (.ref mm :: [.int p0, .int p1]) (rH D cI cZ cN cO (rAd mm d) mm d σ)) (va_Qi (fun (r : Int32) (_ : Unit) => r = aView n M p0 p1) (fun _ t => rZ D cI cZ cN cO mm d n M 0 t) (rAd mm d)) 0 0 (rAd mm d) := by
  unfold aView
  refine (q_view l D cI cZ cN cO (rAd mm d) mm d n σ p0 p1 ok).up (fun _ _ q => q) (fun a s o1 t q => ⟨?_, q.2⟩)
  obtain ⟨⟨r, u, g1, g2, g4, g5⟩, -⟩ := q
  refine ⟨r, u, g1, ?_, _, g4, g5, hR.skip1, rfl⟩
  have h511 := hi.1.1
  have ex : isOp σ p0 ↔ (¬ p0 < 1 ∧ ¬ nI (M.1 0 0 3) < p0) := by unfold isOp; rw [hR.1.1.1]
  by_cases h : ¬ p0 < 1 ∧ ¬ nI (M.1 0 0 3) < p0
  · obtain ⟨o, h1, h2, rfl⟩ := isO_nat h511 (isO_iff.mpr h)
    have ej := nI_clamp (show o < 2 ^ 31 by omega)
    have ho := (hi.1.2.2 o h1 h2).2.2.2
    have e7 : σ.2 36 o = 0 ↔ M.1 3 o 7 = 0 := by rw [(hR.1.2.2.1 o h1 h2).2.2.2.2.2.1, nJ0, nI_eq (by omega) (by decide)]
    rw [ej, e7] at g2
    rw [ej]
    rcases g2 with ⟨a1, a2, a3, a4⟩ | ⟨a1, a2⟩
    · obtain ⟨i, hii, rfl⟩ := isN_of (by omega) a3
      rw [cif_pos ⟨h, a2, a3⟩, a4, ix31 (by omega) (by omega), nI_clamp (by omega)]
      exact hR.1.2.2.2.2.1 o h1 h2 i hii
    · rw [cif_neg (fun q => a1 ⟨ex.mpr h, q.2⟩), a2]
  · rw [cif_neg (fun q => h q.1)]
    rcases g2 with ⟨a1, -⟩ | ⟨-, a2⟩
    · exact absurd (ex.mp a1) h
    · exact a2
set_option maxHeartbeats 4000000 in
set_option maxRecDepth 100000 in
theorem t_kept (l : Launch) (D : va_G) (cI cZ cN cO : ClassId) (mm : Nat) (d : Nat → Nat) (n : Nat) (σ : RS) (M : MS) (p0 p1 : Int32) (ok : rOK n σ) (hR : RR n σ 2001 0 M) (hi : mInv n M) (hn : n ≤ 31) : Met l yX4_kept (.code yX4_kept cX4_kept 3 (some .int) :: gw) ({ frames := 1, cells := 0, slots := 0, locals := 21 }) (va_Pc (.ref mm :: [.int p0, .int p1]) (rH D cI cZ cN cO (rAd mm d) mm d σ)) (va_Qi (fun (r : Int32) (_ : Unit) => r = aKept n M p0 p1) (fun _ t => rZ D cI cZ cN cO mm d n M 0 t) (rAd mm d)) 0 0 (rAd mm d) := by
  unfold aKept
  refine (q_kept l D cI cZ cN cO (rAd mm d) mm d n σ p0 p1 ok).up (fun _ _ q => q) (fun a s o1 t q => ⟨?_, q.2⟩)
  obtain ⟨⟨r, u, g1, g2, g4, g5⟩, -⟩ := q
  refine ⟨r, u, g1, ?_, _, g4, g5, hR.skip1, rfl⟩
  rw [g2]
  by_cases h : isN n p0 ∧ isN n p1
  · rw [if_pos h, cif_pos h]
    obtain ⟨j, hj, rfl⟩ := isN_of (by omega) h.1
    obtain ⟨i, hii, rfl⟩ := isN_of (by omega) h.2
    rw [ix31 (by omega) (by omega), nI_clamp (by omega), nI_clamp (by omega)]
    exact (hR.1.2.2.2.1 j hj i hii).1
  · rw [if_neg h, cif_neg h]
set_option maxHeartbeats 4000000 in
set_option maxRecDepth 100000 in
theorem t_message (l : Launch) (D : va_G) (cI cZ cN cO : ClassId) (mm : Nat) (d : Nat → Nat) (n : Nat) (σ : RS) (M : MS) (p0 p1 : Int32) (ok : rOK n σ) (hR : RR n σ 2001 0 M) (hi : mInv n M) (hn : n ≤ 31) : Met l yX4_message (.code yX4_message cX4_message 4 (some .int) :: gw) ({ frames := 1, cells := 0, slots := 0, locals := 21 }) (va_Pc (.ref mm :: [.int p0, .int p1]) (rH D cI cZ cN cO (rAd mm d) mm d σ)) (va_Qi (fun (r : Int32) (_ : Unit) => r = aMsg M p0 p1) (fun _ t => rZ D cI cZ cN cO mm d n M 0 t) (rAd mm d)) 0 0 (rAd mm d) := by
  unfold aMsg
  refine (q_message l D cI cZ cN cO (rAd mm d) mm d n σ p0 p1 ok).up (fun _ _ q => q) (fun a s o1 t q => ⟨?_, q.2⟩)
  obtain ⟨⟨r, u, g1, g2, g4, g5⟩, -⟩ := q
  refine ⟨r, u, g1, ?_, _, g4, g5, hR.skip1, rfl⟩
  have hle := hR.2.1.1
  have eh : isMs σ p0 ↔ ¬ p0 < 0 ∧ p0 < nI M.2.2.length := by unfold isMs; rw [hR.2.1.2.1, Int32.not_le]
  rw [g2]
  by_cases h : ¬ p0 < 0 ∧ p0 < nI M.2.2.length
  · rw [if_pos (eh.mpr h), cif_pos h]
    obtain ⟨a, ha, rfl⟩ := nI_of h.1
    have hal : a < M.2.2.length := (nI_ltI ha (by omega)).mp h.2
    obtain ⟨y, hx⟩ : ∃ y, M.2.2[a]? = some y := ⟨_, List.getElem?_eq_getElem hal⟩
    rw [nI_clamp ha, hx]
    obtain ⟨j, hj, e8⟩ := vp_in_of (ok.at 8 rfl a) (by decide)
    have es : (σ.2 8 a).toNatClampNeg = rSl σ a := rfl
    have e8' : σ.2 8 a = nI (rSl σ a) := by unfold rSl; rw [e8, nI_clamp (by omega)]
    have hs2 : rSl σ a < 2001 := by unfold rSl; rw [e8, nI_clamp (by omega)]; exact hj
    have hm := hR.2.1.2.2.2.2.2.1 a y hx
    rw [es, hm.1, hm.2.1, hm.2.2.1, hm.2.2.2.1]
    simp only [ite_cif]
  · rw [if_neg (fun q => h (eh.mp q)), cif_neg h]
set_option maxHeartbeats 4000000 in
set_option maxRecDepth 100000 in
theorem t_vector (l : Launch) (D : va_G) (cI cZ cN cO : ClassId) (mm : Nat) (d : Nat → Nat) (n : Nat) (σ : RS) (M : MS) (p0 p1 : Int32) (ok : rOK n σ) (hR : RR n σ 2001 0 M) (hi : mInv n M) (hn : n ≤ 31) : Met l yX4_vector (.code yX4_vector cX4_vector 4 (some .int) :: gw) ({ frames := 1, cells := 0, slots := 0, locals := 21 }) (va_Pc (.ref mm :: [.int p0, .int p1]) (rH D cI cZ cN cO (rAd mm d) mm d σ)) (va_Qi (fun (r : Int32) (_ : Unit) => r = aVec n M p0 p1) (fun _ t => rZ D cI cZ cN cO mm d n M 0 t) (rAd mm d)) 0 0 (rAd mm d) := by
  unfold aVec
  refine (q_vector l D cI cZ cN cO (rAd mm d) mm d n σ p0 p1 ok).up (fun _ _ q => q) (fun a s o1 t q => ⟨?_, q.2⟩)
  obtain ⟨⟨r, u, g1, g2, g4, g5⟩, -⟩ := q
  refine ⟨r, u, g1, ?_, _, g4, g5, hR.skip1, rfl⟩
  have hle := hR.2.1.1
  have eh : isMs σ p0 ↔ ¬ p0 < 0 ∧ p0 < nI M.2.2.length := by unfold isMs; rw [hR.2.1.2.1, Int32.not_le]
  rw [g2]
  by_cases h : (¬ p0 < 0 ∧ p0 < nI M.2.2.length) ∧ isN n p1
  · rw [if_pos ⟨eh.mpr h.1, h.2⟩, cif_pos h]
    obtain ⟨a, ha, rfl⟩ := nI_of h.1.1
    have hal : a < M.2.2.length := (nI_ltI ha (by omega)).mp h.1.2
    obtain ⟨i, hii, rfl⟩ := isN_of (by omega) h.2
    obtain ⟨y, hx⟩ : ∃ y, M.2.2[a]? = some y := ⟨_, List.getElem?_eq_getElem hal⟩
    rw [nI_clamp ha, hx]
    obtain ⟨j, hj, e8⟩ := vp_in_of (ok.at 8 rfl a) (by decide)
    have es : (σ.2 8 a).toNatClampNeg = rSl σ a := rfl
    have e8' : σ.2 8 a = nI (rSl σ a) := by unfold rSl; rw [e8, nI_clamp (by omega)]
    have hs2 : rSl σ a < 2001 := by unfold rSl; rw [e8, nI_clamp (by omega)]; exact hj
    have hm := hR.2.1.2.2.2.2.2.1 a y hx
    have hk3 := (hi.2.2.1.2.2 y (List.mem_of_getElem? hx)).1
    have e12 : (nI y.1 = 1 ∨ nI y.1 = 2) ↔ (y.1 = 1 ∨ y.1 = 2) := by rw [nJ1, nJ2, nI_eq (by omega) (by decide), nI_eq (by omega) (by decide)]
    rw [es, hm.1, e8', ix31 hs2 (by omega), nI_clamp (by omega)]
    simp only
    by_cases z : y.1 = 1 ∨ y.1 = 2
    · rw [if_pos (e12.mpr z), cif_pos z, hm.2.2.2.2 z i hii]
    · rw [if_neg (fun q => z (e12.mp q)), cif_neg z]
  · rw [if_neg (fun q => h ⟨eh.mp q.1, q.2⟩), cif_neg h]
set_option maxHeartbeats 4000000 in
set_option maxRecDepth 100000 in
theorem t_node (l : Launch) (D : va_G) (cI cZ cN cO : ClassId) (mm : Nat) (d : Nat → Nat) (n : Nat) (σ : RS) (M : MS) (p0 p1 : Int32) (ok : rOK n σ) (hR : RR n σ 2001 0 M) (hi : mInv n M) (hn : n ≤ 31) (hI : mIdl n M) : Met l yX4_node (.code yX4_node cX4_node 3 (some .int) :: gw) ({ frames := 1, cells := 0, slots := 0, locals := 21 }) (va_Pc (.ref mm :: [.int p0, .int p1]) (rH D cI cZ cN cO (rAd mm d) mm d σ)) (va_Qi (fun (r : Int32) (_ : Unit) => r = aNode n M p0 p1) (fun _ t => rZ D cI cZ cN cO mm d n M 0 t) (rAd mm d)) 0 0 (rAd mm d) := by
  unfold aNode
  refine (q_node l D cI cZ cN cO (rAd mm d) mm d n σ p0 p1 ok).up (fun _ _ q => q) (fun a s o1 t q => ⟨?_, q.2⟩)
  obtain ⟨⟨r, u, g1, g2, g4, g5⟩, -⟩ := q
  refine ⟨r, u, g1, ?_, _, g4, g5, hR.skip1, rfl⟩
  rw [g2]
  by_cases h : isN n p0
  · obtain ⟨j, hj, rfl⟩ := isN_of (by omega) h
    have ej := nI_clamp (show j < 2 ^ 31 by omega)
    have hN := hR.1.2.1 j hj
    rw [if_neg (fun q => q h), ej]
    by_cases h0 : p1.toInt < 0 ∨ 5 < p1.toInt
    · rw [if_pos h0, cif_pos (Or.inr h0)]
    rw [if_neg h0, cif_neg (fun q => q.elim (fun z => z h) h0)]
    have e6 := F_dn hR.1 hj
    have e7 := F_ph hR.1 hi hj 0 (by decide) nJ0
    by_cases w0 : p1 = 0
    · rw [if_pos w0, cif_pos w0]
      by_cases z : M.1 2 j 6 = 0
      · rw [if_neg (fun q => (e6.mp q) z), cif_pos z]
      · rw [if_pos (e6.mpr z), cif_neg z]
    rw [if_neg w0, cif_neg w0]
    by_cases w1 : p1 = 1
    · rw [if_pos w1, cif_pos w1, hN.1]
    rw [if_neg w1, cif_neg w1]
    by_cases w2 : p1 = 2
    · rw [if_pos w2, cif_pos w2, hN.2.1]
    rw [if_neg w2, cif_neg w2]
    by_cases w3 : p1 = 3
    · rw [if_pos w3, cif_pos w3, hN.2.2.2.1]
    rw [if_neg w3, cif_neg w3]
    by_cases w4 : p1 = 4
    · rw [if_pos w4, cif_pos w4]
      by_cases z : M.1 2 j 7 = 0
      · rw [if_pos (e7.mpr z), hI j hj z, nI_0]
      · rw [if_neg (fun q => z (e7.mp q)), hN.2.2.1]
    rw [if_neg w4, cif_neg w4, hN.2.2.2.2]
  · rw [if_pos h, cif_pos (Or.inl h)]
theorem mSum_V {n o : Nat} {M : MS} (hi : mInv n M) (h1 : 1 ≤ o) (h2 : o ≤ M.1 0 0 3) : mSum (M.2.1 3 o 6) n ≤ 511 := by
  have a := mSum_le (f := M.2.1 3 o 6) (g := fun k => M.1 2 k 11 + mAct (M.1 2 k 7)) (n := n) (fun i hii => by have := hi.2.2.1.2.1 o i h1 h2 hii; show _ ≤ M.1 2 i 11 + _; omega)
  have := hi.2.1.2.2
  have := hi.1.1
  omega
theorem RR.moved {n : Nat} {σ σ1 : RS} {M : MS} (h : RR n σ 2001 0 M) (h2 : ∀ A, ¬ A = 39 → σ1.2 A = σ.2 A) (h1 : ∀ j, ¬ j = 40 → ¬ j = 1 → σ1.1 j = σ.1 j) : RR n σ1 2001 0 M :=
  ⟨h.1.same (h1 37 (by decide) (by decide)) (h1 12 (by decide) (by decide)) (fun A hA => h2 A (by have := hA.2.1; omega)), h.2.1.same (h1 9 (by decide) (by decide)) (fun f _ h8 => h2 f (by omega)), h.2.2.same (h2 21 (by decide)) (h2 22 (by decide)) (h2 24 (by decide)) (fun _ => rfl) (fun _ => rfl) (fun _ => rfl) (fun _ => rfl)⟩
/-- what the reference answers -/
def rAnsP (n : Nat) (M : MS) (σ : RS) (x : Int32) (r : Int64) : Prop := (¬ ((¬ x < 1 ∧ ¬ σ.1 37 < x) ∧ ¬ σ.2 31 x.toNatClampNeg = -1 ∧ ¬ σ.2 27 x.toNatClampNeg < 10) ∧ r = 0) ∨ (((¬ x < 1 ∧ ¬ σ.1 37 < x) ∧ ¬ σ.2 31 x.toNatClampNeg = -1 ∧ ¬ σ.2 27 x.toNatClampNeg < 10) ∧ ∃ cq, cq ≤ 511 ∧ (rGat n (M.2.1 3 x.toNatClampNeg 6) (aWh (σ.2 27 x.toNatClampNeg)) (rI σ 1 0)).1 40 = nI cq ∧ r = aAns (rGat n (M.2.1 3 x.toNatClampNeg 6) (aWh (σ.2 27 x.toNatClampNeg)) (rI σ 1 0)) (σ.2 27 x.toNatClampNeg) (σ.2 28 x.toNatClampNeg) cq)
set_option maxHeartbeats 4000000 in
set_option maxRecDepth 100000 in
theorem t_answer (l : Launch) (D : va_G) (cI cZ cN cO : ClassId) (mm : Nat) (d : Nat → Nat) (n : Nat) (σ : RS) (M : MS) (p0 : Int32) (ok : rOK n σ) (hR : RR n σ 2001 0 M) (hi : mInv n M) (hn : n ≤ 31) : Met l yX4_answer (.code yX4_answer cX4_answer 13 (some .long) :: gw) ({ frames := 1, cells := 0, slots := 0, locals := 25 }) (va_Pc (.ref mm :: [.int p0]) (rH D cI cZ cN cO (rAd mm d) mm d σ)) (va_Ql (fun (r : Int64) (_ : Unit) => rAnsP n M σ p0 r) (fun _ t => rZ D cI cZ cN cO mm d n M 0 t) (rAd mm d)) 0 0 (rAd mm d) := by
  have h511 := hi.1.1
  by_cases h : (¬ p0 < 1 ∧ ¬ σ.1 37 < p0) ∧ ¬ σ.2 31 p0.toNatClampNeg = -1 ∧ ¬ σ.2 27 p0.toNatClampNeg < 10
  · obtain ⟨o, h1, h2, e⟩ := isO_nat h511 (isO_iff.mpr (by rw [← hR.1.1.1]; exact h.1))
    have ej := nI_clamp (show o < 2 ^ 31 by omega)
    refine (q_answer_yes l D cI cZ cN cO (rAd mm d) mm d n σ p0 (M.2.1 3 o 6) ok h.1 h.2.1 h.2.2 (fun k hk => by rw [e, ix31 (by omega) (by omega)]; exact hR.1.2.2.2.2.1 o h1 h2 k hk) (mSum_V hi h1 h2)).up (fun _ _ q => q) (fun a s o t q => ⟨?_, q.2⟩)
    obtain ⟨⟨r, u, g1, g2, σ1, g4, g5, g6, g7, g8⟩, -⟩ := q
    exact ⟨r, u, g1, Or.inr ⟨h, by rw [e, ej]; rw [e, ej] at g2; exact g2⟩, σ1, g4, g5, hR.moved g6 g7, g8⟩
  · refine (q_answer_no l D cI cZ cN cO (rAd mm d) mm d n σ p0 ok h).up (fun _ _ q => q) (fun a s o t q => ⟨?_, q.2⟩)
    obtain ⟨⟨r, u, g1, g2, σ1, g4, g5, g6, g7, g8⟩, -⟩ := q
    exact ⟨r, u, g1, Or.inl ⟨h, g2⟩, σ1, g4, g5, hR.moved g6 g7, g8⟩
set_option maxHeartbeats 4000000 in
set_option maxRecDepth 100000 in
theorem s_answerT (l : Launch) (D : va_G) (cI cZ cN cO : ClassId) (A : Nat → Prop) (E : CE) (n : Nat) (σ : CS) (M : MS) (p0 : Int32) (ok : cOK n (M.1 0 0 3) σ) (hCR : CR n (M.1 0 0 3) σ M) (hi : mInv n M) : Met l yX3_answer (.code yX3_answer cX3_answer 3 (some .long) :: gw) ({ frames := 4, cells := 0, slots := 0, locals := 94 }) (va_Pc (.ref (E.1 0) :: [.int p0]) (cH D cI cZ cN cO A E n (M.1 0 0 3) σ)) (vp_Sl (fun r => True)) 0 0 (fun _ => False) := by
  exact (s_answer l D cI cZ cN cO A E n σ M p0 ok hCR hi).up (fun _ _ q => q) (fun a s o1 t q => by obtain ⟨r, g1, g2, g3⟩ := q; exact ⟨r, g1, trivial, g3⟩)
set_option maxHeartbeats 4000000 in
set_option maxRecDepth 100000 in
theorem s_astrayT (l : Launch) (D : va_G) (cI cZ cN cO : ClassId) (A : Nat → Prop) (E : CE) (n : Nat) (σ : CS) (M : MS) (ok : cOK n (M.1 0 0 3) σ) (hCR : CR n (M.1 0 0 3) σ M) (hi : mInv n M) : Met l yX3_astray (.code yX3_astray cX3_astray 6 (some .int) :: gw) ({ frames := 2, cells := 0, slots := 0, locals := 48 }) (va_Pc (.ref (E.1 0) :: []) (cH D cI cZ cN cO A E n (M.1 0 0 3) σ)) (vp_Si (fun r => True)) 0 0 (fun _ => False) := by
  exact (s_astray l D cI cZ cN cO A E n σ M ok hCR hi).up (fun _ _ q => q) (fun a s o1 t q => by obtain ⟨r, g1, g2, g3⟩ := q; exact ⟨r, g1, trivial, g3⟩)
set_option maxHeartbeats 4000000 in
set_option maxRecDepth 100000 in
theorem t_answerT (l : Launch) (D : va_G) (cI cZ cN cO : ClassId) (mm : Nat) (d : Nat → Nat) (n : Nat) (σ : RS) (M : MS) (p0 : Int32) (ok : rOK n σ) (hR : RR n σ 2001 0 M) (hi : mInv n M) (hn : n ≤ 31) : Met l yX4_answer (.code yX4_answer cX4_answer 13 (some .long) :: gw) ({ frames := 1, cells := 0, slots := 0, locals := 25 }) (va_Pc (.ref mm :: [.int p0]) (rH D cI cZ cN cO (rAd mm d) mm d σ)) (va_Ql (fun (r : Int64) (_ : Unit) => True) (fun _ t => rZ D cI cZ cN cO mm d n M 0 t) (rAd mm d)) 0 0 (rAd mm d) := by
  refine (t_answer l D cI cZ cN cO mm d n σ M p0 ok hR hi hn).up (fun _ _ q => q) (fun a s o1 t q => ⟨?_, q.2⟩)
  obtain ⟨⟨r, u, g1, g2, g3⟩, -⟩ := q
  exact ⟨r, u, g1, trivial, g3⟩
