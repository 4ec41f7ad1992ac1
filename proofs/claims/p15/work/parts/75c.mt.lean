/-- moments: operations begin in the order of their numbers, none is done ahead of its beginning; a done UPDATE is written -/
def tN : Nat := 4294967295
def mT (n : Nat) (M : MS) : Prop :=
  (∀ o, 1 ≤ o → o ≤ M.1 0 0 3 → M.1 3 o 5 ≤ M.1 0 0 5 ∧ (M.1 3 o 8 = tN ∨ (M.1 3 o 5 ≤ M.1 3 o 8 ∧ M.1 3 o 8 ≤ M.1 0 0 5)) ∧ (¬ M.1 3 o 8 = tN → M.1 3 o 2 ≤ 3 → 0 < M.1 3 o 11)) ∧
  (∀ o p, 1 ≤ o → o ≤ p → p ≤ M.1 0 0 3 → M.1 3 o 5 ≤ M.1 3 p 5) ∧
  (∀ k, k < n → M.1 2 k 7 = 3 → 0 < M.1 3 (M.1 2 k 10) 11)
theorem mT.same {n : Nat} {m m' : MS} (h : mT n m) (h03 : m'.1 0 0 3 = m.1 0 0 3) (h05 : m.1 0 0 5 ≤ m'.1 0 0 5) (h3 : ∀ o f, f = 2 ∨ f = 5 ∨ f = 8 ∨ f = 11 → m'.1 3 o f = m.1 3 o f) (h7 : ∀ k, m'.1 2 k 7 = m.1 2 k 7) (h10 : ∀ k, m'.1 2 k 10 = m.1 2 k 10) : mT n m' := by
  obtain ⟨a, b, c⟩ := h
  refine ⟨fun o o1 o2 => ?_, fun o p o1 op p2 => ?_, fun k hk p => ?_⟩
  · have := a o o1 (by omega)
    rw [h3 o 5 (by decide), h3 o 8 (by decide), h3 o 2 (by decide), h3 o 11 (by decide)]
    exact ⟨by omega, this.2.1.imp id (fun z => ⟨z.1, by omega⟩), this.2.2⟩
  · rw [h3 o 5 (by decide), h3 p 5 (by decide)]; exact b o p o1 op (by omega)
  · rw [h7] at p
    rw [h10, h3 _ 11 (by decide)]; exact c k hk p
theorem mT.to {n kd ph k : Nat} {v : Nat → Nat} {m : MS} (h : mT n m) (hp : ph = 3 → 0 < m.1 3 (m.1 2 k 10) 11) : mT n (mTo n kd ph k v m) := by
  obtain ⟨a, b, c⟩ := h
  refine ⟨fun o o1 o2 => ?_, fun o p o1 op p2 => ?_, fun k' hk p => ?_⟩
  · have := a o o1 (by simpa [mTo, mEnter, mI, mR, mL] using o2)
    simpa [mTo, mEnter, mI, mR, mL] using this
  · have := b o p o1 op (by simpa [mTo, mEnter, mI, mR, mL] using p2)
    simpa [mTo, mEnter, mI, mR, mL] using this
  · by_cases e : k' = k
    · subst e
      have := hp (by simpa [mTo, mEnter, mI, mR, mL] using p)
      simpa [mTo, mEnter, mI, mR, mL] using this
    · have := c k' hk (by simpa [mTo, mEnter, mI, mR, mL, e] using p)
      simpa [mTo, mEnter, mI, mR, mL, e] using this
theorem mT.begC {n k : Nat} {m : MS} (h : mT n m) : mT n (mBegC n k m) :=
  (h.to (kd := 0) (ph := 1) (k := k) (v := fun _ => 0) (fun q => absurd q (by decide))).same rfl (Nat.le_refl _) (fun _ _ _ => rfl) (fun _ => rfl) (fun _ => rfl)
theorem mT.endOp {n k t : Nat} {m : MS} (h : mT n m) (t1 : 1 ≤ t) (t2 : t ≤ m.1 0 0 3) (hp : m.1 3 t 2 ≤ 3 → 0 < m.1 3 t 11) : mT n (mEndOp k t m) := by
  obtain ⟨a, b, c⟩ := h
  refine ⟨fun o o1 o2 => ?_, fun o p o1 op p2 => ?_, fun k' hk p => ?_⟩
  · have := a o o1 (by simpa [mEndOp, mI] using o2)
    by_cases e : o = t
    · subst e
      refine ⟨by simpa [mEndOp, mI] using this.1, Or.inr ⟨by simpa [mEndOp, mI] using this.1, by simp [mEndOp, mI]⟩, fun _ z => ?_⟩
      have := hp (by simpa [mEndOp, mI] using z)
      simpa [mEndOp, mI] using this
    · simpa [mEndOp, mI, e] using this
  · have := b o p o1 op (by simpa [mEndOp, mI] using p2)
    simpa [mEndOp, mI] using this
  · by_cases e : k' = k
    · subst e; exact absurd p (by simp [mEndOp, mI])
    · have := c k' hk (by simpa [mEndOp, mI, e] using p)
      simpa [mEndOp, mI, e] using this
theorem mT.use {n k t : Nat} {r : Nat → Nat} {m : MS} (h : mT n m) (hi : mInv n m) (hk : k < n) (hp2 : m.1 2 k 7 = 2) (ht : t = m.1 2 k 10) (t1 : 1 ≤ t) (t2 : t ≤ m.1 0 0 3) : mT n (mUse n k t r m) := by
  unfold mUse cif
  split
  · rename_i q
    have hs : mT n (mSee t r m) := h.same (by simp [mSee, mI, mR]) (by simp [mSee, mI, mR]) (fun o f hf => by
      have : ¬ f = 7 := by omega
      simp [mSee, mI, mR, this]) (fun _ => by simp [mSee, mI, mR]) (fun _ => by simp [mSee, mI, mR])
    refine hs.endOp t1 (by simpa [mSee, mI, mR] using t2) (fun z => ?_)
    have : m.1 3 t 2 ≤ 3 := by simpa [mSee, mI, mR] using z
    omega
  · rw [mWrt_eq]
    have hne : ∀ k', k' < n → ¬ k' = k → m.1 2 k' 7 = 3 → ¬ m.1 2 k' 10 = t := fun k' hk' e p => by rw [ht]; exact hi.task_ne hk hk' e (by omega) (by omega)
    have hw : mT n (mWrt1 k t (mSee t r m)) := by
      obtain ⟨a, b, c⟩ := h
      refine ⟨fun o o1 o2 => ?_, fun o p o1 op p2 => ?_, fun k' hk' p => ?_⟩
      · have := a o o1 (by simpa [mWrt1, mSee, mI, mR] using o2)
        by_cases e : o = t
        · subst e
          refine ⟨by simpa [mWrt1, mSee, mI, mR] using this.1, by simpa [mWrt1, mSee, mI, mR] using this.2.1, fun _ _ => by simp [mWrt1, mSee, mI, mR]⟩
        · simpa [mWrt1, mSee, mI, mR, e] using this
      · have := b o p o1 op (by simpa [mWrt1, mSee, mI, mR] using p2)
        simpa [mWrt1, mSee, mI, mR] using this
      · have p' : m.1 2 k' 7 = 3 := by simpa [mWrt1, mSee, mI, mR] using p
        by_cases e : k' = k
        · subst e; omega
        · have := c k' hk' p'
          have e2 := hne k' hk' e p'
          simpa [mWrt1, mSee, mI, mR, e2] using this
    refine hw.to (fun _ => ?_)
    simp [mWrt1, mSee, mI, mR, ← ht]
theorem mT.eCo {n k t : Nat} {m : MS} (h : mT n m) (hi : mInv n m) (hf : mFr n m) (hk : k < n) (hp2 : m.1 2 k 7 = 2) (ht : t = m.1 2 k 10) : mT n (mECo n k t m) := by
  have hak := hi.1.2.1 k hk
  have t1 : 1 ≤ t := by have := hak.2.1; omega
  have t2 : t ≤ m.1 0 0 3 := by have := hak.2.2.1; omega
  unfold mECo
  by_cases c0 : m.1 3 t 9 = 0
  · rw [cif_pos c0]
    exact mT.begC (h.same (by simp [mRem, mCo, mI, mR]) (by simp [mRem, mCo, mI, mR]) (fun o f hf => by
      have : ¬ f = 9 := by omega
      simp [mRem, mCo, mI, mR, this]) (fun _ => by simp [mRem, mCo, mI, mR]) (fun _ => by simp [mRem, mCo, mI, mR]))
  rw [cif_neg c0]
  have hci : mInv n (mCo t m) := mCo_inv hi c0 (hf.2 t t1 t2)
  have hcm : mT n (mCo t m) := h.same (by simp [mCo, mI]) (by simp [mCo, mI]) (fun o f hf => by
      have : ¬ f = 9 := by omega
      simp [mCo, mI, this]) (fun _ => by simp [mCo, mI]) (fun _ => by simp [mCo, mI])
  by_cases c1 : mSame n k m
  · rw [cif_pos c1]
    exact hcm.use hci hk (by simpa [mCo, mI] using hp2) (by simpa [mCo, mI] using ht) t1 (by simpa [mCo, mI] using t2)
  rw [cif_neg c1]
  by_cases c2 : mAny n k m
  · rw [cif_pos c2]
    have hbm : mT n (mBor t (mMvr n k m) (mCo t m)) := hcm.same (by simp [mBor, mI]) (by simp [mBor, mI]) (fun o f hf => by
      have : ¬ f = 10 := by omega
      simp [mBor, mI, this]) (fun _ => by simp [mBor, mI]) (fun _ => by simp [mBor, mI])
    exact hbm.use (mBor_inv hci) hk (by simpa [mBor, mCo, mI] using hp2) (by simpa [mBor, mCo, mI] using ht) t1 (by simpa [mBor, mCo, mI] using t2)
  rw [cif_neg c2]
  exact mT.begC (h.same (by simp [mRem, mMvd, mCo, mI, mR]) (by simp [mRem, mMvd, mCo, mI, mR]) (fun o f hf => by
      have : ¬ f = 9 := by omega
      simp [mRem, mMvd, mCo, mI, mR, this]) (fun _ => by simp [mRem, mMvd, mCo, mI, mR]) (fun _ => by simp [mRem, mMvd, mCo, mI, mR]))
theorem mT.mid {n : Nat} {x : Ms} {m : MS} (h : mT n m) (hi : mInv n m) (hf : mFr n m) (hx : mMsg n x m) : mT n (mMid n x m) := by
  unfold mMid
  by_cases u : m.1 2 x.2.2.1 6 = 0
  · rw [cif_pos u]; exact h
  rw [cif_neg u]
  by_cases k0 : x.1 = 0
  · rw [cif_pos k0]
    exact h.same (by simp [mSnd, mI, mL]) (by simp [mSnd, mI, mL]) (fun _ _ _ => by simp [mSnd, mI, mL]) (fun _ => by simp [mSnd, mI, mL]) (fun _ => by simp [mSnd, mI, mL])
  rw [cif_neg k0]
  by_cases k2 : x.1 = 2
  · rw [cif_pos k2]
    exact h.same (by simp [mSnd, mUp, mI, mL, mR]) (by simp [mSnd, mUp, mI, mL, mR]) (fun _ _ _ => by simp [mSnd, mUp, mI, mL, mR]) (fun _ => by simp [mSnd, mUp, mI, mL, mR]) (fun _ => by simp [mSnd, mUp, mI, mL, mR])
  rw [cif_neg k2]
  by_cases w : mWait x.2.2.1 m x.1 x.2.2.2.1
  · rw [cif_pos w]
    obtain ⟨kd, sn, r, rd, v⟩ := x
    simp only at u k0 k2 w ⊢
    have x3 := hx.2.2.1
    simp only at x3
    have hi1 := mH1_inv hi hx k0 k2 w
    have hf1 : mFr n (mH1 r sn v m) := mH1_fr hf
    have h1 : mT n (mH1 r sn v m) := h.same (mH1_e03 0 0 3 (by decide)) (by rw [mH1_e03 0 0 5 (by decide)]; exact Nat.le_refl _) (fun o f _ => mH1_e03 3 o f (by decide)) (fun k => mH1_e2 k 7 (by decide)) (fun k => mH1_e2 k 10 (by decide))
    have ht : m.1 2 r 10 = (mH1 r sn v m).1 2 r 10 := (mH1_e2 r 10 (by decide)).symm
    have hak := hi1.1.2.1 r x3
    unfold mHr2
    by_cases c0 : 2 * (mH1 r sn v m).1 2 r 9 ≤ n
    · rw [cif_pos c0]; exact h1
    rw [cif_neg c0]
    by_cases c1 : (mH1 r sn v m).1 2 r 7 = 1
    · rw [cif_pos c1]; exact h1.to (fun q => absurd q (by decide))
    rw [cif_neg c1]
    by_cases c2 : (mH1 r sn v m).1 2 r 7 = 2
    · rw [cif_pos c2]; exact h1.eCo hi1 hf1 x3 c2 ht
    · rw [cif_neg c2]
      have p3 : (mH1 r sn v m).1 2 r 7 = 3 := by
        have e7 : (mH1 r sn v m).1 2 r 7 = m.1 2 r 7 := mH1_e2 r 7 (by decide)
        rcases w.2 with q | q <;> omega
      refine h1.endOp (by rw [ht]; have := hak.2.1; omega) (by rw [ht]; exact hak.2.2.1) (fun _ => ?_)
      rw [ht]; exact h1.2.2 r x3 p3
  · rw [cif_neg w]; exact h
theorem mT.come {n a : Nat} {x : Ms} {m : MS} (h : mT n m) (hi : mInv n m) (hx : m.2.2[a]? = some x) : mT n (mCome n a x m) :=
  mT.mid (h.same (by simp [mOff, mI, mL]) (by simp [mOff, mI, mL]) (fun _ _ _ => by simp [mOff, mI, mL]) (fun _ => by simp [mOff, mI, mL]) (fun _ => by simp [mOff, mI, mL])) (mOff_inv hi) (mOff_fr hi) (mOff_msg hi hx)
theorem mT.calm {n : Nat} : ∀ (t : Nat) (m : MS), mT n m → mInv n m → mT n (mCalm n t m).1
  | 0, m, h, _ => h
  | t + 1, m, h, hi => by
    cases hx : m.2.2[0]? with
    | none => rw [mCalm_e hx]; exact h
    | some x =>
      by_cases hr : 2000 < m.2.2.length - 1 + mLeads n x m
      · rw [mCalm_no hx hr]; exact h
      · rw [mCalm_go hx hr]; exact mT.calm t _ (h.come hi hx) (mCome_inv hi hx)
theorem mT.actB {n T : Nat} {k kd a b : Int32} {m : MS} (h : mT n m) (hi : mInv n m) : mT n (mActB n T k kd a b m) := by
  unfold mActB
  by_cases c : T = 0 ∧ mGo n k.toNatClampNeg m
  · rw [cif_pos c, mBeg_eq]
    have hT10 := c.2.2.1
    refine mT.begC ?_
    obtain ⟨p1, p2, p3⟩ := h
    have hA := hi.1.2.1
    refine ⟨fun o o1 o2 => ?_, fun o p o1 op p2' => ?_, fun k' hk p => ?_⟩
    · have hb : (mNew0 k.toNatClampNeg kd.toNatClampNeg (iN a) (iN b) m).1 0 0 3 = m.1 0 0 3 + 1 := by simp [mNew0]
      rw [hb] at o2
      by_cases e : o = m.1 0 0 3 + 1
      · subst e
        simp [mNew0, tN]
      · have := p1 o o1 (by omega)
        refine ⟨?_, ?_, ?_⟩
        · simp [mNew0, e]; omega
        · simp only [mNew0, e, and_false, if_false]
          rcases this.2.1 with z | z
          · left; simpa using z
          · right; simp; omega
        · simpa [mNew0, e] using this.2.2
    · have hb : (mNew0 k.toNatClampNeg kd.toNatClampNeg (iN a) (iN b) m).1 0 0 3 = m.1 0 0 3 + 1 := by simp [mNew0]
      rw [hb] at p2'
      by_cases e : p = m.1 0 0 3 + 1
      · by_cases e2 : o = m.1 0 0 3 + 1
        · rw [e, e2]; exact Nat.le_refl _
        · have := (p1 o o1 (by omega)).1
          subst e
          simp [mNew0, e2]; omega
      · have := p2 o p o1 op (by omega)
        have e2 : ¬ o = m.1 0 0 3 + 1 := by omega
        simpa [mNew0, e, e2] using this
    · have p' : m.1 2 k' 7 = 3 := by simpa [mNew0] using p
      have := p3 k' hk p'
      have hle := (hA k' hk).2.2.1
      have ht0 := (hA k' hk).2.1
      by_cases e : k' = k.toNatClampNeg
      · subst e; omega
      · have e2 : ¬ m.1 2 k' 10 = m.1 0 0 3 + 1 := by omega
        simpa [mNew0, e, e2] using this
  · rw [cif_neg c]; exact h
theorem mT.del {n : Nat} {i : Int32} {m : MS} (h : mT n m) (hi : mInv n m) : mT n (mDel n i m).1 := by
  unfold mDel
  by_cases c : ¬ i < 0 ∧ i < nI m.2.2.length
  · rw [cif_pos c]
    cases hx : m.2.2[i.toNatClampNeg]? with
    | none => exact h
    | some x =>
      simp only
      by_cases hr : 2000 < m.2.2.length - 1 + mLeads n x m
      · rw [cif_pos hr]; exact h
      · rw [cif_neg hr]; exact h.come hi hx
  · rw [cif_neg c]; exact h
theorem mT.cal {n : Nat} {i : Int32} {m : MS} (h : mT n m) (hi : mInv n m) : mT n (mCal n i m).1 := by
  unfold mCal
  by_cases c : i < 0 ∨ ¬ i ≤ 2000
  · rw [cif_pos c]; exact h
  · rw [cif_neg c]; exact mT.calm _ _ h hi
theorem mT.cra {n : Nat} {i : Int32} {m : MS} (h : mT n m) : mT n (mCra n i m).1 := by
  unfold mCra
  by_cases c : isN n i ∧ ¬ m.1 2 i.toNatClampNeg 6 = 0
  · rw [cif_pos c]
    exact h.same (by simp [mCrash, mI]) (by simp [mCrash, mI]) (fun _ _ _ => by simp [mCrash, mI]) (fun _ => by simp [mCrash, mI]) (fun _ => by simp [mCrash, mI])
  · rw [cif_neg c]; exact h
theorem mZ_T {n : Nat} : mT n mZ := ⟨fun o h1 h2 => absurd h2 (by simp [mZ]; omega), fun o p h1 h2 h3 => absurd h3 (by simp [mZ]; omega), fun k hk p => absurd p (by simp [mZ])⟩
