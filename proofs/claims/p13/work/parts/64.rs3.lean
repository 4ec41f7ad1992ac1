theorem mInv.len1 {n k : Nat} {m : MS} (h : mInv n m) (hk : k < n) (hp : m.1 2 k 7 = 2) : m.1 2 k 11 + 1 ≤ 511 := by
  have h1 := mSum_ge (f := fun k => m.1 2 k 11 + mAct (m.1 2 k 7)) (j := k) (n := n) hk
  have h2 := h.2.1.2.2
  have h3 := h.1.1
  have h4 : m.1 2 k 11 + mAct (m.1 2 k 7) ≤ mSum (fun k => m.1 2 k 11 + mAct (m.1 2 k 7)) n := h1
  have h5 : mAct (m.1 2 k 7) = 1 := by rw [hp]; rfl
  omega
theorem mInv.task_ne {n k k' : Nat} {m : MS} (h : mInv n m) (hk : k < n) (hk' : k' < n) (hne : ¬ k' = k) (hp : ¬ m.1 2 k 7 = 0) (hp' : ¬ m.1 2 k' 7 = 0) : ¬ m.1 2 k' 10 = m.1 2 k 10 := by
  intro e
  have a := h.1.2.1 k hk
  have b := h.1.2.1 k' hk'
  have a1 := a.2.2.2.1 (fun q => hp (a.2.1.mpr q))
  have b1 := b.2.2.2.1 (fun q => hp' (b.2.1.mpr q))
  rw [e, a1] at b1
  exact hne b1.symm
theorem RR.ends {n z k t : Nat} {kz : Int32} {σ : RS} {m : MS} (ha : RA n σ m) (hm : RM n σ z kz m.2.2) (hc : ∀ k', k' < n → ¬ k' = k → qC n σ m k') (ht : t = m.1 2 k 10) (t2 : t ≤ m.1 0 0 3) (h5 : m.1 0 0 3 ≤ 511) (hk : k < n) (hn : n ≤ 31) : RR n (rEnds (nI k) σ) z kz (mEndOp k t m) := by
  have e16 : (σ.2 16 k).toNatClampNeg = t := by rw [(ha.2.1 k hk).2.2.2.1, ← ht, nI_clamp (by omega)]
  have es : rEnds (nI k) σ = rA (rA (rA (rA σ 31 t (σ.1 12)) 14 k 0) 17 k 0) 16 k 0 := by
    unfold rEnds; rw [nI_clamp (show k < 2 ^ 31 by omega), e16]
  rw [es]
  refine ⟨?_, hm.same rfl (fun f h1 h2 => ?_), fun k' hk' => ?_⟩
  · unfold mEndOp
    refine RA.putN (RA.putN (RA.putN ?_ 14 7 k 0 nJ0 (by simp)) 17 9 k 0 nJ0 (by simp)) 16 10 k 0 nJ0 (by simp)
    exact (ha.putO 31 8 t _ ha.1.2 t2 (by simp)).msame (by simp [mI]) (by simp [mI]) (fun _ _ _ _ => by simp [mI]) (fun _ _ _ _ _ => by simp [mI]) (fun _ _ _ => rfl) (fun _ => rfl)
  · rw [rA_2, if_neg (by omega), rA_2, if_neg (by omega), rA_2, if_neg (by omega), rA_2, if_neg (by omega)]
  · by_cases e : k' = k
    · subst e
      have p0 : (mEndOp k' t m).1 2 k' 7 = 0 := by simp [mEndOp, mI]
      exact ⟨fun p => by omega, fun p => by omega, fun p => absurd p0 p⟩
    · refine (hc k' hk' e).mv (fun i hi => by simp [rA_2]) (fun i _ => by simp [rA_2]) (by simp [rA_2]) ?_ ?_ ?_ (fun _ => ?_)
      · simp [mEndOp, mI, e]
      · simp [mEndOp, mI, e]
      · simp [mEndOp, mI]
      · simp [mEndOp, mI]
theorem RR.wrt {n z k t : Nat} {kz : Int32} {σ : RS} {m : MS} (ha : RA n σ m) (hm : RM n σ z kz m.2.2) (hc : ∀ k', k' < n → ¬ k' = k → qC n σ m k') (hb : σ.2 24 k = 0 ↔ m.1 3 (m.1 2 k 10) 9 = 0) (t2 : t ≤ m.1 0 0 3) (h5 : m.1 0 0 3 ≤ 511) (hlen : ∀ k', k' < n → m.1 2 k' 11 ≤ 511) (hL : m.1 2 k 11 < 511) (hk : k < n) (hn : n ≤ 31) (hl : m.2.2.length + n ≤ 2000) : RR n (rWr n (nI k) (nI t) σ) z kz (mWrt n k t m) := by
  have ek := nI_clamp (show k < 2 ^ 31 by omega)
  have e19 := (ha.2.1 k hk).2.2.2.2
  have eg : rLg (nI k) (nI t) σ = rA (rA (rA σ 20 (512 * k + m.1 2 k 11) (nI t)) 19 k (nI (m.1 2 k 11 + 1))) 34 t (nI (m.1 2 k 11 + 1)) := by
    unfold rLg
    rw [ek, e19, ix512 (by omega) (by omega), nI_clamp (show t < 2 ^ 31 by omega), nI_1]
    simp [rA_2, upd_self]
  have a1 : RA n (rLg (nI k) (nI t) σ) (mWrt1 k t m) := by
    rw [eg]
    unfold mWrt1
    exact (ha.lg rfl hlen rfl rfl (by omega)).putO 34 11 t _ rfl (by simpa [mI, mR] using t2) (by simp)
  rw [mWrt_eq]
  unfold rWr
  rw [ek, itr_own hn (by omega)]
  have g : ∀ A, ¬ A = 20 → ¬ A = 19 → ¬ A = 34 → (rLg (nI k) (nI t) σ).2 A = σ.2 A := fun A h1 h2 h3 => by rw [eg]; simp [rA_2, h1, h2, h3]
  have g19 : (rLg (nI k) (nI t) σ).2 19 k = nI (m.1 2 k 11 + 1) := by rw [eg]; simp [rA_2, upd_self]
  have g1 : (rLg (nI k) (nI t) σ).1 = σ.1 := by rw [eg]; rfl
  generalize hs : rLg (nI k) (nI t) σ = σ0 at a1 g g19 g1
  refine RR.sto (q := 21) ?_ ?_ (fun k' hk' e => ?_) (Or.inl rfl) (fun i hi => ?_) (fun p => absurd p (by decide)) ?_ (by decide) hk hn hl
  · exact (a1.skipR (by unfold rTk; omega)).putN 14 7 k 3 nJ3 (by simp)
  · refine RM.same (σ := σ) hm ?_ (fun f h1 h2 => ?_)
    · rw [rA_1, rR_1, g1]
    · rw [rA_2, if_neg (by omega), rR_2, if_neg (by omega), g f (by omega) (by omega) (by omega)]
  · refine (hc k' hk' e).mv (fun i hi => ?_) (fun i _ => ?_) ?_ ?_ ?_ ?_ (fun _ => ?_)
    · rw [rA_2, if_neg (by decide), rR_2, if_pos rfl, mixr_ne e hn (by omega), g 21 (by decide) (by decide) (by decide)]
    · rw [rA_2, if_neg (by decide), rR_2, if_neg (by decide), g 22 (by decide) (by decide) (by decide)]
    · rw [rA_2, if_neg (by decide), rR_2, if_neg (by decide), g 24 (by decide) (by decide) (by decide)]
    · simp [mWrt1, mI, mR]
    · simp [mWrt1, mI, mR]
    · simp [mWrt1, mI, mR]
    · simp [mWrt1, mI, mR]
  · rw [rA_2, if_neg (by decide), rR_2, if_pos rfl, mixr_in hi, g19]
    by_cases e : i = k
    · rw [if_pos (by rw [e]), if_pos e]
    · rw [if_neg (fun q => e ((nI_eq (by omega) (by omega)).mp q)), if_neg e, nJ0]
  · rw [rA_2, if_neg (by decide), rR_2, if_neg (by decide), g 24 (by decide) (by decide) (by decide), hb]
    simp [mWrt1, mI, mR]
theorem RA.see {n t : Nat} {σ : RS} {m : MS} (ha : RA n σ m) (hn : n ≤ 31) (t2 : t ≤ m.1 0 0 3) {w : Nat → Nat} {w' : Nat → Int32} (hw : ∀ i, i < n → w' i = nI (w i)) {u v : Int32} : RA n (rI (rA (rA (rR σ 35 (mixr (31 * t) n w' (σ.2 35))) 36 t 1) 33 t u) 38 v) (mSee t w m) := by
  refine RA.skipI (RA.skip ?_ (by unfold rTk; omega)) (by decide) (by decide)
  exact (ha.rowV hn t t2 hw).putO 36 7 t 1 nJ1 t2 (by simp)
theorem RA.co {n t w : Nat} {σ : RS} {m : MS} (ha : RA n σ m) : RA n σ (mI m 3 t 9 w) :=
  ha.msame (by simp [mI]) (by simp [mI]) (fun _ _ _ _ => by simp [mI]) (fun _ f _ h _ => by simp [mI, h]) (fun _ _ _ => rfl) (fun _ => rfl)
theorem RA.bor {n t i : Nat} {σ : RS} {m : MS} (ha : RA n σ m) : RA n σ (mBor t i m) :=
  ha.msame (by simp [mBor, mI]) (by simp [mBor, mI]) (fun _ _ _ _ => by simp [mBor, mI]) (fun _ f _ _ h => by simp [mBor, mI, h]) (fun _ _ _ => rfl) (fun _ => rfl)
theorem RA.ghost {n k f : Nat} {r : Nat → Nat} {σ : RS} {m : MS} (ha : RA n σ m) (hf : f = 2 ∨ f = 20 ∨ f = 21) : RA n σ (mR m 2 k f r) := by
  refine ha.msame rfl rfl (fun _ _ _ _ => rfl) (fun _ _ _ _ _ => rfl) (fun b g hg => ?_) (fun _ => by simp [mR])
  have : ¬ g = f := by omega
  simp [mR, this]
theorem F_same {n k : Nat} {σ : RS} {m : MS} (ha : RA n σ m) (hc : qC n σ m k) (hi : mInv n m) (hk : k < n) (hn : n ≤ 31) (hp : m.1 2 k 7 = 2) : rSame n (nI k) σ ↔ mSame n k m := by
  unfold rSame mSame
  constructor
  · intro q j hj
    have := q j hj
    have hcu := hi.cur hk hj
    rw [ix31 (by omega) (by omega), (ha.2.2.2.1 k hk j hj).2.1, hc.2.1 hp j hj, nI_eq (by omega) (by omega)] at this
    exact this.symm
  · intro q j hj
    rw [ix31 (by omega) (by omega), (ha.2.2.2.1 k hk j hj).2.1, hc.2.1 hp j hj, q j hj]
theorem F_mv {n k i : Nat} {σ : RS} {m : MS} (ha : RA n σ m) (hc : qC n σ m k) (hi : mInv n m) (hk : k < n) (hn : n ≤ 31) (hp : m.1 2 k 7 = 2) (hin : i < n) : rMv (nI k) σ i ↔ mMv k m i := by
  unfold rMv mMv
  have hcu := hi.cur hk hin
  have hm := (hi.1.2.1 k hk).2.2.2.2.2.2.2 i hin
  rw [ix31 (by omega) (by omega), (ha.2.2.2.1 k hk i hin).2.1, (ha.2.2.2.1 k hk i hin).2.2, hc.2.1 hp i hin]
  by_cases e : m.2.1 2 k 2 i = m.2.1 2 k 3 i
  · rw [if_pos (by rw [e]), nJ0, nI_add, nJ2, nI_leI (by decide) (by omega)]; omega
  · rw [if_neg (fun q => e ((nI_eq (by omega) (by omega)).mp q).symm), nJ1, nI_add, nJ2, nI_leI (by decide) (by omega)]; omega
theorem F_any {n k : Nat} {σ : RS} {m : MS} (ha : RA n σ m) (hc : qC n σ m k) (hi : mInv n m) (hk : k < n) (hn : n ≤ 31) (hp : m.1 2 k 7 = 2) : (∃ i, i < n ∧ rMv (nI k) σ i) ↔ mAny n k m := by
  unfold mAny
  constructor
  · rintro ⟨i, h1, h2⟩; exact ⟨i, h1, (F_mv ha hc hi hk hn hp h1).mp h2⟩
  · rintro ⟨i, h1, h2⟩; exact ⟨i, h1, (F_mv ha hc hi hk hn hp h1).mpr h2⟩
theorem F_seen {n k : Nat} {σ : RS} {m : MS} (ha : RA n σ m) (hc : qC n σ m k) (hi : mInv n m) (hk : k < n) (hn : n ≤ 31) (hp : m.1 2 k 7 = 2) : rSeen n (nI k) σ ↔ ¬ m.1 3 (m.1 2 k 10) 9 = 0 ∧ (mSame n k m ∨ mAny n k m) := by
  unfold rSeen
  rw [nI_clamp (by omega), hc.2.2 (by omega), F_same ha hc hi hk hn hp, F_any ha hc hi hk hn hp]
theorem F_mvr {n k : Nat} {σ : RS} {m : MS} (ha : RA n σ m) (hc : qC n σ m k) (hi : mInv n m) (hk : k < n) (hn : n ≤ 31) (hp : m.1 2 k 7 = 2) (hany : mAny n k m) : lst (rMv (nI k) σ) n 0 = mMvr n k m := by
  have h1 := lst_of (P := rMv (nI k) σ) (n := n) ((F_any ha hc hi hk hn hp).mpr hany)
  have h2 := lst_of (P := mMv k m) (n := n) hany
  show lst (rMv (nI k) σ) n 0 = lst (mMv k m) n 0
  rcases Nat.lt_trichotomy (lst (rMv (nI k) σ) n 0) (lst (mMv k m) n 0) with q | q | q
  · exact absurd ((F_mv ha hc hi hk hn hp h1.1).mp h1.2.1) (h2.2.2 _ q)
  · exact q
  · exact absurd ((F_mv ha hc hi hk hn hp h2.1).mpr h2.2.1) (h1.2.2 _ q)
theorem F_kind {n t : Nat} {σ : RS} {m : MS} (ha : RA n σ m) (hi : mInv n m) (t1 : 1 ≤ t) (t2 : t ≤ m.1 0 0 3) : σ.2 27 t < 10 ↔ ¬ 3 < m.1 3 t 2 := by
  have ho := hi.1.2.2 t t1 t2
  rw [(ha.2.2.1 t t1 t2).2.1, show (10 : Int32) = nI 10 from by decide +kernel, nI_ltI (by omega) (by decide)]
  omega
theorem F_fm {n k i : Nat} {σ : RS} {m : MS} (ha : RA n σ m) (hc : qC n σ m k) (hi : mInv n m) (hk : k < n) (hn : n ≤ 31) (hp : m.1 2 k 7 = 2) (hin : i < n) (h1 : 1 ≤ m.2.1 2 k 2 i) : rFm (nI k) i σ = nI (m.2.1 2 i 22 (m.2.1 2 k 2 i)) := by
  have hcu := hi.cur hk hin
  have hb := (hi.2.2.1.1 k i hk hin).2.1
  unfold rFm
  rw [ix31 (by omega) (by omega), hc.2.1 hp i hin]
  have e : (512 : Int32) * nI i + nI (m.2.1 2 k 2 i) - 1 = nI (512 * i + (m.2.1 2 k 2 i - 1)) := by
    rw [nJ512, nI_mul, nI_add, nI_m1 (by omega)]; congr 1; omega
  rw [e, nI_clamp (by omega)]
  exact ha.2.2.2.2.2.2.1 i hin _ h1 hb
/-- what follows as NODE k has its VIEW -/
noncomputable def rUse (n k t : Nat) (σ0 σ : RS) : RS := cif (σ0.2 27 t < 10) (rWr n (nI k) (nI t) σ) (rEnds (nI k) σ)
theorem RR.use {n z k t : Nat} {kz : Int32} {σ0 σ : RS} {m m0 : MS} (h27 : σ0.2 27 t < 10 ↔ ¬ 3 < m.1 3 t 2) {r : Nat → Nat} (ha : RA n σ (mSee t r m)) (hm : RM n σ z kz m.2.2) (hc : ∀ k', k' < n → ¬ k' = k → qC n σ m k') (hb : σ.2 24 k = 0 ↔ m.1 3 (m.1 2 k 10) 9 = 0) (ht : t = m.1 2 k 10) (t2 : t ≤ m.1 0 0 3) (h5 : m.1 0 0 3 ≤ 511) (hlen : ∀ k', k' < n → m.1 2 k' 11 ≤ 511) (hL : m.1 2 k 11 < 511) (hk : k < n) (hn : n ≤ 31) (hl : ¬ 3 < m.1 3 t 2 → m.2.2.length + n ≤ 2000) : RR n (rUse n k t σ0 σ) z kz (mUse n k t r m) := by
  have hc' : ∀ k', k' < n → ¬ k' = k → qC n σ (mSee t r m) k' := fun k' hk' e => (hc k' hk' e).mv (fun _ _ => rfl) (fun _ _ => rfl) rfl (by simp [mSee, mI, mR]) (by simp [mSee, mI, mR]) (by simp [mSee, mI, mR]) (fun _ => by simp [mSee, mI, mR])
  unfold rUse mUse
  by_cases e : 3 < m.1 3 t 2
  · rw [cif_pos e, cif_neg (fun q => (h27.mp q) e)]
    exact RR.ends ha hm hc' (by simpa [mSee, mI, mR] using ht) (by simpa [mSee, mI, mR] using t2) (by simpa [mSee, mI, mR] using h5) hk hn
  · rw [cif_neg e, cif_pos (h27.mpr e)]
    exact RR.wrt ha hm hc' (by simpa [mSee, mI, mR] using hb) (by simpa [mSee, mI, mR] using t2) (by simpa [mSee, mI, mR] using h5) (fun k' hk' => by simpa [mSee, mI, mR] using hlen k' hk') (by simpa [mSee, mI, mR] using hL) hk hn (hl e)
theorem rThr_eq {n k t : Nat} {σ : RS} (hk : k < 31) (e16 : σ.2 16 k = nI t) (ht : t < 512) : rThr n (nI k) σ = cif (rSeen n (nI k) σ) (cif (rSame n (nI k) σ) (rUse n k t σ (rTkS n (nI k) σ)) (rUse n k t σ (rTkB n (nI k) (lst (rMv (nI k) σ) n 0) σ))) (rThN n (nI k) σ) := by
  unfold rThr rUse
  rw [nI_clamp (show k < 2 ^ 31 by omega), e16, nI_clamp (show t < 2 ^ 31 by omega)]
theorem RR.thr {n z k t : Nat} {kz : Int32} {σ : RS} {m : MS} (h : RR n σ z kz m) (hi : mInv n m) (hn : n ≤ 31) (hk : k < n) (hp : m.1 2 k 7 = 2) (ht : t = m.1 2 k 10) (hl : m.2.2.length + mECoN n k t m ≤ 2000) : rThOk n (nI k) σ ∧ RR n (rThr n (nI k) σ) z kz (mECo n k t m) := by
  obtain ⟨ha, hm, hcc⟩ := h
  have hc := hcc k hk
  have ek := nI_clamp (show k < 2 ^ 31 by omega)
  have hak := hi.1.2.1 k hk
  have h5 := hi.1.1
  have t1 : 1 ≤ t := by have := hak.2.1; omega
  have t2 : t ≤ m.1 0 0 3 := by have := hak.2.2.1; omega
  have e16 : σ.2 16 k = nI t := by rw [(ha.2.1 k hk).2.2.2.1, ht]
  have ekind := F_kind ha hi t1 t2
  have eseen := F_seen ha hc hi hk hn hp
  have esame := F_same ha hc hi hk hn hp
  have eany := F_any ha hc hi hk hn hp
  rw [← ht] at eseen
  have hL := hi.len1 hk hp
  have hlen : ∀ k', k' < n → m.1 2 k' 11 ≤ 511 := fun k' hk' => hi.len hk'
  refine ⟨⟨fun q1 q2 => ?_, fun q1 q2 => ⟨?_, ?_⟩, fun q1 => ?_⟩, ?_⟩
  · have s1 := eseen.mp q1
    have any : mAny n k m := by rcases s1.2 with q | q; exact absurd (esame.mpr q) q2; exact q
    have hLd := mLdr_ok hi hk hp (by rw [← ht]; exact s1.1) any
    have hcu := hi.cur hk hLd.1
    rw [F_mvr ha hc hi hk hn hp any, ix31 (by omega) (by have := hLd.1; omega), hc.2.1 hp _ hLd.1, nJ1, nI_ltI (by omega) (by decide)]
    have := hLd.2.2.2.1; omega
  · rw [ek, (ha.2.1 k hk).2.2.2.2, nI_1]; exact vp_in_nI (by omega) (by decide)
  · rw [ek, e16, nI_clamp (by omega)] at q2
    unfold mECoN at hl
    rw [cif_neg (fun q => (ekind.mp q2) q.1)] at hl
    exact hm.rm hl
  · unfold mECoN at hl
    rw [cif_neg (fun q => q1 (eseen.mpr q.2))] at hl
    exact hm.rm hl
  rw [rThr_eq (by omega) e16 (by omega)]
  -- the others' collects
  have hco : ∀ (τ : RS) (m' : MS), τ.2 21 = σ.2 21 → τ.2 22 = σ.2 22 → τ.2 24 = σ.2 24 → m'.1 2 = m.1 2 → m'.2.1 2 = m.2.1 2 → (∀ t', ¬ t' = t → m'.1 3 t' 9 = m.1 3 t' 9) → ∀ k', k' < n → ¬ k' = k → qC n τ m' k' := fun τ m' g1 g2 g3 g4 g5 g6 k' hk' e =>
    (hcc k' hk').mv (fun i _ => by rw [g1]) (fun i _ => by rw [g2]) (by rw [g3]) (by rw [g4]) (by rw [g4]) (by rw [g5]) (fun p => g6 _ (by rw [ht]; exact hi.task_ne hk hk' e (by omega) p))
  unfold mECo
  by_cases c0 : m.1 3 t 9 = 0
  · rw [cif_pos c0, cif_neg (fun q => (eseen.mp q).1 c0)]
    have hl' : m.2.2.length + n ≤ 2000 := by unfold mECoN at hl; rw [cif_neg (fun q => q.2.1 c0)] at hl; exact hl
    have h24 : σ.2 24 k = 0 := (hc.2.2 (by omega)).mpr (by rw [← ht]; exact c0)
    unfold rThN
    rw [ek, itr_step (by omega) n hn]
    generalize hs : rR (rR σ 25 (mixr (31 * k) n (rMvF k σ) (σ.2 25))) 23 (mixr (31 * k) n (fun i => σ.2 22 (31 * k + i)) (σ.2 23)) = σ0
    have g : ∀ A, ¬ A = 25 → ¬ A = 23 → σ0.2 A = σ.2 A := fun A h1 h2 => by rw [← hs]; simp [rR_2, h1, h2]
    have a0 : RA n σ0 (mRem k t m) := by
      rw [← hs]
      unfold mRem mCo
      refine RA.ghost ?_ (by simp)
      have b1 : RA n (rR σ 25 (mixr (31 * k) n (rMvF k σ) (σ.2 25))) m := by
        have := ha.rowK hn 25 4 k (w := m.2.1 2 k 4) (w' := rMvF k σ) (fun i hii => by unfold rMvF; rw [if_pos h24, (ha.2.2.2.1 k hk i hii).2.2, nJ0, nI_add]; rfl) (by simp)
        refine this.msame rfl rfl (fun _ _ _ _ => rfl) (fun _ _ _ _ _ => rfl) (fun b f _ => ?_) (fun _ => by simp [mR])
        simp only [mR]; split
        · rename_i q; rw [q.2.1, q.2.2]
        · rfl
      have b2 := b1.co (t := t) (w := m.1 3 t 9 + 1)
      have b3 := b2.rowK hn 23 3 k (w := m.2.1 2 k 2) (w' := fun i => σ.2 22 (31 * k + i)) (fun i hii => hc.2.1 hp i hii) (by simp)
      rw [rR_2, if_neg (by decide)] at b3
      exact b3
    refine RR.col (RA.skip a0 (by unfold rTk; omega)) (RM.same (σ := σ) hm ?_ (fun f h1 h2 => ?_)) (fun k' hk' e => ?_) ?_ hk hn hl'
    · rw [rA_1, ← hs]; rfl
    · rw [rA_2, if_neg (by omega), g f (by omega) (by omega)]
    · refine (hcc k' hk').mv (fun i _ => ?_) (fun i _ => ?_) ?_ ?_ ?_ ?_ (fun p => ?_)
      · rw [rA_2, if_neg (by decide), g 21 (by decide) (by decide)]
      · rw [rA_2, if_neg (by decide), g 22 (by decide) (by decide)]
      · rw [rA_2, if_pos rfl, upd_ne _ e, g 24 (by decide) (by decide)]
      · simp [mRem, mCo, mI, mR]
      · simp [mRem, mCo, mI, mR]
      · simp [mRem, mCo, mI, mR]
      · have := hi.task_ne hk hk' e (by omega) p
        rw [← ht] at this
        simp [mRem, mCo, mI, mR, this]
    · rw [rA_2, if_pos rfl, upd_self]
      simp [mRem, mCo, mI, mR, ← ht]
  rw [cif_neg c0]
  have h24 : ¬ σ.2 24 k = 0 := fun q => c0 (by rw [ht]; exact (hc.2.2 (by omega)).mp q)
  by_cases c1 : mSame n k m
  · rw [cif_pos c1, cif_pos (eseen.mpr ⟨c0, Or.inl c1⟩), cif_pos (esame.mpr c1)]
    have es : rTkS n (nI k) σ = rI (rA (rA (rR σ 35 (mixr (31 * t) n (fun i => σ.2 22 (31 * k + i)) (σ.2 35))) 36 t 1) 33 t (-1)) 38 (σ.1 38 + 0) := by
      unfold rTkS; rw [ek, e16, nI_clamp (show t < 2 ^ 31 by omega), itr_vwS hn (by omega) (by omega), rR_1]
    rw [es]
    refine RR.use (m := mCo t m) (m0 := m) (by simpa [mCo, mI] using ekind) ?_ (RM.same (σ := σ) hm (by simp [rI_1, rA_1, rR_1]) (fun f h1 h2 => ?_)) (hco _ _ ?_ ?_ ?_ ?_ ?_ (fun t' e => by simp [mCo, mI, e])) ?_ (by simpa [mCo, mI] using ht) (by simpa [mCo, mI] using t2) (by simpa [mCo, mI] using h5) (fun k' hk' => by simpa [mCo, mI] using hlen k' hk') (by simpa [mCo, mI] using (show m.1 2 k 11 < 511 by omega)) hk hn (fun q => ?_)
    · exact RA.see ha.co hn (by simpa [mCo, mI] using t2) (fun i hii => hc.2.1 hp i hii)
    · rw [rI_2, rA_2, if_neg (by omega), rA_2, if_neg (by omega), rR_2, if_neg (by omega)]
    · simp [rI_2, rA_2, rR_2]
    · simp [rI_2, rA_2, rR_2]
    · simp [rI_2, rA_2, rR_2]
    · funext b f; simp [mCo, mI]
    · rfl
    · simp [rI_2, rA_2, rR_2, mCo, mI, ← ht, h24]
    · unfold mECoN at hl; rw [cif_neg (fun x => q (by simpa [mCo, mI] using x.1))] at hl; exact hl
  rw [cif_neg c1]
  by_cases c2 : mAny n k m
  · rw [cif_pos c2, cif_pos (eseen.mpr ⟨c0, Or.inr c2⟩), cif_neg (fun q => c1 (esame.mp q))]
    have hLd := mLdr_ok hi hk hp (by rw [← ht]; exact c0) c2
    have emv := F_mvr ha hc hi hk hn hp c2
    have efm : rFm (nI k) (mMvr n k m) σ = nI (mLdr n k m) := F_fm ha hc hi hk hn hp hLd.1 hLd.2.2.2.1
    have hld1 := hLd.2.2.2.2.2.1
    have hld2 := hLd.2.2.2.2.2.2.1
    have es : rTkB n (nI k) (lst (rMv (nI k) σ) n 0) σ = rI (rA (rA (rR σ 35 (mixr (31 * t) n (fun i => σ.2 35 (31 * mLdr n k m + i)) (σ.2 35))) 36 t 1) 33 t (nI (mMvr n k m))) 38 (σ.1 38 + 1) := by
      unfold rTkB; rw [emv, efm, ek, e16, nI_clamp (show t < 2 ^ 31 by omega), itr_vwB hn (by omega) (by omega), rR_1]
    rw [es]
    refine RR.use (m := mBor t (mMvr n k m) (mCo t m)) (m0 := m) (by simpa [mCo, mBor, mI] using ekind) ?_ (RM.same (σ := σ) hm (by simp [rI_1, rA_1, rR_1]) (fun f h1 h2 => ?_)) (hco _ _ ?_ ?_ ?_ ?_ ?_ (fun t' e => by simp [mCo, mBor, mI, e])) ?_ (by simpa [mCo, mBor, mI] using ht) (by simpa [mCo, mBor, mI] using t2) (by simpa [mCo, mBor, mI] using h5) (fun k' hk' => by simpa [mCo, mBor, mI] using hlen k' hk') (by simpa [mCo, mBor, mI] using (show m.1 2 k 11 < 511 by omega)) hk hn (fun q => ?_)
    · exact RA.see ha.co.bor hn (by simpa [mCo, mBor, mI] using t2) (fun i hii => ha.2.2.2.2.1 _ hld1 hld2 i hii)
    · rw [rI_2, rA_2, if_neg (by omega), rA_2, if_neg (by omega), rR_2, if_neg (by omega)]
    · simp [rI_2, rA_2, rR_2]
    · simp [rI_2, rA_2, rR_2]
    · simp [rI_2, rA_2, rR_2]
    · funext b f; simp [mCo, mBor, mI]
    · rfl
    · simp [rI_2, rA_2, rR_2, mCo, mBor, mI, ← ht, h24]
    · unfold mECoN at hl; rw [cif_neg (fun x => q (by simpa [mCo, mBor, mI] using x.1))] at hl; exact hl
  rw [cif_neg c2, cif_neg (fun q => by rcases (eseen.mp q).2 with x | x; exact c1 x; exact c2 x)]
  have hl' : m.2.2.length + n ≤ 2000 := by unfold mECoN at hl; rw [cif_neg (fun q => by rcases q.2.2 with x | x; exact c1 x; exact c2 x)] at hl; exact hl
  unfold rThN
  rw [ek, itr_step (by omega) n hn]
  generalize hs : rR (rR σ 25 (mixr (31 * k) n (rMvF k σ) (σ.2 25))) 23 (mixr (31 * k) n (fun i => σ.2 22 (31 * k + i)) (σ.2 23)) = σ0
  have g : ∀ A, ¬ A = 25 → ¬ A = 23 → σ0.2 A = σ.2 A := fun A h1 h2 => by rw [← hs]; simp [rR_2, h1, h2]
  have a0 : RA n σ0 (mRem k t (mMvd k m)) := by
    rw [← hs, mRem_eq]
    refine RA.ghost ?_ (by simp)
    have b1 := ha.rowK hn 25 4 k (w := fun j => if m.2.1 2 k 2 j = m.2.1 2 k 3 j then m.2.1 2 k 4 j else m.2.1 2 k 4 j + 1) (w' := rMvF k σ) (fun i hii => by
      have hcu := hi.cur hk hii
      unfold rMvF
      rw [if_neg h24, (ha.2.2.2.1 k hk i hii).2.2, (ha.2.2.2.1 k hk i hii).2.1, hc.2.1 hp i hii]
      by_cases e : m.2.1 2 k 2 i = m.2.1 2 k 3 i
      · rw [if_pos e, if_pos (by rw [e]), nJ0, nI_add]; rfl
      · rw [if_neg e, if_neg (fun q => e ((nI_eq (by omega) (by omega)).mp q).symm), nI_1]) (by simp)
    have b3 := b1.rowK hn 23 3 k (w := m.2.1 2 k 2) (w' := fun i => σ.2 22 (31 * k + i)) (fun i hii => hc.2.1 hp i hii) (by simp)
    rw [rR_2, if_neg (by decide)] at b3
    refine b3.msame (by simp [mCo, mI, mR]) (by simp [mCo, mI, mR]) (fun _ _ _ _ => by simp [mCo, mI, mR]) (fun _ f _ h _ => by simp [mCo, mI, mR, h]) (fun b f hf => ?_) (fun _ => by simp [mCo, mI, mR])
    simp only [mCo, mI, mR]
    rcases hf with rfl | rfl | rfl | rfl <;> simp
  refine RR.col (RA.skip a0 (by unfold rTk; omega)) (RM.same (σ := σ) hm ?_ (fun f h1 h2 => ?_)) (fun k' hk' e => ?_) ?_ hk hn hl'
  · rw [rA_1, ← hs]; rfl
  · rw [rA_2, if_neg (by omega), g f (by omega) (by omega)]
  · refine (hcc k' hk').mv (fun i _ => ?_) (fun i _ => ?_) ?_ ?_ ?_ ?_ (fun p => ?_)
    · rw [rA_2, if_neg (by decide), g 21 (by decide) (by decide)]
    · rw [rA_2, if_neg (by decide), g 22 (by decide) (by decide)]
    · rw [rA_2, if_pos rfl, upd_ne _ e, g 24 (by decide) (by decide)]
    · simp [mRem, mMvd, mCo, mI, mR]
    · simp [mRem, mMvd, mCo, mI, mR]
    · simp [mRem, mMvd, mCo, mI, mR]
    · have := hi.task_ne hk hk' e (by omega) p
      rw [← ht] at this
      simp [mRem, mMvd, mCo, mI, mR, this]
  · rw [rA_2, if_pos rfl, upd_self]
    simp [mRem, mMvd, mCo, mI, mR, ← ht]
