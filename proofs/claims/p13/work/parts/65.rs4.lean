theorem F_dn {n k : Nat} {σ : RS} {m : MS} (ha : RA n σ m) (hk : k < n) : σ.2 13 k = 0 ↔ ¬ m.1 2 k 6 = 0 := by
  rw [ha.2.2.2.2.2.1 k hk]
  by_cases e : m.1 2 k 6 = 0
  · rw [if_pos e]; exact ⟨fun q => absurd q (by decide), fun q => absurd e q⟩
  · rw [if_neg e]; exact ⟨fun _ => e, fun _ => rfl⟩
theorem F_ph {n k : Nat} {σ : RS} {m : MS} (ha : RA n σ m) (hi : mInv n m) (hk : k < n) (p : Nat) (hp : p ≤ 3) {q : Int32} (hq : q = nI p) : σ.2 14 k = q ↔ m.1 2 k 7 = p := by
  have := (hi.1.2.1 k hk).1
  rw [(ha.2.1 k hk).1, hq, nI_eq (by omega) (by omega)]
theorem RR.hr2 {n z k t : Nat} {kz : Int32} {σ : RS} {m : MS} (h : RR n σ z kz m) (hi : mInv n m) (hn : n ≤ 31) (hk : k < n) (ht : t = m.1 2 k 10) (hl : m.2.2.length + mHrN n k t m ≤ 2000) : rHOk n (nI k) σ ∧ RR n (rHr2 n (nI k) σ) z kz (mHr2 n k t m) := by
  have h0 := h
  obtain ⟨ha, hm, hcc⟩ := h
  have hc := hcc k hk
  have ek := nI_clamp (show k < 2 ^ 31 by omega)
  have hh := hi.heard hk
  have hak := hi.1.2.1 k hk
  have em : nI n < (2 : Int32) * σ.2 17 k ↔ ¬ 2 * m.1 2 k 9 ≤ n := by
    rw [(ha.2.1 k hk).2.2.1, nJ2, nI_mul, nI_ltI (by omega) (by omega)]; omega
  have e1 := F_ph ha hi hk 1 (by decide) nJ1
  have e2 := F_ph ha hi hk 2 (by decide) nJ2
  unfold rHOk rHr2 mHr2
  unfold mHrN at hl
  rw [ek, em, e1, e2]
  by_cases c0 : 2 * m.1 2 k 9 ≤ n
  · rw [cif_pos c0, cif_neg (fun q => q c0)]
    exact ⟨⟨fun q => absurd c0 q, fun q => absurd c0 q⟩, h0⟩
  rw [cif_neg c0, cif_pos c0]
  rw [cif_neg c0] at hl
  by_cases c1 : m.1 2 k 7 = 1
  · rw [cif_pos c1, cif_pos c1]
    rw [cif_pos c1] at hl
    refine ⟨⟨fun _ _ => hm.rm hl, fun _ q => by omega⟩, ?_⟩
    rw [itr_cpy hn (by omega)]
    have e22 : ∀ i, i < n → (rA (rR σ 22 (mixr (31 * k) n (fun i => σ.2 21 (31 * k + i)) (σ.2 22))) 14 k 2).2 22 (31 * k + i) = nI (m.2.1 2 k 2 i) := fun i hii => by
      rw [rA_2, if_neg (by decide), rR_2, if_pos rfl, mixr_in hii]; exact hc.1 c1 i hii
    refine RR.sto (q := 22) ?_ (RM.same (σ := σ) hm rfl (fun f h1 h2 => ?_)) (fun k' hk' e => ?_) (Or.inr rfl) e22 (fun _ => e22) ?_ (by decide) hk hn hl
    · exact (ha.skipR (by unfold rTk; omega)).putN 14 7 k 2 nJ2 (by simp)
    · rw [rA_2, if_neg (by omega), rR_2, if_neg (by omega)]
    · refine (hcc k' hk').mv (fun i _ => ?_) (fun i _ => ?_) ?_ rfl rfl rfl (fun _ => rfl)
      · rw [rA_2, if_neg (by decide), rR_2, if_neg (by decide)]
      · rw [rA_2, if_neg (by decide), rR_2, if_pos rfl, mixr_ne e hn (by omega)]
      · rw [rA_2, if_neg (by decide), rR_2, if_neg (by decide)]
    · rw [rA_2, if_neg (by decide), rR_2, if_neg (by decide)]; exact hc.2.2 (by omega)
  rw [cif_neg c1, cif_neg c1]
  rw [cif_neg c1] at hl
  by_cases c2 : m.1 2 k 7 = 2
  · rw [cif_pos c2, cif_pos c2]
    rw [cif_pos c2] at hl
    have := h0.thr hi hn hk c2 ht hl
    exact ⟨⟨fun _ q => absurd q c1, fun _ _ => this.1⟩, this.2⟩
  · rw [cif_neg c2, cif_neg c2]
    exact ⟨⟨fun _ q => absurd q c1, fun _ q => absurd q c2⟩, RR.ends ha hm (fun k' hk' _ => hcc k' hk') ht (by have := hak.2.2.1; omega) hi.1.1 hk hn⟩
theorem mUp1_RC {n r : Nat} {σ τ : RS} {m : MS} {v : Nat → Nat} (h : RC n σ m) (e21 : τ.2 21 = σ.2 21) (e22 : τ.2 22 = σ.2 22) (e24 : τ.2 24 = σ.2 24) : RC n τ (mUp r 1 v m) :=
  h.same e21 e22 e24 (fun _ => rfl) (fun _ => rfl) (fun _ => by simp [mUp, mR]) (fun _ => rfl)
theorem RR.h1 {n z r s s0 : Nat} {kz : Int32} {σ : RS} {m : MS} {x : Int32} (h : RR n σ z kz m) (hi : mInv n m) (hn : n ≤ 31) (hr : r < n) (hx : x = nI s) (hs : s < 2001) (h4 : σ.2 4 s = nI r) {kd : Nat} (hkd : kd = 1 ∨ kd = 3) (h2 : σ.2 2 s = nI kd) (hph : kd = 1 ↔ m.1 2 r 7 = 1) {v : Nat → Nat} (hv : kd = 1 → ∀ i, i < n → σ.2 6 (31 * s + i) = nI (v i)) (hb : kd = 1 → ∀ i, i < n → v i ≤ 511) : RR n (rH1 n x σ) z kz (mH1 r s0 v m) := by
  obtain ⟨ha, hm, hcc⟩ := h
  subst hx
  have er := nI_clamp (show r < 2 ^ 31 by omega)
  have es := nI_clamp (show s < 2 ^ 31 by omega)
  have e0 : rH0 (nI r) σ = rA σ 17 r (σ.2 17 r + 1) := by unfold rH0; rw [er]
  have a0 : RA n (rA σ 17 r (σ.2 17 r + 1)) (mI m 2 r 9 (m.1 2 r 9 + 1)) := ha.putN 17 9 r _ (by rw [(ha.2.1 r hr).2.2.1, nI_1]) (by simp)
  unfold rH1 mH1
  rw [es, h4, h2, e0]
  by_cases c : kd = 1
  · have p1 := hph.mp c
    rw [cif_pos p1, cif_pos (by rw [c]; exact nJ1.symm), itr_max hn (by omega) hs (by decide)]
    generalize hs0 : rA σ 17 r (σ.2 17 r + 1) = σ0 at a0
    have g : ∀ A, ¬ A = 17 → σ0.2 A = σ.2 A := fun A h1 => by rw [← hs0]; simp [rA_2, h1]
    have g1 : σ0.1 = σ.1 := by rw [← hs0]; rfl
    refine ⟨?_, RM.same (σ := σ) hm ?_ (fun f h1 h2 => ?_), fun k' hk' => ?_⟩
    · unfold mH0 mUp
      refine RA.ghost ?_ (by simp)
      have b := (a0.skipR (A := 21) (r := mixr (31 * r) n (fun i => mx (σ0.2 21 (31 * r + i)) (σ0.2 6 (31 * s + i))) (σ0.2 21)) (by unfold rTk; omega)).ghost (k := r) (f := 2) (r := fun i => max (m.2.1 2 r 2 i) (v i)) (by simp)
      exact b
    · rw [rR_1, g1]
    · rw [rR_2, if_neg (by omega), g f (by omega)]
    · by_cases e : k' = r
      · subst e
        refine ⟨fun _ i hii => ?_, fun q => ?_, fun q => ?_⟩
        · have hcu := hi.cur hr hii
          have hbb := hb c i hii
          rw [rR_2, if_pos rfl, mixr_in hii, g 21 (by decide), g 6 (by decide), (hcc k' hr).1 p1 i hii, hv c i hii, mx_nI (by omega) (by omega)]
          simp [mH0, mUp, mI, mR]
        · have : m.1 2 k' 7 = 2 := by simpa [mH0, mUp, mI, mR] using q
          omega
        · rw [rR_2, if_neg (by decide), g 24 (by decide)]
          have := (hcc k' hr).2.2 (by omega)
          simpa [mH0, mUp, mI, mR] using this
      · refine (hcc k' hk').mv (fun i _ => ?_) (fun i _ => ?_) ?_ ?_ ?_ ?_ (fun _ => ?_)
        · rw [rR_2, if_pos rfl, mixr_ne e hn (by omega), g 21 (by decide)]
        · rw [rR_2, if_neg (by decide), g 22 (by decide)]
        · rw [rR_2, if_neg (by decide), g 24 (by decide)]
        · simp [mH0, mUp, mI, mR]
        · simp [mH0, mUp, mI, mR]
        · simp [mH0, mUp, mI, mR, e]
        · simp [mH0, mUp, mI, mR]
  · have p1 : ¬ m.1 2 r 7 = 1 := fun q => c (hph.mpr q)
    rw [cif_neg p1, cif_neg (by rw [nJ1, nI_eq (by omega) (by decide)]; exact c)]
    refine ⟨?_, hm.same rfl (fun f h1 h2 => ?_), ?_⟩
    · unfold mH0; exact RA.ghost a0 (by simp)
    · rw [rA_2, if_neg (by omega)]
    · exact hcc.same (by simp [rA_2]) (by simp [rA_2]) (by simp [rA_2]) (fun _ => by simp [mH0, mI, mR]) (fun _ => by simp [mH0, mI, mR]) (fun _ => by simp [mH0, mI, mR]) (fun _ => by simp [mH0, mI, mR])
theorem F_cnt {n s r kd rd : Nat} {σ : RS} {m : MS} (ha : RA n σ m) (hi : mInv n m) (hM : m.1 0 0 5 < 2 ^ 31) (hr : r < n) (hn : n ≤ 31) (hs : s < 2001) (hkd : kd ≤ 3) (k0 : ¬ kd = 0) (k2 : ¬ kd = 2) (hrd : rd < 2 ^ 31) (h2 : σ.2 2 s = nI kd) (h4 : σ.2 4 s = nI r) (h5 : σ.2 5 s = nI rd) : rCnt (nI s) σ ↔ ¬ m.1 2 r 6 = 0 ∧ mWait r m kd rd := by
  have hak := (hi.1.2.1 r hr).2.2.2.2.2.1
  unfold rCnt mWait
  rw [nI_clamp (show s < 2 ^ 31 by omega), h4, nI_clamp (show r < 2 ^ 31 by omega), F_dn ha hr, h5, (ha.2.1 r hr).2.1, nI_eq hrd (by omega), h2, F_ph ha hi hr 1 (by decide) nJ1, F_ph ha hi hr 2 (by decide) nJ2, F_ph ha hi hr 3 (by decide) nJ3, nJ1, nI_eq (by omega) (by decide)]
  have : kd = 1 ∨ kd = 3 := by omega
  constructor
  · rintro ⟨a, b, c⟩; exact ⟨a, b, by rcases c with c | c; exact Or.inl c; exact Or.inr ⟨by omega, c.2⟩⟩
  · rintro ⟨a, b, c⟩; exact ⟨a, b, by rcases c with c | c; exact Or.inl c; exact Or.inr ⟨by omega, c.2⟩⟩
theorem F_want {n s : Nat} {σ : RS} {m : MS} {x : Ms} (h : RA n σ m) (hcc : RC n σ m) (hi : mInv n m) (hM : m.1 0 0 5 < 2 ^ 31) (hn : n ≤ 31) (hs : s < 2001) (x1 : x.1 ≤ 3) (x3 : x.2.2.1 < n) (hrd : x.2.2.2.1 < 2 ^ 31) (hx : rMsg n σ s x) {q : Int32} (hw : rWant n (nI s) σ q) : q = nI (mLeads n x m) := by
  obtain ⟨kd, sn, r, rd, v⟩ := x
  obtain ⟨c2, c3, c4, c5, c6⟩ := hx
  simp only at x1 x3 hrd c2 c3 c4 c5
  have es := nI_clamp (show s < 2 ^ 31 by omega)
  have er := nI_clamp (show r < 2 ^ 31 by omega)
  have hak := hi.1.2.1 r x3
  have hh := hi.heard x3
  have hdn := F_dn h x3
  have e0 : σ.2 2 s = 0 ↔ kd = 0 := by rw [c2, nJ0, nI_eq (by omega) (by decide)]
  have e2 : σ.2 2 s = 2 ↔ kd = 2 := by rw [c2, nJ2, nI_eq (by omega) (by decide)]
  have em : (2 : Int32) * (σ.2 17 r + 1) ≤ nI n ↔ 2 * (m.1 2 r 9 + 1) ≤ n := by
    rw [(h.2.1 r x3).2.2.1, nI_1, nJ2, nI_mul, nI_leI (by omega) (by omega)]
  have p2 := F_ph h hi x3 2 (by decide) nJ2
  have p3 := F_ph h hi x3 3 (by decide) nJ3
  unfold rWant at hw
  rw [es, c4, er, hdn, e0, e2, em, p2, p3] at hw
  unfold mLeads
  simp only
  rcases hw with ⟨a, b⟩ | ⟨a, b, c⟩ | ⟨a, b, c, d, f⟩ | ⟨a, b, c, d, f, g, hw⟩
  · rw [cif_pos (Classical.byContradiction a), b, nI_0]
  · rw [cif_neg a, cif_pos b, c]; exact nJ1
  · have hcn := F_cnt h hi hM x3 hn hs x1 b c hrd c2 c4 c5
    rw [cif_neg a, cif_neg (by omega), f]
    rw [hcn] at d
    by_cases w : mWait r m kd rd ∧ ¬ 2 * (m.1 2 r 9 + 1) ≤ n
    · rw [cif_pos w]
      rcases d with d | d | d
      · exact absurd ⟨a, w.1⟩ d
      · exact absurd d w.2
      · rw [cif_pos (Or.inl d), nI_0]
    · rw [cif_neg w, nI_0]
  · have hcn := F_cnt h hi hM x3 hn hs x1 b c hrd c2 c4 c5
    rw [hcn] at d
    rw [cif_neg a, cif_neg (by omega), cif_pos ⟨d.2, f⟩]
    have hp0 : ¬ m.1 2 r 7 = 0 := by rcases d.2.2 with q | q <;> omega
    have t1 : 1 ≤ m.1 2 r 10 := by have := hak.2.1; omega
    have t2 : m.1 2 r 10 ≤ m.1 0 0 3 := hak.2.2.1
    have h511 := hi.1.1
    have e16 : (σ.2 16 r).toNatClampNeg = m.1 2 r 10 := by rw [(h.2.1 r x3).2.2.2.1, nI_clamp (by omega)]
    rw [e16, F_kind h hi t1 t2] at hw
    rcases hw with ⟨⟨w1, w2, w3⟩, w4⟩ | ⟨w1, w4⟩
    · have hse := (F_seen h (hcc r x3) hi x3 hn w1).mp w2
      rw [cif_pos (Or.inr ⟨w1, Classical.byContradiction w3, hse.1, hse.2⟩), w4, nI_0]
    · rw [cif_neg, w4]
      rintro (q | ⟨q1, q2, q3, q4⟩)
      · exact g q
      · exact w1 ⟨q1, (F_seen h (hcc r x3) hi x3 hn q1).mpr ⟨q3, q4⟩, fun z => z q2⟩
theorem RR.mid {n s : Nat} {σ : RS} {m : MS} {x : Ms} (h : RR n σ s (nI x.1) m) (hi : mInv n m) (hf : mFr n m) (hn : n ≤ 31) (hM : m.1 0 0 5 < 2 ^ 31) (hs : s < 2001) (hx : mMsg n x m) (hms : rMsg n σ s x) (hl : m.2.2.length + mLeads n x m ≤ 2000) : rCOk n (nI s) σ ∧ RR n (rMid n (nI s) σ) s (nI x.1) (mMid n x m) := by
  have h0 := h
  obtain ⟨ha, hm, hcc⟩ := h
  have hrd := hx.rd hi
  obtain ⟨kd, sn, r, rd, v⟩ := x
  have hx' := hx
  obtain ⟨x1, x2, x3, x4, x5, x6, x7, x8⟩ := hx
  obtain ⟨c2, c3, c4, c5, c6⟩ := hms
  simp only at x1 x2 x3 x5 hrd c2 c3 c4 c5 c6 h0 ha hm hcc
  have es := nI_clamp (show s < 2 ^ 31 by omega)
  have er := nI_clamp (show r < 2 ^ 31 by omega)
  have hdn := F_dn ha x3
  have e0 : σ.2 2 s = 0 ↔ kd = 0 := by rw [c2, nJ0, nI_eq (by omega) (by decide)]
  have e2 : σ.2 2 s = 2 ↔ kd = 2 := by rw [c2, nJ2, nI_eq (by omega) (by decide)]
  unfold rCOk rMid mMid
  simp only
  rw [es, c4, er, hdn, e0, e2]
  by_cases u : m.1 2 r 6 = 0
  · rw [cif_pos u, cif_neg (fun q => q u)]
    exact ⟨⟨fun q => absurd u q, fun q => absurd u q⟩, h0⟩
  rw [cif_neg u, cif_pos u]
  by_cases k0 : kd = 0
  · rw [cif_pos k0, cif_pos k0]
    have hl' : m.2.2.length + 1 ≤ 2000 := by unfold mLeads at hl; simp only at hl; rw [cif_neg u, cif_pos (Or.inl k0)] at hl; omega
    refine ⟨⟨fun _ _ => hm.rm (by omega), fun _ q => absurd k0 q⟩, ?_⟩
    have eC : rRepC n (nI s) σ = rR (rSend σ (fr (σ.2 7)) 1 (nI r) (nI sn) (nI rd)) 6 (mixr (31 * fr (σ.2 7)) n (fun i => σ.2 18 (31 * r + i)) (σ.2 6)) := by
      unfold rRepC
      rw [es, c4, c3, c5, itr_vec (hm.free (by omega)).1 hn (by omega) (by decide), rSend_2 (A := 18) (by omega), rSend_2 (A := 6) (by omega)]
    rw [eC]
    have hrow : ∀ A, 8 < A → (rR (rSend σ (fr (σ.2 7)) 1 (nI r) (nI sn) (nI rd)) 6 (mixr (31 * fr (σ.2 7)) n (fun i => σ.2 18 (31 * r + i)) (σ.2 6))).2 A = σ.2 A := fun A hA => by rw [rR_2, if_neg (by omega), rSend_2 (by omega)]
    refine ⟨?_, hm.sndV hn (by omega) (1, r, sn, rd, m.2.1 2 r 1) nJ1 rfl rfl rfl (fun i hii => (ha.2.2.2.1 r x3 i hii).1), ?_⟩
    · refine RA.msame (m := m) (ha.same ?_ ?_ (fun A hA => hrow A (by have := hA.1; omega))) ?_ ?_ (fun _ _ _ _ => ?_) (fun _ _ _ _ _ => ?_) (fun _ _ _ => rfl) (fun _ => rfl)
      · rw [rR_1, rSend_1 (by decide)]
      · rw [rR_1, rSend_1 (by decide)]
      all_goals simp [mSnd, mI, mL]
    · exact hcc.same (hrow 21 (by decide)) (hrow 22 (by decide)) (hrow 24 (by decide)) (fun _ => by simp [mSnd, mI, mL]) (fun _ => by simp [mSnd, mI, mL]) (fun _ => rfl) (fun _ => by simp [mSnd, mI, mL])
  rw [cif_neg k0, cif_neg k0]
  by_cases k2 : kd = 2
  · rw [cif_pos k2, cif_pos k2]
    have hl' : m.2.2.length + 1 ≤ 2000 := by unfold mLeads at hl; simp only at hl; rw [cif_neg u, cif_pos (Or.inr k2)] at hl; omega
    refine ⟨⟨fun _ _ => hm.rm (by omega), fun _ _ q => absurd k2 q⟩, ?_⟩
    generalize hs1 : rR σ 18 (mixr (31 * r) n (fun i => mx (σ.2 18 (31 * r + i)) (σ.2 6 (31 * s + i))) (σ.2 18)) = σ1
    have g : ∀ A, ¬ A = 18 → σ1.2 A = σ.2 A := fun A h1 => by rw [← hs1]; simp [rR_2, h1]
    have eS : rRepS n (nI s) σ = rSend σ1 (fr (σ1.2 7)) 3 (nI r) (nI sn) (nI rd) := by
      unfold rRepS
      rw [es, c4, c3, c5, itr_max hn (by omega) hs (by decide), hs1]
    rw [eS]
    have a1 : RA n σ1 (mUp r 1 v m) := by
      rw [← hs1]
      unfold mUp
      refine ha.rowK hn 18 1 r (fun i hii => ?_) (by simp)
      have hcu := hi.cur x3 hii
      have := x5 (Or.inr k2) i hii
      have := hi.len hii
      rw [(ha.2.2.2.1 r x3 i hii).1, c6 (Or.inr k2) i hii, mx_nI (by omega) (by omega)]
    have m1 : RM n σ1 s (nI kd) m.2.2 := hm.same (by rw [← hs1]; rfl) (fun f _ _ => g f (by omega))
    have hrow : ∀ A, 8 < A → (rSend σ1 (fr (σ1.2 7)) 3 (nI r) (nI sn) (nI rd)).2 A = σ1.2 A := fun A hA => rSend_2 (by omega)
    refine ⟨?_, m1.snd0 (by omega) (3, r, sn, rd, fun _ => 0) nJ3 rfl rfl rfl (by simp), ?_⟩
    · refine RA.msame (m := mUp r 1 v m) (a1.same ?_ ?_ (fun A hA => hrow A (by have := hA.1; omega))) ?_ ?_ (fun _ _ _ _ => ?_) (fun _ _ _ _ _ => ?_) (fun _ _ _ => rfl) (fun _ => rfl)
      · rw [rSend_1 (by decide)]
      · rw [rSend_1 (by decide)]
      all_goals simp [mSnd, mI, mL]
    · exact hcc.same ((hrow 21 (by decide)).trans (g 21 (by decide))) ((hrow 22 (by decide)).trans (g 22 (by decide))) ((hrow 24 (by decide)).trans (g 24 (by decide))) (fun _ => by simp [mSnd, mUp, mI, mL, mR]) (fun _ => by simp [mSnd, mUp, mI, mL, mR]) (fun _ => by simp [mSnd, mUp, mI, mL, mR]) (fun _ => by simp [mSnd, mUp, mI, mL, mR])
  rw [cif_neg k2, cif_neg k2]
  have hcn := F_cnt ha hi hM x3 hn hs x1 k0 k2 (by omega) c2 c4 c5
  by_cases w : mWait r m kd rd
  · rw [cif_pos w, cif_pos (hcn.mpr ⟨u, w⟩)]
    have hk3 : kd = 1 ∨ kd = 3 := by omega
    have hph : kd = 1 ↔ m.1 2 r 7 = 1 := by rcases w.2 with w | w <;> omega
    have h1 := h0.h1 (s0 := sn) hi hn x3 rfl hs c4 hk3 c2 hph (fun q => c6 (Or.inl q)) (fun q i hii => by have := x5 (Or.inl q) i hii; have := hi.len hii; omega)
    have h2 := h1.hr2 (mH1_inv hi hx' k0 k2 w) hn x3 (t := m.1 2 r 10) (by rw [mH1_e2 r 10 (by decide)]) (by rw [mH1_l, mLeads_h u k0 k2 w]; exact hl)
    refine ⟨⟨fun _ q => by omega, fun _ _ _ _ => h2.1⟩, ?_⟩
    unfold rHr
    rw [es, c4]
    exact h2.2
  · rw [cif_neg w, cif_neg (fun q => w (hcn.mp q).2)]
    exact ⟨⟨fun _ q => by omega, fun _ _ _ q => absurd (hcn.mp q).2 w⟩, h0⟩
theorem rOff_eq {a mn : Nat} {σ : RS} (ha : a < mn) (hm : mn ≤ 2000) : rOff a mn σ = rI (rI (rI (rR σ 8 (mixr a (mn - (a + 1)) (fun i => σ.2 8 (a + 1 + i)) (σ.2 8))) 9 (σ.1 9 - 1)) 11 (σ.1 11 + 1)) 12 (σ.1 12 + 1) := by
  unfold rOff
  rw [itr_sh (by omega), rR_1]
theorem RR.off {n a : Nat} {σ : RS} {m : MS} {x : Ms} (h : RR n σ 2001 0 m) (hx : m.2.2[a]? = some x) : RR n (rOff a m.2.2.length σ) (rSl σ a) (nI x.1) (mOff a m) ∧ rMsg n (rOff a m.2.2.length σ) (rSl σ a) x ∧ rSl σ a < 2001 := by
  have hal : a < m.2.2.length := (List.getElem?_eq_some_iff.mp hx).1
  obtain ⟨ha, hm, hcc⟩ := h
  rw [rOff_eq hal hm.1]
  have hmo := hm.off (τ := rI (rI (rI (rR σ 8 (mixr a (m.2.2.length - (a + 1)) (fun i => σ.2 8 (a + 1 + i)) (σ.2 8))) 9 (σ.1 9 - 1)) 11 (σ.1 11 + 1)) 12 (σ.1 12 + 1)) hx (by simp [rI_1]) (by simp [rI_2, rR_2]) (fun f _ _ => by rw [rI_2, rI_2, rI_2, rR_2, if_neg (by omega)])
  refine ⟨⟨?_, hmo.1, ?_⟩, hmo.2⟩
  · unfold mOff
    refine RA.mom ?_ (by rw [ha.1.2, nI_1])
    refine RA.skipI (RA.skipI ?_ (by decide) (by decide)) (by decide) (by decide)
    refine RA.msame (m := m) (ha.skipR (by unfold rTk; omega)) ?_ ?_ (fun _ _ _ _ => ?_) (fun _ _ _ _ _ => ?_) (fun _ _ _ => rfl) (fun _ => rfl)
    all_goals simp [mI, mL]
  · exact hcc.same (by simp [rI_2, rR_2]) (by simp [rI_2, rR_2]) (by simp [rI_2, rR_2]) (fun _ => by simp [mOff, mI, mL]) (fun _ => by simp [mOff, mI, mL]) (fun _ => rfl) (fun _ => by simp [mOff, mI, mL])
/-- the reference's come, by the plain machine -/
theorem RR.come {n a : Nat} {σ : RS} {m : MS} (h : RR n σ 2001 0 m) (hi : mInv n m) (hn : n ≤ 31) (hM : m.1 0 0 5 + 1 < 2 ^ 31) {x : Ms} (hx : m.2.2[a]? = some x) :
    rSl σ a < 2001 ∧ (rOK n σ → σ.2 8 (nI a).toNatClampNeg = nI (rSl σ a)) ∧ (∀ q, rWant n (nI (rSl σ a)) σ q → q = nI (mLeads n x m)) ∧
    (¬ 2000 < m.2.2.length - 1 + mLeads n x m → rCOk n (nI (rSl σ a)) (rOff a m.2.2.length σ) ∧ (rCome n (nI (rSl σ a)) (rOff a m.2.2.length σ)).2 2 (nI (rSl σ a)).toNatClampNeg = nI x.1 ∧ RR n (rCome n (nI (rSl σ a)) (rOff a m.2.2.length σ)) 2001 0 (mCome n a x m)) := by
  have hal : a < m.2.2.length := (List.getElem?_eq_some_iff.mp hx).1
  have hin : x ∈ m.2.2 := List.mem_of_getElem? hx
  have hbx := hi.2.2.1.2.2 x hin
  have ho := h.off hx
  have hrd : x.2.2.2.1 < 2 ^ 31 := by
    have := (hi.1.2.1 (mAsker x) (mAsker_lt hbx.2.1 hbx.2.2.1)).2.2.2.2.2.1
    have := hbx.2.2.2.1
    omega
  have hl1 := h.2.1.1
  refine ⟨ho.2.2, fun ok => ?_, fun q hq => F_want h.1 h.2.2 hi (by omega) hn ho.2.2 hbx.1 hbx.2.2.1 hrd (h.2.1.2.2.2.2.2.1 a x hx) hq, fun hro => ?_⟩
  · rw [nI_clamp (by omega)]
    obtain ⟨j, hj, e⟩ := vp_in_of (ok.at 8 rfl a) (by decide)
    unfold rSl
    rw [e, nI_clamp (by omega)]
  · have hoff5 : (mOff a m).1 0 0 5 < 2 ^ 31 := by simp [mOff, mI, mL]; omega
    have hoffl : (mOff a m).2.2.length = m.2.2.length - 1 := by simp only [mOff, mI, mL]; rw [List.length_eraseIdx, if_pos hal]
    have hl' : (mOff a m).2.2.length + mLeads n x (mOff a m) ≤ 2000 := by rw [mOff_leads, hoffl]; omega
    have hmid := ho.1.mid (mOff_inv hi) (mOff_fr hi) hn hoff5 ho.2.2 (mOff_msg hi hx) ho.2.1 hl'
    have es := nI_clamp (show rSl σ a < 2 ^ 31 by have := ho.2.2; omega)
    refine ⟨hmid.1, ?_, ?_⟩
    · unfold rCome
      rw [es, rA_2, if_neg (by decide)]
      exact (hmid.2.2.1.2.2.2.2.2.2 ho.2.2).2
    · unfold rCome mCome
      rw [es]
      exact ⟨hmid.2.1.skip (by unfold rTk; omega), hmid.2.2.1.done ho.2.2, hmid.2.2.2.same (by simp [rA_2]) (by simp [rA_2]) (by simp [rA_2]) (fun _ => rfl) (fun _ => rfl) (fun _ => rfl) (fun _ => rfl)⟩
theorem RR.crash {n k : Nat} {σ : RS} {m : MS} (h : RR n σ 2001 0 m) : RR n (rI (rA σ 13 k 1) 12 (σ.1 12 + 1)) 2001 0 (mCrash k m) := by
  obtain ⟨ha, hm, hcc⟩ := h
  refine ⟨?_, hm.same (by simp [rI_1, rA_1]) (fun f h1 h2 => ?_), hcc.same (by simp [rI_2, rA_2]) (by simp [rI_2, rA_2]) (by simp [rI_2, rA_2]) (fun _ => by simp [mCrash, mI]) (fun _ => by simp [mCrash, mI]) (fun _ => rfl) (fun _ => by simp [mCrash, mI])⟩
  · unfold mCrash
    exact RA.mom ha.down (by rw [ha.1.2, nI_1])
  · rw [rI_2, rA_2, if_neg (by omega)]
theorem F_go {n k : Nat} {σ : RS} {m : MS} (h : RR n σ 2001 0 m) (hi : mInv n m) (hn : n ≤ 31) (hk : k < n) : (σ.2 13 k = 0 ∧ σ.2 14 k = 0 ∧ ¬ σ.1 37 = 511 ∧ ¬ 2000 < σ.1 9 + nI n) ↔ mGo n k m := by
  obtain ⟨ha, hm, hcc⟩ := h
  have hl := hm.1
  have h5 := hi.1.1
  have hak := (hi.1.2.1 k hk).2.1
  unfold mGo
  rw [F_dn ha hk, F_ph ha hi hk 0 (by decide) nJ0, ha.1.1, hm.2.1, nI_add, show (2000 : Int32) = nI 2000 from nI_2000.symm, nI_ltI (by decide) (by omega), show (511 : Int32) = nI 511 from nI_511.symm, nI_eq (by omega) (by decide)]
  omega
theorem RR.beg {n k : Nat} {σ : RS} {m : MS} (h : RR n σ 2001 0 m) (hi : mInv n m) (hn : n ≤ 31) (hk : k < n) (hg : mGo n k m) {kd a b : Nat} {q1 q2 q3 : Int32} (e1 : q1 = nI kd) (e2 : q2 = nI a) (e3 : q3 = nI b) : rRm σ n ∧ σ.1 37 + 1 = nI (m.1 0 0 3 + 1) ∧ RR n (rBeg n (nI k) q1 q2 q3 σ) 2001 0 (mBeg n k kd a b m) := by
  obtain ⟨ha, hm, hcc⟩ := h
  obtain ⟨g1, g2, g3, g4⟩ := hg
  have ek := nI_clamp (show k < 2 ^ 31 by omega)
  have e37 : σ.1 37 + 1 = nI (m.1 0 0 3 + 1) := by rw [ha.1.1, nI_1]
  refine ⟨hm.rm g4, e37, ?_⟩
  rw [mBeg_eq]
  unfold rBeg
  rw [itr_zero hn (by omega), ek, e37, nI_clamp (show m.1 0 0 3 + 1 < 2 ^ 31 by omega)]
  obtain ⟨x, nn, oo, kk, vv, dd, ll, ff⟩ := ha
  have hff := ff (m.1 0 0 3 + 1) (by omega) (by omega)
  generalize ho : m.1 0 0 3 + 1 = o at *
  have hmo : σ.1 12 + 1 = nI (m.1 0 0 5 + 1) := by rw [x.2, nI_1]
  have hl : (mNew0 k kd a b m).2.2 = m.2.2 := rfl
  refine RR.col ?_ (RM.same (σ := σ) hm ?_ (fun f h1 h2 => ?_)) (fun k' hk' e => ?_) ?_ hk hn g4
  · refine ⟨⟨?_, ?_⟩, fun k' hk' => ?_, fun o' h1 h2 => ?_, fun k' hk' i hii => ?_, fun o' h1 h2 i hii => ?_, fun k' hk' => ?_, fun k' hk' p h1 hp => ?_, fun o' h1 h2 => ?_⟩
    · simp [rR_1, rA_1, rI_1, mNew0, ho]
    · simp [rR_1, rA_1, rI_1, mNew0, hmo]
    · have := nn k' hk'
      by_cases e : k' = k
      · subst e; simp [rR_2, rA_2, rI_2, mNew0, upd, this, ho]
      · simp [rR_2, rA_2, rI_2, mNew0, upd, this, e]
    · have hb : (mNew0 k kd a b m).1 0 0 3 = o := by simp [mNew0, ho]
      rw [hb] at h2
      by_cases e : o' = o
      · subst e
        simp [rR_2, rA_2, rI_2, mNew0, upd, ho, e1, e2, e3, hmo, hff.1, hff.2.1, nJ0, nJm]
      · have := oo o' h1 (by omega)
        simp [rR_2, rA_2, rI_2, mNew0, upd, ho, e, this]
    · have := kk k' hk' i hii
      by_cases e : k' = k
      · subst e
        simp [rR_2, rA_2, rI_2, mNew0, this, mixr_in hii, nJ0]
      · simp [rR_2, rA_2, rI_2, mNew0, this, e, mixr_ne e hn (show i < 31 by omega)]
    · have hb : (mNew0 k kd a b m).1 0 0 3 = o := by simp [mNew0, ho]
      rw [hb] at h2
      by_cases e : o' = o
      · subst e
        simp [rR_2, rA_2, rI_2, mNew0, ho]
        rw [hff.2.2 i hii, nJ0]
      · have := vv o' h1 (by omega) i hii
        simp [rR_2, rA_2, rI_2, mNew0, ho, e, this]
    · have := dd k' hk'
      simp [rR_2, rA_2, rI_2, mNew0, this]
    · have := ll k' hk' p h1 (by simpa [mNew0] using hp)
      simp [rR_2, rA_2, rI_2, mNew0, this]
    · have hb : (mNew0 k kd a b m).1 0 0 3 = o := by simp [mNew0, ho]
      rw [hb] at h1
      have := ff o' (by omega) h2
      simp [rR_2, rA_2, rI_2, this.1, this.2.1]
      exact this.2.2
  · simp [rR_1, rA_1, rI_1]
  · simp only [rR_2, rA_2, rI_2]
    repeat rw [if_neg (by omega)]
  · have hak := hi.1.2.1 k' hk'
    refine (hcc k' hk').mv (fun i _ => ?_) (fun i _ => ?_) ?_ ?_ ?_ ?_ (fun p => ?_)
    · simp [rR_2, rA_2, rI_2]
    · simp [rR_2, rA_2, rI_2]
    · simp [rR_2, rA_2, rI_2, upd, e]
    · simp [mNew0]
    · simp [mNew0, e]
    · simp [mNew0]
    · have : ¬ m.1 2 k' 10 = o := by have := hak.2.2.1; omega
      simp [mNew0, ho, this]
  · simp [rR_2, rA_2, rI_2, upd, mNew0, ho]
