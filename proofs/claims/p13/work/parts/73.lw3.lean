section ACT
variable {p : Program} {l : Launch} {e : Env} {s : State} {m : MethodId} {below : List Frame} {meth : Method} {c : Code} {b : Nat} {D : va_G} {cI cZ cN cO cL : ClassId} {H : Heap} {locs : List Loc} {cells slots : Nat} {Q : State → Prop} {ls : Array Slot} {pc idx : Nat} {x n mm oo : Nat} {d : Nat → Nat} {M M2 : MS} {th : Int32} {fo : Nat → Int64}
set_option maxHeartbeats 4000000 in
set_option maxRecDepth 100000 in
theorem L_update {p0 p1 p2 p3 : Int32} (C : LC p l s m c b D cI cZ cN cO cL) (hls : ls.size = 7) (w : LW D cI cZ cN cO cL s x n M M2 th mm d oo fo H locs) (hi : mInv n M) (hn : n ≤ 31) (hn3 : 3 ≤ n) (hM5 : M.1 0 0 5 + 2000 < 2 ^ 31) (h1 : Cond.methodLink RL idx yL_update ∈ gw) (hdg : decode code pc = .ok (.invokestatic idx, 3)) (hf : cells + 2 ≤ room_1.cells ∧ slots + 43 ≤ room_1.slots)
    (kk : ∀ (H1 : Heap) (locs1 : List Loc) (fo1 : Nat → Int64), ((tUpd n p0 p1) = 0 → fo1 0 = (rActB n 0 p0 M).toInt64) → LW D cI cZ cN cO cL s x n (mActB n (tUpd n p0 p1) p0 p1 p2 p3 M) M2 th mm d oo fo1 H1 locs1 → W p l e room_1 s m #[Value.ref b] below meth c H1 locs1 (cells + 2) (slots + 43) Q (F0 m (pc + 3) ls [.int (nI (tUpd n p0 p1))])) : W p l e room_1 s m #[Value.ref b] below meth c H locs cells slots Q (F0 m pc ls [.ref oo, .int p3, .int p2, .int p1, .int p0, .ref x]) := by
  by_cases hy : isN n p0
  · by_cases hbad : p1 < 0 ∨ ¬ p1 ≤ 3
    · have eT : tUpd n p0 p1 = 2 := by unfold tUpd; rw [cif_pos hy, cif_pos hbad]
      have eM : mActB n (tUpd n p0 p1) p0 p1 p2 p3 M = M := by unfold mActB; rw [cif_neg (fun q => by omega)]
      rw [eM, eT] at kk
      exact L_update_bad C hls w hy hbad h1 hdg hf (fun H1 locs1 w1 => kk H1 locs1 fo (fun q => absurd q (by decide)) w1)
    · have eT : tUpd n p0 p1 = 0 := by unfold tUpd; rw [cif_pos hy, cif_neg hbad]
      rw [eT] at kk
      obtain ⟨j, hj, rfl⟩ := isN_of (by omega) hy
      have ej := nI_clamp (show j < 2 ^ 31 by omega)
      have hkd := kind_3 (fun q => hbad (Or.inl q)) (Classical.byContradiction (fun q => hbad (Or.inr q)))
      by_cases hg : mGo n j M
      · have eM : mActB n 0 (nI j) p1 p2 p3 M = mBeg n j p1.toNatClampNeg (iN p2) (iN p3) M := by unfold mActB; rw [ej, cif_pos ⟨rfl, hg⟩]
        have eR : rActB n 0 (nI j) M = nI (M.1 0 0 3 + 1) := by unfold rActB; rw [ej, cif_pos ⟨rfl, hg⟩]
        rw [eM, eR] at kk
        refine L_update_ret (mc := 2) (ms := 12 + n) (v := nI (M.1 0 0 3 + 1)) C hls w (fun E σ ok hCR => ?_) (by omega) (by omega) h1 hdg hf (fun H1 locs1 fo1 hf1 w1 => kk H1 locs1 fo1 (fun _ => hf1) w1)
        have hb := hCR.beg (k := j) (kd := p1.toNatClampNeg) (a := iN p2) (b := iN p3) (q1 := p1) (q2 := p2) (q3 := p3) hj hkd.1 (nI_iN p2).symm (nI_iN p3).symm hg.2.2.2
        refine (k_update_go l D cI cZ cN cO (cAd s.heap.size mm d oo) E n (M.1 0 0 3) σ j p1 p2 p3 ok hj (fun q => hbad (Or.inl q)) (Classical.byContradiction (fun q => hbad (Or.inr q))) ((E_go hCR hi hn hj).mpr hg) (by rw [hCR.2.2.2.2.ln]; exact hg.2.2.2)).up (fun _ _ q => q) (fun a s o t q => ⟨?_, q.2⟩)
        obtain ⟨⟨r, u, g1, g2, E1, g3, g4, g5⟩, -⟩ := q
        exact ⟨r, u, g1, g2, E1, _, _, ⟨g3, hb.1.symm, g5, hb⟩, g4⟩
      · have eM : mActB n 0 (nI j) p1 p2 p3 M = M := by unfold mActB; rw [ej, cif_neg (fun q => hg q.2)]
        have eR : rActB n 0 (nI j) M = -1 := by unfold rActB; rw [ej, cif_neg (fun q => hg q.2)]
        rw [eM, eR] at kk
        refine L_update_ret (mc := 0) (ms := 0) (v := -1) C hls w (fun E σ ok hCR => ?_) (by omega) (by omega) h1 hdg hf (fun H1 locs1 fo1 hf1 w1 => kk H1 locs1 fo1 (fun _ => hf1) w1)
        refine (k_update_ref l D cI cZ cN cO (cAd s.heap.size mm d oo) E n (M.1 0 0 3) σ j p1 p2 p3 ok hj (fun q => hbad (Or.inl q)) (Classical.byContradiction (fun q => hbad (Or.inr q))) (fun q => hg ((E_go hCR hi hn hj).mp q))).up (fun _ _ q => ⟨q.1, q.2.1⟩) (fun a s o t q => ⟨?_, q.2⟩)
        obtain ⟨⟨r, u, g1, g2, g4, g5⟩, -⟩ := q
        exact ⟨r, u, g1, g2, E, _, _, ⟨rfl, rfl, g5, hCR⟩, g4⟩
  · have eT : tUpd n p0 p1 = 1 := by unfold tUpd; rw [cif_neg hy]
    have eM : mActB n (tUpd n p0 p1) p0 p1 p2 p3 M = M := by unfold mActB; rw [cif_neg (fun q => by omega)]
    rw [eM, eT] at kk
    exact L_update_no C hls w hy h1 hdg hf (fun H1 locs1 w1 => kk H1 locs1 fo (fun q => absurd q (by decide)) w1)
set_option maxHeartbeats 4000000 in
set_option maxRecDepth 100000 in
theorem L_query {p0 p1 p2 : Int32} (C : LC p l s m c b D cI cZ cN cO cL) (hls : ls.size = 7) (w : LW D cI cZ cN cO cL s x n M M2 th mm d oo fo H locs) (hi : mInv n M) (hn : n ≤ 31) (hn3 : 3 ≤ n) (hM5 : M.1 0 0 5 + 2000 < 2 ^ 31) (h1 : Cond.methodLink RL idx yL_query ∈ gw) (hdg : decode code pc = .ok (.invokestatic idx, 3)) (hf : cells + 2 ≤ room_1.cells ∧ slots + 43 ≤ room_1.slots)
    (kk : ∀ (H1 : Heap) (locs1 : List Loc) (fo1 : Nat → Int64), ((tQry n p0 p1) = 0 → fo1 0 = (rActB n 0 p0 M).toInt64) → LW D cI cZ cN cO cL s x n (mActB n (tQry n p0 p1) p0 p1 p2 0 M) M2 th mm d oo fo1 H1 locs1 → W p l e room_1 s m #[Value.ref b] below meth c H1 locs1 (cells + 2) (slots + 43) Q (F0 m (pc + 3) ls [.int (nI (tQry n p0 p1))])) : W p l e room_1 s m #[Value.ref b] below meth c H locs cells slots Q (F0 m pc ls [.ref oo, .int p2, .int p1, .int p0, .ref x]) := by
  by_cases hy : isN n p0
  · by_cases hbad : p1 < 10 ∨ ¬ p1 ≤ 15
    · have eT : tQry n p0 p1 = 2 := by unfold tQry; rw [cif_pos hy, cif_pos hbad]
      have eM : mActB n (tQry n p0 p1) p0 p1 p2 0 M = M := by unfold mActB; rw [cif_neg (fun q => by omega)]
      rw [eM, eT] at kk
      exact L_query_bad C hls w hy hbad h1 hdg hf (fun H1 locs1 w1 => kk H1 locs1 fo (fun q => absurd q (by decide)) w1)
    · have eT : tQry n p0 p1 = 0 := by unfold tQry; rw [cif_pos hy, cif_neg hbad]
      rw [eT] at kk
      obtain ⟨j, hj, rfl⟩ := isN_of (by omega) hy
      have ej := nI_clamp (show j < 2 ^ 31 by omega)
      have hkd := kind_15 (fun q => hbad (Or.inl q)) (Classical.byContradiction (fun q => hbad (Or.inr q)))
      by_cases hg : mGo n j M
      · have eM : mActB n 0 (nI j) p1 p2 0 M = mBeg n j p1.toNatClampNeg (iN p2) (iN 0) M := by unfold mActB; rw [ej, cif_pos ⟨rfl, hg⟩]
        have eR : rActB n 0 (nI j) M = nI (M.1 0 0 3 + 1) := by unfold rActB; rw [ej, cif_pos ⟨rfl, hg⟩]
        rw [eM, eR] at kk
        refine L_query_ret (mc := 2) (ms := 12 + n) (v := nI (M.1 0 0 3 + 1)) C hls w (fun E σ ok hCR => ?_) (by omega) (by omega) h1 hdg hf (fun H1 locs1 fo1 hf1 w1 => kk H1 locs1 fo1 (fun _ => hf1) w1)
        have hb := hCR.beg (k := j) (kd := p1.toNatClampNeg) (a := iN p2) (b := iN 0) (q1 := p1) (q2 := p2) (q3 := 0) hj hkd.1 (nI_iN p2).symm (nI_iN 0).symm hg.2.2.2
        refine (k_query_go l D cI cZ cN cO (cAd s.heap.size mm d oo) E n (M.1 0 0 3) σ j p1 p2 ok hj (fun q => hbad (Or.inl q)) (Classical.byContradiction (fun q => hbad (Or.inr q))) ((E_go hCR hi hn hj).mpr hg) (by rw [hCR.2.2.2.2.ln]; exact hg.2.2.2)).up (fun _ _ q => q) (fun a s o t q => ⟨?_, q.2⟩)
        obtain ⟨⟨r, u, g1, g2, E1, g3, g4, g5⟩, -⟩ := q
        exact ⟨r, u, g1, g2, E1, _, _, ⟨g3, hb.1.symm, g5, hb⟩, g4⟩
      · have eM : mActB n 0 (nI j) p1 p2 0 M = M := by unfold mActB; rw [ej, cif_neg (fun q => hg q.2)]
        have eR : rActB n 0 (nI j) M = -1 := by unfold rActB; rw [ej, cif_neg (fun q => hg q.2)]
        rw [eM, eR] at kk
        refine L_query_ret (mc := 0) (ms := 0) (v := -1) C hls w (fun E σ ok hCR => ?_) (by omega) (by omega) h1 hdg hf (fun H1 locs1 fo1 hf1 w1 => kk H1 locs1 fo1 (fun _ => hf1) w1)
        refine (k_query_ref l D cI cZ cN cO (cAd s.heap.size mm d oo) E n (M.1 0 0 3) σ j p1 p2 ok hj (fun q => hbad (Or.inl q)) (Classical.byContradiction (fun q => hbad (Or.inr q))) (fun q => hg ((E_go hCR hi hn hj).mp q))).up (fun _ _ q => ⟨q.1, q.2.1⟩) (fun a s o t q => ⟨?_, q.2⟩)
        obtain ⟨⟨r, u, g1, g2, g4, g5⟩, -⟩ := q
        exact ⟨r, u, g1, g2, E, _, _, ⟨rfl, rfl, g5, hCR⟩, g4⟩
  · have eT : tQry n p0 p1 = 1 := by unfold tQry; rw [cif_neg hy]
    have eM : mActB n (tQry n p0 p1) p0 p1 p2 0 M = M := by unfold mActB; rw [cif_neg (fun q => by omega)]
    rw [eM, eT] at kk
    exact L_query_no C hls w hy h1 hdg hf (fun H1 locs1 w1 => kk H1 locs1 fo (fun q => absurd q (by decide)) w1)
set_option maxHeartbeats 4000000 in
set_option maxRecDepth 100000 in
theorem L_deliver {p0 : Int32} (C : LC p l s m c b D cI cZ cN cO cL) (hls : ls.size = 7) (w : LW D cI cZ cN cO cL s x n M M2 th mm d oo fo H locs) (hi : mInv n M) (hn : n ≤ 31) (hn3 : 3 ≤ n) (hM5 : M.1 0 0 5 + 2000 < 2 ^ 31) (h1 : Cond.methodLink RL idx yL_deliver ∈ gw) (hdg : decode code pc = .ok (.invokestatic idx, 3)) (hf : cells + 2 ≤ room_1.cells ∧ slots + 43 ≤ room_1.slots)
    (kk : ∀ (H1 : Heap) (locs1 : List Loc) (fo1 : Nat → Int64), (tDel p0 M = 0 → fo1 0 = (mDel n p0 M).2.toInt64) → LW D cI cZ cN cO cL s x n (mDel n p0 M).1 M2 th mm d oo fo1 H1 locs1 → W p l e room_1 s m #[Value.ref b] below meth c H1 locs1 (cells + 2) (slots + 43) Q (F0 m (pc + 3) ls [.int (nI (tDel p0 M))])) : W p l e room_1 s m #[Value.ref b] below meth c H locs cells slots Q (F0 m pc ls [.ref oo, .int p0, .ref x]) := by
  by_cases hy : ¬ p0 < 0 ∧ p0 < nI M.2.2.length
  · have eT : tDel p0 M = 0 := by unfold tDel; rw [cif_pos hy]
    obtain ⟨a, ha, rfl⟩ := nI_of hy.1
    have ej := nI_clamp ha
    obtain ⟨E0, σ0, hE0, -, -, ok0, hCR0⟩ := w.1
    have hlen := hCR0.2.2.2.2.1
    have hal : a < M.2.2.length := (nI_ltI ha (by omega)).mp hy.2
    obtain ⟨y, hx⟩ : ∃ y, M.2.2[a]? = some y := ⟨_, List.getElem?_eq_getElem hal⟩
    by_cases hro : 2000 < M.2.2.length - 1 + mLeads n y M
    · have eM : mDel n (nI a) M = (M, -1) := by unfold mDel; rw [cif_pos hy, ej, hx]; exact cif_pos hro
      rw [eM, eT] at kk
      refine L_deliver_ret (mc := 0) (ms := 0) (v := -1) C hls w (fun E σ ok hCR => ?_) (by omega) (by omega) h1 hdg hf (fun H1 locs1 fo1 hf1 w1 => kk H1 locs1 fo1 (fun _ => hf1) w1)
      obtain ⟨g1, g2, g3, g4, g5, g6, g7, g8⟩ := hCR.come (a := a) hi hn hn3 (by omega) hx
      refine (k_deliver_ref l D cI cZ cN cO (cAd s.heap.size mm d oo) E n (M.1 0 0 3) σ a (slN σ a) y.2.2.1 ok g1 rfl g2 g3 g4 (g7.mpr hro)).up (fun _ _ q => ⟨q.1, q.2.1⟩) (fun a s o t q => ⟨?_, q.2⟩)
      obtain ⟨⟨r, u, g1, g2, g4, g5⟩, -⟩ := q
      exact ⟨r, u, g1, g2, E, _, _, ⟨rfl, rfl, g5, hCR⟩, g4⟩
    · have eM : mDel n (nI a) M = (mCome n a y M, nI y.1) := by unfold mDel; rw [cif_pos hy, ej, hx]; exact cif_neg hro
      rw [eM, eT] at kk
      refine L_deliver_ret (mc := 0) (ms := 0) (v := nI y.1) C hls w (fun E σ ok hCR => ?_) (by omega) (by omega) h1 hdg hf (fun H1 locs1 fo1 hf1 w1 => kk H1 locs1 fo1 (fun _ => hf1) w1)
      obtain ⟨g1, g2, g3, g4, g5, g6, g7, g8⟩ := hCR.come (a := a) hi hn hn3 (by omega) hx
      have g9 := g8 hro
      refine (k_deliver_go l D cI cZ cN cO (cAd s.heap.size mm d oo) E n (M.1 0 0 3) σ a (slN σ a) y.2.2.1 ok g1 rfl g2 g3 g4 (fun q => hro (g7.mp q)) g9.1).up (fun _ _ q => ⟨q.1, q.2.1⟩) (fun a s o t q => ⟨?_, q.2⟩)
      obtain ⟨⟨r, u, f1, f2, f4, f5⟩, -⟩ := q
      exact ⟨r, u, f1, f2.trans g5, E, _, _, ⟨rfl, g9.2.1.symm, f5, g9.2⟩, f4⟩
  · have eT : tDel p0 M = 1 := by unfold tDel; rw [cif_neg hy]
    have eM : mDel n p0 M = (M, 0) := by unfold mDel; rw [cif_neg hy]
    rw [eM, eT] at kk
    exact L_deliver_no C hls w (fun σ hCR q => hy ⟨q.1, by rw [← hCR.2.2.2.2.2.1]; exact q.2⟩) h1 hdg hf (fun H1 locs1 w1 => kk H1 locs1 fo (fun q => absurd q (by decide)) w1)
set_option maxHeartbeats 4000000 in
set_option maxRecDepth 100000 in
theorem L_calm {p0 : Int32} (C : LC p l s m c b D cI cZ cN cO cL) (hls : ls.size = 7) (w : LW D cI cZ cN cO cL s x n M M2 th mm d oo fo H locs) (hi : mInv n M) (hn : n ≤ 31) (hn3 : 3 ≤ n) (hM5 : M.1 0 0 5 + 2000 < 2 ^ 31) (h1 : Cond.methodLink RL idx yL_calm ∈ gw) (hdg : decode code pc = .ok (.invokestatic idx, 3)) (hf : cells + 2 ≤ room_1.cells ∧ slots + 43 ≤ room_1.slots)
    (kk : ∀ (H1 : Heap) (locs1 : List Loc) (fo1 : Nat → Int64), (tCal p0 = 0 → fo1 0 = (mCal n p0 M).2.toInt64) → LW D cI cZ cN cO cL s x n (mCal n p0 M).1 M2 th mm d oo fo1 H1 locs1 → W p l e room_1 s m #[Value.ref b] below meth c H1 locs1 (cells + 2) (slots + 43) Q (F0 m (pc + 3) ls [.int (nI (tCal p0))])) : W p l e room_1 s m #[Value.ref b] below meth c H locs cells slots Q (F0 m pc ls [.ref oo, .int p0, .ref x]) := by
  by_cases hbad : p0 < 0 ∨ ¬ p0 ≤ 2000
  · have eT : tCal p0 = 1 := by unfold tCal; rw [cif_pos hbad]
    have eM : mCal n p0 M = (M, 0) := by unfold mCal; rw [cif_pos hbad]
    rw [eM, eT] at kk
    exact L_calm_bad C hls w hbad h1 hdg hf (fun H1 locs1 w1 => kk H1 locs1 fo (fun q => absurd q (by decide)) w1)
  · have eT : tCal p0 = 0 := by unfold tCal; rw [cif_neg hbad]
    have eM : mCal n p0 M = ((mCalm n p0.toNatClampNeg M).1, nI (mCalm n p0.toNatClampNeg M).2) := by unfold mCal; rw [cif_neg hbad]
    obtain ⟨j, hj, e⟩ := nI_of2 (M := 2000) (n := 2000) (by decide) (fun q => hbad (Or.inl q)) (Classical.byContradiction (fun q => hbad (Or.inr q)))
    rw [eM, eT] at kk
    subst e
    rw [nI_clamp (show j < 2 ^ 31 by omega)] at kk
    refine L_calm_ret (mc := 0) (ms := 0) (v := nI (mCalm n j M).2) C hls w (fun E σ ok hCR => ?_) (by omega) (by omega) h1 hdg hf (fun H1 locs1 fo1 hf1 w1 => kk H1 locs1 fo1 (fun _ => hf1) w1)
    refine (k_calm l D cI cZ cN cO (cAd s.heap.size mm d oo) E n (M.1 0 0 3) σ M j ok hCR hi (by omega) hj).up (fun _ _ q => ⟨q.1, q.2.1⟩) (fun a s o t q => ⟨?_, q.2⟩)
    obtain ⟨⟨r, u, f1, f2, σ1, f4, f5, f6⟩, -⟩ := q
    exact ⟨r, u, f1, f2, E, _, σ1, ⟨rfl, f6.1.symm, f5, f6⟩, f4⟩
set_option maxHeartbeats 4000000 in
set_option maxRecDepth 100000 in
theorem L_crash {p0 : Int32} (C : LC p l s m c b D cI cZ cN cO cL) (hls : ls.size = 7) (w : LW D cI cZ cN cO cL s x n M M2 th mm d oo fo H locs) (hi : mInv n M) (hn : n ≤ 31) (hn3 : 3 ≤ n) (hM5 : M.1 0 0 5 + 2000 < 2 ^ 31) (h1 : Cond.methodLink RL idx yL_crash ∈ gw) (hdg : decode code pc = .ok (.invokestatic idx, 3)) (hf : cells + 2 ≤ room_1.cells ∧ slots + 43 ≤ room_1.slots)
    (kk : ∀ (H1 : Heap) (locs1 : List Loc) (fo1 : Nat → Int64), (tCra n p0 = 0 → fo1 0 = (if (mCra n p0 M).2 = 0 then 0 else 1)) → LW D cI cZ cN cO cL s x n (mCra n p0 M).1 M2 th mm d oo fo1 H1 locs1 → W p l e room_1 s m #[Value.ref b] below meth c H1 locs1 (cells + 2) (slots + 43) Q (F0 m (pc + 3) ls [.int (nI (tCra n p0))])) : W p l e room_1 s m #[Value.ref b] below meth c H locs cells slots Q (F0 m pc ls [.ref oo, .int p0, .ref x]) := by
  by_cases hy : isN n p0
  · have eT : tCra n p0 = 0 := by unfold tCra; rw [cif_pos hy]
    obtain ⟨j, hj, rfl⟩ := isN_of (by omega) hy
    have ej := nI_clamp (show j < 2 ^ 31 by omega)
    have hup := (hi.1.2.1 j hj).2.2.2.2.2.2.1
    by_cases hd0 : M.1 2 j 6 = 0
    · have eM : mCra n (nI j) M = (M, 0) := by unfold mCra; rw [ej, cif_neg (fun q => q.2 hd0)]
      rw [eM, eT] at kk
      refine L_crash_ret (mc := 0) (ms := 0) (v := 0) C hls w (fun E σ ok hCR => ?_) (by omega) (by omega) h1 hdg hf (fun H1 locs1 fo1 hf1 w1 => kk H1 locs1 fo1 (fun _ => hf1) w1)
      refine (k_crash_was l D cI cZ cN cO (cAd s.heap.size mm d oo) E n (M.1 0 0 3) σ j ok hj (by rw [hCR.nd hj 6 (by decide) (by decide), hd0, nI_0])).up (fun _ _ q => ⟨q.1, q.2.1⟩) (fun a s o t q => ⟨?_, q.2⟩)
      obtain ⟨⟨r, u, g1, g2, g4, g5⟩, -⟩ := q
      exact ⟨r, u, g1, g2, E, _, _, ⟨rfl, rfl, g5, hCR⟩, g4⟩
    · have eM : mCra n (nI j) M = (mCrash j M, 1) := by unfold mCra; rw [ej, cif_pos ⟨hy, hd0⟩]
      rw [eM, eT] at kk
      refine L_crash_ret (mc := 0) (ms := 0) (v := 1) C hls w (fun E σ ok hCR => ?_) (by omega) (by omega) h1 hdg hf (fun H1 locs1 fo1 hf1 w1 => kk H1 locs1 fo1 (fun _ => hf1) w1)
      refine (k_crash_go l D cI cZ cN cO (cAd s.heap.size mm d oo) E n (M.1 0 0 3) σ j ok hj (by rw [hCR.nd hj 6 (by decide) (by decide), show M.1 2 j 6 = 1 from by omega, nJ1])).up (fun _ _ q => ⟨q.1, q.2.1⟩) (fun a s o t q => ⟨?_, q.2⟩)
      obtain ⟨⟨r, u, g1, g2, g4, g5⟩, -⟩ := q
      exact ⟨r, u, g1, g2, E, _, _, ⟨rfl, (hCR.crash (k := j)).1.symm, g5, hCR.crash⟩, g4⟩
  · have eT : tCra n p0 = 1 := by unfold tCra; rw [cif_neg hy]
    have eM : mCra n p0 M = (M, 0) := by unfold mCra; rw [cif_neg (fun q => hy q.1)]
    rw [eM, eT] at kk
    exact L_crash_no C hls w hy h1 hdg hf (fun H1 locs1 w1 => kk H1 locs1 fo (fun q => absurd q (by decide)) w1)
end ACT
set_option maxHeartbeats 4000000 in
set_option maxRecDepth 100000 in
theorem t_update (l : Launch) (D : va_G) (cI cZ cN cO : ClassId) (mm : Nat) (d : Nat → Nat) (n : Nat) (σ : RS) (M : MS) (p0 p1 p2 p3 : Int32) (ok : rOK n σ) (hR : RR n σ 2001 0 M) (hi : mInv n M) (hn : n ≤ 31) (hM5 : M.1 0 0 5 + 2000 < 2 ^ 31) : Met l yX4_update (.code yX4_update cX4_update 5 (some .int) :: gw) ({ frames := 4, cells := 0, slots := 0, locals := 99 }) (va_Pc (.ref mm :: [.int p0, .int p1, .int p2, .int p3]) (rH D cI cZ cN cO (rAd mm d) mm d σ)) (va_Qi (fun (r : Int32) (_ : Unit) => (tUpd n p0 p1) = 0 → r = rActB n 0 p0 M) (fun _ t => rZ D cI cZ cN cO mm d n (mActB n (tUpd n p0 p1) p0 p1 p2 p3 M) (nI (tUpd n p0 p1)) t) (rAd mm d)) 0 0 (rAd mm d) := by
  by_cases hy : isN n p0
  · by_cases hbad : p1 < 0 ∨ ¬ p1 ≤ 3
    · have eT : tUpd n p0 p1 = 2 := by unfold tUpd; rw [cif_pos hy, cif_pos hbad]
      have eM : mActB n (tUpd n p0 p1) p0 p1 p2 p3 M = M := by unfold mActB; rw [cif_neg (fun q => by omega)]
      rw [eM, eT]
      refine (q_update_bad l D cI cZ cN cO (rAd mm d) mm d n σ p0 p1 p2 p3 ok hy hbad).up (fun _ _ q => q) (fun a s o t q => ⟨?_, q.2⟩)
      obtain ⟨⟨r, u, g1, g2, g4, g5⟩, -⟩ := q
      exact ⟨r, u, g1, fun q => absurd q (by decide), _, g4, g5, hR.skip1, nJ2⟩
    · have eT : tUpd n p0 p1 = 0 := by unfold tUpd; rw [cif_pos hy, cif_neg hbad]
      rw [eT]
      obtain ⟨j, hj, rfl⟩ := isN_of (by omega) hy
      have ej := nI_clamp (show j < 2 ^ 31 by omega)
      have hkd := kind_3 (fun q => hbad (Or.inl q)) (Classical.byContradiction (fun q => hbad (Or.inr q)))
      by_cases hg : mGo n j M
      · have eM : mActB n 0 (nI j) p1 p2 p3 M = mBeg n j p1.toNatClampNeg (iN p2) (iN p3) M := by unfold mActB; rw [ej, cif_pos ⟨rfl, hg⟩]
        have eR : rActB n 0 (nI j) M = nI (M.1 0 0 3 + 1) := by unfold rActB; rw [ej, cif_pos ⟨rfl, hg⟩]
        rw [eM, eR]
        have hb := (hR.skip1 (v := 0)).beg hi hn hj hg (kd := p1.toNatClampNeg) (a := iN p2) (b := iN p3) (q1 := p1) (q2 := p2) (q3 := p3) hkd.1 (nI_iN p2).symm (nI_iN p3).symm
        refine (q_update_go l D cI cZ cN cO (rAd mm d) mm d n σ (nI j) p1 p2 p3 ok hy (fun q => hbad (Or.inl q)) (Classical.byContradiction (fun q => hbad (Or.inr q))) (by rw [ej]; exact (F_go hR hi hn hj).mpr hg) (hR.2.1.rm hg.2.2.2)).up (fun _ _ q => q) (fun a s o t q => ⟨?_, q.2⟩)
        obtain ⟨⟨r, u, g1, g2, g4, g5⟩, -⟩ := q
        exact ⟨r, u, g1, fun _ => g2.trans (by rw [hR.1.1.1, nI_1]), _, g4, g5, hb.2.2, rBeg_n1.trans nJ0⟩
      · have eM : mActB n 0 (nI j) p1 p2 p3 M = M := by unfold mActB; rw [ej, cif_neg (fun q => hg q.2)]
        have eR : rActB n 0 (nI j) M = -1 := by unfold rActB; rw [ej, cif_neg (fun q => hg q.2)]
        rw [eM, eR]
        refine (q_update_ref l D cI cZ cN cO (rAd mm d) mm d n σ (nI j) p1 p2 p3 ok hy (fun q => hbad (Or.inl q)) (Classical.byContradiction (fun q => hbad (Or.inr q))) (by rw [ej]; exact fun q => hg ((F_go hR hi hn hj).mp q))).up (fun _ _ q => q) (fun a s o t q => ⟨?_, q.2⟩)
        obtain ⟨⟨r, u, g1, g2, g4, g5⟩, -⟩ := q
        exact ⟨r, u, g1, fun _ => g2, _, g4, g5, hR.skip1, nJ0⟩
  · have eT : tUpd n p0 p1 = 1 := by unfold tUpd; rw [cif_neg hy]
    have eM : mActB n (tUpd n p0 p1) p0 p1 p2 p3 M = M := by unfold mActB; rw [cif_neg (fun q => by omega)]
    rw [eM, eT]
    refine (q_update_no l D cI cZ cN cO (rAd mm d) mm d n σ p0 p1 p2 p3 ok hy).up (fun _ _ q => q) (fun a s o t q => ⟨?_, q.2⟩)
    obtain ⟨⟨r, u, g1, g2, g4, g5⟩, -⟩ := q
    exact ⟨r, u, g1, fun q => absurd q (by decide), _, g4, g5, hR.skip1, nJ1⟩
set_option maxHeartbeats 4000000 in
set_option maxRecDepth 100000 in
theorem t_query (l : Launch) (D : va_G) (cI cZ cN cO : ClassId) (mm : Nat) (d : Nat → Nat) (n : Nat) (σ : RS) (M : MS) (p0 p1 p2 : Int32) (ok : rOK n σ) (hR : RR n σ 2001 0 M) (hi : mInv n M) (hn : n ≤ 31) (hM5 : M.1 0 0 5 + 2000 < 2 ^ 31) : Met l yX4_query (.code yX4_query cX4_query 4 (some .int) :: gw) ({ frames := 4, cells := 0, slots := 0, locals := 99 }) (va_Pc (.ref mm :: [.int p0, .int p1, .int p2]) (rH D cI cZ cN cO (rAd mm d) mm d σ)) (va_Qi (fun (r : Int32) (_ : Unit) => (tQry n p0 p1) = 0 → r = rActB n 0 p0 M) (fun _ t => rZ D cI cZ cN cO mm d n (mActB n (tQry n p0 p1) p0 p1 p2 0 M) (nI (tQry n p0 p1)) t) (rAd mm d)) 0 0 (rAd mm d) := by
  by_cases hy : isN n p0
  · by_cases hbad : p1 < 10 ∨ ¬ p1 ≤ 15
    · have eT : tQry n p0 p1 = 2 := by unfold tQry; rw [cif_pos hy, cif_pos hbad]
      have eM : mActB n (tQry n p0 p1) p0 p1 p2 0 M = M := by unfold mActB; rw [cif_neg (fun q => by omega)]
      rw [eM, eT]
      refine (q_query_bad l D cI cZ cN cO (rAd mm d) mm d n σ p0 p1 p2 ok hy hbad).up (fun _ _ q => q) (fun a s o t q => ⟨?_, q.2⟩)
      obtain ⟨⟨r, u, g1, g2, g4, g5⟩, -⟩ := q
      exact ⟨r, u, g1, fun q => absurd q (by decide), _, g4, g5, hR.skip1, nJ2⟩
    · have eT : tQry n p0 p1 = 0 := by unfold tQry; rw [cif_pos hy, cif_neg hbad]
      rw [eT]
      obtain ⟨j, hj, rfl⟩ := isN_of (by omega) hy
      have ej := nI_clamp (show j < 2 ^ 31 by omega)
      have hkd := kind_15 (fun q => hbad (Or.inl q)) (Classical.byContradiction (fun q => hbad (Or.inr q)))
      by_cases hg : mGo n j M
      · have eM : mActB n 0 (nI j) p1 p2 0 M = mBeg n j p1.toNatClampNeg (iN p2) (iN 0) M := by unfold mActB; rw [ej, cif_pos ⟨rfl, hg⟩]
        have eR : rActB n 0 (nI j) M = nI (M.1 0 0 3 + 1) := by unfold rActB; rw [ej, cif_pos ⟨rfl, hg⟩]
        rw [eM, eR]
        have hb := (hR.skip1 (v := 0)).beg hi hn hj hg (kd := p1.toNatClampNeg) (a := iN p2) (b := iN 0) (q1 := p1) (q2 := p2) (q3 := 0) hkd.1 (nI_iN p2).symm (nI_iN 0).symm
        refine (q_query_go l D cI cZ cN cO (rAd mm d) mm d n σ (nI j) p1 p2 ok hy (fun q => hbad (Or.inl q)) (Classical.byContradiction (fun q => hbad (Or.inr q))) (by rw [ej]; exact (F_go hR hi hn hj).mpr hg) (hR.2.1.rm hg.2.2.2)).up (fun _ _ q => q) (fun a s o t q => ⟨?_, q.2⟩)
        obtain ⟨⟨r, u, g1, g2, g4, g5⟩, -⟩ := q
        exact ⟨r, u, g1, fun _ => g2.trans (by rw [hR.1.1.1, nI_1]), _, g4, g5, hb.2.2, rBeg_n1.trans nJ0⟩
      · have eM : mActB n 0 (nI j) p1 p2 0 M = M := by unfold mActB; rw [ej, cif_neg (fun q => hg q.2)]
        have eR : rActB n 0 (nI j) M = -1 := by unfold rActB; rw [ej, cif_neg (fun q => hg q.2)]
        rw [eM, eR]
        refine (q_query_ref l D cI cZ cN cO (rAd mm d) mm d n σ (nI j) p1 p2 ok hy (fun q => hbad (Or.inl q)) (Classical.byContradiction (fun q => hbad (Or.inr q))) (by rw [ej]; exact fun q => hg ((F_go hR hi hn hj).mp q))).up (fun _ _ q => q) (fun a s o t q => ⟨?_, q.2⟩)
        obtain ⟨⟨r, u, g1, g2, g4, g5⟩, -⟩ := q
        exact ⟨r, u, g1, fun _ => g2, _, g4, g5, hR.skip1, nJ0⟩
  · have eT : tQry n p0 p1 = 1 := by unfold tQry; rw [cif_neg hy]
    have eM : mActB n (tQry n p0 p1) p0 p1 p2 0 M = M := by unfold mActB; rw [cif_neg (fun q => by omega)]
    rw [eM, eT]
    refine (q_query_no l D cI cZ cN cO (rAd mm d) mm d n σ p0 p1 p2 ok hy).up (fun _ _ q => q) (fun a s o t q => ⟨?_, q.2⟩)
    obtain ⟨⟨r, u, g1, g2, g4, g5⟩, -⟩ := q
    exact ⟨r, u, g1, fun q => absurd q (by decide), _, g4, g5, hR.skip1, nJ1⟩
theorem e9_of {n N L : Nat} (hL : 1 ≤ L) : nI L + (nI N - 1) = nI (L - 1 + N) := by
  have : nI L + (nI N - 1) = nI L - 1 + nI N := by rw [Int32.sub_eq_add_neg, Int32.sub_eq_add_neg, Int32.add_comm (nI N), ← Int32.add_assoc]
  rw [this, nI_m1 hL, nI_add]
set_option maxHeartbeats 4000000 in
set_option maxRecDepth 100000 in
theorem t_deliver (l : Launch) (D : va_G) (cI cZ cN cO : ClassId) (mm : Nat) (d : Nat → Nat) (n : Nat) (σ : RS) (M : MS) (p0 : Int32) (ok : rOK n σ) (hR : RR n σ 2001 0 M) (hi : mInv n M) (hn : n ≤ 31) (hM5 : M.1 0 0 5 + 2000 < 2 ^ 31) (hn3 : 3 ≤ n) : Met l yX4_deliver (.code yX4_deliver cX4_deliver 2 (some .int) :: gw) ({ frames := 6, cells := 0, slots := 0, locals := 146 }) (va_Pc (.ref mm :: [.int p0]) (rH D cI cZ cN cO (rAd mm d) mm d σ)) (va_Qi (fun (r : Int32) (_ : Unit) => tDel p0 M = 0 → r = (mDel n p0 M).2) (fun _ t => rZ D cI cZ cN cO mm d n (mDel n p0 M).1 (nI (tDel p0 M)) t) (rAd mm d)) 0 0 (rAd mm d) := by
  by_cases hy : ¬ p0 < 0 ∧ p0 < nI M.2.2.length
  · have eT : tDel p0 M = 0 := by unfold tDel; rw [cif_pos hy]
    obtain ⟨a, ha, rfl⟩ := nI_of hy.1
    have ej := nI_clamp ha
    have hlen := hR.2.1.1
    have hal : a < M.2.2.length := (nI_ltI ha (by omega)).mp hy.2
    obtain ⟨y, hx⟩ : ∃ y, M.2.2[a]? = some y := ⟨_, List.getElem?_eq_getElem hal⟩
    have hle := mLeads_le (n := n) (x := y) (m := M) (by omega)
    obtain ⟨g1, g2, g3, g4⟩ := (hR.skip1 (v := 0)).come (a := a) hi hn (by omega) hx
    by_cases hro : 2000 < M.2.2.length - 1 + mLeads n y M
    · have eM : mDel n (nI a) M = (M, -1) := by unfold mDel; rw [cif_pos hy, ej, hx]; exact cif_pos hro
      rw [eM, eT]
      refine (q_deliver_ref l D cI cZ cN cO (rAd mm d) mm d n σ a M.2.2.length (nI (rSl σ a)) ok hal hlen hR.2.1.2.1 (g2 (rOK.put ok (k := 1) (v := 0) (by decide) (fun h => absurd h (by decide)) (fun h => absurd h (by decide)))) (vp_in_nI g1 (by decide)) (fun r h => by rw [g3 r h, hR.2.1.2.1, e9_of (n := n) (by omega), show (2000 : Int32) = nI 2000 from nI_2000.symm, nI_ltI (by decide) (by omega)]; exact hro)).up (fun _ _ q => q) (fun a s o t q => ⟨?_, q.2⟩)
      obtain ⟨⟨r, u, f1, f2, f4, f5⟩, -⟩ := q
      exact ⟨r, u, f1, fun _ => f2, _, f4, f5, hR.skip1, nJ0⟩
    · have eM : mDel n (nI a) M = (mCome n a y M, nI y.1) := by unfold mDel; rw [cif_pos hy, ej, hx]; exact cif_neg hro
      rw [eM, eT]
      have g9 := g4 hro
      refine (q_deliver_go l D cI cZ cN cO (rAd mm d) mm d n σ a M.2.2.length (nI (rSl σ a)) ok hal hlen hR.2.1.2.1 (g2 (rOK.put ok (k := 1) (v := 0) (by decide) (fun h => absurd h (by decide)) (fun h => absurd h (by decide)))) (vp_in_nI g1 (by decide)) (fun r h => by rw [g3 r h, hR.2.1.2.1, e9_of (n := n) (by omega), show (2000 : Int32) = nI 2000 from nI_2000.symm, nI_ltI (by decide) (by omega)]; exact hro) g9.1).up (fun _ _ q => q) (fun a s o t q => ⟨?_, q.2⟩)
      obtain ⟨⟨r, u, f1, f2, f4, f5⟩, -⟩ := q
      exact ⟨r, u, f1, fun _ => f2.trans g9.2.1, _, f4, f5, g9.2.2, rCome_n1.trans nJ0⟩
  · have eT : tDel p0 M = 1 := by unfold tDel; rw [cif_neg hy]
    have eM : mDel n p0 M = (M, 0) := by unfold mDel; rw [cif_neg hy]
    rw [eM, eT]
    refine (q_deliver_no l D cI cZ cN cO (rAd mm d) mm d n σ p0 ok (by rw [hR.2.1.2.1]; exact hy)).up (fun _ _ q => q) (fun a s o t q => ⟨?_, q.2⟩)
    obtain ⟨⟨r, u, g1, g2, g4, g5⟩, -⟩ := q
    exact ⟨r, u, g1, fun q => absurd q (by decide), _, g4, g5, hR.skip1, nJ1⟩
set_option maxHeartbeats 4000000 in
set_option maxRecDepth 100000 in
theorem t_calm (l : Launch) (D : va_G) (cI cZ cN cO : ClassId) (mm : Nat) (d : Nat → Nat) (n : Nat) (σ : RS) (M : MS) (p0 : Int32) (ok : rOK n σ) (hR : RR n σ 2001 0 M) (hi : mInv n M) (hn : n ≤ 31) (hM5 : M.1 0 0 5 + 2000 < 2 ^ 31) : Met l yX4_calm (.code yX4_calm cX4_calm 3 (some .int) :: gw) ({ frames := 6, cells := 0, slots := 0, locals := 146 }) (va_Pc (.ref mm :: [.int p0]) (rH D cI cZ cN cO (rAd mm d) mm d σ)) (va_Qi (fun (r : Int32) (_ : Unit) => tCal p0 = 0 → r = (mCal n p0 M).2) (fun _ t => rZ D cI cZ cN cO mm d n (mCal n p0 M).1 (nI (tCal p0)) t) (rAd mm d)) 0 0 (rAd mm d) := by
  by_cases hbad : p0 < 0 ∨ ¬ p0 ≤ 2000
  · have eT : tCal p0 = 1 := by unfold tCal; rw [cif_pos hbad]
    have eM : mCal n p0 M = (M, 0) := by unfold mCal; rw [cif_pos hbad]
    rw [eM, eT]
    refine (q_calm_bad l D cI cZ cN cO (rAd mm d) mm d n σ p0 ok hbad).up (fun _ _ q => q) (fun a s o t q => ⟨?_, q.2⟩)
    obtain ⟨⟨r, u, g1, g2, g4, g5⟩, -⟩ := q
    exact ⟨r, u, g1, fun q => absurd q (by decide), _, g4, g5, hR.skip1, nJ1⟩
  · have eT : tCal p0 = 0 := by unfold tCal; rw [cif_neg hbad]
    have eM : mCal n p0 M = ((mCalm n p0.toNatClampNeg M).1, nI (mCalm n p0.toNatClampNeg M).2) := by unfold mCal; rw [cif_neg hbad]
    obtain ⟨j, hj, e⟩ := nI_of2 (M := 2000) (n := 2000) (by decide) (fun q => hbad (Or.inl q)) (Classical.byContradiction (fun q => hbad (Or.inr q)))
    rw [eM, eT]
    subst e
    rw [nI_clamp (show j < 2 ^ 31 by omega)]
    refine (q_calm l D cI cZ cN cO (rAd mm d) mm d n σ M j ok hR hi (by omega) hj).up (fun _ _ q => q) (fun a s o t q => ⟨?_, q.2⟩)
    obtain ⟨⟨r, u, f1, f2, σ1, f4, f5, f6, f7⟩, -⟩ := q
    exact ⟨r, u, f1, fun _ => f2, σ1, f4, f5, f6, f7.trans nJ0⟩
set_option maxHeartbeats 4000000 in
set_option maxRecDepth 100000 in
theorem t_crash (l : Launch) (D : va_G) (cI cZ cN cO : ClassId) (mm : Nat) (d : Nat → Nat) (n : Nat) (σ : RS) (M : MS) (p0 : Int32) (ok : rOK n σ) (hR : RR n σ 2001 0 M) (hi : mInv n M) (hn : n ≤ 31) (hM5 : M.1 0 0 5 + 2000 < 2 ^ 31) : Met l yX4_crash (.code yX4_crash cX4_crash 2 (some .boolean) :: gw) ({ frames := 1, cells := 0, slots := 0, locals := 21 }) (va_Pc (.ref mm :: [.int p0]) (rH D cI cZ cN cO (rAd mm d) mm d σ)) (va_Qi (fun (r : Int32) (_ : Unit) => r = (mCra n p0 M).2) (fun _ t => rZ D cI cZ cN cO mm d n (mCra n p0 M).1 (nI (tCra n p0)) t) (rAd mm d)) 0 0 (rAd mm d) := by
  by_cases hy : isN n p0
  · have eT : tCra n p0 = 0 := by unfold tCra; rw [cif_pos hy]
    obtain ⟨j, hj, rfl⟩ := isN_of (by omega) hy
    have ej := nI_clamp (show j < 2 ^ 31 by omega)
    have hdn := F_dn hR.1 hj
    by_cases hd0 : M.1 2 j 6 = 0
    · have eM : mCra n (nI j) M = (M, 0) := by unfold mCra; rw [ej, cif_neg (fun q => q.2 hd0)]
      rw [eM, eT]
      refine (q_crash_was l D cI cZ cN cO (rAd mm d) mm d n σ (nI j) ok hy (by rw [ej]; exact fun q => (hdn.mp q) hd0)).up (fun _ _ q => q) (fun a s o t q => ⟨?_, q.2⟩)
      obtain ⟨⟨r, u, g1, g2, g4, g5⟩, -⟩ := q
      exact ⟨r, u, g1, g2, _, g4, g5, hR.skip1, nJ0⟩
    · have eM : mCra n (nI j) M = (mCrash j M, 1) := by unfold mCra; rw [ej, cif_pos ⟨hy, hd0⟩]
      rw [eM, eT]
      refine (q_crash_go l D cI cZ cN cO (rAd mm d) mm d n σ (nI j) ok hy (by rw [ej]; exact hdn.mpr hd0)).up (fun _ _ q => q) (fun a s o t q => ⟨?_, q.2⟩)
      obtain ⟨⟨r, u, g1, g2, g4, g5⟩, -⟩ := q
      rw [ej] at g4 g5
      exact ⟨r, u, g1, g2, _, g4, g5, (hR.skip1 (v := 0)).crash (k := j), nJ0⟩
  · have eT : tCra n p0 = 1 := by unfold tCra; rw [cif_neg hy]
    have eM : mCra n p0 M = (M, 0) := by unfold mCra; rw [cif_neg (fun q => hy q.1)]
    rw [eM, eT]
    refine (q_crash_no l D cI cZ cN cO (rAd mm d) mm d n σ p0 ok hy).up (fun _ _ q => q) (fun a s o t q => ⟨?_, q.2⟩)
    obtain ⟨⟨r, u, g1, g2, g4, g5⟩, -⟩ := q
    exact ⟨r, u, g1, g2, _, g4, g5, hR.skip1, nJ1⟩
