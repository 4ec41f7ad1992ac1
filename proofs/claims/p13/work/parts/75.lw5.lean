theorem arrV_congr {cA : ClassId} {n : Nat} {f g : Nat → Value} (h : ∀ j, j < n → f j = g j) : arrV cA n f = arrV cA n g := by
  have e : (fun j : Fin n => f j.val) = fun j => g j.val := funext fun j => h j.val j.isLt
  unfold arrV; rw [e]
theorem va_P.adr {D : va_G} {cl : List vw_C} {ws ws' : va_W} {H : Heap} (h : va_P D cl ws H) (g : Nat → Nat) (hg : ∀ (k : Nat) (q : Nat × va_E), ws'[k]? = some q → ∃ q', ws[g k]? = some q' ∧ q'.1 = q.1 ∧ (va_at D cl q' H → va_at D cl q H)) : va_P D cl ws' H := fun k q hk => by
  obtain ⟨q', h1, -, h3⟩ := hg k q hk
  exact h3 (h _ _ h1)
theorem va_D.adr {A B : Nat → Prop} {ws ws' : va_W} (h : va_D A ws) (g : Nat → Nat) (hg : ∀ (k : Nat) (q : Nat × va_E), ws'[k]? = some q → ∃ q', ws[g k]? = some q' ∧ q'.1 = q.1) (hi : ∀ i j, i < ws'.length → j < ws'.length → g i = g j → i = j) (hB : ∀ (k : Nat) (q q' : Nat × va_E), ws'[k]? = some q → ws[g k]? = some q' → q'.1 = q.1 → A q.1 → B q.1) : va_D B ws' := by
  refine ⟨fun i j p q h1 h2 e => ?_, fun k q hk => ?_⟩
  · obtain ⟨p', a1, a2⟩ := hg i p h1
    obtain ⟨q', b1, b2⟩ := hg j q h2
    exact hi i j (List.getElem?_eq_some_iff.mp h1).1 (List.getElem?_eq_some_iff.mp h2).1 (h.1 _ _ _ _ a1 b1 (by rw [a2, b2]; exact e))
  · obtain ⟨q', a1, a2⟩ := hg k q hk
    exact hB k q q' hk a1 a2 (by rw [← a2]; exact h.2 _ _ a1)
/-- the plain machine at first -/
def mZ : MS := (fun kd _ f => if kd = 2 ∧ f = 6 then 1 else 0, fun _ _ _ _ => 0, [])
theorem mSum_0 : ∀ n, mSum (fun _ => 0) n = 0
  | 0 => rfl
  | n + 1 => by show mSum (fun _ => 0) n + 0 = 0; rw [mSum_0 n]
theorem mZ_inv {n : Nat} : mInv n mZ := by
  refine ⟨⟨by simp [mZ], fun k hk => by simp [mZ], fun o h1 h2 => absurd h2 (by simp [mZ]; omega)⟩, ⟨fun k p hk h1 h2 => absurd h2 (by simp [mZ]; omega), fun o h1 h2 => absurd h2 (by simp [mZ]; omega), ?_⟩, ⟨fun k i _ _ => by simp [mZ], fun o i h1 h2 => absurd h2 (by simp [mZ]; omega), fun x hx => absurd hx (by simp [mZ])⟩, fun k hk => ⟨fun j hj => by simp [mZ, mCt], by simp [mZ]⟩, fun k hk => ⟨fun q => absurd q (by simp [mZ]), fun q => absurd q.1 (by simp [mZ])⟩⟩
  have : (fun k => mZ.1 2 k 11 + mAct (mZ.1 2 k 7)) = fun _ => 0 := by funext k; simp [mZ, mAct]
  rw [this, mSum_0]; omega
theorem mZ_idl {n : Nat} : mIdl n mZ := fun k _ _ => by simp [mZ]
def cZ0 (n : Nat) : CS := (fun kd ix f => if kd = 1 ∧ f = 0 then nI n else if kd = 2 ∧ f = 0 then nI ix else if kd = 2 ∧ f = 6 then 1 else 0, fun kd _ f => if kd = 1 ∧ f = 1 then (fun j => if j < 2000 then nI j else 0) else fun _ => 0, fun _ => 0)
def rZ0 (n : Nat) : RS := (fun k => if k = 0 then nI n else 0, fun _ _ => 0)
theorem cZ0_ok {n : Nat} (h3 : 3 ≤ n) (hn : n ≤ 31) : cOK n 0 (cZ0 n) := by
  have z : ∀ N, 0 < N → vp_in 0 N := fun N h => by have := vp_in_nI (n := 0) (N := N) h; rw [vp_in_iff]; exact ⟨by decide, by show (0 : Int) < N; omega⟩
  refine ⟨h3, hn, by omega, by simp [cZ0, nJ0], by simp [cZ0], z _ (by decide), z _ (by decide), fun j => ?_, fun j => z _ (by omega), fun j => z _ (by omega), fun k hk => by simp [cZ0], fun o h1 h2 => by omega, fun k => Nat.le_refl _⟩
  show vp_in (if j < 2000 then nI j else 0) 2000
  split
  · exact vp_in_nI (by assumption) (by decide)
  · exact z _ (by decide)
theorem cZ0_CR {n : Nat} (hn : n ≤ 31) : CR n 0 (cZ0 n) mZ := by
  have hs : ∀ j, slN (cZ0 n) j = j % 2000 := fun j => by
    have h0 : hdN (cZ0 n) = 0 := by simp [hdN, cZ0]
    unfold slN
    rw [h0, Nat.zero_add]
    have : j % 2000 < 2000 := Nat.mod_lt _ (by decide)
    show (if j % 2000 < 2000 then nI (j % 2000) else 0).toNatClampNeg = _
    rw [if_pos this, nI_clamp (by omega)]
  refine ⟨rfl, fun kd ix f ht => ?_, fun kd ix f ht i hi => ?_, fun k hk => ⟨rfl, fun i hi => ?_⟩, by simp [mZ], by simp [cZ0, mZ, nJ0], ?_, fun j => ?_, fun i j hi hj e => ?_, fun i x hx => absurd hx (by simp [mZ])⟩
  · unfold cTr at ht
    have a1 : ¬ (kd = 1 ∧ f = 0) := by omega
    have a2 : ¬ (kd = 2 ∧ f = 0) := by omega
    simp only [cZ0, mZ, if_neg a1, if_neg a2]
    by_cases e : kd = 2 ∧ f = 6
    · simp [e, nJ1]
    · simp only [if_neg e]; exact nJ0
  · unfold cTrR at ht
    have a1 : ¬ (kd = 1 ∧ f = 1) := by omega
    simp only [cZ0, mZ, if_neg a1]; exact nJ0
  · simp [cZ0, mZ, nJ0]
  · simp [hdN, cZ0]
  · rw [hs]; exact Nat.mod_lt _ (by decide)
  · rw [hs, hs] at e; omega
theorem rZ0_ok {n : Nat} (h3 : 3 ≤ n) (hn : n ≤ 31) : rOK n (rZ0 n) := by
  have z : ∀ N, 0 < N → vp_in 0 N := fun N h => by rw [vp_in_iff]; exact ⟨by decide, by show (0 : Int) < N; omega⟩
  refine ⟨h3, hn, rfl, z _ (by decide), z _ (by decide), fun k b hb j => z _ ?_⟩
  unfold rB at hb
  split at hb <;> simp at hb <;> omega
theorem cn_0 : ∀ i, cn (fun _ => 0) i = 0
  | 0 => rfl
  | i + 1 => by unfold cn; rw [cn_0 i]; rfl
theorem rZ0_RR {n : Nat} : RR n (rZ0 n) 2001 0 mZ := by
  refine ⟨⟨⟨nJ0, nJ0⟩, fun k hk => by simp [rZ0, mZ, nJ0], fun o h1 h2 => absurd h2 (by simp [mZ]; omega), fun k hk i hi => by simp [rZ0, mZ, nJ0], fun o h1 h2 => absurd h2 (by simp [mZ]; omega), fun k hk => by simp [rZ0, mZ], fun k hk p h1 h2 => absurd h2 (by simp [mZ]; omega), fun o h1 h2 => by simp [rZ0]⟩, ⟨by simp [mZ], by simp [rZ0, mZ, nJ0], ?_, fun i hi => absurd hi (by simp [mZ]), fun i j hi => absurd hi (by simp [mZ]), fun i x hx => absurd hx (by simp [mZ]), fun h => absurd h (by decide)⟩, fun k hk => ⟨fun q => absurd q (by simp [mZ]), fun q => absurd q (by simp [mZ]), fun q => absurd q (by simp [mZ])⟩⟩
  show cn (fun _ => 0) 2001 = 0 + 0
  rw [cn_0]
def adr (P : va_W) (k : Nat) : Nat := ((P[k]?).map (fun q => q.1)).getD 0
theorem adr_of {P : va_W} {k : Nat} {q : Nat × va_E} (h : P[k]? = some q) : adr P k = q.1 := by unfold adr; rw [h]; rfl
def cE0 (x na ro oa : Nat) (bb : Nat → Nat) (P : va_W) : CE := (fun i => if i = 0 then x else if i = 1 then na else if i = 2 then ro else oa, bb, fun k => adr P (6 * k), fun k j => adr P (6 * k + j), fun _ => 0, fun _ => 0)
theorem rW_at {cI cZ : ClassId} {mm : Nat} {d : Nat → Nat} {σ : RS} {q : Nat} (h : rAd mm d q) : ∃ (k : Nat) (p : Nat × va_E), k < 33 ∧ (rW cI cZ mm d σ)[k]? = some p ∧ p.1 = q := by
  rcases h with rfl | ⟨j, hj, rfl, hs⟩
  · exact ⟨0, _, by decide, rfl, rfl⟩
  · match j, hj, hs with
    | 0, _, hs => exact absurd hs (by decide)
    | 1, _, hs => exact absurd hs (by decide)
    | 2, _, _ => exact ⟨1, _, by decide, rfl, rfl⟩
    | 3, _, _ => exact ⟨2, _, by decide, rfl, rfl⟩
    | 4, _, _ => exact ⟨3, _, by decide, rfl, rfl⟩
    | 5, _, _ => exact ⟨4, _, by decide, rfl, rfl⟩
    | 6, _, _ => exact ⟨5, _, by decide, rfl, rfl⟩
    | 7, _, _ => exact ⟨6, _, by decide, rfl, rfl⟩
    | 8, _, _ => exact ⟨7, _, by decide, rfl, rfl⟩
    | 9, _, hs => exact absurd hs (by decide)
    | 10, _, hs => exact absurd hs (by decide)
    | 11, _, hs => exact absurd hs (by decide)
    | 12, _, hs => exact absurd hs (by decide)
    | 13, _, _ => exact ⟨8, _, by decide, rfl, rfl⟩
    | 14, _, _ => exact ⟨9, _, by decide, rfl, rfl⟩
    | 15, _, _ => exact ⟨10, _, by decide, rfl, rfl⟩
    | 16, _, _ => exact ⟨11, _, by decide, rfl, rfl⟩
    | 17, _, _ => exact ⟨12, _, by decide, rfl, rfl⟩
    | 18, _, _ => exact ⟨13, _, by decide, rfl, rfl⟩
    | 19, _, _ => exact ⟨14, _, by decide, rfl, rfl⟩
    | 20, _, _ => exact ⟨15, _, by decide, rfl, rfl⟩
    | 21, _, _ => exact ⟨16, _, by decide, rfl, rfl⟩
    | 22, _, _ => exact ⟨17, _, by decide, rfl, rfl⟩
    | 23, _, _ => exact ⟨18, _, by decide, rfl, rfl⟩
    | 24, _, _ => exact ⟨19, _, by decide, rfl, rfl⟩
    | 25, _, _ => exact ⟨20, _, by decide, rfl, rfl⟩
    | 26, _, _ => exact ⟨21, _, by decide, rfl, rfl⟩
    | 27, _, _ => exact ⟨22, _, by decide, rfl, rfl⟩
    | 28, _, _ => exact ⟨23, _, by decide, rfl, rfl⟩
    | 29, _, _ => exact ⟨24, _, by decide, rfl, rfl⟩
    | 30, _, _ => exact ⟨25, _, by decide, rfl, rfl⟩
    | 31, _, _ => exact ⟨26, _, by decide, rfl, rfl⟩
    | 32, _, _ => exact ⟨27, _, by decide, rfl, rfl⟩
    | 33, _, _ => exact ⟨28, _, by decide, rfl, rfl⟩
    | 34, _, _ => exact ⟨29, _, by decide, rfl, rfl⟩
    | 35, _, _ => exact ⟨30, _, by decide, rfl, rfl⟩
    | 36, _, _ => exact ⟨31, _, by decide, rfl, rfl⟩
    | 37, _, hs => exact absurd hs (by decide)
    | 38, _, hs => exact absurd hs (by decide)
    | 39, _, _ => exact ⟨32, _, by decide, rfl, rfl⟩
    | j + 40, hj, _ => omega
set_option maxHeartbeats 4000000 in
set_option maxRecDepth 100000 in
theorem init_LW {D : va_G} {cI cZ cN cO cL : ClassId} {s : State} {n x na ro oa mm oo : Nat} {bb d : Nat → Nat} {fn : Nat → Option Nat} {fs : Nat → Int32} {P : va_W} {H : Heap} {locs : List Loc} (h3 : 3 ≤ n) (hn : n ≤ 31) (hNd : gNodes cI n n fn P) (hfs : ∀ j, j < 2000 → fs j = nI j) (hP : va_P D vwCl ([(x, .inr (3, [.ref na, .ref ro, .ref oa, .int 0, .int 0, .int 0, .int 0, .int 0, .int 0])), (na, .inl (cN, n, .inr (.inr (.inr (.inr fn))))), (ro, .inr (2, [.int (nI n), .ref (bb 1), .ref (bb 2), .ref (bb 3), .ref (bb 4), .ref (bb 5), .ref (bb 6), .int 0, .int 0, .int 0])), (bb 1, .inl (cI, 2000, .inl fs)), (bb 2, .inl (cI, 2000, .inl (fun _ => 0))), (bb 3, .inl (cI, 2000, .inl (fun _ => 0))), (bb 4, .inl (cI, 2000, .inl (fun _ => 0))), (bb 5, .inl (cI, 2000, .inl (fun _ => 0))), (bb 6, .inl (cI, 2000 * n, .inl (fun _ => 0))), (oa, .inl (cO, 512, .inr (.inr (.inr (.inr (fun _ => none)))))), (mm, .inr (4, [.int (nI n), .int 0, .ref (d 2), .ref (d 3), .ref (d 4), .ref (d 5), .ref (d 6), .ref (d 7), .ref (d 8), .int 0, .int 0, .int 0, .int 0, .ref (d 13), .ref (d 14), .ref (d 15), .ref (d 16), .ref (d 17), .ref (d 18), .ref (d 19), .ref (d 20), .ref (d 21), .ref (d 22), .ref (d 23), .ref (d 24), .ref (d 25), .ref (d 26), .ref (d 27), .ref (d 28), .ref (d 29), .ref (d 30), .ref (d 31), .ref (d 32), .ref (d 33), .ref (d 34), .ref (d 35), .ref (d 36), .int 0, .int 0, .ref (d 39), .int 0])), (d 2, .inl (cI, 2001, .inl ((fun _ => 0)))), (d 3, .inl (cI, 2001, .inl ((fun _ => 0)))), (d 4, .inl (cI, 2001, .inl ((fun _ => 0)))), (d 5, .inl (cI, 2001, .inl ((fun _ => 0)))), (d 6, .inl (cI, 62031, .inl ((fun _ => 0)))), (d 7, .inl (cZ, 2001, .inl ((fun _ => 0)))), (d 8, .inl (cI, 2001, .inl ((fun _ => 0)))), (d 13, .inl (cZ, 31, .inl ((fun _ => 0)))), (d 14, .inl (cI, 31, .inl ((fun _ => 0)))), (d 15, .inl (cI, 31, .inl ((fun _ => 0)))), (d 16, .inl (cI, 31, .inl ((fun _ => 0)))), (d 17, .inl (cI, 31, .inl ((fun _ => 0)))), (d 18, .inl (cI, 961, .inl ((fun _ => 0)))), (d 19, .inl (cI, 31, .inl ((fun _ => 0)))), (d 20, .inl (cI, 15872, .inl ((fun _ => 0)))), (d 21, .inl (cI, 961, .inl ((fun _ => 0)))), (d 22, .inl (cI, 961, .inl ((fun _ => 0)))), (d 23, .inl (cI, 961, .inl ((fun _ => 0)))), (d 24, .inl (cZ, 31, .inl ((fun _ => 0)))), (d 25, .inl (cI, 961, .inl ((fun _ => 0)))), (d 26, .inl (cI, 512, .inl ((fun _ => 0)))), (d 27, .inl (cI, 512, .inl ((fun _ => 0)))), (d 28, .inl (cI, 512, .inl ((fun _ => 0)))), (d 29, .inl (cI, 512, .inl ((fun _ => 0)))), (d 30, .inl (cI, 512, .inl ((fun _ => 0)))), (d 31, .inl (cI, 512, .inl ((fun _ => 0)))), (d 32, .inl (cI, 512, .inl ((fun _ => 0)))), (d 33, .inl (cI, 512, .inl ((fun _ => 0)))), (d 34, .inl (cI, 512, .inl ((fun _ => 0)))), (d 35, .inl (cI, 15872, .inl ((fun _ => 0)))), (d 36, .inl (cZ, 512, .inl ((fun _ => 0)))), (d 39, .inl (cI, 512, .inl ((fun _ => 0)))), (oo, .inl (cL, 1, .inr (.inl (fun _ => 0))))] ++ P) H) (hD : va_D (fun q => s.heap.size ≤ q) ([(x, .inr (3, [.ref na, .ref ro, .ref oa, .int 0, .int 0, .int 0, .int 0, .int 0, .int 0])), (na, .inl (cN, n, .inr (.inr (.inr (.inr fn))))), (ro, .inr (2, [.int (nI n), .ref (bb 1), .ref (bb 2), .ref (bb 3), .ref (bb 4), .ref (bb 5), .ref (bb 6), .int 0, .int 0, .int 0])), (bb 1, .inl (cI, 2000, .inl fs)), (bb 2, .inl (cI, 2000, .inl (fun _ => 0))), (bb 3, .inl (cI, 2000, .inl (fun _ => 0))), (bb 4, .inl (cI, 2000, .inl (fun _ => 0))), (bb 5, .inl (cI, 2000, .inl (fun _ => 0))), (bb 6, .inl (cI, 2000 * n, .inl (fun _ => 0))), (oa, .inl (cO, 512, .inr (.inr (.inr (.inr (fun _ => none)))))), (mm, .inr (4, [.int (nI n), .int 0, .ref (d 2), .ref (d 3), .ref (d 4), .ref (d 5), .ref (d 6), .ref (d 7), .ref (d 8), .int 0, .int 0, .int 0, .int 0, .ref (d 13), .ref (d 14), .ref (d 15), .ref (d 16), .ref (d 17), .ref (d 18), .ref (d 19), .ref (d 20), .ref (d 21), .ref (d 22), .ref (d 23), .ref (d 24), .ref (d 25), .ref (d 26), .ref (d 27), .ref (d 28), .ref (d 29), .ref (d 30), .ref (d 31), .ref (d 32), .ref (d 33), .ref (d 34), .ref (d 35), .ref (d 36), .int 0, .int 0, .ref (d 39), .int 0])), (d 2, .inl (cI, 2001, .inl ((fun _ => 0)))), (d 3, .inl (cI, 2001, .inl ((fun _ => 0)))), (d 4, .inl (cI, 2001, .inl ((fun _ => 0)))), (d 5, .inl (cI, 2001, .inl ((fun _ => 0)))), (d 6, .inl (cI, 62031, .inl ((fun _ => 0)))), (d 7, .inl (cZ, 2001, .inl ((fun _ => 0)))), (d 8, .inl (cI, 2001, .inl ((fun _ => 0)))), (d 13, .inl (cZ, 31, .inl ((fun _ => 0)))), (d 14, .inl (cI, 31, .inl ((fun _ => 0)))), (d 15, .inl (cI, 31, .inl ((fun _ => 0)))), (d 16, .inl (cI, 31, .inl ((fun _ => 0)))), (d 17, .inl (cI, 31, .inl ((fun _ => 0)))), (d 18, .inl (cI, 961, .inl ((fun _ => 0)))), (d 19, .inl (cI, 31, .inl ((fun _ => 0)))), (d 20, .inl (cI, 15872, .inl ((fun _ => 0)))), (d 21, .inl (cI, 961, .inl ((fun _ => 0)))), (d 22, .inl (cI, 961, .inl ((fun _ => 0)))), (d 23, .inl (cI, 961, .inl ((fun _ => 0)))), (d 24, .inl (cZ, 31, .inl ((fun _ => 0)))), (d 25, .inl (cI, 961, .inl ((fun _ => 0)))), (d 26, .inl (cI, 512, .inl ((fun _ => 0)))), (d 27, .inl (cI, 512, .inl ((fun _ => 0)))), (d 28, .inl (cI, 512, .inl ((fun _ => 0)))), (d 29, .inl (cI, 512, .inl ((fun _ => 0)))), (d 30, .inl (cI, 512, .inl ((fun _ => 0)))), (d 31, .inl (cI, 512, .inl ((fun _ => 0)))), (d 32, .inl (cI, 512, .inl ((fun _ => 0)))), (d 33, .inl (cI, 512, .inl ((fun _ => 0)))), (d 34, .inl (cI, 512, .inl ((fun _ => 0)))), (d 35, .inl (cI, 15872, .inl ((fun _ => 0)))), (d 36, .inl (cZ, 512, .inl ((fun _ => 0)))), (d 39, .inl (cI, 512, .inl ((fun _ => 0)))), (oo, .inl (cL, 1, .inr (.inl (fun _ => 0))))] ++ P)) (hS : va_S (fun q => s.heap.size ≤ q) s.heap H locs) : LW D cI cZ cN cO cL s x n mZ mZ 0 mm d oo (fun _ => 0) H locs := by
  generalize hXX : ([(x, .inr (3, [.ref na, .ref ro, .ref oa, .int 0, .int 0, .int 0, .int 0, .int 0, .int 0])), (na, .inl (cN, n, .inr (.inr (.inr (.inr fn))))), (ro, .inr (2, [.int (nI n), .ref (bb 1), .ref (bb 2), .ref (bb 3), .ref (bb 4), .ref (bb 5), .ref (bb 6), .int 0, .int 0, .int 0])), (bb 1, .inl (cI, 2000, .inl fs)), (bb 2, .inl (cI, 2000, .inl (fun _ => 0))), (bb 3, .inl (cI, 2000, .inl (fun _ => 0))), (bb 4, .inl (cI, 2000, .inl (fun _ => 0))), (bb 5, .inl (cI, 2000, .inl (fun _ => 0))), (bb 6, .inl (cI, 2000 * n, .inl (fun _ => 0))), (oa, .inl (cO, 512, .inr (.inr (.inr (.inr (fun _ => none)))))), (mm, .inr (4, [.int (nI n), .int 0, .ref (d 2), .ref (d 3), .ref (d 4), .ref (d 5), .ref (d 6), .ref (d 7), .ref (d 8), .int 0, .int 0, .int 0, .int 0, .ref (d 13), .ref (d 14), .ref (d 15), .ref (d 16), .ref (d 17), .ref (d 18), .ref (d 19), .ref (d 20), .ref (d 21), .ref (d 22), .ref (d 23), .ref (d 24), .ref (d 25), .ref (d 26), .ref (d 27), .ref (d 28), .ref (d 29), .ref (d 30), .ref (d 31), .ref (d 32), .ref (d 33), .ref (d 34), .ref (d 35), .ref (d 36), .int 0, .int 0, .ref (d 39), .int 0])), (d 2, .inl (cI, 2001, .inl ((fun _ => 0)))), (d 3, .inl (cI, 2001, .inl ((fun _ => 0)))), (d 4, .inl (cI, 2001, .inl ((fun _ => 0)))), (d 5, .inl (cI, 2001, .inl ((fun _ => 0)))), (d 6, .inl (cI, 62031, .inl ((fun _ => 0)))), (d 7, .inl (cZ, 2001, .inl ((fun _ => 0)))), (d 8, .inl (cI, 2001, .inl ((fun _ => 0)))), (d 13, .inl (cZ, 31, .inl ((fun _ => 0)))), (d 14, .inl (cI, 31, .inl ((fun _ => 0)))), (d 15, .inl (cI, 31, .inl ((fun _ => 0)))), (d 16, .inl (cI, 31, .inl ((fun _ => 0)))), (d 17, .inl (cI, 31, .inl ((fun _ => 0)))), (d 18, .inl (cI, 961, .inl ((fun _ => 0)))), (d 19, .inl (cI, 31, .inl ((fun _ => 0)))), (d 20, .inl (cI, 15872, .inl ((fun _ => 0)))), (d 21, .inl (cI, 961, .inl ((fun _ => 0)))), (d 22, .inl (cI, 961, .inl ((fun _ => 0)))), (d 23, .inl (cI, 961, .inl ((fun _ => 0)))), (d 24, .inl (cZ, 31, .inl ((fun _ => 0)))), (d 25, .inl (cI, 961, .inl ((fun _ => 0)))), (d 26, .inl (cI, 512, .inl ((fun _ => 0)))), (d 27, .inl (cI, 512, .inl ((fun _ => 0)))), (d 28, .inl (cI, 512, .inl ((fun _ => 0)))), (d 29, .inl (cI, 512, .inl ((fun _ => 0)))), (d 30, .inl (cI, 512, .inl ((fun _ => 0)))), (d 31, .inl (cI, 512, .inl ((fun _ => 0)))), (d 32, .inl (cI, 512, .inl ((fun _ => 0)))), (d 33, .inl (cI, 512, .inl ((fun _ => 0)))), (d 34, .inl (cI, 512, .inl ((fun _ => 0)))), (d 35, .inl (cI, 15872, .inl ((fun _ => 0)))), (d 36, .inl (cZ, 512, .inl ((fun _ => 0)))), (d 39, .inl (cI, 512, .inl ((fun _ => 0)))), (oo, .inl (cL, 1, .inr (.inl (fun _ => 0))))] : va_W) = XX at hP hD
  have hlen : XX.length = 44 := by rw [← hXX]; rfl
  have hrf : ∀ (k : Nat) (q : Nat × va_E), (rW cI cZ mm d (rZ0 n))[k]? = some q → (XX ++ P)[10 + k]? = some q := by
    intro k q hk
    have hk33 : k < 33 := by have := (List.getElem?_eq_some_iff.mp hk).1; rw [rW_len] at this; exact this
    rw [List.getElem?_append_left (by omega), ← hXX]
    match k, hk33, hk with
    | 0, _, hk => exact hk
    | 1, _, hk => exact hk
    | 2, _, hk => exact hk
    | 3, _, hk => exact hk
    | 4, _, hk => exact hk
    | 5, _, hk => exact hk
    | 6, _, hk => exact hk
    | 7, _, hk => exact hk
    | 8, _, hk => exact hk
    | 9, _, hk => exact hk
    | 10, _, hk => exact hk
    | 11, _, hk => exact hk
    | 12, _, hk => exact hk
    | 13, _, hk => exact hk
    | 14, _, hk => exact hk
    | 15, _, hk => exact hk
    | 16, _, hk => exact hk
    | 17, _, hk => exact hk
    | 18, _, hk => exact hk
    | 19, _, hk => exact hk
    | 20, _, hk => exact hk
    | 21, _, hk => exact hk
    | 22, _, hk => exact hk
    | 23, _, hk => exact hk
    | 24, _, hk => exact hk
    | 25, _, hk => exact hk
    | 26, _, hk => exact hk
    | 27, _, hk => exact hk
    | 28, _, hk => exact hk
    | 29, _, hk => exact hk
    | 30, _, hk => exact hk
    | 31, _, hk => exact hk
    | 32, _, hk => exact hk
    | k + 33, h, _ => omega
  have hout : (XX ++ P)[43]? = some (oo, .inl (cL, 1, .inr (.inl (fun _ => 0)))) := by rw [List.getElem?_append_left (by omega), ← hXX]; rfl
  have hcl : ∀ (k : Nat) (q : Nat × va_E), (cW cI cN cO (cE0 x na ro oa bb P) n 0 (cZ0 n))[k]? = some q → ∃ q', (XX ++ P)[if k < 3 then k else if k = 3 then 9 else if k < 10 then k - 1 else 44 + (k - 10)]? = some q' ∧ q'.1 = q.1 ∧ (va_at D vwCl q' H → va_at D vwCl q H) := by
    intro k q hk
    by_cases h10 : k < 10
    · rw [cW_fix h10] at hk
      have hX : ∀ i, i < 10 → (XX ++ P)[i]? = ([(x, .inr (3, [.ref na, .ref ro, .ref oa, .int 0, .int 0, .int 0, .int 0, .int 0, .int 0])), (na, .inl (cN, n, .inr (.inr (.inr (.inr fn))))), (ro, .inr (2, [.int (nI n), .ref (bb 1), .ref (bb 2), .ref (bb 3), .ref (bb 4), .ref (bb 5), .ref (bb 6), .int 0, .int 0, .int 0])), (bb 1, .inl (cI, 2000, .inl fs)), (bb 2, .inl (cI, 2000, .inl (fun _ => 0))), (bb 3, .inl (cI, 2000, .inl (fun _ => 0))), (bb 4, .inl (cI, 2000, .inl (fun _ => 0))), (bb 5, .inl (cI, 2000, .inl (fun _ => 0))), (bb 6, .inl (cI, 2000 * n, .inl (fun _ => 0))), (oa, .inl (cO, 512, .inr (.inr (.inr (.inr (fun _ => none)))))), (mm, .inr (4, [.int (nI n), .int 0, .ref (d 2), .ref (d 3), .ref (d 4), .ref (d 5), .ref (d 6), .ref (d 7), .ref (d 8), .int 0, .int 0, .int 0, .int 0, .ref (d 13), .ref (d 14), .ref (d 15), .ref (d 16), .ref (d 17), .ref (d 18), .ref (d 19), .ref (d 20), .ref (d 21), .ref (d 22), .ref (d 23), .ref (d 24), .ref (d 25), .ref (d 26), .ref (d 27), .ref (d 28), .ref (d 29), .ref (d 30), .ref (d 31), .ref (d 32), .ref (d 33), .ref (d 34), .ref (d 35), .ref (d 36), .int 0, .int 0, .ref (d 39), .int 0])), (d 2, .inl (cI, 2001, .inl ((fun _ => 0)))), (d 3, .inl (cI, 2001, .inl ((fun _ => 0)))), (d 4, .inl (cI, 2001, .inl ((fun _ => 0)))), (d 5, .inl (cI, 2001, .inl ((fun _ => 0)))), (d 6, .inl (cI, 62031, .inl ((fun _ => 0)))), (d 7, .inl (cZ, 2001, .inl ((fun _ => 0)))), (d 8, .inl (cI, 2001, .inl ((fun _ => 0)))), (d 13, .inl (cZ, 31, .inl ((fun _ => 0)))), (d 14, .inl (cI, 31, .inl ((fun _ => 0)))), (d 15, .inl (cI, 31, .inl ((fun _ => 0)))), (d 16, .inl (cI, 31, .inl ((fun _ => 0)))), (d 17, .inl (cI, 31, .inl ((fun _ => 0)))), (d 18, .inl (cI, 961, .inl ((fun _ => 0)))), (d 19, .inl (cI, 31, .inl ((fun _ => 0)))), (d 20, .inl (cI, 15872, .inl ((fun _ => 0)))), (d 21, .inl (cI, 961, .inl ((fun _ => 0)))), (d 22, .inl (cI, 961, .inl ((fun _ => 0)))), (d 23, .inl (cI, 961, .inl ((fun _ => 0)))), (d 24, .inl (cZ, 31, .inl ((fun _ => 0)))), (d 25, .inl (cI, 961, .inl ((fun _ => 0)))), (d 26, .inl (cI, 512, .inl ((fun _ => 0)))), (d 27, .inl (cI, 512, .inl ((fun _ => 0)))), (d 28, .inl (cI, 512, .inl ((fun _ => 0)))), (d 29, .inl (cI, 512, .inl ((fun _ => 0)))), (d 30, .inl (cI, 512, .inl ((fun _ => 0)))), (d 31, .inl (cI, 512, .inl ((fun _ => 0)))), (d 32, .inl (cI, 512, .inl ((fun _ => 0)))), (d 33, .inl (cI, 512, .inl ((fun _ => 0)))), (d 34, .inl (cI, 512, .inl ((fun _ => 0)))), (d 35, .inl (cI, 15872, .inl ((fun _ => 0)))), (d 36, .inl (cZ, 512, .inl ((fun _ => 0)))), (d 39, .inl (cI, 512, .inl ((fun _ => 0)))), (oo, .inl (cL, 1, .inr (.inl (fun _ => 0))))] : va_W)[i]? := fun i hi => by rw [List.getElem?_append_left (by omega), ← hXX]
      match k, h10, hk with
      | 0, _, hk => cases hk; exact ⟨_, (hX 0 (by decide)).trans rfl, rfl, id⟩
      | 1, _, hk =>
        cases hk
        refine ⟨_, (hX 1 (by decide)).trans rfl, rfl, fun h => ?_⟩
        refine Eq.trans (show H[na]? = _ from h) (congrArg some ?_)
        rw [vp_cell_q, vp_cell_q]
        refine arrV_congr (fun j hj => ?_)
        obtain ⟨nd, a1, a2, a3, a4, a5, e0, e1, -⟩ := hNd.2 j hj
        rw [if_pos hj, e0]
        show va_rf (some nd) = va_rf (some (adr P (6 * j)))
        rw [adr_of e1]
      | 2, _, hk => cases hk; exact ⟨_, (hX 2 (by decide)).trans rfl, rfl, id⟩
      | 3, _, hk =>
        cases hk
        refine ⟨_, (hX 9 (by decide)).trans rfl, rfl, fun h => ?_⟩
        refine Eq.trans (show H[oa]? = _ from h) (congrArg some ?_)
        rw [vp_cell_q, vp_cell_q]
        exact arrV_congr (fun j hj => by rw [if_neg (by omega)])
      | 4, _, hk =>
        cases hk
        refine ⟨_, (hX 3 (by decide)).trans rfl, rfl, fun h => ?_⟩
        refine Eq.trans (show H[bb 1]? = _ from h) (congrArg some ?_)
        rw [vp_cell_i, vp_cell_i]
        refine arrV_congr (fun j hj => ?_)
        show Value.int (fs j) = Value.int (if j < 2000 then nI j else 0)
        rw [if_pos hj, hfs j hj]
      | 5, _, hk => cases hk; exact ⟨_, (hX 4 (by decide)).trans rfl, rfl, id⟩
      | 6, _, hk => cases hk; exact ⟨_, (hX 5 (by decide)).trans rfl, rfl, id⟩
      | 7, _, hk => cases hk; exact ⟨_, (hX 6 (by decide)).trans rfl, rfl, id⟩
      | 8, _, hk => cases hk; exact ⟨_, (hX 7 (by decide)).trans rfl, rfl, id⟩
      | 9, _, hk => cases hk; exact ⟨_, (hX 8 (by decide)).trans rfl, rfl, id⟩
      | k + 10, h10, _ => omega
    · have hk1 := (List.getElem?_eq_some_iff.mp hk).1
      have hl2 : (cW cI cN cO (cE0 x na ro oa bb P) n 0 (cZ0 n)).length = 10 + 6 * n := by
        unfold cW
        rw [List.length_append, List.length_append, blk_len (cNd_len _ _ _ _)]
        show 10 + 6 * n + 0 = _
        omega
      rw [hl2] at hk1
      have hj : (k - 10) / 6 < n := by omega
      have hi6 : (k - 10) % 6 < 6 := by omega
      have ek : k = 10 + (6 * ((k - 10) / 6) + (k - 10) % 6) := by omega
      rw [if_neg (by omega), if_neg (by omega), if_neg (by omega), List.getElem?_append_right (by omega), hlen, Nat.add_sub_cancel_left]
      have ek2 : k - 10 = 6 * ((k - 10) / 6) + (k - 10) % 6 := by omega
      rw [ek, cW_nd hj hi6] at hk
      rw [ek2]
      obtain ⟨nd, a1, a2, a3, a4, a5, e0, e1, e2, e3, e4, e5, e6⟩ := hNd.2 _ hj
      generalize (k - 10) / 6 = j at hj e0 e1 e2 e3 e4 e5 e6 hk ⊢
      generalize (k - 10) % 6 = i at hi6 hk ⊢
      have hc : (cNd cI (cE0 x na ro oa bb P) n (cZ0 n) j) = [(nd, .inr (0, [.int (nI j), .ref a1, .ref a2, .ref a3, .ref a4, .ref a5, .int 1, .int 0, .int 0, .int 0, .null])), (a1, .inl (cI, n, .inl (fun _ => 0))), (a2, .inl (cI, n, .inl (fun _ => 0))), (a3, .inl (cI, n, .inl (fun _ => 0))), (a4, .inl (cI, n, .inl (fun _ => 0))), (a5, .inl (cI, n, .inl (fun _ => 0)))] := by
        have g0 := adr_of e1
        have g1 := adr_of e2
        have g2 := adr_of e3
        have g3 := adr_of e4
        have g4 := adr_of e5
        have g5 := adr_of e6
        simp only at g0 g1 g2 g3 g4 g5
        simp [cNd, cE0, cZ0, cTk, va_rf, g0, g1, g2, g3, g4, g5]
      rw [hc] at hk
      match i, hi6, hk with
      | 0, _, hk => cases hk; exact ⟨_, e1, rfl, id⟩
      | 1, _, hk => cases hk; exact ⟨_, e2, rfl, id⟩
      | 2, _, hk => cases hk; exact ⟨_, e3, rfl, id⟩
      | 3, _, hk => cases hk; exact ⟨_, e4, rfl, id⟩
      | 4, _, hk => cases hk; exact ⟨_, e5, rfl, id⟩
      | 5, _, hk => cases hk; exact ⟨_, e6, rfl, id⟩
      | i + 6, h, _ => omega
  have hPr : va_P D vwCl (rW cI cZ mm d (rZ0 n)) H := hP.by (fun k => 10 + k) hrf
  have hra : ∀ q, rAd mm d q → ∃ (k : Nat) (p : Nat × va_E), k < 33 ∧ (XX ++ P)[10 + k]? = some p ∧ p.1 = q := fun q hq => by
    obtain ⟨k, p, h1, h2, h3⟩ := rW_at (cI := cI) (cZ := cZ) (σ := rZ0 n) hq
    exact ⟨k, p, h1, hrf k p h2, h3⟩
  refine ⟨⟨cE0 x na ro oa bb P, cZ0 n, rfl, hP.adr _ hcl, ?_, cZ0_ok h3 hn, cZ0_CR hn⟩, ⟨rZ0 n, hPr, ?_, rZ0_ok h3 hn, rZ0_RR, rfl⟩, ?_, ⟨fun q hq => ?_, fun hq => ?_, ?_, ?_⟩, hS⟩
  · refine hD.adr (B := cAd s.heap.size mm d oo) _ (fun k q hk => by obtain ⟨q', h1, h2, -⟩ := hcl k q hk; exact ⟨q', h1, h2⟩) (fun i j _ _ e => ?_) (fun k q q' hk h1 h2 hA => ⟨hA, fun hr => ?_, fun ho => ?_⟩)
    · split at e <;> split at e <;> (try split at e) <;> (try split at e) <;> (try split at e) <;> (try split at e) <;> omega
    · obtain ⟨k', p, g1, g2, g3⟩ := hra _ hr
      have := hD.1 _ _ _ _ h1 g2 (by rw [h2, g3])
      split at this <;> (try split at this) <;> (try split at this) <;> omega
    · have := hD.1 _ _ _ _ h1 hout (by rw [h2]; exact ho)
      split at this <;> (try split at this) <;> (try split at this) <;> omega
  · exact ⟨fun i j p q h1 h2 e => by have := hD.1 _ _ _ _ (hrf i p h1) (hrf j q h2) e; omega, rW_ad⟩
  · exact hP.by (fun k => 43 + k) (fun k q hk => by
      have a1 := (List.getElem?_eq_some_iff.mp hk).1
      simp at a1; subst a1
      rw [show 43 + 0 = 43 from rfl, hout]; exact hk)
  · obtain ⟨k', p, g1, g2, g3⟩ := hra _ hq
    exact ⟨by rw [← g3]; exact hD.2 _ _ g2, by rw [← g3]; exact hP.lt g2⟩
  · obtain ⟨k', p, g1, g2, g3⟩ := hra _ hq
    have := hD.1 _ _ _ _ g2 hout g3
    omega
  · exact hD.2 _ _ hout
  · exact hP.lt hout
