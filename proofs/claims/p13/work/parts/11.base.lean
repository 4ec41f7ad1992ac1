/-- the array kinds of the worlds -/
abbrev gTy (cI cZ cN cO : ClassId) : List (ClassId × FieldType) := [(cI, .int), (cZ, .boolean), (cN, .object RX0), (cO, .object RX1)]
/-- k is a place of 0 .. n - 1, as the code tests it -/
abbrev isN (n : Nat) (k : Int32) : Prop := ¬ k < 0 ∧ ¬ nI n ≤ k
theorem isN_in {n : Nat} {k : Int32} (hn : n < 2 ^ 31) (h : isN n k) : vp_in k n := by
  rw [vp_in_iff]
  have h1 : ¬ k.toInt < 0 := fun q => h.1 (by rw [Int32.lt_iff_toInt_lt, Int32.toInt_zero]; exact q)
  have h2 : ¬ (n : Int) ≤ k.toInt := fun q => h.2 (by rw [Int32.le_iff_toInt_le, nI_toInt hn]; exact q)
  omega
theorem isN_of {n : Nat} {k : Int32} (hn : n < 2 ^ 31) (h : isN n k) : ∃ j : Nat, j < n ∧ k = nI j := vp_in_of (isN_in hn h) hn
theorem ite_ne0 {P : Prop} [Decidable P] {r : Int32} (h : r = if P then 1 else 0) (c : ¬ r = 0) : P := by
  by_cases q : P
  · exact q
  · rw [if_neg q] at h; exact absurd h c
theorem ite_eq0 {P : Prop} [Decidable P] {r : Int32} (h : r = if P then 1 else 0) (c : r = 0) : ¬ P := by
  intro q
  rw [if_pos q] at h; rw [h] at c; exact absurd c (by decide)
theorem gK_arr {D : va_G} {cl : List vw_C} {tys : List (ClassId × FieldType)} {s : State} {cA cB : ClassId} {ty : FieldType} (h : va_K D cl (tys ++ [(cA, ty)]) s) (t0 : Nat) (ht : tys[t0]? = some (cB, ty)) : cA = cB := by
  have h1 := (h.2 tys.length (cA, ty) (by simp)).2
  have h2 := (h.2 t0 (cB, ty) (by rw [List.getElem?_append_left (List.getElem?_eq_some_iff.mp ht).1]; exact ht)).2
  cases ty with
  | object C =>
    obtain ⟨_, _, _, _, _, h1⟩ := h1
    obtain ⟨_, _, _, _, _, h2⟩ := h2
    exact Option.some.inj (h1.symm.trans h2)
  | _ => exact Option.some.inj ((show s.vm.findClass _ = some cA from h1).symm.trans h2)
theorem nI_2000 : nI 2000 = 2000 := by decide +kernel
theorem nI_mul (a b : Nat) : nI a * nI b = nI (a * b) := (Int32.ofNat_mul a b).symm
theorem upd_self (f : Nat → Int32) (k : Nat) (x : Int32) : upd f k x k = x := by simp [upd]
theorem upd_ne {f : Nat → Int32} {k j : Nat} (x : Int32) (h : ¬ j = k) : upd f k x j = f j := by simp [upd, h]
theorem gCut {p : Program} {l : Launch} {e : Env} {R : Room} {s : State} {m : MethodId} {args : Array Value} {below : List Frame} {meth : Method} {c : Code} {H : Heap} {locs : List Loc} {cells slots : Nat} {Q : State → Prop} {g g2 : JFrame} (k : W p l e R s m args below meth c H locs cells slots Q g2) (h : W p l e R s m args below meth c H locs cells slots Q g2 → W p l e R s m args below meth c H locs cells slots Q g) : W p l e R s m args below meth c H locs cells slots Q g := h k
/-- how many NODES a first number makes -/
def gN (k : Int32) : Nat := if k < 3 ∨ ¬ k ≤ 31 then 3 else k.toNatClampNeg
theorem gN_a {k : Int32} (h : k < 3) : nI (gN k) = 3 := by unfold gN; rw [if_pos (Or.inl h)]; decide +kernel
theorem gN_b {k : Int32} (h : ¬ k ≤ 31) : nI (gN k) = 3 := by unfold gN; rw [if_pos (Or.inr h)]; decide +kernel
theorem gN_rng {k : Int32} (h1 : ¬ k < 3) (h2 : k ≤ 31) : ∃ j : Nat, 3 ≤ j ∧ j ≤ 31 ∧ k = nI j := by
  have h3 : ¬ k.toInt < 3 := fun q => h1 (by rw [Int32.lt_iff_toInt_lt]; exact q)
  have h4 : k.toInt ≤ 31 := by rw [Int32.le_iff_toInt_le] at h2; exact h2
  obtain ⟨j, hj, rfl⟩ := nI_of (x := k) (fun q => by rw [Int32.lt_iff_toInt_lt, Int32.toInt_zero] at q; omega)
  rw [nI_toInt hj] at h3 h4
  exact ⟨j, by omega, by omega, rfl⟩
theorem gN_c {k : Int32} (h1 : ¬ k < 3) (h2 : k ≤ 31) : nI (gN k) = k := by
  obtain ⟨j, hj, hj2, rfl⟩ := gN_rng h1 h2
  unfold gN; rw [if_neg (fun q => q.elim h1 (fun z => z h2)), nI_clamp (by omega)]
theorem gN_bd (k : Int32) : 3 ≤ gN k ∧ gN k ≤ 31 := by
  by_cases h : k < 3 ∨ ¬ k ≤ 31
  · unfold gN; rw [if_pos h]; omega
  · obtain ⟨j, hj, hj2, rfl⟩ := gN_rng (fun q => h (Or.inl q)) (by by_cases q : k ≤ 31; exact q; exact absurd (Or.inr q) h)
    unfold gN; rw [if_neg h, nI_clamp (by omega)]; omega
/-- the cells of k new NODES, six a NODE -/
def gNodes (cI : ClassId) (n k : Nat) (fn : Nat → Option Nat) (P : va_W) : Prop := P.length = 6 * k ∧ ∀ j, j < k → ∃ nd a1 a2 a3 a4 a5 : Nat, fn j = some nd ∧ P[6 * j]? = some (nd, .inr (0, [.int (nI j), .ref a1, .ref a2, .ref a3, .ref a4, .ref a5, .int 1, .int 0, .int 0, .int 0, .null])) ∧ P[6 * j + 1]? = some (a1, .inl (cI, n, .inl (fun _ => 0))) ∧ P[6 * j + 2]? = some (a2, .inl (cI, n, .inl (fun _ => 0))) ∧ P[6 * j + 3]? = some (a3, .inl (cI, n, .inl (fun _ => 0))) ∧ P[6 * j + 4]? = some (a4, .inl (cI, n, .inl (fun _ => 0))) ∧ P[6 * j + 5]? = some (a5, .inl (cI, n, .inl (fun _ => 0)))
theorem gNodes_0 (cI : ClassId) (n : Nat) (fn : Nat → Option Nat) : gNodes cI n 0 fn [] := ⟨rfl, fun j hj => absurd hj (Nat.not_lt_zero j)⟩
theorem gNodes_push {cI : ClassId} {n k : Nat} {fn : Nat → Option Nat} {P : va_W} (h : gNodes cI n k fn P) (nd a1 a2 a3 a4 a5 : Nat) : gNodes cI n (k + 1) (va_up fn k (some nd)) (P ++ [(nd, .inr (0, [.int (nI k), .ref a1, .ref a2, .ref a3, .ref a4, .ref a5, .int 1, .int 0, .int 0, .int 0, .null])), (a1, .inl (cI, n, .inl (fun _ => 0))), (a2, .inl (cI, n, .inl (fun _ => 0))), (a3, .inl (cI, n, .inl (fun _ => 0))), (a4, .inl (cI, n, .inl (fun _ => 0))), (a5, .inl (cI, n, .inl (fun _ => 0)))]) := by
  obtain ⟨h1, h2⟩ := h
  refine ⟨by simp [h1]; omega, fun j hj => ?_⟩
  by_cases hjk : j = k
  · subst hjk
    refine ⟨nd, a1, a2, a3, a4, a5, by simp [va_up], ?_, ?_, ?_, ?_, ?_, ?_⟩ <;> (rw [List.getElem?_append_right (by omega), h1]) <;> (simp)
  · obtain ⟨nd', c1, c2, c3, c4, c5, e0, e1, e2, e3, e4, e5, e6⟩ := h2 j (by omega)
    refine ⟨nd', c1, c2, c3, c4, c5, by simp [va_up, hjk, e0], ?_, ?_, ?_, ?_, ?_, ?_⟩ <;> (rw [List.getElem?_append_left (by omega)]) <;> assumption
theorem gSw (x : Int32) (h : Nat) (hi : Int) (he : (h : Int) = hi) (hb : h < 2 ^ 31) : (x.toInt < 0 ∨ hi < x.toInt) ∨ ∃ j : Nat, j ≤ h ∧ x = nI j := by
  by_cases q : x.toInt < 0 ∨ hi < x.toInt
  · exact Or.inl q
  · obtain ⟨j, hj, rfl⟩ := nI_of (x := x) (fun z => by rw [Int32.lt_iff_toInt_lt, Int32.toInt_zero] at z; omega)
    rw [nI_toInt hj] at q
    exact Or.inr ⟨j, by omega, rfl⟩
/-- what a fresh NODE tells -/
def fNode (w : Int32) : Int32 := if w.toInt < 0 ∨ 5 < w.toInt then -1 else if w = 0 then 1 else 0
/-- what a fresh object counts -/
def fCount (n : Nat) (w : Int32) : Int32 := if w.toInt < 0 ∨ 9 < w.toInt then -1 else if w = 0 ∨ w = 1 then nI n else 0
theorem gMod {i : Nat} (h : i < 2000) : (0 : Int32) + nI i - ((0 : Int32) + nI i) / 2000 * 2000 = nI i := by
  have h0 : (0 : Int32) + nI i = nI i := by rw [← nI_0, nI_add, Nat.zero_add]
  rw [h0]
  apply Int32.toInt_inj.mp
  rw [rem_toInt, nI_toInt (by omega)]
  exact Int.tmod_eq_of_lt (by omega) (by show (i : Int) < 2000; omega)
