/-- blocks of cells, one behind another -/
def blk (g : Nat → va_W) : Nat → va_W
  | 0 => []
  | n + 1 => blk g n ++ g n
theorem blk_len {g : Nat → va_W} {L : Nat} (hl : ∀ j, (g j).length = L) : ∀ n, (blk g n).length = L * n := by
  intro n
  induction n with
  | zero => simp [blk]
  | succ n ih => simp [blk, ih, hl, Nat.mul_succ]
theorem blk_get {g : Nat → va_W} {L : Nat} (hl : ∀ j, (g j).length = L) {k i : Nat} (hi : i < L) : ∀ n, k < n → (blk g n)[L * k + i]? = (g k)[i]? := by
  intro n
  induction n with
  | zero => intro h; exact absurd h (Nat.not_lt_zero _)
  | succ n ih =>
    intro h
    unfold blk
    by_cases hk : k = n
    · subst hk
      rw [List.getElem?_append_right (by rw [blk_len hl]; omega), blk_len hl, Nat.add_sub_cancel_left]
    · have hlt : L * k + i < L * n := by
        have : L * k + L ≤ L * n := by rw [← Nat.mul_succ]; exact Nat.mul_le_mul_left L (by omega)
        omega
      rw [List.getElem?_append_left (by rw [blk_len hl]; exact hlt)]
      exact ih (by omega)
theorem blk_congr {g h : Nat → va_W} : ∀ n, (∀ j, j < n → g j = h j) → blk g n = blk h n := by
  intro n
  induction n with
  | zero => intro _; rfl
  | succ n ih => intro e; unfold blk; rw [ih (fun j hj => e j (by omega)), e n (by omega)]
theorem blk_set {g : Nat → va_W} {L : Nat} (hl : ∀ j, (g j).length = L) {k i : Nat} (hi : i < L) (c : Nat × va_E) : ∀ n, k < n → (blk g n).set (L * k + i) c = blk (fun j => if j = k then (g k).set i c else g j) n := by
  intro n
  induction n with
  | zero => intro h; exact absurd h (Nat.not_lt_zero _)
  | succ n ih =>
    intro h
    by_cases hk : k = n
    · subst hk
      show (blk g k ++ g k).set (L * k + i) c = blk _ k ++ _
      rw [List.set_append_right _ _ (by rw [blk_len hl]; omega), blk_len hl, Nat.add_sub_cancel_left]
      simp only [if_true]
      exact congrArg (· ++ (g k).set i c) (blk_congr k (fun j hj => (if_neg (Nat.ne_of_lt hj)).symm))
    · have hlt : L * k + i < L * n := by
        have : L * k + L ≤ L * n := by rw [← Nat.mul_succ]; exact Nat.mul_le_mul_left L (by omega)
        omega
      show (blk g n ++ g n).set (L * k + i) c = blk _ n ++ _
      rw [List.set_append_left _ _ (by rw [blk_len hl]; exact hlt), ih (by omega)]
      simp only [if_neg (fun e : n = k => hk e.symm)]
/-- where the class's cells lie -/
abbrev CE : Type := (Nat → Nat) × (Nat → Nat) × (Nat → Nat) × (Nat → Nat → Nat) × (Nat → Nat) × (Nat → Nat)
/-- a state of the class: numbers (kind, which, field), rows (kind, which, field), tasks -/
abbrev CS : Type := (Nat → Nat → Nat → Int32) × (Nat → Nat → Nat → Nat → Int32) × (Nat → Nat)
def cI_ (σ : CS) (kd ix f : Nat) (v : Int32) : CS := (fun a b c => if a = kd ∧ b = ix ∧ c = f then v else σ.1 a b c, σ.2.1, σ.2.2)
def cA_ (σ : CS) (kd ix f i : Nat) (v : Int32) : CS := (σ.1, fun a b c => if a = kd ∧ b = ix ∧ c = f then upd (σ.2.1 kd ix f) i v else σ.2.1 a b c, σ.2.2)
def cT_ (σ : CS) (k t : Nat) : CS := (σ.1, σ.2.1, fun j => if j = k then t else σ.2.2 j)
/-- the addresses: x, nodes, row, operations by E.1 0 .. 3; the row's rows E.2.1 j; a NODE E.2.2.1 k, its rows E.2.2.2.1 k j; an OPERATION E.2.2.2.2.1 o, its view E.2.2.2.2.2 o -/
def cFix (cI cN cO : ClassId) (E : CE) (n bg : Nat) (σ : CS) : va_W := [(E.1 0, .inr (3, [.ref (E.1 1), .ref (E.1 2), .ref (E.1 3), .int (σ.1 0 0 3), .int (σ.1 0 0 4), .int (σ.1 0 0 5), .int (σ.1 0 0 6), .int (σ.1 0 0 7), .int (σ.1 0 0 8)])),
  (E.1 1, .inl (cN, n, .inr (.inr (.inr (.inr (fun j => if j < n then some (E.2.2.1 j) else none)))))),
  (E.1 2, .inr (2, [.int (σ.1 1 0 0), .ref (E.2.1 1), .ref (E.2.1 2), .ref (E.2.1 3), .ref (E.2.1 4), .ref (E.2.1 5), .ref (E.2.1 6), .int (σ.1 1 0 7), .int (σ.1 1 0 8), .int (σ.1 1 0 9)])),
  (E.1 3, .inl (cO, 512, .inr (.inr (.inr (.inr (fun j => if 1 ≤ j ∧ j ≤ bg then some (E.2.2.2.2.1 j) else none)))))),
  (E.2.1 1, .inl (cI, 2000, .inl (σ.2.1 1 0 1))), (E.2.1 2, .inl (cI, 2000, .inl (σ.2.1 1 0 2))), (E.2.1 3, .inl (cI, 2000, .inl (σ.2.1 1 0 3))), (E.2.1 4, .inl (cI, 2000, .inl (σ.2.1 1 0 4))), (E.2.1 5, .inl (cI, 2000, .inl (σ.2.1 1 0 5))), (E.2.1 6, .inl (cI, 2000 * n, .inl (σ.2.1 1 0 6)))]
def cTk (E : CE) (t : Nat) : Option Nat := if t = 0 then none else some (E.2.2.2.2.1 t)
def cNd (cI : ClassId) (E : CE) (n : Nat) (σ : CS) (k : Nat) : va_W := [(E.2.2.1 k, .inr (0, [.int (σ.1 2 k 0), .ref (E.2.2.2.1 k 1), .ref (E.2.2.2.1 k 2), .ref (E.2.2.2.1 k 3), .ref (E.2.2.2.1 k 4), .ref (E.2.2.2.1 k 5), .int (σ.1 2 k 6), .int (σ.1 2 k 7), .int (σ.1 2 k 8), .int (σ.1 2 k 9), va_rf (cTk E (σ.2.2 k))])),
  (E.2.2.2.1 k 1, .inl (cI, n, .inl (σ.2.1 2 k 1))), (E.2.2.2.1 k 2, .inl (cI, n, .inl (σ.2.1 2 k 2))), (E.2.2.2.1 k 3, .inl (cI, n, .inl (σ.2.1 2 k 3))), (E.2.2.2.1 k 4, .inl (cI, n, .inl (σ.2.1 2 k 4))), (E.2.2.2.1 k 5, .inl (cI, n, .inl (σ.2.1 2 k 5)))]
def cOp (cI : ClassId) (E : CE) (n : Nat) (σ : CS) (j : Nat) : va_W := [(E.2.2.2.2.1 (j + 1), .inr (1, [.int (σ.1 3 (j + 1) 0), .int (σ.1 3 (j + 1) 1), .int (σ.1 3 (j + 1) 2), .int (σ.1 3 (j + 1) 3), .int (σ.1 3 (j + 1) 4), .int (σ.1 3 (j + 1) 5), .ref (E.2.2.2.2.2 (j + 1)), .int (σ.1 3 (j + 1) 7), .int (σ.1 3 (j + 1) 8), .int (σ.1 3 (j + 1) 9), .int (σ.1 3 (j + 1) 10), .int (σ.1 3 (j + 1) 11)])),
  (E.2.2.2.2.2 (j + 1), .inl (cI, n, .inl (σ.2.1 3 (j + 1) 6)))]
def cW (cI cN cO : ClassId) (E : CE) (n bg : Nat) (σ : CS) : va_W := (cFix cI cN cO E n bg σ ++ blk (cNd cI E n σ) n) ++ blk (cOp cI E n σ) bg
theorem cNd_len (cI : ClassId) (E : CE) (n : Nat) (σ : CS) : ∀ j, (cNd cI E n σ j).length = 6 := fun _ => rfl
theorem cOp_len (cI : ClassId) (E : CE) (n : Nat) (σ : CS) : ∀ j, (cOp cI E n σ j).length = 2 := fun _ => rfl
theorem cW_fix {cI cN cO : ClassId} {E : CE} {n bg : Nat} {σ : CS} {i : Nat} (hi : i < 10) : (cW cI cN cO E n bg σ)[i]? = (cFix cI cN cO E n bg σ)[i]? := by
  unfold cW
  have h10 : (cFix cI cN cO E n bg σ).length = 10 := rfl
  rw [List.getElem?_append_left (by rw [List.length_append, h10]; omega), List.getElem?_append_left (by rw [h10]; exact hi)]
theorem cW_nd {cI cN cO : ClassId} {E : CE} {n bg : Nat} {σ : CS} {k i : Nat} (hk : k < n) (hi : i < 6) : (cW cI cN cO E n bg σ)[10 + (6 * k + i)]? = (cNd cI E n σ k)[i]? := by
  unfold cW
  have h10 : (cFix cI cN cO E n bg σ).length = 10 := rfl
  have hlt : 6 * k + i < 6 * n := by omega
  rw [List.getElem?_append_left (by rw [List.length_append, h10, blk_len (cNd_len cI E n σ)]; omega), List.getElem?_append_right (by rw [h10]; omega), h10, Nat.add_sub_cancel_left]
  exact blk_get (cNd_len cI E n σ) hi n hk
theorem cW_op {cI cN cO : ClassId} {E : CE} {n bg : Nat} {σ : CS} {o i : Nat} (h1 : 1 ≤ o) (h2 : o ≤ bg) (hi : i < 2) : (cW cI cN cO E n bg σ)[10 + 6 * n + (2 * (o - 1) + i)]? = (cOp cI E n σ (o - 1))[i]? := by
  unfold cW
  have h10 : (cFix cI cN cO E n bg σ).length = 10 := rfl
  rw [List.getElem?_append_right (by rw [List.length_append, h10, blk_len (cNd_len cI E n σ)]; omega), List.length_append, h10, blk_len (cNd_len cI E n σ), Nat.add_sub_cancel_left]
  exact blk_get (cOp_len cI E n σ) hi bg (by omega)
theorem cW_setF {cI cN cO : ClassId} {E : CE} {n bg : Nat} {σ σ' : CS} {i : Nat} {c : Nat × va_E} (hi : i < 10) (h1 : (cFix cI cN cO E n bg σ).set i c = cFix cI cN cO E n bg σ') (h2 : ∀ k, cNd cI E n σ k = cNd cI E n σ' k) (h3 : ∀ k, cOp cI E n σ k = cOp cI E n σ' k) : (cW cI cN cO E n bg σ).set i c = cW cI cN cO E n bg σ' := by
  unfold cW
  have h10 : (cFix cI cN cO E n bg σ).length = 10 := rfl
  rw [List.set_append_left _ _ (by rw [List.length_append, h10]; omega), List.set_append_left _ _ (by rw [h10]; exact hi), h1, blk_congr n (fun j _ => h2 j), blk_congr bg (fun j _ => h3 j)]
theorem cW_setN {cI cN cO : ClassId} {E : CE} {n bg : Nat} {σ σ' : CS} {k i : Nat} {c : Nat × va_E} (hk : k < n) (hi : i < 6) (h1 : cFix cI cN cO E n bg σ = cFix cI cN cO E n bg σ') (h2 : (cNd cI E n σ k).set i c = cNd cI E n σ' k) (h2' : ∀ j, j ≠ k → cNd cI E n σ j = cNd cI E n σ' j) (h3 : ∀ k, cOp cI E n σ k = cOp cI E n σ' k) : (cW cI cN cO E n bg σ).set (10 + (6 * k + i)) c = cW cI cN cO E n bg σ' := by
  unfold cW
  have h10 : (cFix cI cN cO E n bg σ).length = 10 := rfl
  rw [List.set_append_left _ _ (by rw [List.length_append, h10, blk_len (cNd_len cI E n σ)]; omega), List.set_append_right _ _ (by rw [h10]; omega), h10, Nat.add_sub_cancel_left, blk_set (cNd_len cI E n σ) hi c n hk, ← h1, blk_congr bg (fun j _ => h3 j)]
  rw [blk_congr (h := cNd cI E n σ') n (fun j _ => by
    by_cases e : j = k
    · subst e; simp only [if_true]; exact h2
    · simp only [if_neg e]; exact h2' j e)]
theorem cW_setO {cI cN cO : ClassId} {E : CE} {n bg : Nat} {σ σ' : CS} {o i : Nat} {c : Nat × va_E} (g1 : 1 ≤ o) (g2 : o ≤ bg) (hi : i < 2) (h1 : cFix cI cN cO E n bg σ = cFix cI cN cO E n bg σ') (h2 : ∀ k, cNd cI E n σ k = cNd cI E n σ' k) (h3 : (cOp cI E n σ (o - 1)).set i c = cOp cI E n σ' (o - 1)) (h3' : ∀ j, j ≠ o - 1 → cOp cI E n σ j = cOp cI E n σ' j) : (cW cI cN cO E n bg σ).set (10 + 6 * n + (2 * (o - 1) + i)) c = cW cI cN cO E n bg σ' := by
  unfold cW
  have h10 : (cFix cI cN cO E n bg σ).length = 10 := rfl
  rw [List.set_append_right _ _ (by rw [List.length_append, h10, blk_len (cNd_len cI E n σ)]; omega), List.length_append, h10, blk_len (cNd_len cI E n σ), Nat.add_sub_cancel_left, blk_set (cOp_len cI E n σ) hi c bg (by omega), ← h1, blk_congr n (fun j _ => h2 j)]
  rw [blk_congr (h := cOp cI E n σ') bg (fun j _ => by
    by_cases e : j = o - 1
    · subst e; simp only [if_true]; exact h3
    · simp only [if_neg e]; exact h3' j e)]
def cWd (D : va_G) (cI cN cO : ClassId) (A : Nat → Prop) (H0 : Heap) (E : CE) (n bg : Nat) (σ : CS) (H : Heap) (locs : List Loc) : Prop := va_P D vwCl (cW cI cN cO E n bg σ) H ∧ va_D A (cW cI cN cO E n bg σ) ∧ va_S A H0 H locs
