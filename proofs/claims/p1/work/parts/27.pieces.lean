theorem gArr {s : State} {args : Array Value} {ty : FieldType} (h : (Cond.arrayClass ty).before args s = true) (hty : ∀ C, ty ≠ .object C) : ∃ cA : ClassId, ArrOfT s cA ty ∧ va_RA s cA ty := by
  obtain ⟨c, k, comp, h1, h2, h3⟩ := Cond.arrayClass_spec h
  refine ⟨c, fun n z => ⟨fun k h => (by cases h), k, h2, comp, h3⟩, ?_⟩
  cases ty <;> first | exact h1 | exact absurd rfl (hty _)
theorem gArrO {s : State} {args : Array Value} {C : String} (h : (Cond.arrayOver (.object C)).before args s = true) : ∃ cA : ClassId, ArrOfT s cA (.object C) ∧ va_RA s cA (.object C) := by
  obtain ⟨comp, c, k, h1, h2, h3, h4, h5⟩ := Cond.arrayOver_spec h
  exact ⟨c, fun n z => ⟨fun k h => (by cases h), k, h3, comp, h4⟩, k, comp, h3, h4, h1, h5⟩
theorem gStr {s : State} {args : Array Value} {tx : String} {k : Nat} {cur : ClassId} (hcur : s.vm.findClass RX3 = some cur) (h : (Cond.stringRef RX3 k tx).before args s = true) : ∃ a : Nat, vk_R RX3 k tx a s := by
  obtain ⟨_, _, _, a, -, -, -, -, -, h6⟩ := Cond.stringRef_spec hcur h
  exact ⟨a, vk_R.of (A := args) h h6⟩
theorem gCutNode {D : va_G} {cl : List vw_C} {X P : va_W} {H : Heap} {A : Nat → Prop} {cI : ClassId} {n : Nat} {fn : Nat → Option Nat} (hP : va_P D cl (X ++ P) H) (hD : va_D A (X ++ P)) (hN : gNodes cI n n fn P) {j : Nat} (hj : j < n) : ∃ nd a1 a2 a3 a4 a5 : Nat, fn j = some nd ∧ va_P D cl (X ++ [(nd, .inr (0, [.int (nI j), .ref a1, .ref a2, .ref a3, .ref a4, .ref a5, .int 1, .int 0, .int 0, .int 0, .null])), (a1, .inl (cI, n, .inl (fun _ => 0))), (a2, .inl (cI, n, .inl (fun _ => 0))), (a3, .inl (cI, n, .inl (fun _ => 0))), (a4, .inl (cI, n, .inl (fun _ => 0))), (a5, .inl (cI, n, .inl (fun _ => 0)))]) H ∧ va_D A (X ++ [(nd, .inr (0, [.int (nI j), .ref a1, .ref a2, .ref a3, .ref a4, .ref a5, .int 1, .int 0, .int 0, .int 0, .null])), (a1, .inl (cI, n, .inl (fun _ => 0))), (a2, .inl (cI, n, .inl (fun _ => 0))), (a3, .inl (cI, n, .inl (fun _ => 0))), (a4, .inl (cI, n, .inl (fun _ => 0))), (a5, .inl (cI, n, .inl (fun _ => 0)))]) := by
  obtain ⟨nd, a1, a2, a3, a4, a5, e0, e1, e2, e3, e4, e5, e6⟩ := hN.2 j hj
  refine ⟨nd, a1, a2, a3, a4, a5, e0, ?_⟩
  generalize hS : ([(nd, .inr (0, [.int (nI j), .ref a1, .ref a2, .ref a3, .ref a4, .ref a5, .int 1, .int 0, .int 0, .int 0, .null])), (a1, .inl (cI, n, .inl (fun _ => 0))), (a2, .inl (cI, n, .inl (fun _ => 0))), (a3, .inl (cI, n, .inl (fun _ => 0))), (a4, .inl (cI, n, .inl (fun _ => 0))), (a5, .inl (cI, n, .inl (fun _ => 0)))] : va_W) = S
  have hlen : S.length = 6 := by rw [← hS]; rfl
  have hat : ∀ (i : Nat) (q : Nat × va_E), S[i]? = some q → P[6 * j + i]? = some q := by
    intro i q hq
    have hi : i < 6 := by rw [← hlen]; exact (List.getElem?_eq_some_iff.mp hq).1
    rw [← hS] at hq
    rcases (show i = 0 ∨ i = 1 ∨ i = 2 ∨ i = 3 ∨ i = 4 ∨ i = 5 by omega) with rfl | rfl | rfl | rfl | rfl | rfl <;> cases hq <;> assumption
  have hg : ∀ (k : Nat) (q : Nat × va_E), (X ++ S)[k]? = some q → (X ++ P)[if k < X.length then k else X.length + (6 * j + (k - X.length))]? = some q := by
    intro k q hq
    by_cases hk : k < X.length
    · rw [if_pos hk, List.getElem?_append_left hk]; rw [List.getElem?_append_left hk] at hq; exact hq
    · rw [if_neg hk, List.getElem?_append_right (by omega), Nat.add_sub_cancel_left]
      rw [List.getElem?_append_right (by omega)] at hq
      exact hat _ q hq
  refine ⟨hP.by _ hg, hD.by _ hg (fun i k _ _ h => ?_)⟩
  by_cases h1 : i < X.length <;> by_cases h2 : k < X.length <;> simp only [h1, h2, if_true, if_false] at h <;> omega
