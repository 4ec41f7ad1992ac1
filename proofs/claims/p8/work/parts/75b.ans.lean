/-- the UPDATES of kind wh that the VIEW of o has, the latest first; those of the logs -/
def sV (M : MS) (o q wh : Nat) : Prop := M.1 3 q 2 = wh ∧ 0 < M.1 3 q 11 ∧ M.1 3 q 11 ≤ M.2.1 3 o 6 (M.1 3 q 1)
noncomputable def lC (M : MS) (o wh : Nat) : Nat → List Nat
  | 0 => []
  | i + 1 => cif (sV M o (i + 1) wh) ((i + 1) :: lC M o wh i) (lC M o wh i)
noncomputable def lK (M : MS) (wh k : Nat) : Nat → List Nat
  | 0 => []
  | i + 1 => cif (M.1 3 (M.2.1 2 k 22 (i + 1)) 2 = wh) (M.2.1 2 k 22 (i + 1) :: lK M wh k i) (lK M wh k i)
noncomputable def lR (M : MS) (wh : Nat) (V : Nat → Nat) : Nat → List Nat
  | 0 => []
  | k + 1 => lK M wh k (V k) ++ lR M wh V k
theorem lC_mem {M : MS} {o wh q : Nat} : ∀ {i : Nat}, q ∈ lC M o wh i ↔ 1 ≤ q ∧ q ≤ i ∧ sV M o q wh
  | 0 => by simp only [lC, List.not_mem_nil, false_iff]; omega
  | i + 1 => by
    have ih := lC_mem (M := M) (o := o) (wh := wh) (q := q) (i := i)
    unfold lC
    by_cases h : sV M o (i + 1) wh
    · rw [cif_pos h, List.mem_cons, ih]
      constructor
      · rintro (rfl | h2)
        · exact ⟨by omega, by omega, h⟩
        · exact ⟨h2.1, by omega, h2.2.2⟩
      · intro h2
        by_cases e : q = i + 1
        · exact Or.inl e
        · exact Or.inr ⟨h2.1, by omega, h2.2.2⟩
    · rw [cif_neg h, ih]
      constructor
      · intro h2; exact ⟨h2.1, by omega, h2.2.2⟩
      · intro h2
        have : ¬ q = i + 1 := fun e => h (e ▸ h2.2.2)
        exact ⟨h2.1, by omega, h2.2.2⟩
theorem lC_nd {M : MS} {o wh : Nat} : ∀ (i : Nat), (lC M o wh i).Nodup
  | 0 => List.nodup_nil
  | i + 1 => by
    unfold lC
    by_cases h : sV M o (i + 1) wh
    · rw [cif_pos h]
      exact List.nodup_cons.mpr ⟨fun q => by have := (lC_mem.mp q).2.1; omega, lC_nd i⟩
    · rw [cif_neg h]; exact lC_nd i
theorem lK_mem {M : MS} {wh k q : Nat} : ∀ {i : Nat}, q ∈ lK M wh k i ↔ ∃ p, 1 ≤ p ∧ p ≤ i ∧ q = M.2.1 2 k 22 p ∧ M.1 3 q 2 = wh
  | 0 => by
    simp only [lK, List.not_mem_nil, false_iff]
    rintro ⟨p, h1, h2, -⟩; omega
  | i + 1 => by
    have ih := lK_mem (M := M) (wh := wh) (k := k) (q := q) (i := i)
    unfold lK
    by_cases h : M.1 3 (M.2.1 2 k 22 (i + 1)) 2 = wh
    · rw [cif_pos h, List.mem_cons, ih]
      constructor
      · rintro (rfl | ⟨p, h1, h2, h3⟩)
        · exact ⟨i + 1, by omega, by omega, rfl, h⟩
        · exact ⟨p, h1, by omega, h3⟩
      · rintro ⟨p, h1, h2, h3, h4⟩
        by_cases e : p = i + 1
        · subst e; exact Or.inl h3
        · exact Or.inr ⟨p, h1, by omega, h3, h4⟩
    · rw [cif_neg h, ih]
      constructor
      · rintro ⟨p, h1, h2, h3⟩; exact ⟨p, h1, by omega, h3⟩
      · rintro ⟨p, h1, h2, h3, h4⟩
        have : ¬ p = i + 1 := fun e => h (by subst e; rw [← h3]; exact h4)
        exact ⟨p, h1, by omega, h3, h4⟩
theorem lK_nd {n : Nat} {M : MS} {wh k : Nat} (hi : mInv n M) (hk : k < n) : ∀ (i : Nat), i ≤ M.1 2 k 11 → (lK M wh k i).Nodup
  | 0, _ => List.nodup_nil
  | i + 1, h => by
    unfold lK
    by_cases c : M.1 3 (M.2.1 2 k 22 (i + 1)) 2 = wh
    · rw [cif_pos c]
      refine List.nodup_cons.mpr ⟨fun q => ?_, lK_nd hi hk i (by omega)⟩
      obtain ⟨p, h1, h2, h3, -⟩ := lK_mem.mp q
      have a := (hi.2.1.1 k (i + 1) hk (by omega) h).2.2.2.1
      have b := (hi.2.1.1 k p hk h1 (by omega)).2.2.2.1
      rw [h3, b] at a
      omega
    · rw [cif_neg c]; exact lK_nd hi hk i (by omega)
theorem lR_mem {M : MS} {wh q : Nat} {V : Nat → Nat} : ∀ {k : Nat}, q ∈ lR M wh V k ↔ ∃ j, j < k ∧ q ∈ lK M wh j (V j)
  | 0 => by
    simp only [lR, List.not_mem_nil, false_iff]
    rintro ⟨j, h, -⟩; omega
  | k + 1 => by
    have ih := lR_mem (M := M) (wh := wh) (q := q) (V := V) (k := k)
    unfold lR
    rw [List.mem_append, ih]
    constructor
    · rintro (h | ⟨j, h1, h2⟩)
      · exact ⟨k, by omega, h⟩
      · exact ⟨j, by omega, h2⟩
    · rintro ⟨j, h1, h2⟩
      by_cases e : j = k
      · subst e; exact Or.inl h2
      · exact Or.inr ⟨j, by omega, h2⟩
theorem lR_nd {n : Nat} {M : MS} {wh : Nat} {V : Nat → Nat} (hi : mInv n M) (hV : ∀ k, k < n → V k ≤ M.1 2 k 11) : ∀ (k : Nat), k ≤ n → (lR M wh V k).Nodup
  | 0, _ => List.nodup_nil
  | k + 1, h => by
    unfold lR
    refine List.nodup_append.mpr ⟨lK_nd hi (by omega) _ (hV k (by omega)), lR_nd hi hV k (by omega), fun a ha b hb e => ?_⟩
    subst e
    obtain ⟨p, h1, h2, h3, -⟩ := lK_mem.mp ha
    obtain ⟨j, hj, hb⟩ := lR_mem.mp hb
    obtain ⟨p', g1, g2, g3, -⟩ := lK_mem.mp hb
    have a1 := (hi.2.1.1 k p (by omega) h1 (by have := hV k (by omega); omega)).2.2.1
    have a2 := (hi.2.1.1 j p' (by omega) g1 (by have := hV j (by omega); omega)).2.2.1
    rw [← h3] at a1
    rw [← g3, a1] at a2
    omega
theorem lRC {n o wh : Nat} {M : MS} (hi : mInv n M) (h1 : 1 ≤ o) (h2 : o ≤ M.1 0 0 3) : (lR M wh (M.2.1 3 o 6) n).Perm (lC M o wh (M.1 0 0 3)) := by
  have hV : ∀ k, k < n → M.2.1 3 o 6 k ≤ M.1 2 k 11 := fun k hk => hi.2.2.1.2.1 o k h1 h2 hk
  refine (List.perm_ext_iff_of_nodup (lR_nd hi hV n (Nat.le_refl _)) (lC_nd _)).mpr (fun q => ?_)
  rw [lC_mem]
  constructor
  · intro h
    obtain ⟨k, hk, h⟩ := lR_mem.mp h
    obtain ⟨p, p1, p2, p3, p4⟩ := lK_mem.mp h
    have a := hi.2.1.1 k p hk p1 (by have := hV k hk; omega)
    rw [← p3] at a
    exact ⟨a.1, a.2.1, p4, by rw [a.2.2.2.1]; omega, by rw [a.2.2.2.1, a.2.2.1]; exact p2⟩
  · rintro ⟨q1, q2, q3, q4, q5⟩
    have hat := (hi.1.2.2 q q1 q2).1
    have a := hi.2.1.2.1 q q1 q2 q4
    exact lR_mem.mpr ⟨M.1 3 q 1, hat, lK_mem.mpr ⟨M.1 3 q 11, by omega, q5, a.2.symm, q3⟩⟩
/-- the folds -/
def f8s (v : Nat → Int64) : List Nat → Int64
  | [] => 0
  | q :: l => f8s v l + v q
noncomputable def f8m (P : Nat → Prop) (v : Nat → Int64) : List Nat → Int64
  | [] => -9223372036854775808
  | q :: l => cif (P q) (mxL (f8m P v l) (v q)) (f8m P v l)
noncomputable def f8d (key : Nat → Int32) : List Nat → Int32
  | [] => 0
  | q :: l => f8d key l + cif (∃ u, u ∈ l ∧ key u = key q) 0 1
theorem f8s_perm {v : Nat → Int64} {l l' : List Nat} (h : l.Perm l') : f8s v l = f8s v l' := by
  induction h with
  | nil => rfl
  | cons x _ ih => simp only [f8s, ih]
  | swap x y l => simp only [f8s]; rw [Int64.add_assoc, Int64.add_comm (v x), ← Int64.add_assoc]
  | trans _ _ ih1 ih2 => exact ih1.trans ih2
theorem mxL_i (a b : Int64) : (mxL a b).toInt = max a.toInt b.toInt := by
  unfold mxL
  by_cases h : b < a
  · rw [if_pos h]; rw [Int64.lt_iff_toInt_lt] at h; omega
  · rw [if_neg h]; rw [Int64.lt_iff_toInt_lt] at h; omega
theorem mxL_ac (a x y : Int64) : mxL (mxL a x) y = mxL (mxL a y) x := by
  apply Int64.toInt_inj.mp
  rw [mxL_i, mxL_i, mxL_i, mxL_i]; omega
theorem f8m_perm {P : Nat → Prop} {v : Nat → Int64} {l l' : List Nat} (h : l.Perm l') : f8m P v l = f8m P v l' := by
  induction h with
  | nil => rfl
  | cons x _ ih => simp only [f8m, ih]
  | swap x y l =>
    simp only [f8m]
    by_cases hx : P x <;> by_cases hy : P y
    · rw [cif_pos hx, cif_pos hy, cif_pos hy, cif_pos hx, mxL_ac]
    · rw [cif_pos hx, cif_neg hy, cif_neg hy, cif_pos hx]
    · rw [cif_neg hx, cif_pos hy, cif_neg hx]
    · rw [cif_neg hx, cif_neg hy, cif_neg hx]
  | trans _ _ ih1 ih2 => exact ih1.trans ih2
theorem ex_perm {key : Nat → Int32} {l l' : List Nat} {k : Int32} (h : l.Perm l') : (∃ u, u ∈ l ∧ key u = k) ↔ (∃ u, u ∈ l' ∧ key u = k) :=
  ⟨fun ⟨u, h1, h2⟩ => ⟨u, h.mem_iff.mp h1, h2⟩, fun ⟨u, h1, h2⟩ => ⟨u, h.mem_iff.mpr h1, h2⟩⟩
theorem cif_iff {α : Type} {P P' : Prop} {a b : α} (h : P ↔ P') : cif P a b = cif P' a b := by rw [propext h]
theorem f8d_perm {key : Nat → Int32} {l l' : List Nat} (h : l.Perm l') : f8d key l = f8d key l' := by
  induction h with
  | nil => rfl
  | @cons x l1 l2 hp ih => simp only [f8d, ih]; rw [cif_iff (ex_perm (key := key) (k := key x) hp)]
  | swap x y l =>
    simp only [f8d]
    by_cases e : key x = key y
    · have a1 : (∃ u, u ∈ x :: l ∧ key u = key y) := ⟨x, List.mem_cons_self, e⟩
      have a2 : (∃ u, u ∈ y :: l ∧ key u = key x) := ⟨y, List.mem_cons_self, e.symm⟩
      rw [cif_pos a1, cif_pos a2, e]
    · have a1 : (∃ u, u ∈ x :: l ∧ key u = key y) ↔ (∃ u, u ∈ l ∧ key u = key y) := by
        constructor
        · rintro ⟨u, h1, h2⟩
          rcases List.mem_cons.mp h1 with rfl | h1
          · exact absurd h2 e
          · exact ⟨u, h1, h2⟩
        · rintro ⟨u, h1, h2⟩; exact ⟨u, List.mem_cons_of_mem _ h1, h2⟩
      have a2 : (∃ u, u ∈ y :: l ∧ key u = key x) ↔ (∃ u, u ∈ l ∧ key u = key x) := by
        constructor
        · rintro ⟨u, h1, h2⟩
          rcases List.mem_cons.mp h1 with rfl | h1
          · exact absurd h2.symm e
          · exact ⟨u, h1, h2⟩
        · rintro ⟨u, h1, h2⟩; exact ⟨u, List.mem_cons_of_mem _ h1, h2⟩
      rw [cif_iff a1, cif_iff a2, Int32.add_assoc, Int32.add_comm (cif (∃ u, u ∈ l ∧ key u = key x) 0 1), ← Int32.add_assoc]
  | trans _ _ ih1 ih2 => exact ih1.trans ih2
def ka (M : MS) (q : Nat) : Int32 := nI (M.1 3 q 3)
def kb (M : MS) (q : Nat) : Int32 := nI (M.1 3 q 4)
/-- what an OPERATION answers, by the plain machine -/
noncomputable def F8 (M : MS) (o : Nat) (L : Nat → List Nat) : Int64 := cif (M.1 3 o 2 = 10) (f8s (fun q => (ka M q).toInt64) (L 0)) (cif (M.1 3 o 2 = 11) (f8m (fun _ => True) (fun q => (ka M q).toInt64) (L 1)) (cif (M.1 3 o 2 = 12) (cif (∃ q, q ∈ L 2 ∧ ka M q = ka M o) 1 0) (cif (M.1 3 o 2 = 13) (f8d (ka M) (L 2)).toInt64 (cif (M.1 3 o 2 = 14) (f8m (fun q => ka M q = ka M o) (fun q => (kb M q).toInt64) (L 3)) (cif (M.1 3 o 2 = 15) (f8d (ka M) (L 3)).toInt64 0)))))
theorem F8_perm {M : MS} {o : Nat} {L L' : Nat → List Nat} (h : ∀ w, (L w).Perm (L' w)) : F8 M o L = F8 M o L' := by
  unfold F8
  rw [f8s_perm (h 0), f8m_perm (h 1), cif_iff (ex_perm (key := ka M) (k := ka M o) (h 2)), f8d_perm (h 2), f8m_perm (h 3), f8d_perm (h 3)]
noncomputable def aA (M : MS) (x : Int32) : Int64 := cif ((¬ x < 1 ∧ ¬ nI (M.1 0 0 3) < x) ∧ ¬ nI (M.1 3 x.toNatClampNeg 8) = -1) (F8 M x.toNatClampNeg (fun w => lC M x.toNatClampNeg w (M.1 0 0 3))) 0
/-- the class -/
theorem E_sees {n bg : Nat} {σ : CS} {M : MS} (h : CR n bg σ M) (hi : mInv n M) (hn : n ≤ 31) {o q wh : Nat} {k : Int32} (hk : k = nI wh) (hw : wh < 100) (o1 : 1 ≤ o) (o2 : o ≤ bg) (q1 : 1 ≤ q) (q2 : q ≤ bg) : cSees σ o q k ↔ sV M o q wh := by
  have hb : M.1 0 0 3 = bg := h.1
  have hq := hi.1.2.2 q q1 (by omega)
  have hpl : M.1 3 q 11 ≤ 511 := by
    by_cases e : 0 < M.1 3 q 11
    · have := (hi.2.1.2.1 q q1 (by omega) e).1; have := hi.len hq.1; omega
    · omega
  have hv := hi.2.2.1.2.1 o (M.1 3 q 1) o1 (by omega) hq.1
  have hl := hi.len hq.1
  have hat : M.1 3 q 1 < 2 ^ 31 := by have := hq.1; omega
  unfold cSees sV
  rw [h.op q1 q2 2 (by decide) (by decide) (by decide), h.op q1 q2 11 (by decide) (by decide) (by decide), h.op q1 q2 1 (by decide) (by decide) (by decide), nI_clamp hat, h.vw o1 o2 hq.1, hk, nI_eq (by omega) (by omega), nJ0, nI_leI (by omega) (by decide), nI_ltI (by omega) (by omega)]
  omega
section CLS
variable {n bg o : Nat} {σ : CS} {M : MS}
theorem E_sum (h : CR n bg σ M) (hi : mInv n M) (hn : n ≤ 31) (o1 : 1 ≤ o) (o2 : o ≤ bg) : ∀ i, i ≤ bg → cSum σ o i = f8s (fun q => (ka M q).toInt64) (lC M o 0 i)
  | 0, _ => rfl
  | i + 1, hb => by
    have e := E_sees h hi hn (q := i + 1) nJ0 (by decide) o1 o2 (by omega) hb
    unfold cSum lC
    rw [E_sum h hi hn o1 o2 i (by omega)]
    by_cases c : sV M o (i + 1) 0
    · rw [if_pos (e.mpr c), cif_pos c, h.op (by omega) hb 3 (by decide) (by decide) (by decide)]; rfl
    · rw [if_neg (fun q => c (e.mp q)), cif_neg c]
theorem E_gr (h : CR n bg σ M) (hi : mInv n M) (hn : n ≤ 31) (o1 : 1 ≤ o) (o2 : o ≤ bg) : ∀ i, i ≤ bg → cGr σ o i = f8m (fun _ => True) (fun q => (ka M q).toInt64) (lC M o 1 i)
  | 0, _ => rfl
  | i + 1, hb => by
    have e := E_sees h hi hn (q := i + 1) nJ1 (by decide) o1 o2 (by omega) hb
    unfold cGr lC
    rw [E_gr h hi hn o1 o2 i (by omega)]
    by_cases c : sV M o (i + 1) 1
    · rw [if_pos (e.mpr c), cif_pos c, h.op (by omega) hb 3 (by decide) (by decide) (by decide)]
      show _ = cif True _ _
      rw [cif_pos trivial]; rfl
    · rw [if_neg (fun q => c (e.mp q)), cif_neg c]
theorem E_gk (h : CR n bg σ M) (hi : mInv n M) (hn : n ≤ 31) (o1 : 1 ≤ o) (o2 : o ≤ bg) : ∀ i, i ≤ bg → cGk σ o i = f8m (fun q => ka M q = ka M o) (fun q => (kb M q).toInt64) (lC M o 3 i)
  | 0, _ => rfl
  | i + 1, hb => by
    have e := E_sees h hi hn (q := i + 1) nJ3 (by decide) o1 o2 (by omega) hb
    have e3 := h.op (o := i + 1) (by omega) hb 3 (by decide) (by decide) (by decide)
    have e3o := h.op o1 o2 3 (by decide) (by decide) (by decide)
    unfold cGk lC
    rw [E_gk h hi hn o1 o2 i (by omega)]
    by_cases c : sV M o (i + 1) 3
    · rw [cif_pos c]
      show _ = cif (ka M (i + 1) = ka M o) _ _
      by_cases c2 : ka M (i + 1) = ka M o
      · rw [if_pos ⟨e.mpr c, by rw [e3, e3o]; exact c2⟩, cif_pos c2, h.op (by omega) hb 4 (by decide) (by decide) (by decide)]; rfl
      · rw [if_neg (fun q => c2 (by have := q.2; rw [e3, e3o] at this; exact this)), cif_neg c2]
    · rw [if_neg (fun q => c (e.mp q.1)), cif_neg c]
theorem E_has (h : CR n bg σ M) (hi : mInv n M) (hn : n ≤ 31) (o1 : 1 ≤ o) (o2 : o ≤ bg) : cHas bg σ o ↔ ∃ q, q ∈ lC M o 2 bg ∧ ka M q = ka M o := by
  have e3o := h.op o1 o2 3 (by decide) (by decide) (by decide)
  unfold cHas
  constructor
  · rintro ⟨q, q1, q2, q3, q4⟩
    rw [h.op q1 q2 3 (by decide) (by decide) (by decide), e3o] at q4
    exact ⟨q, lC_mem.mpr ⟨q1, q2, (E_sees h hi hn nJ2 (by decide) o1 o2 q1 q2).mp q3⟩, q4⟩
  · rintro ⟨q, q1, q2⟩
    obtain ⟨a1, a2, a3⟩ := lC_mem.mp q1
    exact ⟨q, a1, a2, (E_sees h hi hn nJ2 (by decide) o1 o2 a1 a2).mpr a3, by rw [h.op a1 a2 3 (by decide) (by decide) (by decide), e3o]; exact q2⟩
theorem E_df (h : CR n bg σ M) (hi : mInv n M) (hn : n ≤ 31) (o1 : 1 ≤ o) (o2 : o ≤ bg) {wh : Nat} {k : Int32} (hk : k = nI wh) (hw : wh < 100) : ∀ i, i ≤ bg → cDf σ o k i = f8d (ka M) (lC M o wh i)
  | 0, _ => rfl
  | i + 1, hb => by
    have e := E_sees h hi hn (q := i + 1) hk hw o1 o2 (by omega) hb
    have e3 := h.op (o := i + 1) (by omega) hb 3 (by decide) (by decide) (by decide)
    unfold cDf lC
    rw [E_df h hi hn o1 o2 hk hw i (by omega)]
    by_cases c : sV M o (i + 1) wh
    · have er : cRpt σ o (i + 1) ↔ ∃ u, u ∈ lC M o wh i ∧ ka M u = ka M (i + 1) := by
        have e2 : σ.1 3 (i + 1) 2 = nI wh := by rw [h.op (by omega) hb 2 (by decide) (by decide) (by decide), c.1]
        unfold cRpt
        constructor
        · rintro ⟨q, q1, q2, q3, q4⟩
          rw [h.op q1 (by omega) 3 (by decide) (by decide) (by decide), e3] at q4
          exact ⟨q, lC_mem.mpr ⟨q1, by omega, (E_sees h hi hn e2 hw o1 o2 q1 (by omega)).mp q3⟩, q4⟩
        · rintro ⟨q, q1, q2⟩
          obtain ⟨a1, a2, a3⟩ := lC_mem.mp q1
          exact ⟨q, a1, by omega, (E_sees h hi hn e2 hw o1 o2 a1 (by omega)).mpr a3, by rw [h.op a1 (by omega) 3 (by decide) (by decide) (by decide), e3]; exact q2⟩
      rw [cif_pos c]
      show _ = f8d (ka M) (lC M o wh i) + cif (∃ u, u ∈ lC M o wh i ∧ ka M u = ka M (i + 1)) 0 1
      by_cases c2 : ∃ u, u ∈ lC M o wh i ∧ ka M u = ka M (i + 1)
      · rw [cif_neg (fun q => q.2 (er.mpr c2)), cif_pos c2, Int32.add_zero]
      · rw [cif_pos ⟨e.mpr c, fun q => c2 (er.mp q)⟩, cif_neg c2]
    · rw [cif_neg (fun q => c (e.mp q.1)), cif_neg c]
theorem E_fold (h : CR n bg σ M) (hi : mInv n M) (hn : n ≤ 31) (o1 : 1 ≤ o) (o2 : o ≤ bg) : cFold bg σ o = F8 M o (fun w => lC M o w bg) := by
  have hb : M.1 0 0 3 = bg := h.1
  have ho := (hi.1.2.2 o o1 (by omega)).2.1
  have ek : ∀ w, w < 100 → ∀ k : Int32, k = nI w → (σ.1 3 o 2 = k ↔ M.1 3 o 2 = w) := fun w hw k hk => by rw [h.op o1 o2 2 (by decide) (by decide) (by decide), hk, nI_eq (by omega) (by omega)]
  unfold cFold F8
  rw [cif_iff (ek 10 (by decide) 10 (by decide +kernel)), cif_iff (ek 11 (by decide) 11 (by decide +kernel)), cif_iff (ek 12 (by decide) 12 (by decide +kernel)), cif_iff (ek 13 (by decide) 13 (by decide +kernel)), cif_iff (ek 14 (by decide) 14 (by decide +kernel)), cif_iff (ek 15 (by decide) 15 (by decide +kernel)), E_sum h hi hn o1 o2 bg (Nat.le_refl _), E_gr h hi hn o1 o2 bg (Nat.le_refl _), cif_iff (E_has h hi hn o1 o2), E_df h hi hn o1 o2 nJ2 (by decide) bg (Nat.le_refl _), E_gk h hi hn o1 o2 bg (Nat.le_refl _), E_df h hi hn o1 o2 nJ3 (by decide) bg (Nat.le_refl _)]
end CLS
/-- the reference: those gathered, the latest first -/
def RG (σ : RS) (l : List Nat) : Prop := σ.1 40 = nI l.length ∧ (∀ j q, l.reverse[j]? = some q → σ.2 39 j = nI q) ∧ l.length ≤ 511 ∧ ∀ q, q ∈ l → q < 512
theorem RG.push {σ : RS} {l : List Nat} (h : RG σ l) {q : Nat} (hq : q < 512) (hl : l.length + 1 ≤ 511) : RG (rI (rA σ 39 (σ.1 40).toNatClampNeg (nI q)) 40 (σ.1 40 + 1)) (q :: l) := by
  obtain ⟨h1, h2, h3, h4⟩ := h
  refine ⟨by rw [rI_1, if_pos rfl, h1, nI_1]; rfl, fun j x hx => ?_, by simp; omega, fun x hx => ?_⟩
  · rw [rI_2, rA_2, if_pos rfl, h1, nI_clamp (by omega)]
    rw [List.reverse_cons] at hx
    by_cases e : j = l.length
    · subst e
      rw [List.getElem?_append_right (by simp), List.length_reverse, Nat.sub_self] at hx
      simp at hx
      rw [upd_self, hx]
    · have hj : j < l.length := by
        have := (List.getElem?_eq_some_iff.mp hx).1
        simp at this; omega
      rw [List.getElem?_append_left (by simpa using hj)] at hx
      rw [upd_ne _ e]; exact h2 j x hx
  · rcases List.mem_cons.mp hx with rfl | hx
    · exact hq
    · exact h4 x hx
theorem lK_len {M : MS} {wh k : Nat} : ∀ i, (lK M wh k i).length ≤ i
  | 0 => Nat.le_refl _
  | i + 1 => by
    have := lK_len (M := M) (wh := wh) (k := k) i
    unfold lK cif; split
    · simp; omega
    · omega
theorem lR_len {M : MS} {wh : Nat} {V : Nat → Nat} : ∀ k, (lR M wh V k).length ≤ mSum V k
  | 0 => Nat.le_refl _
  | k + 1 => by
    have := lR_len (M := M) (wh := wh) (V := V) k
    have := lK_len (M := M) (wh := wh) (k := k) (V k)
    unfold lR
    rw [List.length_append]
    show _ ≤ mSum V k + V k
    omega
/-- what the gathering reads of the state -/
def RQ (n : Nat) (σ : RS) (M : MS) : Prop := (∀ k, k < n → ∀ p, 1 ≤ p → p ≤ M.1 2 k 11 → σ.2 20 (512 * k + (p - 1)) = nI (M.2.1 2 k 22 p)) ∧ ∀ o, 1 ≤ o → o ≤ M.1 0 0 3 → σ.2 27 o = nI (M.1 3 o 2)
theorem RQ.same {n : Nat} {σ τ : RS} {M : MS} (h : RQ n σ M) (h20 : τ.2 20 = σ.2 20) (h27 : τ.2 27 = σ.2 27) : RQ n τ M := by unfold RQ; rw [h20, h27]; exact h
theorem RG.inner {n k wh : Nat} {w : Int32} {σ : RS} {M : MS} {l0 : List Nat} (hi : mInv n M) (hn : n ≤ 31) (hk : k < n) (hw : w = nI wh) (hw1 : wh < 100) (hg : RG σ l0) (hq : RQ n σ M) : ∀ i, i ≤ M.1 2 k 11 → l0.length + i ≤ 511 → RG (itr (rGst w k) i σ) (lK M wh k i ++ l0)
  | 0, _, _ => hg
  | i + 1, h1, h2 => by
    have ih := RG.inner hi hn hk hw hw1 hg hq i (by omega) (by omega)
    have hlen := hi.len hk
    have hL := hi.2.1.1 k (i + 1) hk (by omega) h1
    have h511 := hi.1.1
    have hkd := (hi.1.2.2 _ hL.1 hL.2.1).2.1
    have hqi : RQ n (itr (rGst w k) i σ) M := hq.same (itr_r2 (fun _ _ => rGst_2 (by decide)) _ _) (itr_r2 (fun _ _ => rGst_2 (by decide)) _ _)
    have e20 : (itr (rGst w k) i σ).2 20 ((512 : Int32) * nI k + nI i).toNatClampNeg = nI (M.2.1 2 k 22 (i + 1)) := by
      rw [ix512 (by omega) (by omega)]; exact hqi.1 k hk (i + 1) (by omega) h1
    have e27 : (itr (rGst w k) i σ).2 27 (nI (M.2.1 2 k 22 (i + 1))).toNatClampNeg = nI (M.1 3 (M.2.1 2 k 22 (i + 1)) 2) := by
      rw [nI_clamp (by omega)]; exact hqi.2 _ hL.1 hL.2.1
    show RG (rGst w k i (itr (rGst w k) i σ)) _
    unfold lK
    by_cases c : M.1 3 (M.2.1 2 k 22 (i + 1)) 2 = wh
    · rw [cif_pos c, rGst_go (by rw [e20, e27, hw, c]), e20, List.cons_append]
      have hl1 := lK_len (M := M) (wh := wh) (k := k) i
      exact ih.push (by omega) (by rw [List.length_append]; omega)
    · rw [cif_neg c, rGst_no (by rw [e20, e27, hw, nI_eq (by omega) (by omega)]; exact c)]
      exact ih
theorem RG.outer {n wh : Nat} {w : Int32} {σ : RS} {M : MS} {V : Nat → Nat} (hi : mInv n M) (hn : n ≤ 31) (hw : w = nI wh) (hw1 : wh < 100) (hq : RQ n σ M) (hV : ∀ k, k < n → V k ≤ M.1 2 k 11) (hS : mSum V n ≤ 511) : ∀ k, k ≤ n → RG (itr (rGk w V) k (rI σ 40 0)) (lR M wh V k)
  | 0, _ => ⟨by show (rI σ 40 0).1 40 = _; rw [rI_1, if_pos rfl]; exact nJ0, fun j q h => by simp [lR] at h, by simp [lR], fun q h => by simp [lR] at h⟩
  | k + 1, h => by
    have ih := RG.outer hi hn hw hw1 hq hV hS k (by omega)
    have hqi : RQ n (itr (rGk w V) k (rI σ 40 0)) M := hq.same ((itr_r2 (fun _ _ => rGk_2 (by decide)) _ _).trans rfl) ((itr_r2 (fun _ _ => rGk_2 (by decide)) _ _).trans rfl)
    have hlr := lR_len (M := M) (wh := wh) (V := V) k
    have hm := mSum_mono (f := V) (show k + 1 ≤ n by omega)
    have e : mSum V (k + 1) = mSum V k + V k := rfl
    exact RG.inner hi hn (by omega) hw hw1 ih hqi (V k) (hV k (by omega)) (by omega)
section REF
variable {σ : RS} {M : MS} {l : List Nat}
/-- what the folds read -/
def RF (σ : RS) (M : MS) (l : List Nat) : Prop := RG σ l ∧ ∀ q, q ∈ l → σ.2 28 q = ka M q ∧ σ.2 29 q = kb M q
theorem RF.at (h : RF σ M l) {i : Nat} (hi : i < l.reverse.length) : ∃ q, l.reverse[i]? = some q ∧ σ.2 39 i = nI q ∧ (nI q).toNatClampNeg = q ∧ σ.2 28 q = ka M q ∧ σ.2 29 q = kb M q ∧ (l.reverse.take (i + 1)).reverse = q :: (l.reverse.take i).reverse := by
  have e : l.reverse[i]? = some l.reverse[i] := List.getElem?_eq_getElem hi
  have hm : l.reverse[i] ∈ l := List.mem_reverse.mp (List.getElem_mem hi)
  have h512 := h.1.2.2.2 _ hm
  refine ⟨_, e, h.1.2.1 i _ e, nI_clamp (by omega), (h.2 _ hm).1, (h.2 _ hm).2, ?_⟩
  rw [List.take_succ, e]
  simp
theorem F_sum (h : RF σ M l) : ∀ i, i ≤ l.reverse.length → aSum σ i = f8s (fun q => (ka M q).toInt64) (l.reverse.take i).reverse
  | 0, _ => by simp [aSum, f8s]
  | i + 1, hb => by
    obtain ⟨q, -, e2, e3, e4, -, e6⟩ := h.at (i := i) (by omega)
    rw [e6]
    unfold aSum
    rw [F_sum h i (by omega), e2, e3, e4]; rfl
theorem F_is (h : RF σ M l) {x : Int32} : ∀ i, i ≤ l.reverse.length → (¬ aIs σ x i = 0 ↔ ∃ q, q ∈ (l.reverse.take i).reverse ∧ ka M q = x)
  | 0, _ => by simp [aIs]
  | i + 1, hb => by
    obtain ⟨q, -, e2, e3, e4, -, e6⟩ := h.at (i := i) (by omega)
    have ih := F_is h (x := x) i (by omega)
    rw [e6]
    unfold aIs
    rw [e2, e3, e4, ih]
    constructor
    · intro c
      by_cases c1 : (∃ q, q ∈ (l.reverse.take i).reverse ∧ ka M q = x) ∨ ka M q = x
      · rcases c1 with ⟨u, u1, u2⟩ | c1
        · exact ⟨u, List.mem_cons_of_mem _ u1, u2⟩
        · exact ⟨q, List.mem_cons_self, c1⟩
      · rw [cif_neg c1] at c; exact absurd rfl c
    · rintro ⟨u, u1, u2⟩
      rw [cif_pos]
      · decide
      · rcases List.mem_cons.mp u1 with rfl | u1
        · exact Or.inr u2
        · exact Or.inl ⟨u, u1, u2⟩
theorem mxL_eq (a b : Int64) : mxL a b = cif (a < b) b a := by
  apply Int64.toInt_inj.mp
  rw [mxL_i]
  by_cases c : a < b
  · rw [cif_pos c]; rw [Int64.lt_iff_toInt_lt] at c; omega
  · rw [cif_neg c]; rw [Int64.lt_iff_toInt_lt] at c; omega
theorem F_mst (h : RF σ M l) {w x : Int32} : ∀ i, i ≤ l.reverse.length → aMst σ w x i = f8m (fun q => w = 11 ∨ ka M q = x) (fun q => cif (w = 11) (ka M q).toInt64 (kb M q).toInt64) (l.reverse.take i).reverse
  | 0, _ => by simp [aMst, f8m]
  | i + 1, hb => by
    obtain ⟨q, -, e2, e3, e4, e5, e6⟩ := h.at (i := i) (by omega)
    rw [e6]
    unfold aMst aX
    rw [F_mst h i (by omega), e2, e3, e4, e5]
    show _ = cif (w = 11 ∨ ka M q = x) (mxL _ (cif (w = 11) (ka M q).toInt64 (kb M q).toInt64)) _
    rw [mxL_eq]
    by_cases c : w = 11 ∨ ka M q = x
    · rw [cif_pos c]
      by_cases c2 : f8m (fun q => w = 11 ∨ ka M q = x) (fun q => cif (w = 11) (ka M q).toInt64 (kb M q).toInt64) (l.reverse.take i).reverse < cif (w = 11) (ka M q).toInt64 (kb M q).toInt64
      · rw [cif_pos ⟨c, c2⟩, cif_pos c2]
      · rw [cif_neg (fun z => c2 z.2), cif_neg c2]
    · rw [cif_neg (fun z => c z.1), cif_neg c]
theorem F_dif (h : RF σ M l) : ∀ i, i ≤ l.reverse.length → aDif σ i = f8d (ka M) (l.reverse.take i).reverse
  | 0, _ => by simp [aDif, f8d]
  | i + 1, hb => by
    obtain ⟨q, e1, e2, e3, e4, -, e6⟩ := h.at (i := i) (by omega)
    rw [e6]
    unfold aDif
    rw [F_dif h i (by omega)]
    show _ = f8d (ka M) (l.reverse.take i).reverse + cif (∃ u, u ∈ (l.reverse.take i).reverse ∧ ka M u = ka M q) 0 1
    have er : rDf σ i i ↔ ¬ ∃ u, u ∈ (l.reverse.take i).reverse ∧ ka M u = ka M q := by
      unfold rDf
      rw [e2, e3, e4]
      constructor
      · rintro c ⟨u, u1, u2⟩
        obtain ⟨j, j2⟩ := List.getElem?_of_mem (List.mem_reverse.mp u1)
        have hj : j < i := by
          have := (List.getElem?_eq_some_iff.mp j2).1
          simp at this; omega
        rw [List.getElem?_take_of_lt hj] at j2
        obtain ⟨q', f1, f2, f3, f4, -, -⟩ := h.at (i := j) (by omega)
        rw [f1] at j2
        have : q' = u := Option.some.inj j2
        subst this
        exact c j hj (by rw [f2, f3, f4]; exact u2)
      · intro c j hj z
        obtain ⟨q', f1, f2, f3, f4, -, -⟩ := h.at (i := j) (by omega)
        rw [f2, f3, f4] at z
        refine c ⟨q', List.mem_reverse.mpr ?_, z⟩
        exact List.mem_of_getElem? (i := j) (by rw [List.getElem?_take_of_lt hj]; exact f1)
    by_cases c : rDf σ i i
    · rw [cif_pos c, cif_neg (er.mp c)]
    · rw [cif_neg c, cif_pos (Classical.byContradiction (fun z => c (er.mpr z)))]
theorem RF.all (h : RF σ M l) : (l.reverse.take l.reverse.length).reverse = l := by rw [List.take_length, List.reverse_reverse]
end REF
theorem F_ans {n o : Nat} {σ : RS} {M : MS} (hR : RR n σ 2001 0 M) (hi : mInv n M) (hn : n ≤ 31) (o1 : 1 ≤ o) (o2 : o ≤ M.1 0 0 3) (hq : 10 ≤ M.1 3 o 2) {cq : Nat} (hc : cq ≤ 511) (h40 : (rGat n (M.2.1 3 o 6) (aWh (σ.2 27 o)) (rI σ 1 0)).1 40 = nI cq) : aAns (rGat n (M.2.1 3 o 6) (aWh (σ.2 27 o)) (rI σ 1 0)) (σ.2 27 o) (σ.2 28 o) cq = F8 M o (fun w => lR M w (M.2.1 3 o 6) n) := by
  have hk := (hi.1.2.2 o o1 o2).2.1
  have h511 := hi.1.1
  have hO := hR.1.2.2.1
  have e27 : σ.2 27 o = nI (M.1 3 o 2) := (hO o o1 o2).2.1
  have e28 : σ.2 28 o = ka M o := (hO o o1 o2).2.2.1
  have hrq : RQ n (rI σ 1 0) M := ⟨hR.1.2.2.2.2.2.2.1, fun q q1 q2 => (hO q q1 q2).2.1⟩
  have hV : ∀ k, k < n → M.2.1 3 o 6 k ≤ M.1 2 k 11 := fun k hk => hi.2.2.1.2.1 o k o1 o2 hk
  have hRF : ∀ wh, wh < 100 → aWh (σ.2 27 o) = nI wh → RF (rGat n (M.2.1 3 o 6) (aWh (σ.2 27 o)) (rI σ 1 0)) M (lR M wh (M.2.1 3 o 6) n) ∧ cq = (lR M wh (M.2.1 3 o 6) n).reverse.length := fun wh hw he => by
    have hg : RG (rGat n (M.2.1 3 o 6) (aWh (σ.2 27 o)) (rI σ 1 0)) (lR M wh (M.2.1 3 o 6) n) := RG.outer hi hn he hw hrq hV (mSum_V hi o1 o2) n (Nat.le_refl _)
    refine ⟨⟨hg, fun q hq => ?_⟩, ?_⟩
    · have := lC_mem.mp ((lRC hi o1 o2).mem_iff.mp hq)
      rw [rGat_2 (by decide), rGat_2 (by decide)]
      exact ⟨(hO q this.1 this.2.1).2.2.1, (hO q this.1 this.2.1).2.2.2.1⟩
    · have a := hg.1
      have b := hg.2.2.1
      rw [h40, nI_eq (by omega) (by omega)] at a
      rw [List.length_reverse]; exact a
  have ek : ∀ w, w < 100 → ∀ k : Int32, k = nI w → (nI (M.1 3 o 2) = k ↔ M.1 3 o 2 = w) := fun w hw k hk => by rw [hk, nI_eq (by omega) (by omega)]
  have q10 := ek 10 (by decide) 10 (by decide +kernel)
  have q11 := ek 11 (by decide) 11 (by decide +kernel)
  have q12 := ek 12 (by decide) 12 (by decide +kernel)
  have q13 := ek 13 (by decide) 13 (by decide +kernel)
  have q15 := ek 15 (by decide) 15 (by decide +kernel)
  have q14 : (14 : Int32) ≤ nI (M.1 3 o 2) ↔ 14 ≤ M.1 3 o 2 := by rw [show (14 : Int32) = nI 14 from by decide +kernel, nI_leI (by decide) (by omega)]
  unfold F8 aAns
  rw [e28]
  have hcase : M.1 3 o 2 = 10 ∨ M.1 3 o 2 = 11 ∨ M.1 3 o 2 = 12 ∨ M.1 3 o 2 = 13 ∨ M.1 3 o 2 = 14 ∨ M.1 3 o 2 = 15 := by omega
  rcases hcase with c | c | c | c | c | c
  · obtain ⟨hf, hl⟩ := hRF 0 (by decide) (by rw [e27]; unfold aWh; rw [cif_pos (q10.mpr c)]; exact nJ0)
    rw [cif_neg (P := σ.2 27 o = 13 ∨ σ.2 27 o = 15) (by rw [e27, q13, q15]; omega), cif_pos (P := σ.2 27 o = 10) (by rw [e27]; exact q10.mpr c), cif_pos c, hl, F_sum hf _ (Nat.le_refl _), hf.all]
  · obtain ⟨hf, hl⟩ := hRF 1 (by decide) (by rw [e27]; unfold aWh; rw [cif_neg (by rw [q10]; omega), cif_pos (q11.mpr c)]; exact nJ1)
    rw [cif_neg (P := σ.2 27 o = 13 ∨ σ.2 27 o = 15) (by rw [e27, q13, q15]; omega), cif_neg (P := σ.2 27 o = 10) (by rw [e27, q10]; omega), cif_neg (P := σ.2 27 o = 12) (by rw [e27, q12]; omega), cif_neg (P := M.1 3 o 2 = 10) (by omega), cif_pos c, hl, F_mst hf _ (Nat.le_refl _), hf.all]
    have e11 : σ.2 27 o = 11 := by rw [e27]; exact q11.mpr c
    have f1 : (fun q => σ.2 27 o = 11 ∨ ka M q = ka M o) = fun _ => True := by funext q; exact propext ⟨fun _ => trivial, fun _ => Or.inl e11⟩
    have f2 : (fun q => cif (σ.2 27 o = 11) (ka M q).toInt64 (kb M q).toInt64) = fun q => (ka M q).toInt64 := by funext q; rw [cif_pos e11]
    rw [f1, f2]
  · obtain ⟨hf, hl⟩ := hRF 2 (by decide) (by rw [e27]; unfold aWh; rw [cif_neg (by rw [q10]; omega), cif_neg (by rw [q11]; omega), cif_neg (by rw [q14]; omega)]; exact nJ2)
    rw [cif_neg (P := σ.2 27 o = 13 ∨ σ.2 27 o = 15) (by rw [e27, q13, q15]; omega), cif_neg (P := σ.2 27 o = 10) (by rw [e27, q10]; omega), cif_pos (P := σ.2 27 o = 12) (by rw [e27]; exact q12.mpr c), cif_neg (P := M.1 3 o 2 = 10) (by omega), cif_neg (P := M.1 3 o 2 = 11) (by omega), cif_pos c]
    have his := F_is hf (x := ka M o) _ (Nat.le_refl _)
    rw [hf.all, ← hl] at his
    by_cases z : aIs (rGat n (M.2.1 3 o 6) (aWh (σ.2 27 o)) (rI σ 1 0)) (ka M o) cq = 0
    · rw [cif_pos z, cif_neg (fun q => his.mpr q z)]
    · rw [cif_neg z, cif_pos (his.mp z)]
  · obtain ⟨hf, hl⟩ := hRF 2 (by decide) (by rw [e27]; unfold aWh; rw [cif_neg (by rw [q10]; omega), cif_neg (by rw [q11]; omega), cif_neg (by rw [q14]; omega)]; exact nJ2)
    rw [cif_pos (P := σ.2 27 o = 13 ∨ σ.2 27 o = 15) (by rw [e27]; exact Or.inl (q13.mpr c)), cif_neg (P := M.1 3 o 2 = 10) (by omega), cif_neg (P := M.1 3 o 2 = 11) (by omega), cif_neg (P := M.1 3 o 2 = 12) (by omega), cif_pos c, hl, F_dif hf _ (Nat.le_refl _), hf.all]
  · obtain ⟨hf, hl⟩ := hRF 3 (by decide) (by rw [e27]; unfold aWh; rw [cif_neg (by rw [q10]; omega), cif_neg (by rw [q11]; omega), cif_pos (by rw [q14]; omega)]; exact nJ3)
    rw [cif_neg (P := σ.2 27 o = 13 ∨ σ.2 27 o = 15) (by rw [e27, q13, q15]; omega), cif_neg (P := σ.2 27 o = 10) (by rw [e27, q10]; omega), cif_neg (P := σ.2 27 o = 12) (by rw [e27, q12]; omega), cif_neg (P := M.1 3 o 2 = 10) (by omega), cif_neg (P := M.1 3 o 2 = 11) (by omega), cif_neg (P := M.1 3 o 2 = 12) (by omega), cif_neg (P := M.1 3 o 2 = 13) (by omega), cif_pos c, hl, F_mst hf _ (Nat.le_refl _), hf.all]
    have e11 : ¬ σ.2 27 o = 11 := by rw [e27, q11]; omega
    have f1 : (fun q => σ.2 27 o = 11 ∨ ka M q = ka M o) = fun q => ka M q = ka M o := by funext q; exact propext ⟨fun z => z.elim (fun z => absurd z e11) id, Or.inr⟩
    have f2 : (fun q => cif (σ.2 27 o = 11) (ka M q).toInt64 (kb M q).toInt64) = fun q => (kb M q).toInt64 := by funext q; rw [cif_neg e11]
    rw [f1, f2]
  · obtain ⟨hf, hl⟩ := hRF 3 (by decide) (by rw [e27]; unfold aWh; rw [cif_neg (by rw [q10]; omega), cif_neg (by rw [q11]; omega), cif_pos (by rw [q14]; omega)]; exact nJ3)
    rw [cif_pos (P := σ.2 27 o = 13 ∨ σ.2 27 o = 15) (by rw [e27]; exact Or.inr (q15.mpr c)), cif_neg (P := M.1 3 o 2 = 10) (by omega), cif_neg (P := M.1 3 o 2 = 11) (by omega), cif_neg (P := M.1 3 o 2 = 12) (by omega), cif_neg (P := M.1 3 o 2 = 13) (by omega), cif_neg (P := M.1 3 o 2 = 14) (by omega), cif_pos c, hl, F_dif hf _ (Nat.le_refl _), hf.all]
set_option maxHeartbeats 4000000 in
set_option maxRecDepth 100000 in
theorem s_answer8 (l : Launch) (D : va_G) (cI cZ cN cO : ClassId) (A : Nat → Prop) (E : CE) (n : Nat) (σ : CS) (M : MS) (p0 : Int32) (ok : cOK n (M.1 0 0 3) σ) (hCR : CR n (M.1 0 0 3) σ M) (hi : mInv n M) : Met l yX3_answer (.code yX3_answer cX3_answer 3 (some .long) :: gw) ({ frames := 4, cells := 0, slots := 0, locals := 94 }) (va_Pc (.ref (E.1 0) :: [.int p0]) (cH D cI cZ cN cO A E n (M.1 0 0 3) σ)) (vp_Sl (fun r => r = aA M p0)) 0 0 (fun _ => False) := by
  have hn := ok.2.1
  refine (s_answer l D cI cZ cN cO A E n σ M p0 ok hCR hi).up (fun _ _ q => q) (fun a s o1 t q => ?_)
  obtain ⟨r, g1, g2, g3⟩ := q
  refine ⟨r, g1, ?_, g3⟩
  rw [g2]
  unfold aA
  rw [← isO_iff]
  by_cases h : isO (M.1 0 0 3) p0
  · obtain ⟨o, h1, h2, rfl⟩ := isO_nat ok.2.2.1 h
    have h511 := ok.2.2.1
    rw [nI_clamp (show o < 2 ^ 31 by omega), hCR.op h1 h2 8 (by decide) (by decide) (by decide), E_fold hCR hi hn h1 h2]
  · rw [cif_neg (fun q => h q.1), cif_neg (fun q => h q.1)]
set_option maxHeartbeats 4000000 in
set_option maxRecDepth 100000 in
theorem t_answer8 (l : Launch) (D : va_G) (cI cZ cN cO : ClassId) (mm : Nat) (d : Nat → Nat) (n : Nat) (σ : RS) (M : MS) (p0 : Int32) (ok : rOK n σ) (hR : RR n σ 2001 0 M) (hi : mInv n M) (hn : n ≤ 31) : Met l yX4_answer (.code yX4_answer cX4_answer 13 (some .long) :: gw) ({ frames := 1, cells := 0, slots := 0, locals := 25 }) (va_Pc (.ref mm :: [.int p0]) (rH D cI cZ cN cO (rAd mm d) mm d σ)) (va_Ql (fun (r : Int64) (_ : Unit) => r = aA M p0) (fun _ t => rZ D cI cZ cN cO mm d n M 0 t) (rAd mm d)) 0 0 (rAd mm d) := by
  refine (t_answer l D cI cZ cN cO mm d n σ M p0 ok hR hi hn).up (fun _ _ q => q) (fun a s o1 t q => ⟨?_, q.2⟩)
  obtain ⟨⟨r, u, g1, g2, g3⟩, -⟩ := q
  refine ⟨r, u, g1, ?_, g3⟩
  have h511 := hi.1.1
  have hX := hR.1.1.1
  unfold aA
  rcases g2 with ⟨c, rfl⟩ | ⟨c, cq, c1, c2, rfl⟩
  · by_cases h : (¬ p0 < 1 ∧ ¬ nI (M.1 0 0 3) < p0) ∧ ¬ nI (M.1 3 p0.toNatClampNeg 8) = -1
    · rw [cif_pos h]
      obtain ⟨o, h1, h2, e⟩ := isO_nat h511 (isO_iff.mpr h.1)
      have ej := nI_clamp (show o < 2 ^ 31 by omega)
      have hO := hR.1.2.2.1 o h1 h2
      have hk := (hi.1.2.2 o h1 h2).2.1
      rw [e, ej] at c
      rw [e, ej] at h
      rw [e, ej]
      have hlt : M.1 3 o 2 ≤ 3 := by
        rcases hk with hk | hk
        · exact hk
        · exfalso
          refine c ⟨⟨h.1.1, by rw [hX]; exact h.1.2⟩, by rw [hO.2.2.2.2.2.2.1]; exact h.2, ?_⟩
          rw [hO.2.1, show (10 : Int32) = nI 10 from by decide +kernel, nI_ltI (by omega) (by decide)]; omega
      unfold F8
      rw [cif_neg (P := M.1 3 o 2 = 10) (by omega), cif_neg (P := M.1 3 o 2 = 11) (by omega), cif_neg (P := M.1 3 o 2 = 12) (by omega), cif_neg (P := M.1 3 o 2 = 13) (by omega), cif_neg (P := M.1 3 o 2 = 14) (by omega), cif_neg (P := M.1 3 o 2 = 15) (by omega)]
    · rw [cif_neg h]
  · obtain ⟨o, h1, h2, e⟩ := isO_nat h511 (isO_iff.mpr (by rw [← hX]; exact c.1))
    have ej := nI_clamp (show o < 2 ^ 31 by omega)
    have hO := hR.1.2.2.1 o h1 h2
    have hk := (hi.1.2.2 o h1 h2).2.1
    rw [e, ej] at c c2 ⊢
    have hge : 10 ≤ M.1 3 o 2 := by
      rcases Nat.lt_or_ge (M.1 3 o 2) 10 with z | z
      · exact absurd (by rw [hO.2.1, show (10 : Int32) = nI 10 from by decide +kernel, nI_ltI (by omega) (by decide)]; exact z) c.2.2
      · exact z
    rw [F_ans hR hi hn h1 h2 hge c1 c2, cif_pos ⟨⟨c.1.1, by rw [← hX]; exact c.1.2⟩, by rw [← hO.2.2.2.2.2.2.1]; exact c.2.1⟩]
    exact F8_perm (fun w => lRC hi h1 h2)
