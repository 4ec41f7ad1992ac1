theorem cif_iff {α : Type} {P P' : Prop} {a b : α} (h : P ↔ P') : cif P a b = cif P' a b := by rw [propext h]
/-- what goes astray, by the plain machine -/
def vW (n : Nat) (M : MS) (u v : Nat) : Prop := ∀ j, j < n → M.2.1 3 u 6 j ≤ M.2.1 3 v 6 j
def pA (M : MS) (u v : Nat) : Prop := ¬ M.1 3 u 8 = tN ∧ M.1 3 u 8 < M.1 3 v 5
def pM (M : MS) (u v : Nat) : Prop := M.1 3 u 2 ≤ 3 ∧ M.2.1 3 v 6 (M.1 3 u 1) < M.1 3 u 11
def pL (M : MS) (u : Nat) : Prop := ¬ M.1 3 u 8 = tN ∧ ∃ q, 1 ≤ q ∧ q ≤ M.1 0 0 3 ∧ M.1 3 u 8 < M.1 3 q 5 ∧ 0 < M.1 3 q 11 ∧ M.1 3 q 11 ≤ M.2.1 3 u 6 (M.1 3 q 1)
noncomputable def pS (n : Nat) (M : MS) (u v : Nat) : Int32 := cif (¬ vW n M u v ∧ ¬ vW n M v u) 1 0 + cif (pA M u v ∧ (¬ vW n M u v ∨ pM M u v)) 1 0
noncomputable def pI (n : Nat) (M : MS) (u : Nat) : Nat → Int32
  | 0 => 0
  | m + 1 => pI n M u m + cif (M.1 3 (u + m + 1) 7 = 0) 0 (pS n M u (u + m + 1))
noncomputable def pT (n : Nat) (M : MS) : Nat → Int32
  | 0 => 0
  | i + 1 => pT n M i + cif (M.1 3 (i + 1) 7 = 0) 0 (cif (pL M (i + 1)) 1 0 + pI n M (i + 1) (M.1 0 0 3 - (i + 1)))
theorem d_none {x B : Nat} (hB : B < 2 ^ 31) (h : x = tN ∨ x ≤ B) : nI x = -1 ↔ x = tN := by
  constructor
  · intro e
    rcases h with h | h
    · exact h
    · exfalso
      have e1 := congrArg Int32.toInt e
      rw [nI_toInt (by omega), show (-1 : Int32).toInt = -1 from by decide] at e1
      omega
  · intro e
    rw [e]; exact nJm.symm
theorem d_ahd {x y B : Nat} (hB : B < 2 ^ 31) (hx : x = tN ∨ x ≤ B) (hy : y ≤ B) : (¬ nI x = -1 ∧ nI x < nI y) ↔ (¬ x = tN ∧ x < y) := by
  rw [d_none hB hx]
  refine and_congr_right (fun c => ?_)
  have := hx.resolve_left c
  exact nI_ltI (by omega) (by omega)
theorem mT.dn {n : Nat} {M : MS} (h : mT n M) {o : Nat} (o1 : 1 ≤ o) (o2 : o ≤ M.1 0 0 3) : M.1 3 o 8 = tN ∨ M.1 3 o 8 ≤ M.1 0 0 5 := (h.1 o o1 o2).2.1.imp id (fun z => z.2)
theorem mInv.pl {n : Nat} {M : MS} (hi : mInv n M) {o : Nat} (o1 : 1 ≤ o) (o2 : o ≤ M.1 0 0 3) : M.1 3 o 11 ≤ 511 := by
  by_cases e : 0 < M.1 3 o 11
  · have := (hi.2.1.2.1 o o1 o2 e).1; have := hi.len (hi.1.2.2 o o1 o2).1; omega
  · omega
theorem mInv.vw {n : Nat} {M : MS} (hi : mInv n M) {o i : Nat} (o1 : 1 ≤ o) (o2 : o ≤ M.1 0 0 3) (h : i < n) : M.2.1 3 o 6 i ≤ 511 := by
  have := hi.2.2.1.2.1 o i o1 o2 h; have := hi.len h; omega
-- the class
section CLS
variable {n bg : Nat} {σ : CS} {M : MS}
theorem A_sees (h : CR n bg σ M) (hi : mInv n M) (hn : n ≤ 31) {o q : Nat} (o1 : 1 ≤ o) (o2 : o ≤ bg) (q1 : 1 ≤ q) (q2 : q ≤ bg) : cSees σ o q (σ.1 3 q 2) ↔ 0 < M.1 3 q 11 ∧ M.1 3 q 11 ≤ M.2.1 3 o 6 (M.1 3 q 1) := by
  have hb : M.1 0 0 3 = bg := h.1
  have hq := (hi.1.2.2 q q1 (by omega)).1
  have hpl := hi.pl q1 (by omega)
  have hv := hi.vw o1 (by omega) hq
  unfold cSees
  rw [h.op q1 q2 11 (by decide) (by decide) (by decide), h.op q1 q2 1 (by decide) (by decide) (by decide), nI_clamp (show M.1 3 q 1 < 2 ^ 31 by omega), h.vw o1 o2 hq, nJ0, nI_leI (by omega) (by decide), nI_ltI (by omega) (by omega)]
  constructor
  · rintro ⟨-, a, b⟩; omega
  · rintro ⟨a, b⟩; exact ⟨rfl, by omega, by omega⟩
theorem A_less (h : CR n bg σ M) (hi : mInv n M) {u v : Nat} (u1 : 1 ≤ u) (u2 : u ≤ bg) (v1 : 1 ≤ v) (v2 : v ≤ bg) : cLess n σ u v ↔ vW n M u v := by
  have hb : M.1 0 0 3 = bg := h.1
  unfold cLess vW
  refine forall_congr' (fun j => forall_congr' (fun hj => ?_))
  have a := hi.vw u1 (by omega) hj
  have b := hi.vw v1 (by omega) hj
  rw [h.vw u1 u2 hj, h.vw v1 v2 hj, nI_ltI (by omega) (by omega)]
  omega
theorem A_str (h : CR n bg σ M) (hi : mInv n M) (hT : mT n M) (hM : M.1 0 0 5 < 2 ^ 31) (hn : n ≤ 31) {u v : Nat} (u1 : 1 ≤ u) (u2 : u ≤ bg) (v1 : 1 ≤ v) (v2 : v ≤ bg) : cStr n σ u v = pS n M u v := by
  have hb : M.1 0 0 3 = bg := h.1
  have e1 := A_less h hi u1 u2 v1 v2
  have e2 := A_less h hi v1 v2 u1 u2
  have hat := (hi.1.2.2 u u1 (by omega)).1
  have hkd := (hi.1.2.2 u u1 (by omega)).2.1
  have eA : cAhd σ u v ↔ pA M u v := by
    unfold cAhd pA
    rw [h.op u1 u2 8 (by decide) (by decide) (by decide), h.op v1 v2 5 (by decide) (by decide) (by decide)]
    exact d_ahd hM (hT.dn u1 (by omega)) (hT.1 v v1 (by omega)).1
  unfold cStr pS
  rw [cif_iff (and_congr (not_congr e1) (not_congr e2)), eA]
  refine congrArg _ (cif_iff (and_congr_right (fun hA => or_congr (not_congr e1) ?_)))
  unfold cMis pM
  rw [A_sees h hi hn v1 v2 u1 u2, h.op u1 u2 2 (by decide) (by decide) (by decide), nJ3, nI_ltI (by decide) (by omega)]
  have := (hT.1 u u1 (by omega)).2.2 hA.1
  constructor
  · rintro ⟨a, b⟩; exact ⟨by omega, by have := this (by omega); omega⟩
  · rintro ⟨a, b⟩; exact ⟨by omega, by omega⟩
theorem A_in (h : CR n bg σ M) (hi : mInv n M) (hT : mT n M) (hM : M.1 0 0 5 < 2 ^ 31) (hn : n ≤ 31) {u : Nat} (u1 : 1 ≤ u) : ∀ m, u + m ≤ bg → cIn n σ u m = pI n M u m
  | 0, _ => rfl
  | m + 1, hb => by
    have hb0 : M.1 0 0 3 = bg := h.1
    have h7 := (hi.1.2.2 (u + m + 1) (by omega) (by omega)).2.2.2
    unfold cIn pI
    rw [A_in h hi hT hM hn u1 m (by omega), A_str h hi hT hM hn u1 (by omega) (by omega) (show u + m + 1 ≤ bg by omega), h.op (by omega) (show u + m + 1 ≤ bg by omega) 7 (by decide) (by decide) (by decide)]
    refine congrArg _ (cif_iff ?_)
    rw [nJ0, nI_eq (by omega) (by decide)]
theorem A_late (h : CR n bg σ M) (hi : mInv n M) (hT : mT n M) (hM : M.1 0 0 5 < 2 ^ 31) (hn : n ≤ 31) {u : Nat} (u1 : 1 ≤ u) (u2 : u ≤ bg) : cLate bg σ u ↔ pL M u := by
  have hb : M.1 0 0 3 = bg := h.1
  have hd := hT.dn u1 (by omega)
  unfold cLate pL
  rw [h.op u1 u2 8 (by decide) (by decide) (by decide), d_none hM hd]
  refine and_congr_right (fun c => exists_congr (fun q => ?_))
  rw [hb]
  refine and_congr_right (fun q1 => and_congr_right (fun q2 => ?_))
  have := hd.resolve_left c
  have hq := (hT.1 q q1 (by omega)).1
  rw [A_sees h hi hn u1 u2 q1 q2, h.op q1 q2 5 (by decide) (by decide) (by decide), nI_ltI (by omega) (by omega)]
theorem A_ast (h : CR n bg σ M) (hi : mInv n M) (hT : mT n M) (hM : M.1 0 0 5 < 2 ^ 31) (hn : n ≤ 31) : ∀ i, i ≤ bg → cAst n bg σ i = pT n M i
  | 0, _ => rfl
  | i + 1, hb => by
    have hb0 : M.1 0 0 3 = bg := h.1
    have h7 := (hi.1.2.2 (i + 1) (by omega) (by omega)).2.2.2
    unfold cAst pT
    rw [A_ast h hi hT hM hn i (by omega), hb0, A_in h hi hT hM hn (by omega) (bg - (i + 1)) (by omega), cif_iff (A_late h hi hT hM hn (by omega) hb), h.op (by omega) hb 7 (by decide) (by decide) (by decide)]
    refine congrArg _ (cif_iff ?_)
    rw [nJ0, nI_eq (by omega) (by decide)]
end CLS
-- the reference
section REF
variable {n : Nat} {σ : RS} {M : MS}
theorem B_win (h : RA n σ M) (hi : mInv n M) (hn : n ≤ 31) {u v : Nat} (u1 : 1 ≤ u) (u2 : u ≤ M.1 0 0 3) (v1 : 1 ≤ v) (v2 : v ≤ M.1 0 0 3) : rWin n (nI u) (nI v) σ ↔ vW n M u v := by
  have h511 := hi.1.1
  unfold rWin vW
  refine forall_congr' (fun j => forall_congr' (fun hj => ?_))
  have a := hi.vw u1 u2 hj
  have b := hi.vw v1 v2 hj
  rw [ix31 (by omega) (by omega), ix31 (by omega) (by omega), h.2.2.2.2.1 u u1 u2 j hj, h.2.2.2.2.1 v v1 v2 j hj, nI_leI (by omega) (by omega)]
theorem B_ahd (h : RA n σ M) (hT : mT n M) (hM : M.1 0 0 5 < 2 ^ 31) {u v : Nat} (u1 : 1 ≤ u) (u2 : u ≤ M.1 0 0 3) (v1 : 1 ≤ v) (v2 : v ≤ M.1 0 0 3) : rAhd σ u v ↔ pA M u v := by
  unfold rAhd pA
  rw [(h.2.2.1 u u1 u2).2.2.2.2.2.2.1, (h.2.2.1 v v1 v2).2.2.2.2.1]
  exact d_ahd hM (hT.dn u1 u2) (hT.1 v v1 v2).1
theorem B_mis (h : RA n σ M) (hi : mInv n M) (hn : n ≤ 31) {u v : Nat} (u1 : 1 ≤ u) (u2 : u ≤ M.1 0 0 3) (v1 : 1 ≤ v) (v2 : v ≤ M.1 0 0 3) : rMis σ u v ↔ pM M u v := by
  have h511 := hi.1.1
  have hat := (hi.1.2.2 u u1 u2).1
  have hkd := (hi.1.2.2 u u1 u2).2.1
  have a := hi.vw v1 v2 hat
  have b := hi.pl u1 u2
  unfold rMis pM
  rw [(h.2.2.1 u u1 u2).1, (h.2.2.1 u u1 u2).2.1, (h.2.2.1 u u1 u2).2.2.2.2.2.2.2, ix31 (by omega) (by omega), h.2.2.2.2.1 v v1 v2 _ hat, nI_ltI (by omega) (by omega), show (10 : Int32) = nI 10 from by decide +kernel, nI_ltI (by omega) (by decide)]
  constructor
  · rintro ⟨x, y⟩; exact ⟨by omega, y⟩
  · rintro ⟨x, y⟩; exact ⟨by omega, y⟩
theorem B_pr0 (h : RA n σ M) (hT : mT n M) (hM : M.1 0 0 5 < 2 ^ 31) {u v : Nat} (u2 : u ≤ M.1 0 0 3) (v1 : 1 ≤ v) (hv : v < u) : rPr n σ u v = 0 := by
  unfold rPr
  have hA : ¬ pA M u v := fun z => by
    have a := (hT.1 u (by omega) u2).2.1.resolve_left z.1
    have b := hT.2.1 v u v1 (by omega) u2
    have c := z.2
    omega
  rw [cif_neg (fun z => by have := z.1; omega), cif_neg (fun z => hA ((B_ahd h hT hM (by omega) u2 v1 (by omega)).mp z.1))]
  decide
theorem B_pr (h : RA n σ M) (hi : mInv n M) (hT : mT n M) (hM : M.1 0 0 5 < 2 ^ 31) (hn : n ≤ 31) {u v : Nat} (u1 : 1 ≤ u) (v2 : v ≤ M.1 0 0 3) (hv : u < v) : rPr n σ u v = pS n M u v := by
  have e1 := B_win h hi hn (u := u) (v := v) u1 (by omega) (by omega) v2
  have e2 := B_win h hi hn (u := v) (v := u) (by omega) v2 u1 (by omega)
  unfold rPr pS
  rw [cif_iff (show (u < v ∧ ¬ rWin n (nI u) (nI v) σ ∧ ¬ rWin n (nI v) (nI u) σ) ↔ (¬ vW n M u v ∧ ¬ vW n M v u) by rw [e1, e2]; exact ⟨fun z => z.2, fun z => ⟨hv, z⟩⟩), e1, B_ahd h hT hM u1 (by omega) (by omega) v2, B_mis h hi hn u1 (by omega) (by omega) v2]
theorem B_in0 (h : RA n σ M) (hT : mT n M) (hM : M.1 0 0 5 < 2 ^ 31) {u : Nat} (u2 : u ≤ M.1 0 0 3) : ∀ i, i ≤ u → rIn n σ u i = 0
  | 0, _ => rfl
  | i + 1, hb => by
    unfold rIn
    rw [B_in0 h hT hM u2 i (by omega)]
    by_cases e : 1 + i = u
    · rw [cif_pos (Or.inl e)]; decide
    · rw [B_pr0 h hT hM u2 (by omega) (by omega)]
      unfold cif; split <;> decide
theorem B_seen (h : RA n σ M) (hi : mInv n M) {u : Nat} (u1 : 1 ≤ u) (u2 : u ≤ M.1 0 0 3) : σ.2 36 u = 0 ↔ M.1 3 u 7 = 0 := by
  have h7 := (hi.1.2.2 u u1 u2).2.2.2
  rw [(h.2.2.1 u u1 u2).2.2.2.2.2.1, nJ0, nI_eq (by omega) (by decide)]
theorem B_in (h : RA n σ M) (hi : mInv n M) (hT : mT n M) (hM : M.1 0 0 5 < 2 ^ 31) (hn : n ≤ 31) {u : Nat} (u1 : 1 ≤ u) : ∀ m, u + m ≤ M.1 0 0 3 → rIn n σ u (u + m) = pI n M u m
  | 0, hb => B_in0 h hT hM (by omega) u (Nat.le_refl _)
  | m + 1, hb => by
    show rIn n σ u (u + m) + cif (1 + (u + m) = u ∨ σ.2 36 (1 + (u + m)) = 0) 0 (rPr n σ u (1 + (u + m))) = pI n M u m + cif (M.1 3 (u + m + 1) 7 = 0) 0 (pS n M u (u + m + 1))
    rw [B_in h hi hT hM hn u1 m (by omega), Nat.add_comm 1 (u + m), B_pr h hi hT hM hn u1 (by omega) (by omega)]
    refine congrArg _ (cif_iff ?_)
    rw [B_seen h hi (by omega) (by omega)]
    exact ⟨fun z => z.resolve_left (by omega), Or.inr⟩
theorem B_late (h : RA n σ M) (hi : mInv n M) (hT : mT n M) (hM : M.1 0 0 5 < 2 ^ 31) (hn : n ≤ 31) {u : Nat} (u1 : 1 ≤ u) (u2 : u ≤ M.1 0 0 3) : (¬ σ.2 31 u = -1 ∧ rLate n (nI u) σ) ↔ pL M u := by
  have h511 := hi.1.1
  have hd := hT.dn u1 u2
  unfold rLate pL
  rw [nI_clamp (show u < 2 ^ 31 by omega), (h.2.2.1 u u1 u2).2.2.2.2.2.2.1, d_none hM hd]
  refine and_congr_right (fun c => ?_)
  have hd1 := hd.resolve_left c
  constructor
  · rintro ⟨k, i, hk, hlt, hi5, hbg⟩
    have hv := hi.2.2.1.2.1 u k u1 u2 hk
    have hl := hi.len hk
    rw [ix31 (by omega) (by omega), h.2.2.2.2.1 u u1 u2 k hk, nI_ltI (by omega) (by omega)] at hlt
    have hL := hi.2.1.1 k (i + 1) hk (by omega) (by omega)
    have e20 := h.2.2.2.2.2.2.1 k hk (i + 1) (by omega) (by omega)
    rw [Nat.add_sub_cancel] at e20
    have hq5 := (hT.1 _ hL.1 hL.2.1).1
    rw [ix512 (by omega) (by omega), e20, nI_clamp (by omega), (h.2.2.1 _ hL.1 hL.2.1).2.2.2.2.1, nI_leI (by omega) (by omega)] at hbg
    exact ⟨_, hL.1, hL.2.1, by omega, by rw [hL.2.2.2.1]; omega, by rw [hL.2.2.2.1, hL.2.2.1]; omega⟩
  · rintro ⟨q, q1, q2, qd, qp, qv⟩
    have hk := (hi.1.2.2 q q1 q2).1
    have hv := hi.2.2.1.2.1 u _ u1 u2 hk
    have hl := hi.len hk
    have hq := hi.2.1.2.1 q q1 q2 qp
    have e20 := h.2.2.2.2.2.2.1 (M.1 3 q 1) hk (M.1 3 q 11) (by omega) hq.1
    have hq5 := (hT.1 q q1 q2).1
    refine ⟨M.1 3 q 1, M.1 3 q 11 - 1, hk, ?_, by omega, ?_⟩
    · rw [ix31 (by omega) (by omega), h.2.2.2.2.1 u u1 u2 _ hk, nI_ltI (by omega) (by omega)]; omega
    · rw [ix512 (by omega) (by omega), e20, hq.2, nI_clamp (by omega), (h.2.2.1 q q1 q2).2.2.2.2.1, nI_leI (by omega) (by omega)]; omega
theorem B_ast (h : RA n σ M) (hi : mInv n M) (hT : mT n M) (hM : M.1 0 0 5 < 2 ^ 31) (hn : n ≤ 31) : ∀ i, i ≤ M.1 0 0 3 → rAst n σ (M.1 0 0 3) i = pT n M i
  | 0, _ => rfl
  | i + 1, hb => by
    have eI := B_in h hi hT hM hn (u := i + 1) (by omega) (M.1 0 0 3 - (i + 1)) (by omega)
    rw [show i + 1 + (M.1 0 0 3 - (i + 1)) = M.1 0 0 3 by omega] at eI
    show rAst n σ (M.1 0 0 3) i + cif (σ.2 36 (1 + i) = 0) 0 (cif (¬ σ.2 31 (1 + i) = -1 ∧ rLate n (nI (1 + i)) σ) 1 0 + rIn n σ (1 + i) (M.1 0 0 3)) = pT n M i + cif (M.1 3 (i + 1) 7 = 0) 0 (cif (pL M (i + 1)) 1 0 + pI n M (i + 1) (M.1 0 0 3 - (i + 1)))
    rw [B_ast h hi hT hM hn i (by omega), Nat.add_comm 1 i, eI, cif_iff (B_late h hi hT hM hn (by omega) hb), cif_iff (B_seen h hi (by omega) hb)]
end REF
set_option maxHeartbeats 4000000 in
set_option maxRecDepth 100000 in
theorem s_astray15 (l : Launch) (D : va_G) (cI cZ cN cO : ClassId) (A : Nat → Prop) (E : CE) (n : Nat) (σ : CS) (M : MS) (ok : cOK n (M.1 0 0 3) σ) (hCR : CR n (M.1 0 0 3) σ M) (hi : mInv n M) (hT : mT n M) (hM : M.1 0 0 5 < 2 ^ 31) : Met l yX3_astray (.code yX3_astray cX3_astray 6 (some .int) :: gw) ({ frames := 2, cells := 0, slots := 0, locals := 48 }) (va_Pc (.ref (E.1 0) :: []) (cH D cI cZ cN cO A E n (M.1 0 0 3) σ)) (vp_Si (fun r => r = pT n M (M.1 0 0 3))) 0 0 (fun _ => False) := by
  refine (k_X3_astray l D cI cZ cN cO A E n (M.1 0 0 3) σ ok).up (fun _ _ q => q) (fun a s o1 t q => ?_)
  obtain ⟨r, g1, g2, g3⟩ := q
  exact ⟨r, g1, g2.trans (A_ast hCR hi hT hM ok.2.1 _ (Nat.le_refl _)), g3⟩
set_option maxHeartbeats 4000000 in
set_option maxRecDepth 100000 in
theorem t_astray15 (l : Launch) (D : va_G) (cI cZ cN cO : ClassId) (mm : Nat) (d : Nat → Nat) (n : Nat) (σ : RS) (M : MS) (ok : rOK n σ) (hR : RR n σ 2001 0 M) (hi : mInv n M) (hn : n ≤ 31) (hT : mT n M) (hM : M.1 0 0 5 < 2 ^ 31) : Met l yX4_astray (.code yX4_astray cX4_astray 7 (some .int) :: gw) ({ frames := 1, cells := 0, slots := 0, locals := 23 }) (va_Pc (.ref mm :: []) (rH D cI cZ cN cO (rAd mm d) mm d σ)) (va_Qi (fun (r : Int32) (_ : Unit) => r = pT n M (M.1 0 0 3)) (fun _ t => rZ D cI cZ cN cO mm d n M 0 t) (rAd mm d)) 0 0 (rAd mm d) := by
  have h511 := hi.1.1
  refine (q_astray8 l D cI cZ cN cO (rAd mm d) mm d n σ (M.1 0 0 3) ok hR.1.1.1 (by omega)).up (fun _ _ q => q) (fun a s o1 t q => ⟨?_, q.2⟩)
  obtain ⟨⟨r, u, g1, g2, g4, g5⟩, -⟩ := q
  exact ⟨r, u, g1, g2.trans (B_ast hR.skip1.1 hi hT hM hn _ (Nat.le_refl _)), _, g4, g5, hR.skip1, rfl⟩
