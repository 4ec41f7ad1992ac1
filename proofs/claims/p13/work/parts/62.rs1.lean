/-- row A of the reference's state replaced -/
def rR (σ : RS) (A : Nat) (r : Nat → Int32) : RS := (σ.1, va_up σ.2 A r)
def mixr (b n : Nat) (w r : Nat → Int32) : Nat → Int32 := fun q => if b ≤ q ∧ q < b + n then w (q - b) else r q
theorem mixr_in {b n i : Nat} {w r : Nat → Int32} (h : i < n) : mixr b n w r (b + i) = w i := by
  unfold mixr; rw [if_pos ⟨by omega, by omega⟩, Nat.add_sub_cancel_left]
theorem mixr_out {b n q : Nat} {w r : Nat → Int32} (h : ¬ (b ≤ q ∧ q < b + n)) : mixr b n w r q = r q := by unfold mixr; rw [if_neg h]
theorem mixr_ne {n k k' i : Nat} {w r : Nat → Int32} (hk : ¬ k' = k) (hn : n ≤ 31) (hi : i < 31) : mixr (31 * k) n w r (31 * k' + i) = r (31 * k' + i) := mixr_out (by omega)
theorem rR_2 {σ : RS} {A B : Nat} {r : Nat → Int32} : (rR σ A r).2 B = if B = A then r else σ.2 B := rfl
theorem rR_1 {σ : RS} {A : Nat} {r : Nat → Int32} : (rR σ A r).1 = σ.1 := rfl
theorem rA_2 {σ : RS} {A B i : Nat} {v : Int32} : (rA σ A i v).2 B = if B = A then upd (σ.2 A) i v else σ.2 B := rfl
theorem rA_1 {σ : RS} {A i : Nat} {v : Int32} : (rA σ A i v).1 = σ.1 := rfl
theorem rI_2 {σ : RS} {k : Nat} {v : Int32} : (rI σ k v).2 = σ.2 := rfl
theorem rI_1 {σ : RS} {k j : Nat} {v : Int32} : (rI σ k v).1 j = if j = k then v else σ.1 j := rfl
theorem rA_rR {σ : RS} {A p : Nat} {r : Nat → Int32} {v : Int32} : rA (rR σ A r) A p v = rR σ A (upd r p v) := by
  simp only [rA, rR, Prod.mk.injEq, true_and]
  funext q
  simp only [va_up]
  by_cases e : q = A
  · simp [e]
  · simp [e]
theorem mixr_succ {b n : Nat} {w r : Nat → Int32} : upd (mixr b n w r) (b + n) (w n) = mixr b (n + 1) w r := by
  funext q
  simp only [upd, mixr]
  by_cases e : q = b + n
  · rw [if_pos e, if_pos (by omega), e, Nat.add_sub_cancel_left]
  · rw [if_neg e]
    by_cases e2 : b ≤ q ∧ q < b + n
    · rw [if_pos e2, if_pos (by omega)]
    · rw [if_neg e2, if_neg (by omega)]
theorem rR_self {σ : RS} {A : Nat} {r : Nat → Int32} (h : r = σ.2 A) : rR σ A r = σ := by
  obtain ⟨s1, s2⟩ := σ
  simp only [rR, Prod.mk.injEq, true_and]
  funext q
  simp only [va_up]
  by_cases e : q = A
  · rw [if_pos e, e]; exact h
  · rw [if_neg e]
theorem itr_mix {f : Nat → RS → RS} {A b : Nat} {w : Nat → Int32} {σ : RS} : ∀ (n : Nat), (∀ i, i < n → f i (rR σ A (mixr b i w (σ.2 A))) = rA (rR σ A (mixr b i w (σ.2 A))) A (b + i) (w i)) → itr f n σ = rR σ A (mixr b n w (σ.2 A))
  | 0, _ => (rR_self (by funext q; exact mixr_out (by omega))).symm
  | n + 1, h => by
    rw [show itr f (n + 1) σ = f n (itr f n σ) from rfl, itr_mix n (fun i hi => h i (by omega)), h n (by omega), rA_rR, mixr_succ]
theorem nJ31 : (31 : Int32) = nI 31 := by decide +kernel
theorem nJ512 : (512 : Int32) = nI 512 := by decide +kernel
theorem ix31 {k i : Nat} (hk : k < 2001) (hi : i < 31) : ((31 : Int32) * nI k + nI i).toNatClampNeg = 31 * k + i := by
  rw [nJ31, nI_mul, nI_add, nI_clamp (by omega)]
theorem ix512 {k i : Nat} (hk : k < 2001) (hi : i < 512) : ((512 : Int32) * nI k + nI i).toNatClampNeg = 512 * k + i := by
  rw [nJ512, nI_mul, nI_add, nI_clamp (by omega)]
theorem itr_vec {q k j n : Nat} {σ : RS} (hj : j < 2001) (hn : n ≤ 31) (hk : k < 31) (hq : ¬ q = 6) : itr (rVec q (nI k) j) n σ = rR σ 6 (mixr (31 * j) n (fun i => σ.2 q (31 * k + i)) (σ.2 6)) := by
  refine itr_mix n (fun i hi => ?_)
  unfold rVec
  rw [ix31 hj (by omega), ix31 (by omega) (by omega), rR_2, if_neg hq]
theorem itr_zero {q k n : Nat} {σ : RS} (hn : n ≤ 31) (hk : k < 31) : itr (rZero q (nI k)) n σ = rR σ q (mixr (31 * k) n (fun _ => 0) (σ.2 q)) := by
  refine itr_mix n (fun i hi => ?_)
  unfold rZero
  rw [ix31 (by omega) (by omega)]
theorem itr_max {q k s n : Nat} {σ : RS} (hn : n ≤ 31) (hk : k < 31) (hs : s < 2001) (hq : ¬ q = 6) : itr (rMax q (nI k) (nI s)) n σ = rR σ q (mixr (31 * k) n (fun i => mx (σ.2 q (31 * k + i)) (σ.2 6 (31 * s + i))) (σ.2 q)) := by
  refine itr_mix n (fun i hi => ?_)
  unfold rMax
  rw [ix31 (by omega) (by omega), ix31 hs (by omega), rR_2, if_pos rfl, rR_2, if_neg (fun e => hq e.symm), mixr_out (by omega)]
theorem itr_vwS {o k n : Nat} {σ : RS} (hn : n ≤ 31) (hk : k < 31) (ho : o < 512) : itr (rVwS (nI o) (nI k)) n σ = rR σ 35 (mixr (31 * o) n (fun i => σ.2 22 (31 * k + i)) (σ.2 35)) := by
  refine itr_mix n (fun i hi => ?_)
  unfold rVwS
  rw [ix31 (by omega) (by omega), ix31 (by omega) (by omega), rR_2, if_neg (by decide)]
theorem itr_vwB {o g n : Nat} {σ : RS} (hn : n ≤ 31) (hg : g < 512) (ho : o < 512) : itr (rVwB (nI o) (nI g)) n σ = rR σ 35 (mixr (31 * o) n (fun i => σ.2 35 (31 * g + i)) (σ.2 35)) := by
  refine itr_mix n (fun i hi => ?_)
  unfold rVwB
  rw [ix31 (by omega) (by omega), ix31 (by omega) (by omega), rR_2, if_pos rfl, mixr_out (by omega)]
theorem itr_own {k n : Nat} {σ : RS} (hn : n ≤ 31) (hk : k < 31) : itr (rOwn (nI k)) n σ = rR σ 21 (mixr (31 * k) n (fun i => if nI i = nI k then σ.2 19 k else 0) (σ.2 21)) := by
  refine itr_mix n (fun i hi => ?_)
  unfold rOwn
  rw [ix31 (by omega) (by omega), nI_clamp (by omega), rR_2 (B := 19), if_neg (show ¬ 19 = 21 by decide)]
theorem itr_cpy {k n : Nat} {σ : RS} (hn : n ≤ 31) (hk : k < 31) : itr (rCpy (nI k)) n σ = rR σ 22 (mixr (31 * k) n (fun i => σ.2 21 (31 * k + i)) (σ.2 22)) := by
  refine itr_mix n (fun i hi => ?_)
  unfold rCpy
  rw [ix31 (by omega) (by omega), rR_2, if_neg (by decide)]
theorem itr_sh {a c : Nat} {σ : RS} (hc : a + c < 2001) : itr (rSh a) c σ = rR σ 8 (mixr a c (fun i => σ.2 8 (a + 1 + i)) (σ.2 8)) := by
  refine itr_mix c (fun i hi => ?_)
  unfold rSh
  rw [nI_m1 (by omega), nI_clamp (by omega), nI_clamp (by omega), rR_2, if_pos rfl, mixr_out (by omega), show a + 1 + i - 1 = a + i from by omega]
def rMvF (k : Nat) (σ : RS) (i : Nat) : Int32 := σ.2 25 (31 * k + i) + (if σ.2 24 k = 0 then 0 else if σ.2 23 (31 * k + i) = σ.2 22 (31 * k + i) then 0 else 1)
theorem itr_step {k : Nat} {σ : RS} (hk : k < 31) : ∀ (n : Nat), n ≤ 31 → itr (rStep (nI k)) n σ = rR (rR σ 25 (mixr (31 * k) n (rMvF k σ) (σ.2 25))) 23 (mixr (31 * k) n (fun i => σ.2 22 (31 * k + i)) (σ.2 23))
  | 0, _ => by
    have e1 : rR σ 25 (mixr (31 * k) 0 (rMvF k σ) (σ.2 25)) = σ := rR_self (by funext q; exact mixr_out (by omega))
    rw [e1, rR_self (by funext q; exact mixr_out (by omega))]
    rfl
  | n + 1, hn => by
    rw [show itr (rStep (nI k)) (n + 1) σ = rStep (nI k) n (itr (rStep (nI k)) n σ) from rfl, itr_step hk n (by omega)]
    unfold rStep
    rw [ix31 (by omega) (by omega), nI_clamp (by omega)]
    have t25 : (rR (rR σ 25 (mixr (31 * k) n (rMvF k σ) (σ.2 25))) 23 (mixr (31 * k) n (fun i => σ.2 22 (31 * k + i)) (σ.2 23))).2 25 = mixr (31 * k) n (rMvF k σ) (σ.2 25) := by simp [rR_2]
    have t24 : (rR (rR σ 25 (mixr (31 * k) n (rMvF k σ) (σ.2 25))) 23 (mixr (31 * k) n (fun i => σ.2 22 (31 * k + i)) (σ.2 23))).2 24 = σ.2 24 := by simp [rR_2]
    have t23 : (rR (rR σ 25 (mixr (31 * k) n (rMvF k σ) (σ.2 25))) 23 (mixr (31 * k) n (fun i => σ.2 22 (31 * k + i)) (σ.2 23))).2 23 = mixr (31 * k) n (fun i => σ.2 22 (31 * k + i)) (σ.2 23) := by simp [rR_2]
    have t22 : (rR (rR σ 25 (mixr (31 * k) n (rMvF k σ) (σ.2 25))) 23 (mixr (31 * k) n (fun i => σ.2 22 (31 * k + i)) (σ.2 23))).2 22 = σ.2 22 := by simp [rR_2]
    rw [t25, t24, t23, t22, mixr_out (by omega), mixr_out (by omega)]
    have e := mixr_succ (b := 31 * k) (n := n) (w := rMvF k σ) (r := σ.2 25)
    have e' := mixr_succ (b := 31 * k) (n := n) (w := fun i => σ.2 22 (31 * k + i)) (r := σ.2 23)
    rw [← e, ← e']
    simp only [rA, rR, Prod.mk.injEq, true_and]
    funext q
    simp only [va_up]
    by_cases q3 : q = 23
    · simp [q3]
    · by_cases q5 : q = 25
      · simp [q5, rMvF]
      · simp [q3, q5]
/-- the slot of the message in place i -/
def rSl (σ : RS) (i : Nat) : Nat := (σ.2 8 i).toNatClampNeg
def rMsg (n : Nat) (σ : RS) (s : Nat) (x : Ms) : Prop := σ.2 2 s = nI x.1 ∧ σ.2 3 s = nI x.2.1 ∧ σ.2 4 s = nI x.2.2.1 ∧ σ.2 5 s = nI x.2.2.2.1 ∧ (x.1 = 1 ∨ x.1 = 2 → ∀ i, i < n → σ.2 6 (31 * s + i) = nI (x.2.2.2.2 i))
/-- the reference's row of messages; z: a slot that is used and stands in the row no more -/
def RM (n : Nat) (σ : RS) (z : Nat) (kz : Int32) (l : List Ms) : Prop := l.length ≤ 2000 ∧ σ.1 9 = nI l.length ∧ cn (σ.2 7) 2001 = l.length + (if z < 2001 then 1 else 0) ∧ (∀ i, i < l.length → rSl σ i < 2001 ∧ ¬ σ.2 7 (rSl σ i) = 0 ∧ ¬ rSl σ i = z) ∧ (∀ i j, i < l.length → j < l.length → rSl σ i = rSl σ j → i = j) ∧ (∀ i x, l[i]? = some x → rMsg n σ (rSl σ i) x) ∧ (z < 2001 → ¬ σ.2 7 z = 0 ∧ σ.2 2 z = kz)
theorem RM.same {n z : Nat} {kz : Int32} {σ τ : RS} {l : List Ms} (h : RM n σ z kz l) (h9 : τ.1 9 = σ.1 9) (hr : ∀ f, 2 ≤ f → f ≤ 8 → τ.2 f = σ.2 f) : RM n τ z kz l := by
  have e : ∀ i, rSl τ i = rSl σ i := fun i => by unfold rSl; rw [hr 8 (by decide) (by decide)]
  obtain ⟨a1, a2, a3, a4, a5, a6, a7⟩ := h
  refine ⟨a1, by rw [h9]; exact a2, by rw [hr 7 (by decide) (by decide)]; exact a3, fun i hi => by rw [e, hr 7 (by decide) (by decide)]; exact a4 i hi, fun i j hi hj => by rw [e, e]; exact a5 i j hi hj, fun i x hx => ?_, fun hz => by rw [hr 7 (by decide) (by decide), hr 2 (by decide) (by decide)]; exact a7 hz⟩
  have := a6 i x hx
  rw [e]
  unfold rMsg at this ⊢
  rw [hr 2 (by decide) (by decide), hr 3 (by decide) (by decide), hr 4 (by decide) (by decide), hr 5 (by decide) (by decide), hr 6 (by decide) (by decide)]
  exact this
theorem RM.free {n z : Nat} {kz : Int32} {σ : RS} {l : List Ms} (h : RM n σ z kz l) (hl : l.length < 2000) : fr (σ.2 7) < 2001 ∧ σ.2 7 (fr (σ.2 7)) = 0 ∧ (∀ i, i < l.length → ¬ rSl σ i = fr (σ.2 7)) ∧ (z < 2001 → ¬ z = fr (σ.2 7)) := by
  obtain ⟨a1, a2, a3, a4, a5, a6, a7⟩ := h
  have hc : cn (σ.2 7) 2001 < 2001 := by rw [a3]; split <;> omega
  obtain ⟨f1, f2, -⟩ := fr_spec hc
  exact ⟨f1, f2, fun i hi e => (a4 i hi).2.1 (by rw [e]; exact f2), fun hz e => (a7 hz).1 (by rw [e]; exact f2)⟩
theorem RM.rm {n z c : Nat} {kz : Int32} {σ : RS} {l : List Ms} (h : RM n σ z kz l) (hl : l.length + c ≤ 2000) : rRm σ c := by
  obtain ⟨a1, a2, a3, a4, a5, a6, a7⟩ := h
  refine ⟨?_, l.length, a2, hl⟩
  rw [a3]; split <;> omega
theorem RM.snd {n z : Nat} {kz : Int32} {σ τ : RS} {l : List Ms} (h : RM n σ z kz l) (hlen : l.length < 2000) (x : Ms) {q1 q2 q3 q4 : Int32} (e1 : q1 = nI x.1) (e2 : q2 = nI x.2.1) (e3 : q3 = nI x.2.2.1) (e4 : q4 = nI x.2.2.2.1)
    (h9 : τ.1 9 = σ.1 9 + 1) (t7 : τ.2 7 = upd (σ.2 7) (fr (σ.2 7)) 1) (t8 : τ.2 8 = upd (σ.2 8) l.length (nI (fr (σ.2 7)))) (t2 : τ.2 2 = upd (σ.2 2) (fr (σ.2 7)) q1) (t3 : τ.2 3 = upd (σ.2 3) (fr (σ.2 7)) q2) (t4 : τ.2 4 = upd (σ.2 4) (fr (σ.2 7)) q3) (t5 : τ.2 5 = upd (σ.2 5) (fr (σ.2 7)) q4)
    (t6 : ∀ s i, i < n → (¬ s = fr (σ.2 7) → τ.2 6 (31 * s + i) = σ.2 6 (31 * s + i)) ∧ (s = fr (σ.2 7) → x.1 = 1 ∨ x.1 = 2 → τ.2 6 (31 * s + i) = nI (x.2.2.2.2 i))) : RM n τ z kz (l ++ [x]) := by
  obtain ⟨f1, f2, f3, f4⟩ := h.free hlen
  obtain ⟨a1, a2, a3, a4, a5, a6, a7⟩ := h
  have eo : ∀ i, i < l.length → rSl τ i = rSl σ i := fun i hi => by unfold rSl; rw [t8, upd_ne _ (by omega)]
  have en : rSl τ l.length = fr (σ.2 7) := by unfold rSl; rw [t8, upd_self, nI_clamp (by omega)]
  have hcase : ∀ i, i < (l ++ [x]).length → i < l.length ∨ i = l.length := fun i hi => by simp at hi; omega
  refine ⟨by simp; omega, by rw [h9, a2, nI_1]; simp, ?_, fun i hi => ?_, fun i j hi hj q => ?_, fun i y hy => ?_, fun hz => ?_⟩
  · rw [t7, cn_set f2 (by decide), a3, if_pos f1]; simp; omega
  · rcases hcase i hi with q | q
    · have := a4 i q
      rw [eo i q, t7, upd_ne _ (f3 i q)]; exact this
    · subst q
      rw [en, t7, upd_self]
      refine ⟨f1, by decide, fun q => ?_⟩
      by_cases hz : z < 2001
      · exact f4 hz q.symm
      · omega
  · rcases hcase i hi with q1 | q1 <;> rcases hcase j hj with q2 | q2
    · rw [eo i q1, eo j q2] at q; exact a5 i j q1 q2 q
    · subst q2; rw [eo i q1, en] at q; exact absurd q (f3 i q1)
    · subst q1; rw [eo j q2, en] at q; exact absurd q.symm (f3 j q2)
    · omega
  · have hi : i < (l ++ [x]).length := (List.getElem?_eq_some_iff.mp hy).1
    rcases hcase i hi with q | q
    · have hy' : l[i]? = some y := by rw [List.getElem?_append_left q] at hy; exact hy
      have hm := a6 i y hy'
      have hne := f3 i q
      rw [eo i q]
      unfold rMsg at hm ⊢
      rw [t2, t3, t4, t5, upd_ne _ hne, upd_ne _ hne, upd_ne _ hne, upd_ne _ hne]
      exact ⟨hm.1, hm.2.1, hm.2.2.1, hm.2.2.2.1, fun hk j hj => by rw [(t6 _ j hj).1 hne]; exact hm.2.2.2.2 hk j hj⟩
    · subst q
      have : y = x := by simpa using hy.symm
      subst this
      rw [en]
      unfold rMsg
      rw [t2, t3, t4, t5, upd_self, upd_self, upd_self, upd_self]
      exact ⟨e1, e2, e3, e4, fun hk j hj => (t6 _ j hj).2 rfl hk⟩
  · have := a7 hz
    rw [t7, t2, upd_ne _ (f4 hz), upd_ne _ (f4 hz)]; exact this
theorem rSend_2 {σ : RS} {j A : Nat} {q1 q2 q3 q4 : Int32} (h : A < 2 ∨ 8 < A ∨ A = 6) : (rSend σ j q1 q2 q3 q4).2 A = σ.2 A := by
  have : ¬ A = 7 ∧ ¬ A = 2 ∧ ¬ A = 3 ∧ ¬ A = 4 ∧ ¬ A = 5 ∧ ¬ A = 8 := by omega
  simp [rSend, rA_2, rI_2, this]
theorem rSend_1 {σ : RS} {j A : Nat} {q1 q2 q3 q4 : Int32} (h : ¬ A = 9 ∧ ¬ A = 10) : (rSend σ j q1 q2 q3 q4).1 A = σ.1 A := by
  simp [rSend, rA_1, rI_1, h]
theorem RM.snd0 {n z : Nat} {kz : Int32} {σ : RS} {l : List Ms} (h : RM n σ z kz l) (hlen : l.length < 2000) (x : Ms) {q1 q2 q3 q4 : Int32} (e1 : q1 = nI x.1) (e2 : q2 = nI x.2.1) (e3 : q3 = nI x.2.2.1) (e4 : q4 = nI x.2.2.2.1) (hx : ¬ (x.1 = 1 ∨ x.1 = 2)) : RM n (rSend σ (fr (σ.2 7)) q1 q2 q3 q4) z kz (l ++ [x]) := by
  have f1 := (h.free hlen).1
  have c1 := nI_clamp (show fr (σ.2 7) < 2 ^ 31 by omega)
  have c2 : (σ.1 9).toNatClampNeg = l.length := by rw [h.2.1, nI_clamp (by omega)]
  refine h.snd hlen x e1 e2 e3 e4 ?_ ?_ ?_ ?_ ?_ ?_ ?_ (fun s i hi => ⟨fun _ => ?_, fun _ hk => absurd hk hx⟩)
  all_goals simp [rSend, rA_2, rI_2, rI_1, rA_1, c1, c2]
theorem RM.sndV {n z : Nat} {kz : Int32} {σ : RS} {l : List Ms} (h : RM n σ z kz l) (hn : n ≤ 31) (hlen : l.length < 2000) (x : Ms) {q1 q2 q3 q4 : Int32} (e1 : q1 = nI x.1) (e2 : q2 = nI x.2.1) (e3 : q3 = nI x.2.2.1) (e4 : q4 = nI x.2.2.2.1) {w : Nat → Int32} (hw : ∀ i, i < n → w i = nI (x.2.2.2.2 i)) : RM n (rR (rSend σ (fr (σ.2 7)) q1 q2 q3 q4) 6 (mixr (31 * fr (σ.2 7)) n w (σ.2 6))) z kz (l ++ [x]) := by
  have f1 := (h.free hlen).1
  have c1 := nI_clamp (show fr (σ.2 7) < 2 ^ 31 by omega)
  have c2 : (σ.1 9).toNatClampNeg = l.length := by rw [h.2.1, nI_clamp (by omega)]
  refine h.snd hlen x e1 e2 e3 e4 ?_ ?_ ?_ ?_ ?_ ?_ ?_ (fun s i hi => ⟨fun hne => ?_, fun he hk => ?_⟩)
  · simp [rSend, rR_1, rI_1, rA_1]
  · simp [rSend, rR_2, rA_2, rI_2, c1]
  · simp [rSend, rR_2, rA_2, rI_2, c2]
  · simp [rSend, rR_2, rA_2, rI_2, c1]
  · simp [rSend, rR_2, rA_2, rI_2, c1]
  · simp [rSend, rR_2, rA_2, rI_2, c1]
  · simp [rSend, rR_2, rA_2, rI_2, c1]
  · rw [rR_2, if_pos rfl, mixr_ne hne hn (by omega)]
  · subst he
    rw [rR_2, if_pos rfl, mixr_in hi]; exact hw i hi
theorem RM.toC {n z k a : Nat} {kz : Int32} {v : Nat → Nat} {σ : RS} {l : List Ms} (h : RM n σ z kz l) (hk : k < 31) (ha : σ.2 15 k = nI a) : ∀ (c : Nat), l.length + c ≤ 2000 → RM n (itr (rOneC (nI k)) c σ) z kz (l ++ mAll 0 k a v c) ∧ (itr (rOneC (nI k)) c σ).2 15 = σ.2 15
  | 0, _ => ⟨by simpa [mAll, itr] using h, rfl⟩
  | c + 1, hc => by
    obtain ⟨ih, e⟩ := RM.toC h hk ha c (by omega)
    have := ih.snd0 (by simp [mAll_len]; omega) (0, k, c, a, v) (q1 := 0) (q2 := nI k) (q3 := nI c) (q4 := (itr (rOneC (nI k)) c σ).2 15 (nI k).toNatClampNeg) nI_0.symm rfl rfl (by rw [e, nI_clamp (by omega)]; exact ha) (by simp)
    rw [show l ++ mAll 0 k a v (c + 1) = l ++ mAll 0 k a v c ++ [(0, k, c, a, v)] from by simp [mAll]]
    exact ⟨this, by rw [← e]; exact rSend_2 (by omega)⟩
theorem rOneS_eq {n q k i : Nat} {σ : RS} (hj : fr (σ.2 7) < 2001) (hn : n ≤ 31) (hk : k < 31) (hq : 8 < q) : rOneS n q (nI k) i σ = rR (rSend σ (fr (σ.2 7)) 2 (nI k) (nI i) (σ.2 15 (nI k).toNatClampNeg)) 6 (mixr (31 * fr (σ.2 7)) n (fun i => σ.2 q (31 * k + i)) (σ.2 6)) := by
  unfold rOneS
  rw [itr_vec hj hn hk (by omega), rSend_2 (A := q) (by omega), rSend_2 (A := 6) (by omega)]
theorem RM.toS {n z k a q : Nat} {kz : Int32} {v : Nat → Nat} {σ : RS} {l : List Ms} (h : RM n σ z kz l) (hn : n ≤ 31) (hk : k < 31) (hq : 8 < q) (hq' : ¬ q = 15) (ha : σ.2 15 k = nI a) (hv : ∀ i, i < n → σ.2 q (31 * k + i) = nI (v i)) : ∀ (c : Nat), l.length + c ≤ 2000 → RM n (itr (rOneS n q (nI k)) c σ) z kz (l ++ mAll 2 k a v c) ∧ (∀ A, 8 < A → (itr (rOneS n q (nI k)) c σ).2 A = σ.2 A) ∧ ∀ A, ¬ A = 9 ∧ ¬ A = 10 → (itr (rOneS n q (nI k)) c σ).1 A = σ.1 A
  | 0, _ => ⟨by simpa [mAll, itr] using h, fun _ _ => rfl, fun _ _ => rfl⟩
  | c + 1, hc => by
    obtain ⟨ih, e, e1⟩ := RM.toS h hn hk hq hq' ha hv c (by omega)
    have hl : (l ++ mAll 2 k a v c).length < 2000 := by simp [mAll_len]; omega
    have eq := rOneS_eq (i := c) (ih.free hl).1 hn hk hq
    have := ih.sndV hn hl (2, k, c, a, v) (q1 := 2) (q2 := nI k) (q3 := nI c) (q4 := (itr (rOneS n q (nI k)) c σ).2 15 (nI k).toNatClampNeg) nJ2 rfl rfl (by rw [e 15 (by decide), nI_clamp (by omega)]; exact ha) (w := fun i => (itr (rOneS n q (nI k)) c σ).2 q (31 * k + i)) (fun i hi => by rw [e q hq]; exact hv i hi)
    rw [show l ++ mAll 2 k a v (c + 1) = l ++ mAll 2 k a v c ++ [(2, k, c, a, v)] from by simp [mAll]]
    rw [show itr (rOneS n q (nI k)) (c + 1) σ = rOneS n q (nI k) c (itr (rOneS n q (nI k)) c σ) from rfl, eq]
    refine ⟨this, fun A hA => ?_, fun A hA => ?_⟩
    · rw [rR_2, if_neg (by omega), rSend_2 (by omega)]; exact e A hA
    · rw [rR_1, rSend_1 hA]; exact e1 A hA
theorem rToC_r {k : Nat} {σ : RS} : ∀ (c : Nat), (∀ A, 8 < A → (itr (rOneC (nI k)) c σ).2 A = σ.2 A) ∧ ∀ A, ¬ A = 9 ∧ ¬ A = 10 → (itr (rOneC (nI k)) c σ).1 A = σ.1 A
  | 0 => ⟨fun _ _ => rfl, fun _ _ => rfl⟩
  | c + 1 => by
    obtain ⟨e, e1⟩ := rToC_r (k := k) (σ := σ) c
    refine ⟨fun A hA => ?_, fun A hA => ?_⟩
    · exact (rSend_2 (A := A) (by omega)).trans (e A hA)
    · exact (rSend_1 (A := A) hA).trans (e1 A hA)
theorem cn_clr {u : Nat → Int32} {k : Nat} (hu : ¬ u k = 0) : ∀ i, cn (upd u k 0) i + (if k < i then 1 else 0) = cn u i := by
  intro i
  induction i with
  | zero => simp [cn]
  | succ i ih =>
    unfold cn
    by_cases h : i = k
    · subst h
      rw [if_neg (by omega)] at ih
      rw [upd_self, if_pos rfl, if_pos (by omega), if_neg hu]; omega
    · rw [upd_ne _ h]
      by_cases h2 : k < i
      · rw [if_pos h2] at ih; rw [if_pos (show k < i + 1 by omega)]; omega
      · rw [if_neg h2] at ih; rw [if_neg (show ¬ k < i + 1 by omega)]; omega
theorem RM.done {n z : Nat} {kz : Int32} {σ : RS} {l : List Ms} (h : RM n σ z kz l) (hz : z < 2001) : RM n (rA σ 7 z 0) 2001 0 l := by
  obtain ⟨a1, a2, a3, a4, a5, a6, a7⟩ := h
  have e : ∀ i, rSl (rA σ 7 z 0) i = rSl σ i := fun i => by unfold rSl; rw [rA_2, if_neg (by decide)]
  refine ⟨a1, a2, ?_, fun i hi => ?_, fun i j hi hj => by rw [e, e]; exact a5 i j hi hj, fun i x hx => ?_, fun q => absurd q (by decide)⟩
  · rw [rA_2, if_pos rfl, if_neg (by decide)]
    have := cn_clr (a7 hz).1 2001
    rw [if_pos hz] at this a3
    omega
  · have := a4 i hi
    rw [e, rA_2, if_pos rfl, upd_ne _ this.2.2]
    exact ⟨this.1, this.2.1, by omega⟩
  · have := a6 i x hx
    rw [e]
    unfold rMsg at this ⊢
    simpa [rA_2] using this
theorem RM.off {n a : Nat} {σ τ : RS} {l : List Ms} {x : Ms} (h : RM n σ 2001 0 l) (hx : l[a]? = some x) (h9 : τ.1 9 = σ.1 9 - 1) (h8 : τ.2 8 = mixr a (l.length - (a + 1)) (fun i => σ.2 8 (a + 1 + i)) (σ.2 8)) (hr : ∀ f, 2 ≤ f → f ≤ 7 → τ.2 f = σ.2 f) : RM n τ (rSl σ a) (nI x.1) (l.eraseIdx a) ∧ rMsg n τ (rSl σ a) x ∧ rSl σ a < 2001 := by
  have hal : a < l.length := (List.getElem?_eq_some_iff.mp hx).1
  obtain ⟨a1, a2, a3, a4, a5, a6, a7⟩ := h
  have hlen : (l.eraseIdx a).length = l.length - 1 := by rw [List.length_eraseIdx, if_pos hal]
  have hz := a4 a hal
  have e : ∀ i, i < l.length - 1 → rSl τ i = rSl σ (if i < a then i else i + 1) := fun i hi => by
    unfold rSl
    rw [h8]
    by_cases q : i < a
    · rw [if_pos q, mixr_out (by omega)]
    · rw [if_neg q]
      have := mixr_in (b := a) (n := l.length - (a + 1)) (i := i - a) (w := fun i => σ.2 8 (a + 1 + i)) (r := σ.2 8) (by omega)
      rw [show a + (i - a) = i from by omega] at this
      rw [this, show a + 1 + (i - a) = i + 1 from by omega]
  have hm : ∀ s y, rMsg n σ s y → rMsg n τ s y := fun s y q => by
    unfold rMsg at q ⊢
    rw [hr 2 (by decide) (by decide), hr 3 (by decide) (by decide), hr 4 (by decide) (by decide), hr 5 (by decide) (by decide), hr 6 (by decide) (by decide)]
    exact q
  have hxm := a6 a x hx
  have h7 := hr 7 (by decide) (by decide)
  refine ⟨⟨by omega, ?_, ?_, fun i hi => ?_, fun i j hi hj q => ?_, fun i y hy => ?_, fun _ => ⟨by rw [h7]; exact hz.2.1, by rw [hr 2 (by decide) (by decide)]; exact hxm.1⟩⟩, hm _ _ hxm, hz.1⟩
  · rw [h9, a2, hlen, nI_m1 (by omega)]
  · rw [h7, a3, if_neg (by decide), if_pos hz.1]; omega
  · rw [hlen] at hi
    rw [e i hi, h7]
    by_cases q : i < a
    · rw [if_pos q]
      have := a4 i (by omega)
      exact ⟨this.1, this.2.1, fun z => by have := a5 i a (by omega) hal z; omega⟩
    · rw [if_neg q]
      have := a4 (i + 1) (by omega)
      exact ⟨this.1, this.2.1, fun z => by have := a5 (i + 1) a (by omega) hal z; omega⟩
  · rw [hlen] at hi hj
    rw [e i hi, e j hj] at q
    have := a5 _ _ (by split <;> omega) (by split <;> omega) q
    split at this <;> split at this <;> omega
  · have hi : i < l.length - 1 := by rw [← hlen]; exact (List.getElem?_eq_some_iff.mp hy).1
    rw [e i hi]
    refine hm _ _ (a6 _ y ?_)
    rw [List.getElem?_eraseIdx] at hy
    by_cases q : i < a
    · rw [if_pos q]; rw [if_pos q] at hy; exact hy
    · rw [if_neg q]; rw [if_neg q] at hy; exact hy
