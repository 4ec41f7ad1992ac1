/-- slot s of the class's row holds the message x -/
def cMsg (n : Nat) (σ : CS) (s : Nat) (x : Ms) : Prop := σ.2.1 1 0 2 s = nI x.1 ∧ σ.2.1 1 0 3 s = nI x.2.1 ∧ σ.2.1 1 0 4 s = nI x.2.2.1 ∧ σ.2.1 1 0 5 s = nI x.2.2.2.1 ∧ (x.1 = 1 ∨ x.1 = 2 → ∀ i, i < n → σ.2.1 1 0 6 (s * n + i) = nI (x.2.2.2.2 i))
def CM (n : Nat) (σ : CS) (l : List Ms) : Prop := l.length ≤ 2000 ∧ σ.1 1 0 8 = nI l.length ∧ hdN σ < 2000 ∧ (∀ j, slN σ j < 2000) ∧ (∀ i j, i < 2000 → j < 2000 → slN σ i = slN σ j → i = j) ∧ (∀ i x, l[i]? = some x → cMsg n σ (slN σ i) x)
def cTr (n bg kd ix f : Nat) : Prop := (kd = 0 ∧ ix = 0 ∧ 3 ≤ f ∧ f ≤ 7) ∨ (kd = 1 ∧ ix = 0 ∧ f = 9) ∨ (kd = 2 ∧ ix < n ∧ 6 ≤ f ∧ f ≤ 9) ∨ (kd = 3 ∧ 1 ≤ ix ∧ ix ≤ bg ∧ 1 ≤ f ∧ f ≤ 11 ∧ f ≠ 6)
def cTrR (n bg kd ix f : Nat) : Prop := (kd = 2 ∧ ix < n ∧ 1 ≤ f ∧ f ≤ 4) ∨ (kd = 3 ∧ 1 ≤ ix ∧ ix ≤ bg ∧ f = 6)
/-- the class's state shows the plain machine's -/
def CR (n bg : Nat) (σ : CS) (m : MS) : Prop := m.1 0 0 3 = bg ∧ (∀ kd ix f, cTr n bg kd ix f → σ.1 kd ix f = nI (m.1 kd ix f)) ∧ (∀ kd ix f, cTrR n bg kd ix f → ∀ i, i < n → σ.2.1 kd ix f i = nI (m.2.1 kd ix f i)) ∧ (∀ k, k < n → σ.2.2 k = m.1 2 k 10 ∧ ∀ i, i < n → σ.2.1 2 k 5 i = if i = k then nI (m.1 2 k 11) else 0) ∧ CM n σ m.2.2
theorem CM.same {n : Nat} {σ τ : CS} {l : List Ms} (h : CM n σ l) (h7 : τ.1 1 0 7 = σ.1 1 0 7) (h8 : τ.1 1 0 8 = σ.1 1 0 8) (hr : ∀ f, 1 ≤ f → f ≤ 6 → τ.2.1 1 0 f = σ.2.1 1 0 f) : CM n τ l := by
  have e1 : hdN τ = hdN σ := by unfold hdN; rw [h7]
  have e2 : ∀ j, slN τ j = slN σ j := fun j => by unfold slN; rw [e1, hr 1 (by decide) (by decide)]
  refine ⟨h.1, by rw [h8]; exact h.2.1, by rw [e1]; exact h.2.2.1, fun j => by rw [e2]; exact h.2.2.2.1 j, fun i j hi hj => by rw [e2, e2]; exact h.2.2.2.2.1 i j hi hj, fun i x hx => ?_⟩
  have := h.2.2.2.2.2 i x hx
  rw [e2]
  unfold cMsg at this ⊢
  rw [hr 2 (by decide) (by decide), hr 3 (by decide) (by decide), hr 4 (by decide) (by decide), hr 5 (by decide) (by decide), hr 6 (by decide) (by decide)]
  exact this
theorem CR.put {n bg : Nat} {σ : CS} {m : MS} (h : CR n bg σ m) (kd ix f w : Nat) {v : Int32} (hv : v = nI w) (h1 : kd = 1 → f = 9) (h0 : ¬ (kd = 0 ∧ f = 3)) (h2 : kd = 2 → ¬ f = 10 ∧ ¬ f = 11) : CR n bg (cI_ σ kd ix f v) (mI m kd ix f w) := by
  obtain ⟨r1, r2, r3, r4, r5⟩ := h
  refine ⟨?_, fun a b c ht => ?_, r3, fun k hk => ?_, r5.same ?_ ?_ (fun f _ _ => rfl)⟩
  · simp only [mI]; rw [if_neg (fun q => h0 ⟨q.1.symm, q.2.2.symm⟩)]; exact r1
  · simp only [cI_, mI]
    by_cases e : a = kd ∧ b = ix ∧ c = f
    · rw [if_pos e, if_pos e]; exact hv
    · rw [if_neg e, if_neg e]; exact r2 a b c ht
  · have := r4 k hk
    simp only [cI_, mI]
    rw [if_neg (fun q => (h2 q.1.symm).1 q.2.2.symm), if_neg (fun q => (h2 q.1.symm).2 q.2.2.symm)]
    exact this
  · simp only [cI_]; rw [if_neg (fun q => by have := h1 q.1.symm; omega)]
  · simp only [cI_]; rw [if_neg (fun q => by have := h1 q.1.symm; omega)]
theorem CR.put8 {n bg : Nat} {σ : CS} {m : MS} (h : CR n bg σ m) (v : Int32) : CR n bg (cI_ σ 0 0 8 v) m := by
  obtain ⟨r1, r2, r3, r4, r5⟩ := h
  refine ⟨r1, fun a b c ht => ?_, r3, r4, r5.same (by simp [cI_]) (by simp [cI_]) (fun f _ _ => rfl)⟩
  simp only [cI_]
  rw [if_neg (fun q => by unfold cTr at ht; omega)]
  exact r2 a b c ht
theorem CR.ghost {n bg : Nat} {σ : CS} {m : MS} (h : CR n bg σ m) (k f : Nat) (r : Nat → Nat) (hf : 20 ≤ f) : CR n bg σ (mR m 2 k f r) := by
  obtain ⟨r1, r2, r3, r4, r5⟩ := h
  refine ⟨r1, r2, fun a b c ht i hi => ?_, r4, r5⟩
  simp only [mR]
  rw [if_neg (fun q => by unfold cTrR at ht; omega)]
  exact r3 a b c ht i hi
theorem CR.row {n bg : Nat} {σ : CS} {m : MS} (h : CR n bg σ m) (kd ix f : Nat) {r : Nat → Int32} (w : Nat → Nat) (hr : ∀ i, i < n → r i = nI (w i)) (h1 : ¬ kd = 1) (h2 : kd = 2 → ¬ f = 5) : CR n bg (cR_ σ kd ix f r) (mR m kd ix f w) := by
  obtain ⟨r1, r2, r3, r4, r5⟩ := h
  refine ⟨r1, r2, fun a b c ht i hi => ?_, fun k hk => ⟨(r4 k hk).1, fun i hi => ?_⟩, r5.same rfl rfl (fun g _ _ => ?_)⟩
  · simp only [cR_, mR]
    by_cases e : a = kd ∧ b = ix ∧ c = f
    · rw [if_pos e, if_pos e]; exact hr i hi
    · rw [if_neg e, if_neg e]; exact r3 a b c ht i hi
  · have := (r4 k hk).2 i hi
    simp only [cR_, mR]
    rw [if_neg (fun q => h2 q.1.symm q.2.2.symm)]
    exact this
  · simp only [cR_]; rw [if_neg (fun q => h1 q.1.symm)]
theorem CR.task {n bg : Nat} {σ : CS} {m : MS} (h : CR n bg σ m) (k t : Nat) : CR n bg (cT_ σ k t) (mI m 2 k 10 t) := by
  obtain ⟨r1, r2, r3, r4, r5⟩ := h
  refine ⟨by simpa [mI] using r1, fun a b c ht => ?_, r3, fun b hb => ⟨?_, ?_⟩, r5.same rfl rfl (fun g _ _ => rfl)⟩
  · simp only [mI]; rw [if_neg (fun q => by unfold cTr at ht; omega)]; exact r2 a b c ht
  · simp only [cT_, mI]
    by_cases e : b = k
    · simp [e]
    · simp [e]; exact (r4 b hb).1
  · simpa [mI, cT_] using (r4 b hb).2
theorem CR.own {n bg : Nat} {σ : CS} {m : MS} (h : CR n bg σ m) (k w : Nat) {v : Int32} (hv : v = nI w) : CR n bg (cA_ σ 2 k 5 k v) (mI m 2 k 11 w) := by
  obtain ⟨r1, r2, r3, r4, r5⟩ := h
  refine ⟨by simpa [mI] using r1, fun a b c ht => ?_, fun a b c ht i hi => ?_, fun b hb => ⟨?_, fun i hi => ?_⟩, r5.same rfl rfl (fun g _ _ => ?_)⟩
  · simp only [mI]; rw [if_neg (fun q => by unfold cTr at ht; omega)]; exact r2 a b c ht
  · simp only [cA_]
    rw [if_neg (fun q => by unfold cTrR at ht; omega)]
    exact r3 a b c ht i hi
  · simpa [mI, cA_] using (r4 b hb).1
  · have := (r4 b hb).2 i hi
    simp only [mI, cA_]
    by_cases e : b = k
    · subst e
      by_cases e2 : i = b
      · simp [e2, upd, hv]
      · simp [e2, upd]; rw [this, if_neg e2]
    · simp [e]; exact this
  · simp [cA_]
theorem CM.snd {n : Nat} {σ : CS} {l : List Ms} (h : CM n σ l) (hlen : l.length < 2000) (x : Ms) {τ : CS} {q1 q2 q3 q4 : Int32} (e1 : q1 = nI x.1) (e2 : q2 = nI x.2.1) (e3 : q3 = nI x.2.2.1) (e4 : q4 = nI x.2.2.2.1)
    (h7 : τ.1 1 0 7 = σ.1 1 0 7) (h8 : τ.1 1 0 8 = σ.1 1 0 8 + 1) (t1 : τ.2.1 1 0 1 = σ.2.1 1 0 1) (t2 : τ.2.1 1 0 2 = upd (σ.2.1 1 0 2) (slN σ l.length) q1) (t3 : τ.2.1 1 0 3 = upd (σ.2.1 1 0 3) (slN σ l.length) q2) (t4 : τ.2.1 1 0 4 = upd (σ.2.1 1 0 4) (slN σ l.length) q3) (t5 : τ.2.1 1 0 5 = upd (σ.2.1 1 0 5) (slN σ l.length) q4)
    (t6 : ∀ s i, i < n → (¬ s = slN σ l.length → τ.2.1 1 0 6 (s * n + i) = σ.2.1 1 0 6 (s * n + i)) ∧ (s = slN σ l.length → x.1 = 1 ∨ x.1 = 2 → τ.2.1 1 0 6 (s * n + i) = nI (x.2.2.2.2 i))) : CM n τ (l ++ [x]) := by
  have f1 : hdN τ = hdN σ := by unfold hdN; rw [h7]
  have f2 : ∀ j, slN τ j = slN σ j := fun j => by unfold slN; rw [f1, t1]
  refine ⟨by simp; omega, by rw [h8, h.2.1, nI_1]; simp, by rw [f1]; exact h.2.2.1, fun j => by rw [f2]; exact h.2.2.2.1 j, fun i j hi hj => by rw [f2, f2]; exact h.2.2.2.2.1 i j hi hj, fun i y hy => ?_⟩
  rw [f2]
  by_cases ei : i < l.length
  · have hy' : l[i]? = some y := by rw [List.getElem?_append_left ei] at hy; exact hy
    have hm := h.2.2.2.2.2 i y hy'
    have hne : ¬ slN σ i = slN σ l.length := fun q => by have := h.2.2.2.2.1 i l.length (by omega) hlen q; omega
    unfold cMsg at hm ⊢
    rw [t2, t3, t4, t5, upd_ne _ hne, upd_ne _ hne, upd_ne _ hne, upd_ne _ hne]
    exact ⟨hm.1, hm.2.1, hm.2.2.1, hm.2.2.2.1, fun hk j hj => by rw [(t6 _ j hj).1 hne]; exact hm.2.2.2.2 hk j hj⟩
  · have : i = l.length := by
      have := List.getElem?_eq_some_iff.mp hy
      have := this.1; simp at this; omega
    subst this
    have : y = x := by simpa using hy.symm
    subst this
    unfold cMsg
    rw [t2, t3, t4, t5, upd_self, upd_self, upd_self, upd_self]
    exact ⟨e1, e2, e3, e4, fun hk j hj => (t6 _ j hj).2 rfl hk⟩
theorem CM.ln {n : Nat} {σ : CS} {l : List Ms} (h : CM n σ l) : lnN σ = l.length := by unfold lnN; rw [h.2.1, nI_clamp (by have := h.1; omega)]
theorem CR.snd0 {n bg : Nat} {σ : CS} {m : MS} (h : CR n bg σ m) (hlen : m.2.2.length < 2000) (x : Ms) {q1 q2 q3 q4 : Int32} (e1 : q1 = nI x.1) (e2 : q2 = nI x.2.1) (e3 : q3 = nI x.2.2.1) (e4 : q4 = nI x.2.2.2.1) (hx : ¬ (x.1 = 1 ∨ x.1 = 2)) : CR n bg (cSend0 σ q1 q2 q3 q4) (mSnd x m) := by
  obtain ⟨r1, r2, r3, r4, r5⟩ := h
  have hs : slN σ m.2.2.length < 2000 := r5.2.2.2.1 _
  have e9 := r2 1 0 9 (Or.inr (Or.inl ⟨rfl, rfl, rfl⟩))
  refine ⟨by simpa [mSnd, mI, mL] using r1, fun a b c ht => ?_, fun a b c ht i hi => ?_, fun b hb => ?_, ?_⟩
  · have := r2 a b c ht
    unfold cTr at ht
    by_cases e : a = 1 ∧ b = 0 ∧ c = 9
    · obtain ⟨rfl, rfl, rfl⟩ := e
      simp [cSend0, cLen, cSnd, cI_, cA_, mSnd, mI, mL]
      rw [e9, nI_1]
    · have e' : ¬ (a = 1 ∧ b = 0 ∧ c = 8) := by omega
      simp only [cSend0, cLen, cSnd, cI_, cA_, mSnd, mI, mL, if_neg e, if_neg e']
      exact this
  · have := r3 a b c ht i hi
    unfold cTrR at ht
    have e1 : ¬ a = 1 := by omega
    simp [cSend0, cLen, cSnd, cI_, cA_, mSnd, mI, mL, e1]
    exact this
  · have := r4 b hb
    simp [cSend0, cLen, cSnd, cI_, cA_, mSnd, mI, mL]
    exact this
  · refine r5.snd hlen x e1 e2 e3 e4 ?_ ?_ ?_ ?_ ?_ ?_ ?_ (fun s i hi => ⟨fun _ => ?_, fun _ hk => absurd hk hx⟩)
    all_goals simp [cSend0, cLen, cSnd, cI_, cA_, r5.ln, nI_clamp (show slN σ m.2.2.length < 2 ^ 31 by omega)]
theorem CR.sndV {n bg : Nat} {σ : CS} {m : MS} (h : CR n bg σ m) (hlen : m.2.2.length < 2000) (k f : Nat) (x : Ms) {q1 q2 q3 q4 : Int32} (e1 : q1 = nI x.1) (e2 : q2 = nI x.2.1) (e3 : q3 = nI x.2.2.1) (e4 : q4 = nI x.2.2.2.1) (hv : ∀ i, i < n → σ.2.1 2 k f i = nI (x.2.2.2.2 i)) : CR n bg (cSendV n k f σ q1 q2 q3 q4) (mSnd x m) := by
  obtain ⟨r1, r2, r3, r4, r5⟩ := h
  have hs : slN σ m.2.2.length < 2000 := r5.2.2.2.1 _
  have e9 := r2 1 0 9 (Or.inr (Or.inl ⟨rfl, rfl, rfl⟩))
  refine ⟨by simpa [mSnd, mI, mL] using r1, fun a b c ht => ?_, fun a b c ht i hi => ?_, fun b hb => ?_, ?_⟩
  · have := r2 a b c ht
    unfold cTr at ht
    by_cases e : a = 1 ∧ b = 0 ∧ c = 9
    · obtain ⟨rfl, rfl, rfl⟩ := e
      simp [cSendV, cLen, cSnd, cI_, cA_, cR_, mSnd, mI, mL]
      rw [e9, nI_1]
    · have e' : ¬ (a = 1 ∧ b = 0 ∧ c = 8) := by omega
      simp only [cSendV, cLen, cSnd, cI_, cA_, cR_, mSnd, mI, mL, if_neg e, if_neg e']
      exact this
  · have := r3 a b c ht i hi
    unfold cTrR at ht
    have e1 : ¬ a = 1 := by omega
    simp [cSendV, cLen, cSnd, cI_, cA_, cR_, mSnd, mI, mL, e1]
    exact this
  · have := r4 b hb
    simp [cSendV, cLen, cSnd, cI_, cA_, cR_, mSnd, mI, mL]
    exact this
  · have hz := nI_clamp (show slN σ m.2.2.length < 2 ^ 31 by omega)
    refine r5.snd hlen x e1 e2 e3 e4 (by simp [cSendV, cLen, cSnd, cI_, cA_, cR_, r5.ln]) (by simp [cSendV, cLen, cSnd, cI_, cA_, cR_, r5.ln]) (by simp [cSendV, cLen, cSnd, cI_, cA_, cR_, r5.ln]) (by simp [cSendV, cLen, cSnd, cI_, cA_, cR_, r5.ln, hz]) (by simp [cSendV, cLen, cSnd, cI_, cA_, cR_, r5.ln, hz]) (by simp [cSendV, cLen, cSnd, cI_, cA_, cR_, r5.ln, hz]) (by simp [cSendV, cLen, cSnd, cI_, cA_, cR_, r5.ln, hz]) (fun s i hi => ⟨fun hne => ?_, fun he hk => ?_⟩)
    · have hno : ¬ (slN σ m.2.2.length * n ≤ s * n + i ∧ s * n + i < slN σ m.2.2.length * n + n) := by
        rintro ⟨g1, g2⟩
        rcases Nat.lt_or_gt_of_ne hne with q | q
        · have : (s + 1) * n ≤ slN σ m.2.2.length * n := Nat.mul_le_mul_right _ q
          rw [Nat.add_mul] at this; omega
        · have : (slN σ m.2.2.length + 1) * n ≤ s * n := Nat.mul_le_mul_right _ q
          rw [Nat.add_mul] at this; omega
      simp [cSendV, cLen, cSnd, cI_, cA_, cR_, r5.ln, va_cpy]
      intro g1 g2; exact absurd ⟨g1, g2⟩ hno
    · subst he
      simp only [cSendV, cLen, cSnd, cI_, cA_, cR_, r5.ln]
      simp [va_cpy, hi]
      exact hv i hi
theorem tkS_at (h : Nat) (s : Nat → Int32) (i : Nat) (hi : i < 2000) (hh : h < 2000) : ∀ (q : Nat), q ≤ i → ∀ j, j < 2000 → tkS h s i q ((h + j) % 2000) = if i - q < j ∧ j ≤ i then s ((h + (j - 1)) % 2000) else s ((h + j) % 2000)
  | 0, _, j, hj => by
    rw [if_neg (by omega)]; rfl
  | q + 1, hq, j, hj => by
    simp only [tkS, upd]
    by_cases e : (h + j) % 2000 = (h + (i - q)) % 2000
    · have ej : j = i - q := by omega
      rw [if_pos e, tkS_at h s i hi hh q (by omega) (i - q - 1) (by omega), if_neg (by omega), if_pos (by omega)]
      rw [ej]
    · rw [if_neg e, tkS_at h s i hi hh q (by omega) j hj]
      have ej : ¬ j = i - q := fun q => e (by rw [q])
      by_cases e2 : i - q < j ∧ j ≤ i
      · rw [if_pos e2, if_pos (by omega)]
      · rw [if_neg e2, if_neg (by omega)]
/-- the place that a place had before message a left -/
def tkP (a j : Nat) : Nat := if j < a then j else if j < 1999 then j + 1 else a
theorem cTake_hd {a : Nat} {σ : CS} : hdN (cTake a σ) = (hdN σ + 1) % 2000 := by
  have h : (hdN σ + 1) % 2000 < 2000 := Nat.mod_lt _ (by decide)
  have : (cTake a σ).1 1 0 7 = nI ((hdN σ + 1) % 2000) := by simp [cTake, cI_]
  unfold hdN at this ⊢; rw [this]; exact nI_clamp (by unfold hdN at h; omega)
theorem cTake_sl {a : Nat} {σ : CS} (hs : ∀ j, slN σ j < 2000) (hh : hdN σ < 2000) (ha : a < 2000) {j : Nat} (hj : j < 2000) : slN (cTake a σ) j = slN σ (tkP a j) := by
  have hr : (cTake a σ).2.1 1 0 1 = upd (tkS (hdN σ) (σ.2.1 1 0 1) a a) (hdN σ) (nI (slN σ a)) := by simp [cTake, cI_, cA_, cR_]
  unfold slN
  rw [cTake_hd, hr]
  unfold tkP
  by_cases e : j = 1999
  · subst e
    have : ((hdN σ + 1) % 2000 + 1999) % 2000 = hdN σ := by omega
    rw [this, upd_self, nI_clamp (by have := hs a; omega), if_neg (by omega), if_neg (by omega)]; rfl
  · have e1 : ((hdN σ + 1) % 2000 + j) % 2000 = (hdN σ + (j + 1)) % 2000 := by omega
    rw [e1, upd_ne _ (by omega), tkS_at _ _ _ ha hh a (Nat.le_refl _) (j + 1) (by omega)]
    by_cases e2 : j < a
    · rw [if_pos (by omega), if_pos e2]; rfl
    · rw [if_neg (by omega), if_neg e2, if_pos (by omega)]
theorem CM.take {n a : Nat} {σ : CS} {l : List Ms} (h : CM n σ l) (ha : a < l.length) : CM n (cTake a σ) (l.eraseIdx a) := by
  have hlen : (l.eraseIdx a).length = l.length - 1 := by rw [List.length_eraseIdx, if_pos ha]
  have hs := h.2.2.2.1
  have hh := h.2.2.1
  have h1 := h.1
  have hsl : ∀ j, j < 2000 → slN (cTake a σ) j = slN σ (tkP a j) := fun j hj => cTake_sl hs hh (by omega) hj
  have hp : ∀ j, j < 2000 → tkP a j < 2000 := fun j hj => by unfold tkP; split <;> (try split) <;> omega
  refine ⟨by omega, ?_, by rw [cTake_hd]; exact Nat.mod_lt _ (by decide), fun j => ?_, fun i j hi hj q => ?_, fun i x hx => ?_⟩
  · have : (cTake a σ).1 1 0 8 = σ.1 1 0 8 - 1 := by simp [cTake, cI_]
    rw [this, h.2.1, hlen, nI_m1 (by omega)]
  · have : slN (cTake a σ) j = slN (cTake a σ) (j % 2000) := by
      have e : (hdN (cTake a σ) + j) % 2000 = (hdN (cTake a σ) + j % 2000) % 2000 := by omega
      unfold slN; rw [e]
    rw [this, hsl _ (Nat.mod_lt _ (by decide))]; exact hs _
  · rw [hsl i hi, hsl j hj] at q
    have := h.2.2.2.2.1 _ _ (hp i hi) (hp j hj) q
    unfold tkP at this
    split at this <;> split at this <;> (try split at this) <;> (try split at this) <;> omega
  · have hi : i < (l.eraseIdx a).length := (List.getElem?_eq_some_iff.mp hx).1
    rw [hsl i (by omega)]
    have hg : l[tkP a i]? = some x := by
      rw [List.getElem?_eraseIdx] at hx
      unfold tkP
      by_cases e : i < a
      · rw [if_pos e]; rw [if_pos e] at hx; exact hx
      · rw [if_neg e, if_pos (by omega)]; rw [if_neg e] at hx; exact hx
    have := h.2.2.2.2.2 _ x hg
    have hr : ∀ f, 2 ≤ f → f ≤ 6 → (cTake a σ).2.1 1 0 f = σ.2.1 1 0 f := fun f h1 h2 => by
      have : ¬ f = 1 := by omega
      simp [cTake, cI_, cA_, cR_, this]
    unfold cMsg at this ⊢
    rw [hr 2 (by decide) (by decide), hr 3 (by decide) (by decide), hr 4 (by decide) (by decide), hr 5 (by decide) (by decide), hr 6 (by decide) (by decide)]
    exact this
theorem CR.take {n bg a : Nat} {σ : CS} {m : MS} (h : CR n bg σ m) (ha : a < m.2.2.length) : CR n bg (cTake a σ) (mL m (m.2.2.eraseIdx a)) := by
  obtain ⟨r1, r2, r3, r4, r5⟩ := h
  refine ⟨r1, fun x b c ht => ?_, fun x b c ht i hi => ?_, fun b hb => ?_, r5.take ha⟩
  · have := r2 x b c ht
    unfold cTr at ht
    have e1 : ¬ (x = 1 ∧ b = 0 ∧ c = 7) := by omega
    have e2 : ¬ (x = 1 ∧ b = 0 ∧ c = 8) := by omega
    simp only [cTake, cI_, cA_, cR_, if_neg e1, if_neg e2]; exact this
  · have := r3 x b c ht i hi
    unfold cTrR at ht
    have e1 : ¬ x = 1 := by omega
    simp [cTake, cI_, cA_, cR_, e1]; exact this
  · have := r4 b hb
    simp [cTake, cI_, cA_, cR_]; exact this
theorem CR.off {n bg a : Nat} {σ : CS} {m : MS} (h : CR n bg σ m) (ha : a < m.2.2.length) : CR n bg (cOff a σ) (mOff a m) := by
  have e6 := h.2.1 0 0 6 (Or.inl ⟨rfl, rfl, by decide, by decide⟩)
  have e5 := h.2.1 0 0 5 (Or.inl ⟨rfl, rfl, by decide, by decide⟩)
  have := ((h.take ha).put 0 0 6 (m.1 0 0 6 + 1) (v := σ.1 0 0 6 + 1) (by rw [e6, nI_1]) (by simp) (by simp) (by simp)).put 0 0 5 (m.1 0 0 5 + 1) (v := σ.1 0 0 5 + 1) (by rw [e5, nI_1]) (by simp) (by simp) (by simp)
  exact this
theorem nJ1 : (1 : Int32) = nI 1 := by decide +kernel
theorem nJ2 : (2 : Int32) = nI 2 := by decide +kernel
theorem nJ3 : (3 : Int32) = nI 3 := by decide +kernel
theorem nJ0 : (0 : Int32) = nI 0 := by decide +kernel
theorem nJm : (-1 : Int32) = nI 4294967295 := by decide +kernel
theorem mI_self {m : MS} {kd ix f w : Nat} (h : w = m.1 kd ix f) : mI m kd ix f w = m := by
  obtain ⟨m1, m2, m3⟩ := m
  simp only [mI, Prod.mk.injEq, and_true]
  funext a b c
  by_cases e : a = kd ∧ b = ix ∧ c = f
  · rw [if_pos e, h, e.1, e.2.1, e.2.2]
  · rw [if_neg e]
theorem CR.nd {n bg : Nat} {σ : CS} {m : MS} (h : CR n bg σ m) {k : Nat} (hk : k < n) (f : Nat) (h1 : 6 ≤ f) (h2 : f ≤ 9) : σ.1 2 k f = nI (m.1 2 k f) := h.2.1 2 k f (Or.inr (Or.inr (Or.inl ⟨rfl, hk, h1, h2⟩)))
theorem CR.x {n bg : Nat} {σ : CS} {m : MS} (h : CR n bg σ m) (f : Nat) (h1 : 3 ≤ f) (h2 : f ≤ 7) : σ.1 0 0 f = nI (m.1 0 0 f) := h.2.1 0 0 f (Or.inl ⟨rfl, rfl, h1, h2⟩)
theorem CR.op {n bg : Nat} {σ : CS} {m : MS} (h : CR n bg σ m) {o : Nat} (o1 : 1 ≤ o) (o2 : o ≤ bg) (f : Nat) (h1 : 1 ≤ f) (h2 : f ≤ 11) (h3 : f ≠ 6) : σ.1 3 o f = nI (m.1 3 o f) := h.2.1 3 o f (Or.inr (Or.inr (Or.inr ⟨rfl, o1, o2, h1, h2, h3⟩)))
theorem CR.rw {n bg : Nat} {σ : CS} {m : MS} (h : CR n bg σ m) {k : Nat} (hk : k < n) (f : Nat) (h1 : 1 ≤ f) (h2 : f ≤ 4) {i : Nat} (hi : i < n) : σ.2.1 2 k f i = nI (m.2.1 2 k f i) := h.2.2.1 2 k f (Or.inl ⟨rfl, hk, h1, h2⟩) i hi
theorem CR.vw {n bg : Nat} {σ : CS} {m : MS} (h : CR n bg σ m) {o : Nat} (o1 : 1 ≤ o) (o2 : o ≤ bg) {i : Nat} (hi : i < n) : σ.2.1 3 o 6 i = nI (m.2.1 3 o 6 i) := h.2.2.1 3 o 6 (Or.inr ⟨rfl, o1, o2, rfl⟩) i hi
theorem CR.enter {n bg : Nat} {σ : CS} {m : MS} (h : CR n bg σ m) {k ph : Nat} (hk : k < n) {q : Int32} (hq : q = nI ph) : CR n bg (cEnter k q σ) (mEnter k ph m) := by
  have e8 := h.nd hk 8 (by decide) (by decide)
  unfold cEnter mEnter
  refine CR.ghost ?_ k 20 _ (by decide)
  refine CR.put ?_ 2 k 9 0 nJ0 (by simp) (by simp) (by simp)
  refine CR.put ?_ 2 k 8 _ ?_ (by simp) (by simp) (by simp)
  · exact h.put 2 k 7 ph hq (by simp) (by simp) (by simp)
  · simp [cI_, e8, nI_1]
theorem CR.to0 {n bg : Nat} {σ : CS} {m : MS} (h : CR n bg σ m) {k kd : Nat} (hk : k < n) {q : Int32} (hq : q = nI kd) (v : Nat → Nat) (hkd : ¬ (kd = 1 ∨ kd = 2)) : ∀ (i : Nat), m.2.2.length + i ≤ 2000 → CR n bg (itc (cOne0 k q) i σ) (mI (mL m (m.2.2 ++ mAll kd k (m.1 2 k 8) v i)) 1 0 9 (m.1 1 0 9 + i))
  | 0, _ => by
    have : mI (mL m (m.2.2 ++ mAll kd k (m.1 2 k 8) v 0)) 1 0 9 (m.1 1 0 9 + 0) = m := by
      rw [show mL m (m.2.2 ++ mAll kd k (m.1 2 k 8) v 0) = m from by simp [mL, mAll]]
      exact mI_self rfl
    rw [this]; exact h
  | i + 1, hi => by
    have ih := CR.to0 h hk hq v hkd i (by omega)
    have e8 := ih.nd hk 8 (by decide) (by decide)
    have hl : (mI (mL m (m.2.2 ++ mAll kd k (m.1 2 k 8) v i)) 1 0 9 (m.1 1 0 9 + i)).2.2.length < 2000 := by
      simp [mI, mL, mAll_len]; omega
    have := ih.snd0 hl (kd, k, i, m.1 2 k 8, v) (q1 := q) (q2 := nI k) (q3 := nI i) (q4 := (itc (cOne0 k q) i σ).1 2 k 8) hq rfl rfl (by rw [e8]; simp [mI, mL]) hkd
    have e : mSnd (kd, k, i, m.1 2 k 8, v) (mI (mL m (m.2.2 ++ mAll kd k (m.1 2 k 8) v i)) 1 0 9 (m.1 1 0 9 + i)) = mI (mL m (m.2.2 ++ mAll kd k (m.1 2 k 8) v (i + 1))) 1 0 9 (m.1 1 0 9 + (i + 1)) := by
      simp only [mSnd, mI, mL, mAll, Prod.mk.injEq, true_and]
      refine ⟨?_, by rw [List.append_assoc]⟩
      funext a b c
      by_cases e : a = 1 ∧ b = 0 ∧ c = 9
      · simp [e]; omega
      · simp only [if_neg e]
    rw [← e]; exact this
theorem CR.toV {n bg : Nat} {σ : CS} {m : MS} (h : CR n bg σ m) {k kd : Nat} (hk : k < n) {q : Int32} (hq : q = nI kd) (f : Nat) (v : Nat → Nat) (hv : ∀ (τ : CS) (m' : MS), CR n bg τ m' → m'.2.1 = m.2.1 → m'.1 2 = m.1 2 → ∀ i, i < n → τ.2.1 2 k f i = nI (v i)) : ∀ (i : Nat), m.2.2.length + i ≤ 2000 → CR n bg (itc (cOneV n k f q) i σ) (mI (mL m (m.2.2 ++ mAll kd k (m.1 2 k 8) v i)) 1 0 9 (m.1 1 0 9 + i))
  | 0, _ => by
    have : mI (mL m (m.2.2 ++ mAll kd k (m.1 2 k 8) v 0)) 1 0 9 (m.1 1 0 9 + 0) = m := by
      rw [show mL m (m.2.2 ++ mAll kd k (m.1 2 k 8) v 0) = m from by simp [mL, mAll]]
      exact mI_self rfl
    rw [this]; exact h
  | i + 1, hi => by
    have ih := CR.toV h hk hq f v hv i (by omega)
    have e8 := ih.nd hk 8 (by decide) (by decide)
    have hl : (mI (mL m (m.2.2 ++ mAll kd k (m.1 2 k 8) v i)) 1 0 9 (m.1 1 0 9 + i)).2.2.length < 2000 := by
      simp [mI, mL, mAll_len]; omega
    have := ih.sndV hl k f (kd, k, i, m.1 2 k 8, v) (q1 := q) (q2 := nI k) (q3 := nI i) (q4 := (itc (cOneV n k f q) i σ).1 2 k 8) hq rfl rfl (by rw [e8]; simp [mI, mL]) (hv _ _ ih rfl (by funext a b; simp [mI, mL]))
    have e : mSnd (kd, k, i, m.1 2 k 8, v) (mI (mL m (m.2.2 ++ mAll kd k (m.1 2 k 8) v i)) 1 0 9 (m.1 1 0 9 + i)) = mI (mL m (m.2.2 ++ mAll kd k (m.1 2 k 8) v (i + 1))) 1 0 9 (m.1 1 0 9 + (i + 1)) := by
      simp only [mSnd, mI, mL, mAll, Prod.mk.injEq, true_and]
      refine ⟨?_, by rw [List.append_assoc]⟩
      funext a b c
      by_cases e : a = 1 ∧ b = 0 ∧ c = 9
      · simp [e]; omega
      · simp only [if_neg e]
    rw [← e]; exact this
theorem mTo_eq {n kd ph k : Nat} {v : Nat → Nat} {m : MS} : mTo n kd ph k v m = mI (mL (mEnter k ph m) ((mEnter k ph m).2.2 ++ mAll kd k ((mEnter k ph m).1 2 k 8) v n)) 1 0 9 ((mEnter k ph m).1 1 0 9 + n) := by
  have h1 : (mEnter k ph m).2.2 = m.2.2 := rfl
  have h2 : (mEnter k ph m).1 2 k 8 = m.1 2 k 8 + 1 := by simp [mEnter, mI, mR]
  have h3 : (mEnter k ph m).1 1 0 9 = m.1 1 0 9 := by simp [mEnter, mI, mR]
  rw [h1, h2, h3]; rfl
theorem CR.To0 {n bg : Nat} {σ : CS} {m : MS} (h : CR n bg σ m) {k kd ph : Nat} (hk : k < n) {q p : Int32} (hq : q = nI kd) (hp : p = nI ph) (v : Nat → Nat) (hkd : ¬ (kd = 1 ∨ kd = 2)) (hl : m.2.2.length + n ≤ 2000) : CR n bg (cTo0 n k q p σ) (mTo n kd ph k v m) := by
  rw [mTo_eq]
  exact CR.to0 (h.enter hk hp) hk hq v hkd n hl
theorem CR.ToV {n bg : Nat} {σ : CS} {m : MS} (h : CR n bg σ m) {k kd ph : Nat} (hk : k < n) {q p : Int32} (hq : q = nI kd) (hp : p = nI ph) (f : Nat) (v : Nat → Nat) (hv : ∀ (τ : CS) (m' : MS), CR n bg τ m' → (∀ f, ¬ f = 20 → m'.2.1 2 k f = m.2.1 2 k f) → m'.1 2 k 11 = m.1 2 k 11 → ∀ i, i < n → τ.2.1 2 k f i = nI (v i)) (hl : m.2.2.length + n ≤ 2000) : CR n bg (cToV n k f q p σ) (mTo n kd ph k v m) := by
  rw [mTo_eq]
  exact CR.toV (h.enter hk hp) hk hq f v (fun τ m' hc h1 h2 => hv τ m' hc (fun f hf => by rw [h1]; simp [mEnter, mI, mR, hf]) (by rw [h2]; simp [mEnter, mI, mR])) n hl
theorem mBegC_eq {n k : Nat} {m : MS} : mBegC n k m = mTo n 0 1 k (fun _ => 0) (mR m 2 k 2 (fun _ => 0)) := by
  simp only [mBegC, mTo, mEnter, mI, mR, mL, Prod.mk.injEq, true_and, and_true]
  funext a b c
  by_cases e : a = 2 ∧ b = k ∧ c = 2
  · simp [e]
  · simp [e]
theorem CR.begC {n bg : Nat} {σ : CS} {m : MS} (h : CR n bg σ m) {k : Nat} (hk : k < n) (hl : m.2.2.length + n ≤ 2000) : CR n bg (cBegC n k σ) (mBegC n k m) := by
  rw [mBegC_eq]
  unfold cBegC cZero
  exact CR.To0 (h.row 2 k 2 (fun _ => 0) (fun i hi => by simp [mix, hi]; exact nJ0) (by decide) (by simp)) hk nJ0 nJ1 _ (by simp) hl
theorem CR.endOp {n bg : Nat} {σ : CS} {m : MS} (h : CR n bg σ m) {k t : Nat} : CR n bg (cEndOp k t σ) (mEndOp k t m) := by
  unfold cEndOp cRest mEndOp
  refine CR.task ?_ k 0
  refine CR.put ?_ 2 k 9 0 nJ0 (by simp) (by simp) (by simp)
  refine CR.put ?_ 2 k 7 0 nJ0 (by simp) (by simp) (by simp)
  refine CR.put ?_ 0 0 4 _ ?_ (by simp) (by simp) (by simp)
  · exact h.put 3 t 8 _ (h.x 5 (by decide) (by decide)) (by simp) (by simp) (by simp)
  · have := h.x 4 (by decide) (by decide)
    simp [cI_, this, nI_1]
theorem CR.see {n bg : Nat} {σ : CS} {m : MS} (h : CR n bg σ m) {t : Nat} {r : Nat → Int32} {w : Nat → Nat} (hr : ∀ i, i < n → r i = nI (w i)) : CR n bg (cSee n t r σ) (mSee t w m) := by
  unfold cSee mSee
  refine CR.put ?_ 3 t 7 1 nJ1 (by simp) (by simp) (by simp)
  exact h.row 3 t 6 w (fun i hi => by simp [mix, hi]; exact hr i hi) (by decide) (by simp)
def mWrt1 (k t : Nat) (m : MS) : MS := mI (mI (mR m 2 k 22 (fun p => if p = m.1 2 k 11 + 1 then t else m.2.1 2 k 22 p)) 2 k 11 (m.1 2 k 11 + 1)) 3 t 11 (m.1 2 k 11 + 1)
theorem mWrt_eq {n k t : Nat} {m : MS} : mWrt n k t m = mTo n 2 3 k (fun j => if j = k then m.1 2 k 11 + 1 else 0) (mWrt1 k t m) := by
  simp only [mWrt, mWrt0, mWrt1, mTo, mEnter, mI, mR, mL, Prod.mk.injEq]
  refine ⟨?_, trivial, ?_⟩
  · funext a b c
    by_cases e : a = 2 ∧ b = k ∧ c = 7
    · simp [e]
    · simp [e]
  · simp
theorem CR.wrt {n bg : Nat} {σ : CS} {m : MS} (h : CR n bg σ m) {k t : Nat} (hk : k < n) (hl : m.2.2.length + n ≤ 2000) : CR n bg (cWrt n k t σ) (mWrt n k t m) := by
  have e5 : σ.2.1 2 k 5 k + 1 = nI (m.1 2 k 11 + 1) := by rw [(h.2.2.2.1 k hk).2 k hk, if_pos rfl, nI_1]
  rw [mWrt_eq]
  unfold cWrt
  refine CR.ToV ?_ hk nJ2 nJ3 5 _ (fun τ m' hc h1 h2 i hi => ?_) hl
  · unfold mWrt1
    refine CR.put ?_ 3 t 11 _ e5 (by simp) (by simp) (by simp)
    exact (h.ghost k 22 _ (by decide)).own k _ e5
  · rw [(hc.2.2.2.1 k hk).2 i hi, h2]
    by_cases e : i = k
    · simp [e, mWrt1, mI, mR]
    · simp [e, nJ0]
theorem mInv.len {n k : Nat} {m : MS} (h : mInv n m) (hk : k < n) : m.1 2 k 11 ≤ 511 := by
  have h1 := mSum_ge (f := fun k => m.1 2 k 11 + mAct (m.1 2 k 7)) (j := k) (n := n) hk
  have h2 := h.2.1.2.2
  have h3 := h.1.1
  have h4 : m.1 2 k 11 + mAct (m.1 2 k 7) ≤ mSum (fun k => m.1 2 k 11 + mAct (m.1 2 k 7)) n := h1
  omega
theorem mInv.cur {n k i : Nat} {m : MS} (h : mInv n m) (hk : k < n) (hi : i < n) : m.2.1 2 k 1 i ≤ 511 ∧ m.2.1 2 k 2 i ≤ 511 ∧ m.2.1 2 k 3 i ≤ 511 := by
  have h1 := h.2.2.1.1 k i hk hi
  have h2 := h.len hi
  omega
theorem E_same {n bg k : Nat} {σ : CS} {m : MS} (h : CR n bg σ m) (hi : mInv n m) (hk : k < n) : cSame n k σ ↔ mSame n k m := by
  unfold cSame mSame
  constructor
  · intro q j hj
    have := q j hj
    have hc := hi.cur hk hj
    rw [h.rw hk 2 (by decide) (by decide) hj, h.rw hk 3 (by decide) (by decide) hj, nI_eq (by omega) (by omega)] at this
    exact this
  · intro q j hj
    rw [h.rw hk 2 (by decide) (by decide) hj, h.rw hk 3 (by decide) (by decide) hj, q j hj]
theorem E_mv {n bg k i : Nat} {σ : CS} {m : MS} (h : CR n bg σ m) (hi : mInv n m) (hk : k < n) (hin : i < n) : cMv k σ i ↔ mMv k m i := by
  unfold cMv mMv
  have hc := hi.cur hk hin
  have hm := (hi.1.2.1 k hk).2.2.2.2.2.2.2 i hin
  rw [h.rw hk 2 (by decide) (by decide) hin, h.rw hk 3 (by decide) (by decide) hin, h.rw hk 4 (by decide) (by decide) hin, nI_eq (by omega) (by omega), nJ0, nI_leI (by omega) (by omega)]
  omega
theorem E_any {n bg k : Nat} {σ : CS} {m : MS} (h : CR n bg σ m) (hi : mInv n m) (hk : k < n) : cAny n k σ ↔ mAny n k m := by
  unfold cAny mAny
  constructor
  · rintro ⟨i, h1, h2⟩; exact ⟨i, h1, (E_mv h hi hk h1).mp h2⟩
  · rintro ⟨i, h1, h2⟩; exact ⟨i, h1, (E_mv h hi hk h1).mpr h2⟩
theorem E_mvr {n bg k : Nat} {σ : CS} {m : MS} (h : CR n bg σ m) (hi : mInv n m) (hk : k < n) (ha : mAny n k m) : cMvr n k σ = mMvr n k m := by
  have h1 := lst_of (P := cMv k σ) (n := n) ((E_any h hi hk).mpr ha)
  have h2 := lst_of (P := mMv k m) (n := n) ha
  show lst (cMv k σ) n 0 = lst (mMv k m) n 0
  rcases Nat.lt_trichotomy (lst (cMv k σ) n 0) (lst (mMv k m) n 0) with q | q | q
  · exact absurd ((E_mv h hi hk h1.1).mp h1.2.1) (h2.2.2 _ q)
  · exact q
  · exact absurd ((E_mv h hi hk h2.1).mpr h2.2.1) (h1.2.2 _ q)
/-- the lender is the one whose place the collect shows -/
theorem E_ld {n bg k : Nat} {σ : CS} {m : MS} (h : CR n bg σ m) (hi : mInv n m) (hn : n ≤ 31) (hk : k < n) (hp : m.1 2 k 7 = 2) (hc : ¬ m.1 3 (m.1 2 k 10) 9 = 0) (ha : mAny n k m) (q : Nat) (q1 : 1 ≤ q) (q2 : q ≤ bg) : cLd k σ (cMvr n k σ) q ↔ q = mLdr n k m := by
  have hL := mLdr_ok hi hk hp hc ha
  have hb : m.1 0 0 3 = bg := h.1
  rw [E_mvr h hi hk ha]
  unfold cLd
  have ho := hi.1.2.2 q q1 (by omega)
  have hlen := hi.len ho.1
  have hpl : m.1 3 q 11 ≤ 511 := by
    by_cases e : 0 < m.1 3 q 11
    · have := (hi.2.1.2.1 q q1 (by omega) e).1; omega
    · omega
  have hcu := hi.cur hk hL.1
  have hlt := hL.1
  rw [h.op q1 q2 1 (by decide) (by decide) (by decide), h.op q1 q2 11 (by decide) (by decide) (by decide), h.rw hk 2 (by decide) (by decide) hL.1]
  constructor
  · rintro ⟨a1, a2, a3⟩
    have hq := ho.1
    have e1 := (nI_eq (by omega) (by omega)).mp a1
    have e3 := (nI_eq (by omega) (by omega)).mp a3
    have a4 : 0 < m.1 3 q 11 := by
      rcases Nat.eq_zero_or_pos (m.1 3 q 11) with z | z
      · rw [z] at a2; exact absurd (by rw [nI_0]; exact Int32.le_refl _) a2
      · exact z
    have := (hi.2.1.2.1 q q1 (by omega) a4).2
    rw [e1, e3] at this
    exact this.symm
  · intro e
    subst e
    refine ⟨by rw [hL.2.2.2.2.2.2.2.1], ?_, by rw [hL.2.2.2.2.2.2.2.2.1]⟩
    rw [hL.2.2.2.2.2.2.2.2.1]
    exact nI_nle (by have := hL.2.2.2.1; omega) (by omega)
theorem E_ldr {n bg k : Nat} {σ : CS} {m : MS} (h : CR n bg σ m) (hi : mInv n m) (hn : n ≤ 31) (hk : k < n) (hp : m.1 2 k 7 = 2) (hc : ¬ m.1 3 (m.1 2 k 10) 9 = 0) (ha : mAny n k m) : cLdr n bg k σ = mLdr n k m := by
  have hL := mLdr_ok hi hk hp hc ha
  have hb : m.1 0 0 3 = bg := h.1
  have hP := (E_ld h hi hn hk hp hc ha (mLdr n k m) hL.2.2.2.2.2.1 (by omega)).mpr rfl
  have hs := lst_spec (cLd k σ (cMvr n k σ)) bg 1
  show lst (cLd k σ (cMvr n k σ)) bg 1 = _
  have h1 : lst (cLd k σ (cMvr n k σ)) bg 1 ≤ mLdr n k m := by
    rcases Nat.lt_or_ge (mLdr n k m) (lst (cLd k σ (cMvr n k σ)) bg 1) with q | q
    · exact absurd hP (hs.2.2.1 _ hL.2.2.2.2.2.1 q)
    · exact q
  exact (E_ld h hi hn hk hp hc ha _ hs.1 (by omega)).mp (hs.2.2.2 (by omega))
theorem cLdOk_of {n bg k : Nat} {σ : CS} {m : MS} (h : CR n bg σ m) (hi : mInv n m) (hn : n ≤ 31) (hk : k < n) (hp : m.1 2 k 7 = 2) (hc : ¬ m.1 3 (m.1 2 k 10) 9 = 0) : cLdOk n bg k σ := by
  intro ha
  have ha' := (E_any h hi hk).mp ha
  have hL := mLdr_ok hi hk hp hc ha'
  have hb : m.1 0 0 3 = bg := h.1
  exact ⟨mLdr n k m, hL.2.2.2.2.2.1, by omega, (E_ld h hi hn hk hp hc ha' _ hL.2.2.2.2.2.1 (by omega)).mpr rfl⟩
theorem E_kind {n bg t : Nat} {σ : CS} {m : MS} (h : CR n bg σ m) (hi : mInv n m) (t1 : 1 ≤ t) (t2 : t ≤ bg) : 3 < σ.1 3 t 2 ↔ 3 < m.1 3 t 2 := by
  have ho := hi.1.2.2 t t1 (by rw [h.1]; exact t2)
  rw [h.op t1 t2 2 (by decide) (by decide) (by decide), nJ3, nI_ltI (by decide) (by omega)]
theorem CR.use {n bg : Nat} {σ : CS} {m : MS} (h : CR n bg σ m) (hi : mInv n m) {k t : Nat} (hk : k < n) (t1 : 1 ≤ t) (t2 : t ≤ bg) {r : Nat → Int32} {w : Nat → Nat} (hr : ∀ i, i < n → r i = nI (w i)) (hl : ¬ 3 < m.1 3 t 2 → m.2.2.length + n ≤ 2000) : CR n bg (cUse n k t r σ) (mUse n k t w m) := by
  unfold cUse mUse
  by_cases e : 3 < m.1 3 t 2
  · rw [cif_pos e, cif_pos ((E_kind h hi t1 t2).mpr e)]; exact (h.see hr).endOp
  · rw [cif_neg e, cif_neg (fun q => e ((E_kind h hi t1 t2).mp q))]; exact (h.see hr).wrt hk (hl e)
theorem CR.co {n bg : Nat} {σ : CS} {m : MS} (h : CR n bg σ m) {t : Nat} (t1 : 1 ≤ t) (t2 : t ≤ bg) : CR n bg (cCo t σ) (mCo t m) := by
  unfold cCo mCo
  refine CR.put8 ?_ _
  exact h.put 3 t 9 _ (by rw [h.op t1 t2 9 (by decide) (by decide) (by decide), nI_1]) (by simp) (by simp) (by simp)
theorem mRem_eq {k t : Nat} {m : MS} : mRem k t (mMvd k m) = mR (mR (mR (mCo t m) 2 k 3 (m.2.1 2 k 2)) 2 k 4 (fun j => if m.2.1 2 k 2 j = m.2.1 2 k 3 j then m.2.1 2 k 4 j else m.2.1 2 k 4 j + 1)) 2 k 21 (m.2.1 2 k 20) := by
  simp only [mRem, mMvd, mCo, mI, mR, Prod.mk.injEq, true_and, and_true]
  funext a b c
  by_cases e : a = 2 ∧ b = k ∧ c = 21
  · simp [e]
  · by_cases e1 : a = 2 ∧ b = k ∧ c = 4
    · simp [e1]
    · by_cases e2 : a = 2 ∧ b = k ∧ c = 3
      · simp [e2]
      · simp [e, e1, e2]
/-- how many messages the end of a collect sends -/
noncomputable def mECoN (n k t : Nat) (m : MS) : Nat := cif (3 < m.1 3 t 2 ∧ ¬ m.1 3 t 9 = 0 ∧ (mSame n k m ∨ mAny n k m)) 0 n
theorem CR.eCo {n bg : Nat} {σ : CS} {m : MS} (h : CR n bg σ m) (hi : mInv n m) (hf : mFr n m) (hn : n ≤ 31) (hM : m.1 0 0 5 < 2 ^ 31) {k t : Nat} (hk : k < n) (hp : m.1 2 k 7 = 2) (ht : t = m.1 2 k 10) (hl : m.2.2.length + mECoN n k t m ≤ 2000) : CR n bg (cECo n bg k t σ) (mECo n k t m) := by
  have hak := hi.1.2.1 k hk
  have hb : m.1 0 0 3 = bg := h.1
  have t1 : 1 ≤ t := by have := hak.2.1; omega
  have t2 : t ≤ bg := by have := hak.2.2.1; omega
  have hof := hf.2 t t1 (by omega)
  have e9 := h.op t1 t2 9 (by decide) (by decide) (by decide)
  have ez : σ.1 3 t 9 = 0 ↔ m.1 3 t 9 = 0 := by rw [e9, nJ0, nI_eq (by omega) (by decide)]
  have hco := h.co t1 t2
  unfold cECo mECo
  by_cases c0 : m.1 3 t 9 = 0
  · rw [cif_pos c0, cif_pos (ez.mpr c0)]
    have hl' : m.2.2.length + n ≤ 2000 := by unfold mECoN at hl; rw [cif_neg (fun q => q.2.1 c0)] at hl; exact hl
    refine CR.begC ?_ hk hl'
    unfold cRem1 mRem
    refine CR.ghost ?_ k 21 _ (by decide)
    refine hco.row 2 k 3 _ (fun i hii => ?_) (by decide) (by simp)
    simp only [mix, if_pos hii]
    exact h.rw hk 2 (by decide) (by decide) hii
  rw [cif_neg c0, cif_neg (fun q => c0 (ez.mp q))]
  have hci : mInv n (mCo t m) := mCo_inv hi c0 hof
  by_cases c1 : mSame n k m
  · rw [cif_pos c1, cif_pos ((E_same h hi hk).mpr c1)]
    refine hco.use hci hk t1 t2 (fun i hii => ?_) (fun q => ?_)
    · exact h.rw hk 2 (by decide) (by decide) hii
    · unfold mECoN at hl; rw [cif_neg (fun x => q (by simpa [mCo, mI] using x.1))] at hl; exact hl
  rw [cif_neg c1, cif_neg (fun q => c1 ((E_same h hi hk).mp q))]
  by_cases c2 : mAny n k m
  · rw [cif_pos c2, cif_pos ((E_any h hi hk).mpr c2)]
    have hL := mLdr_ok hi hk hp (by rw [← ht]; exact c0) c2
    have hpc : (mCo t m).1 2 k 7 = 2 := by simpa [mCo, mI] using hp
    have hcc : ¬ (mCo t m).1 3 ((mCo t m).1 2 k 10) 9 = 0 := by simp [mCo, mI, ← ht]
    have hld : cLdr n bg k (cCo t σ) = mLdr n k m := by
      rw [E_ldr hco hci hn hk hpc hcc c2]; rfl
    rw [hld]
    have hbor : CR n bg (cBor t (mLdr n k m) (cCo t σ)) (mBor t (mMvr n k m) (mCo t m)) := by
      unfold cBor mBor
      refine CR.put ?_ 0 0 7 _ ?_ (by simp) (by simp) (by simp)
      · refine hco.put 3 t 10 _ ?_ (by simp) (by simp) (by simp)
        have := hco.op hL.2.2.2.2.2.1 (show mLdr n k m ≤ bg by omega) 1 (by decide) (by decide) (by decide)
        rw [this]
        have h1 : (mCo t m).1 3 (mLdr n k m) 1 = m.1 3 (mLdr n k m) 1 := by simp [mCo, mI]
        rw [h1, hL.2.2.2.2.2.2.2.1]
      · have := hco.x 7 (by decide) (by decide)
        rw [this, nI_1]
    refine hbor.use (mBor_inv hci) hk t1 t2 (fun i hii => ?_) (fun q => ?_)
    · exact h.vw hL.2.2.2.2.2.1 (by omega) hii
    · unfold mECoN at hl; rw [cif_neg (fun x => q (by simpa [mCo, mBor, mI] using x.1))] at hl; exact hl
  rw [cif_neg c2, cif_neg (fun q => c2 ((E_any h hi hk).mp q))]
  have hl' : m.2.2.length + n ≤ 2000 := by unfold mECoN at hl; rw [cif_neg (fun q => by rcases q.2.2 with x | x; exact c1 x; exact c2 x)] at hl; exact hl
  refine CR.begC ?_ hk hl'
  rw [mRem_eq]
  refine CR.ghost ?_ k 21 _ (by decide)
  unfold cRem0
  refine CR.row ?_ 2 k 4 _ (fun i hii => ?_) (by decide) (by simp)
  · refine hco.row 2 k 3 _ (fun i hii => ?_) (by decide) (by simp)
    simp only [mix, if_pos hii]
    exact h.rw hk 2 (by decide) (by decide) hii
  · simp only [mix, if_pos hii]
    have a2 := h.rw hk 2 (by decide) (by decide) hii
    have a3 := h.rw hk 3 (by decide) (by decide) hii
    have a4 := h.rw hk 4 (by decide) (by decide) hii
    have hcu := hi.cur hk hii
    show mvF k σ i = _
    unfold mvF
    by_cases e : m.2.1 2 k 2 i = m.2.1 2 k 3 i
    · rw [if_pos e, if_pos (by rw [a2, a3, e]), a4]
    · rw [if_neg e, if_neg (fun q => e (by rw [a2, a3, nI_eq (by omega) (by omega)] at q; exact q)), a4, nI_1]
theorem mH1_e2 {r s : Nat} {v : Nat → Nat} {m : MS} : ∀ b c, ¬ c = 9 → (mH1 r s v m).1 2 b c = m.1 2 b c := by
  intro b c hc; unfold mH1
  by_cases p1 : m.1 2 r 7 = 1
  · rw [cif_pos p1]; simp [mH0, mUp, mI, mR, hc]
  · rw [cif_neg p1]; simp [mH0, mI, mR, hc]
theorem mH1_e9 {r s : Nat} {v : Nat → Nat} {m : MS} : (mH1 r s v m).1 2 r 9 = m.1 2 r 9 + 1 := by
  unfold mH1
  by_cases p1 : m.1 2 r 7 = 1
  · rw [cif_pos p1]; simp [mH0, mUp, mI, mR]
  · rw [cif_neg p1]; simp [mH0, mI, mR]
theorem mH1_e03 {r s : Nat} {v : Nat → Nat} {m : MS} : ∀ b c d, ¬ b = 2 → (mH1 r s v m).1 b c d = m.1 b c d := by
  intro b c d hc; unfold mH1
  by_cases p1 : m.1 2 r 7 = 1
  · rw [cif_pos p1]; simp [mH0, mUp, mI, mR, hc]
  · rw [cif_neg p1]; simp [mH0, mI, mR, hc]
theorem mH1_l {r s : Nat} {v : Nat → Nat} {m : MS} : (mH1 r s v m).2.2 = m.2.2 := by
  unfold mH1
  by_cases p1 : m.1 2 r 7 = 1
  · rw [cif_pos p1]; rfl
  · rw [cif_neg p1]; rfl
theorem mH1_r {r s : Nat} {v : Nat → Nat} {m : MS} (p1 : ¬ m.1 2 r 7 = 1) : ∀ b c, ¬ c = 20 → (mH1 r s v m).2.1 2 b c = m.2.1 2 b c := by
  intro b c hc
  unfold mH1
  rw [cif_neg p1]; simp [mH0, mI, mR, hc]
theorem mH1_inv {n kd s r rd : Nat} {v : Nat → Nat} {m : MS} (h : mInv n m) (hx : mMsg n (kd, s, r, rd, v) m) (k0 : ¬ kd = 0) (k2 : ¬ kd = 2) (w : mWait r m kd rd) : mInv n (mH1 r s v m) := by
  obtain ⟨x1, x2, x3, x4, x5, x6, x7, x8⟩ := hx
  simp only at x1 x2 x3 x4 x5 x6 x7 x8
  have ea : mAsker (kd, s, r, rd, v) = r := by simp [mAsker, k0, k2]
  have eb : mOth (kd, s, r, rd, v) = s := by simp [mOth, k0, k2]
  rw [ea, eb] at x6 x7 x8
  have hw := w.1
  unfold mH1
  by_cases p1 : m.1 2 r 7 = 1
  · rw [cif_pos p1]
    have k1 : kd = 1 := by rcases w.2 with w | w <;> omega
    have hv : ∀ i, i < n → v i ≤ m.1 2 i 11 := x5 (Or.inl k1)
    refine mH0_inv (mUp2_inv h p1 hv) x3 x2 (by simpa [mUp, mR] using x6 hw) (fun h2 => absurd (p1.symm.trans h2) (by decide)) (fun _ hh hq i hi => ?_)
    have := x8 hw p1 hh k1 (by simpa [mUp, mR] using hq) i hi
    simp [mUp, mR]; omega
  · rw [cif_neg p1]
    have k3 : kd = 3 := by rcases w.2 with w | w <;> omega
    exact mH0_inv h x3 x2 (x6 hw) (fun h2 => (x7 hw h2).1 k3) (fun h1 => absurd h1 p1)
theorem mH1_fr {n r s : Nat} {v : Nat → Nat} {m : MS} (hf : mFr n m) : mFr n (mH1 r s v m) := by
  refine ⟨fun k hk => ?_, fun o h1 h2 => ?_⟩
  · rw [mH1_e2 k 8 (by decide), mH1_e03 0 0 5 (by decide)]; exact hf.1 k hk
  · rw [mH1_e03 3 o 9 (by decide), mH1_e03 0 0 5 (by decide)]
    rw [mH1_e03 0 0 3 (by decide)] at h2
    exact hf.2 o h1 h2
theorem mx_nI {a b : Nat} (ha : a < 2 ^ 31) (hb : b < 2 ^ 31) : mx (nI a) (nI b) = nI (max a b) := by
  unfold mx
  by_cases e : a < b
  · rw [if_pos ((nI_ltI ha hb).mpr e), Nat.max_eq_right (by omega)]
  · rw [if_neg (fun q => e ((nI_ltI ha hb).mp q)), Nat.max_eq_left (by omega)]
theorem CR.raise {n bg : Nat} {σ : CS} {m : MS} (h : CR n bg σ m) (hi : mInv n m) {k f j : Nat} (hk : k < n) (hf : f = 1 ∨ f = 2) {v : Nat → Nat} (hv : ∀ i, i < n → σ.2.1 1 0 6 (j * n + i) = nI (v i)) (hb : ∀ i, i < n → v i ≤ 511) : CR n bg (cRaise n k f j σ) (mUp k f v m) := by
  unfold cRaise mUp
  refine h.row 2 k f _ (fun i hii => ?_) (by decide) (fun _ => by omega)
  simp only [mix, if_pos hii]
  have hcu := hi.cur hk hii
  have hb := hb i hii
  rw [hv i hii, h.rw hk f (by omega) (by omega) hii, mx_nI (by rcases hf with e | e <;> subst e <;> omega) (by omega)]
theorem CR.h0 {n bg : Nat} {σ : CS} {m : MS} (h : CR n bg σ m) {k s : Nat} (hk : k < n) : CR n bg (cH0 k σ) (mH0 k s m) := by
  unfold cH0 mH0
  refine CR.ghost ?_ k 20 _ (by decide)
  exact h.put 2 k 9 _ (by rw [h.nd hk 9 (by decide) (by decide), nI_1]) (by simp) (by simp) (by simp)
theorem E_ph {n bg k : Nat} {σ : CS} {m : MS} (h : CR n bg σ m) (hi : mInv n m) (hk : k < n) (p : Nat) (hp : p ≤ 3) : σ.1 2 k 7 = nI p ↔ m.1 2 k 7 = p := by
  have := (hi.1.2.1 k hk).1
  rw [h.nd hk 7 (by decide) (by decide), nI_eq (by omega) (by omega)]
theorem CR.h1 {n bg : Nat} {σ : CS} {m : MS} (h : CR n bg σ m) (hi : mInv n m) {k s j : Nat} {v : Nat → Nat} (hk : k < n) (hv : m.1 2 k 7 = 1 → ∀ i, i < n → σ.2.1 1 0 6 (j * n + i) = nI (v i)) (hb : m.1 2 k 7 = 1 → ∀ i, i < n → v i ≤ m.1 2 i 11) : CR n bg (cH1 n k j σ) (mH1 k s v m) := by
  have e7 : (cH0 k σ).1 2 k 7 = 1 ↔ m.1 2 k 7 = 1 := by
    have : (cH0 k σ).1 2 k 7 = σ.1 2 k 7 := by simp [cH0, cI_]
    rw [this, nJ1, E_ph h hi hk 1 (by decide)]
  unfold cH1 mH1
  by_cases p1 : m.1 2 k 7 = 1
  · rw [cif_pos p1, cif_pos (e7.mpr p1)]
    have h1 : CR n bg (cRaise n k 2 j σ) (mUp k 2 v m) := h.raise hi hk (Or.inr rfl) (hv p1) (fun i hii => by have := hb p1 i hii; have := hi.len hii; omega)
    have h2 := h1.h0 (s := s) hk
    have : cH0 k (cRaise n k 2 j σ) = cRaise n k 2 j (cH0 k σ) := rfl
    rw [this] at h2; exact h2
  · rw [cif_neg p1, cif_neg (fun q => p1 (e7.mp q))]; exact h.h0 hk
/-- how many messages a heard one sends -/
noncomputable def mHrN (n k t : Nat) (m : MS) : Nat := cif (2 * m.1 2 k 9 ≤ n) 0 (cif (m.1 2 k 7 = 1) n (cif (m.1 2 k 7 = 2) (mECoN n k t m) 0))
theorem E_maj {n bg k : Nat} {σ : CS} {m : MS} (h : CR n bg σ m) (hn : n ≤ 31) (hk : k < n) (hh : m.1 2 k 9 ≤ 100) : 2 * σ.1 2 k 9 ≤ nI n ↔ 2 * m.1 2 k 9 ≤ n := by
  rw [h.nd hk 9 (by decide) (by decide), nJ2, nI_mul, nI_leI (by omega) (by omega)]
theorem mInv.heard {n k : Nat} {m : MS} (h : mInv n m) (hk : k < n) : m.1 2 k 9 ≤ n := by
  have h1 := h.2.2.2.1 k hk
  have := mSum_one (f := m.2.1 2 k 20) (n := n) (fun i hi => by have := h1.1 i hi; omega)
  have := h1.2
  omega
theorem CR.hr2 {n bg : Nat} {σ : CS} {m : MS} (h : CR n bg σ m) (hi : mInv n m) (hf : mFr n m) (hn : n ≤ 31) (hM : m.1 0 0 5 < 2 ^ 31) {k t : Nat} (hk : k < n) (ht : t = m.1 2 k 10) (hl : m.2.2.length + mHrN n k t m ≤ 2000) : CR n bg (cHr2 n bg k t σ) (mHr2 n k t m) := by
  have hh := hi.heard hk
  have em := E_maj h hn hk (by omega)
  unfold cHr2 mHr2
  unfold mHrN at hl
  by_cases c0 : 2 * m.1 2 k 9 ≤ n
  · rw [cif_pos c0, cif_pos (em.mpr c0)]; exact h
  rw [cif_neg c0, cif_neg (fun q => c0 (em.mp q))]
  rw [cif_neg c0] at hl
  by_cases c1 : m.1 2 k 7 = 1
  · rw [cif_pos c1, cif_pos (by rw [nJ1]; exact (E_ph h hi hk 1 (by decide)).mpr c1)]
    rw [cif_pos c1] at hl
    refine CR.ToV h hk nJ2 nJ2 2 _ (fun τ m' hc h1 h2 i hii => ?_) hl
    rw [hc.rw hk 2 (by decide) (by decide) hii, h1 2 (by decide)]
  rw [cif_neg c1, cif_neg (fun q => c1 (by rw [nJ1] at q; exact (E_ph h hi hk 1 (by decide)).mp q))]
  rw [cif_neg c1] at hl
  by_cases c2 : m.1 2 k 7 = 2
  · rw [cif_pos c2, cif_pos (by rw [nJ2]; exact (E_ph h hi hk 2 (by decide)).mpr c2)]
    rw [cif_pos c2] at hl
    exact h.eCo hi hf hn hM hk c2 ht hl
  · rw [cif_neg c2, cif_neg (fun q => c2 (by rw [nJ2] at q; exact (E_ph h hi hk 2 (by decide)).mp q))]
    exact h.endOp
theorem E_wait {n bg k : Nat} {σ : CS} {m : MS} (h : CR n bg σ m) (hi : mInv n m) (hM : m.1 0 0 5 < 2 ^ 31) (hk : k < n) {kd rd : Nat} (hkd : kd ≤ 3) (hrd : rd < 2 ^ 31) : cWait k σ (nI kd) (nI rd) ↔ mWait k m kd rd := by
  have ha := (hi.1.2.1 k hk).2.2.2.2.2.1
  unfold cWait mWait
  have e1 := E_ph h hi hk 1 (by decide)
  have e2 := E_ph h hi hk 2 (by decide)
  have e3 := E_ph h hi hk 3 (by decide)
  rw [nJ1, nJ2, nJ3, e1, e2, e3, h.nd hk 8 (by decide) (by decide), nI_eq hrd (by omega), nI_eq (by omega) (by decide), nI_eq (by omega) (by decide)]
theorem mMsg.rd {n : Nat} {x : Ms} {m : MS} (h : mMsg n x m) (hi : mInv n m) : x.2.2.2.1 ≤ m.1 0 0 5 := by
  have h1 := h.2.2.2.1
  have := (hi.1.2.1 (mAsker x) (mAsker_lt h.2.1 h.2.2.1)).2.2.2.2.2.1
  omega
theorem mLeads_h {n kd s r rd : Nat} {v : Nat → Nat} {m : MS} (u : ¬ m.1 2 r 6 = 0) (k0 : ¬ kd = 0) (k2 : ¬ kd = 2) (w : mWait r m kd rd) : mHrN n r (m.1 2 r 10) (mH1 r s v m) = mLeads n (kd, s, r, rd, v) m := by
  unfold mHrN mLeads
  simp only
  rw [cif_neg u, cif_neg (P := kd = 0 ∨ kd = 2) (by omega), mH1_e9, mH1_e2 r 7 (by decide)]
  by_cases c0 : 2 * (m.1 2 r 9 + 1) ≤ n
  · rw [cif_pos c0, cif_neg (fun q => q.2 c0)]
  · rw [cif_neg c0, cif_pos (And.intro w c0)]
    by_cases c1 : m.1 2 r 7 = 1
    · rw [cif_pos c1, cif_neg (by omega)]
    rw [cif_neg c1]
    by_cases c2 : m.1 2 r 7 = 2
    · rw [cif_pos c2]
      unfold mECoN
      have es : mSame n r (mH1 r s v m) ↔ mSame n r m := by unfold mSame; rw [mH1_r c1 r 2 (by decide), mH1_r c1 r 3 (by decide)]
      have ea : mAny n r (mH1 r s v m) ↔ mAny n r m := by unfold mAny mMv; rw [mH1_r c1 r 2 (by decide), mH1_r c1 r 3 (by decide), mH1_r c1 r 4 (by decide)]
      rw [mH1_e03 3 _ 2 (by decide), mH1_e03 3 _ 9 (by decide)]
      by_cases c3 : 3 < m.1 3 (m.1 2 r 10) 2 ∧ ¬ m.1 3 (m.1 2 r 10) 9 = 0 ∧ (mSame n r m ∨ mAny n r m)
      · rw [cif_pos (by rw [es, ea]; exact c3), cif_pos (Or.inr ⟨c2, c3⟩)]
      · rw [cif_neg (by rw [es, ea]; exact c3), cif_neg (fun q => by rcases q with q | q; omega; exact c3 q.2)]
    · rw [cif_neg c2]
      have : m.1 2 r 7 = 3 := by rcases w.2 with q | q <;> omega
      rw [cif_pos (Or.inl this)]
theorem CR.mid {n bg : Nat} {σ : CS} {m : MS} (h : CR n bg σ m) (hi : mInv n m) (hf : mFr n m) (hn : n ≤ 31) (hM : m.1 0 0 5 < 2 ^ 31) {x : Ms} {j : Nat} (hx : mMsg n x m) (hc : cMsg n σ j x) (hl : m.2.2.length + mLeads n x m ≤ 2000) : CR n bg (cMid n bg x.2.2.1 j σ) (mMid n x m) := by
  have hrd := hx.rd hi
  obtain ⟨kd, s, r, rd, v⟩ := x
  have hx' := hx
  obtain ⟨x1, x2, x3, x4, x5, x6, x7, x8⟩ := hx
  obtain ⟨c1, c2, c3, c4, c5⟩ := hc
  simp only at x1 x2 x3 x5 c1 c2 c3 c4 c5 hrd
  simp only
  have hup := (hi.1.2.1 r x3).2.2.2.2.2.2.1
  have eu : σ.1 2 r 6 = 0 ↔ m.1 2 r 6 = 0 := by rw [h.nd x3 6 (by decide) (by decide), nJ0, nI_eq (by omega) (by decide)]
  unfold cMid mMid
  simp only
  by_cases u : m.1 2 r 6 = 0
  · rw [cif_pos u, cif_pos (eu.mpr u)]; exact h
  rw [cif_neg u, cif_neg (fun q => u (eu.mp q))]
  by_cases k0 : kd = 0
  · rw [cif_pos k0, cif_pos (by rw [c1, k0, nI_0])]
    have hl' : m.2.2.length < 2000 := by
      unfold mLeads at hl; simp only at hl; rw [cif_neg u, cif_pos (Or.inl k0)] at hl; omega
    exact h.sndV hl' r 1 (1, r, s, rd, m.2.1 2 r 1) nJ1 rfl c2 c4 (fun i hii => h.rw x3 1 (by decide) (by decide) hii)
  rw [cif_neg k0, cif_neg (by rw [c1, nJ0, nI_eq (by omega) (by decide)]; exact k0)]
  by_cases k2 : kd = 2
  · rw [cif_pos k2, cif_pos (by rw [c1, k2, nJ2])]
    have hl' : m.2.2.length < 2000 := by
      unfold mLeads at hl; simp only at hl; rw [cif_neg u, cif_pos (Or.inr k2)] at hl; omega
    have hr : CR n bg (cRaise n r 1 j σ) (mUp r 1 v m) := h.raise hi x3 (Or.inl rfl) (c5 (Or.inr k2)) (fun i hii => by have := x5 (Or.inr k2) i hii; have := hi.len hii; omega)
    exact hr.snd0 hl' (3, r, s, rd, fun _ => 0) nJ3 rfl c2 c4 (by simp)
  rw [cif_neg k2, cif_neg (by rw [c1, nJ2, nI_eq (by omega) (by decide)]; exact k2)]
  have ew : cWait r σ (σ.2.1 1 0 2 j) (σ.2.1 1 0 5 j) ↔ mWait r m kd rd := by rw [c1, c4]; exact E_wait h hi hM x3 x1 (by omega)
  by_cases w : mWait r m kd rd
  · rw [cif_pos w, cif_pos (ew.mpr w), (h.2.2.2.1 r x3).1]
    have hk1 : m.1 2 r 7 = 1 → kd = 1 := fun q => by rcases w.2 with w | w <;> omega
    have h1 := h.h1 hi (k := r) (s := s) (j := j) (v := v) x3 (fun q => c5 (Or.inl (hk1 q))) (fun q => x5 (Or.inl (hk1 q)))
    refine h1.hr2 (mH1_inv hi hx' k0 k2 w) (mH1_fr hf) hn (by rw [mH1_e03 0 0 5 (by decide)]; exact hM) x3 (by rw [mH1_e2 r 10 (by decide)]) ?_
    rw [mH1_l, mLeads_h u k0 k2 w]; exact hl
  · rw [cif_neg w, cif_neg (fun q => w (ew.mp q))]; exact h
theorem mOff_leads {n a : Nat} {x : Ms} {m : MS} : mLeads n x (mOff a m) = mLeads n x m := by
  have e2 : ∀ b, (mOff a m).1 2 b = m.1 2 b := by intro b; funext c; simp [mOff, mI, mL]
  have e3 : ∀ b, (mOff a m).1 3 b = m.1 3 b := by intro b; funext c; simp [mOff, mI, mL]
  have hr : (mOff a m).2.1 = m.2.1 := rfl
  unfold mLeads mWait mSame mAny mMv
  simp only [e2, e3, hr]
theorem E_leads {n bg : Nat} {σ : CS} {m : MS} (h : CR n bg σ m) (hi : mInv n m) (hn : n ≤ 31) (hM : m.1 0 0 5 < 2 ^ 31) {x : Ms} {j : Nat} (x1 : x.1 ≤ 3) (x3 : x.2.2.1 < n) (hrd : x.2.2.2.1 < 2 ^ 31) (hc : cMsg n σ j x) : cLeads n x.2.2.1 j σ = nI (mLeads n x m) := by
  obtain ⟨kd, s, r, rd, v⟩ := x
  obtain ⟨c1, c2, c3, c4, c5⟩ := hc
  simp only at x1 x3 hrd c1 c2 c3 c4
  simp only
  have hup := (hi.1.2.1 r x3).2.2.2.2.2.2.1
  have hak := hi.1.2.1 r x3
  have eu : σ.1 2 r 6 = 0 ↔ m.1 2 r 6 = 0 := by rw [h.nd x3 6 (by decide) (by decide), nJ0, nI_eq (by omega) (by decide)]
  have ew : cWait r σ (σ.2.1 1 0 2 j) (σ.2.1 1 0 5 j) ↔ mWait r m kd rd := by rw [c1, c4]; exact E_wait h hi hM x3 x1 hrd
  have hh := hi.heard x3
  have em : 2 * (σ.1 2 r 9 + 1) ≤ nI n ↔ 2 * (m.1 2 r 9 + 1) ≤ n := by
    rw [h.nd x3 9 (by decide) (by decide), nI_1, nJ2, nI_mul, nI_leI (by omega) (by omega)]
  unfold cLeads mLeads
  simp only
  by_cases u : m.1 2 r 6 = 0
  · rw [cif_pos u, cif_pos (eu.mpr u), nI_0]
  rw [cif_neg u, cif_neg (fun q => u (eu.mp q))]
  have ek : σ.2.1 1 0 2 j = 0 ∨ σ.2.1 1 0 2 j = 2 ↔ kd = 0 ∨ kd = 2 := by rw [c1, nJ0, nJ2, nI_eq (by omega) (by decide), nI_eq (by omega) (by decide)]
  by_cases k0 : kd = 0 ∨ kd = 2
  · rw [cif_pos k0, cif_pos (ek.mpr k0)]; exact nJ1
  rw [cif_neg k0, cif_neg (fun q => k0 (ek.mp q)), ew, em]
  by_cases w : mWait r m kd rd ∧ ¬ 2 * (m.1 2 r 9 + 1) ≤ n
  · rw [cif_pos w, cif_pos w, (h.2.2.2.1 r x3).1]
    have hp0 : ¬ m.1 2 r 7 = 0 := by rcases w.1.2 with q | q <;> omega
    have hb : m.1 0 0 3 = bg := h.1
    have t1 : 1 ≤ m.1 2 r 10 := by have := hak.2.1; omega
    have t2 : m.1 2 r 10 ≤ bg := by have := hak.2.2.1; omega
    have ho := hi.1.2.2 _ t1 (by omega)
    have e1 := E_ph h hi x3 1 (by decide)
    have e3 := E_ph h hi x3 3 (by decide)
    have e9 : ¬ σ.1 3 (m.1 2 r 10) 9 ≤ 0 ↔ ¬ m.1 3 (m.1 2 r 10) 9 = 0 := by
      rw [h.op t1 t2 9 (by decide) (by decide) (by decide), nJ0, nI_leI (by omega) (by decide)]; omega
    have ee : cEnd n r (m.1 2 r 10) σ ↔ (m.1 2 r 7 = 3 ∨ (m.1 2 r 7 = 2 ∧ 3 < m.1 3 (m.1 2 r 10) 2 ∧ ¬ m.1 3 (m.1 2 r 10) 9 = 0 ∧ (mSame n r m ∨ mAny n r m))) := by
      unfold cEnd
      rw [nJ1, show (σ.1 2 r 7 = 3) = (σ.1 2 r 7 = nI 3) from by rw [← nJ3], e1, e3, E_kind h hi t1 t2, e9, E_same h hi x3, E_any h hi x3]
      have := hak.1
      constructor
      · rintro ⟨q1, q2 | q2⟩
        · exact Or.inl q2
        · by_cases q3 : m.1 2 r 7 = 3
          · exact Or.inl q3
          · exact Or.inr ⟨by omega, q2⟩
      · rintro (q | q)
        · exact ⟨by omega, Or.inl q⟩
        · exact ⟨by omega, Or.inr q.2⟩
    by_cases c : (m.1 2 r 7 = 3 ∨ (m.1 2 r 7 = 2 ∧ 3 < m.1 3 (m.1 2 r 10) 2 ∧ ¬ m.1 3 (m.1 2 r 10) 9 = 0 ∧ (mSame n r m ∨ mAny n r m)))
    · rw [cif_pos c, cif_pos (ee.mpr c), nI_0]
    · rw [cif_neg c, cif_neg (fun q => c (ee.mp q))]
  · rw [cif_neg w, cif_neg w, nI_0]
theorem mLeads_le {n : Nat} {x : Ms} {m : MS} (h1 : 1 ≤ n) : mLeads n x m ≤ n := by
  unfold mLeads cif
  split
  · omega
  · split
    · exact h1
    · split
      · split <;> omega
      · omega
theorem CR.lo {n bg : Nat} {σ : CS} {m : MS} (h : CR n bg σ m) (hi : mInv n m) (hn : n ≤ 31) (hM : m.1 0 0 5 < 2 ^ 31) {x : Ms} {j : Nat} (x1 : x.1 ≤ 3) (x3 : x.2.2.1 < n) (hrd : x.2.2.2.1 < 2 ^ 31) (hc : cMsg n σ j x) : cLOk n bg x.2.2.1 j σ := by
  have hak := hi.1.2.1 _ x3
  intro q
  rw [hc.1, hc.2.2.2.1] at q
  have w := (E_wait h hi hM x3 x1 hrd).mp q
  have hp0 : ¬ m.1 2 x.2.2.1 7 = 0 := by rcases w.2 with q | q <;> omega
  have hb : m.1 0 0 3 = bg := h.1
  have t1 : 1 ≤ m.1 2 x.2.2.1 10 := by have := hak.2.1; omega
  have t2 : m.1 2 x.2.2.1 10 ≤ bg := by have := hak.2.2.1; omega
  have ho := hi.1.2.2 _ t1 (by omega)
  rw [(h.2.2.2.1 _ x3).1]
  refine ⟨t1, fun q2 q3 => ?_⟩
  rw [nJ2] at q2
  have p2 := (E_ph h hi x3 2 (by decide)).mp q2
  refine cLdOk_of h hi hn x3 p2 (fun z => q3 ?_)
  rw [h.op t1 t2 9 (by decide) (by decide) (by decide), z, nI_0]; exact Int32.le_refl _
theorem CR.ho {n bg : Nat} {σ : CS} {m : MS} (h : CR n bg σ m) (hi : mInv n m) (hf : mFr n m) (hn : n ≤ 31) (hM : m.1 0 0 5 < 2 ^ 31) {x : Ms} {j : Nat} (hx : mMsg n x m) (hc : cMsg n σ j x) (hl : m.2.2.length + mLeads n x m ≤ 2000) (u : ¬ σ.1 2 x.2.2.1 6 = 0) (k0 : ¬ σ.2.1 1 0 2 j = 0) (k2 : ¬ σ.2.1 1 0 2 j = 2) (w : cWait x.2.2.1 σ (σ.2.1 1 0 2 j) (σ.2.1 1 0 5 j)) : 1 ≤ σ.2.2 x.2.2.1 ∧ cHOk n bg x.2.2.1 (σ.2.2 x.2.2.1) (cH1 n x.2.2.1 j σ) := by
  have hrd := hx.rd hi
  obtain ⟨kd, s, r, rd, v⟩ := x
  have hx' := hx
  obtain ⟨x1, x2, x3, x4, x5, x6, x7, x8⟩ := hx
  obtain ⟨c1, c2, c3, c4, c5⟩ := hc
  simp only at x1 x2 x3 x5 c1 c2 c3 c4 c5 hrd u k0 k2 w
  simp only
  have hup := (hi.1.2.1 r x3).2.2.2.2.2.2.1
  have eu : σ.1 2 r 6 = 0 ↔ m.1 2 r 6 = 0 := by rw [h.nd x3 6 (by decide) (by decide), nJ0, nI_eq (by omega) (by decide)]
  have u' : ¬ m.1 2 r 6 = 0 := fun q => u (eu.mpr q)
  have k0' : ¬ kd = 0 := fun q => k0 (by rw [c1, q, nI_0])
  have k2' : ¬ kd = 2 := fun q => k2 (by rw [c1, q, nJ2])
  rw [c1, c4] at w
  have w' := (E_wait h hi hM x3 x1 (by omega)).mp w
  have hak := hi.1.2.1 r x3
  have hp0 : ¬ m.1 2 r 7 = 0 := by rcases w'.2 with q | q <;> omega
  have hb : m.1 0 0 3 = bg := h.1
  have t1 : 1 ≤ m.1 2 r 10 := by have := hak.2.1; omega
  have t2 : m.1 2 r 10 ≤ bg := by have := hak.2.2.1; omega
  rw [(h.2.2.2.1 r x3).1]
  refine ⟨t1, ?_⟩
  have hk1 : m.1 2 r 7 = 1 → kd = 1 := fun q => by rcases w'.2 with w | w <;> omega
  have h1 := h.h1 hi (k := r) (s := s) (j := j) (v := v) x3 (fun q => c5 (Or.inl (hk1 q))) (fun q => x5 (Or.inl (hk1 q)))
  have hi1 := mH1_inv hi hx' k0' k2' w'
  have hf1 := mH1_fr (r := r) (s := s) (v := v) hf
  have hln : lnN (cH1 n r j σ) = m.2.2.length := by rw [h1.2.2.2.2.ln, mH1_l]
  have em := E_maj h1 hn x3 (by have := hi1.heard x3; omega)
  have hN := mLeads_h (n := n) (s := s) (v := v) u' k0' k2' w'
  have e10 : (mH1 r s v m).1 2 r 10 = m.1 2 r 10 := mH1_e2 r 10 (by decide)
  have e7 : (mH1 r s v m).1 2 r 7 = m.1 2 r 7 := mH1_e2 r 7 (by decide)
  have ho := hi1.1.2.2 _ t1 (by rw [mH1_e03 0 0 3 (by decide)]; omega)
  have hof := hf1.2 _ t1 (by rw [mH1_e03 0 0 3 (by decide)]; omega)
  have hM1 : (mH1 r s v m).1 0 0 5 < 2 ^ 31 := by rw [mH1_e03 0 0 5 (by decide)]; exact hM
  refine ⟨fun q1 q2 => ?_, fun q1 q2 => ⟨fun q3 => ?_, fun q3 q4 => ?_⟩⟩
  · rw [nJ1] at q2
    have p1 := (E_ph h1 hi1 x3 1 (by decide)).mp q2
    rw [← hN] at hl
    unfold mHrN at hl
    rw [cif_neg (fun q => q1 (em.mpr q)), cif_pos p1] at hl
    rw [hln]; exact hl
  · rw [nJ2] at q2
    have p2 := (E_ph h1 hi1 x3 2 (by decide)).mp q2
    rw [← hN] at hl
    unfold mHrN at hl
    rw [cif_neg (fun q => q1 (em.mpr q)), cif_neg (by omega), cif_pos p2] at hl
    unfold mECoN at hl
    rw [cif_neg] at hl
    · rw [hln]; exact hl
    · intro z
      refine q3 ⟨(E_kind h1 hi1 t1 t2).mpr z.1, ?_, ?_⟩
      · rw [h1.op t1 t2 9 (by decide) (by decide) (by decide), nJ0, nI_eq (by omega) (by decide)]; exact z.2.1
      · rw [E_same h1 hi1 x3, E_any h1 hi1 x3]; exact z.2.2
  · rw [nJ2] at q2
    have p2 := (E_ph h1 hi1 x3 2 (by decide)).mp q2
    have c0 : ¬ (mH1 r s v m).1 3 (m.1 2 r 10) 9 = 0 := by
      rw [h1.op t1 t2 9 (by decide) (by decide) (by decide), nJ0, nI_eq (by omega) (by decide)] at q3; exact q3
    refine cLdOk_of (h1.co t1 t2) (mCo_inv hi1 c0 hof) hn x3 (by simpa [mCo, mI] using p2) ?_
    simp [mCo, mI, e10]
/-- the class's come, by the plain machine -/
theorem CR.come {n bg a : Nat} {σ : CS} {m : MS} (h : CR n bg σ m) (hi : mInv n m) (hn : n ≤ 31) (hn3 : 3 ≤ n) (hM : m.1 0 0 5 + 1 < 2 ^ 31) {x : Ms} (hx : m.2.2[a]? = some x) :
    a < lnN σ ∧ σ.2.1 1 0 4 (slN σ a) = nI x.2.2.1 ∧ x.2.2.1 < n ∧ cLOk n bg x.2.2.1 (slN σ a) σ ∧ σ.2.1 1 0 2 (slN σ a) = nI x.1 ∧ x.1 ≤ 3 ∧ (2000 < σ.1 1 0 8 + (cLeads n x.2.2.1 (slN σ a) σ - 1) ↔ 2000 < m.2.2.length - 1 + mLeads n x m) ∧
    (¬ 2000 < m.2.2.length - 1 + mLeads n x m → (¬ (cOff a σ).1 2 x.2.2.1 6 = 0 → ¬ (cOff a σ).2.1 1 0 2 (slN σ a) = 0 → ¬ (cOff a σ).2.1 1 0 2 (slN σ a) = 2 → cWait x.2.2.1 (cOff a σ) ((cOff a σ).2.1 1 0 2 (slN σ a)) ((cOff a σ).2.1 1 0 5 (slN σ a)) → 1 ≤ (cOff a σ).2.2 x.2.2.1 ∧ cHOk n bg x.2.2.1 ((cOff a σ).2.2 x.2.2.1) (cH1 n x.2.2.1 (slN σ a) (cOff a σ))) ∧ CR n bg (cMid n bg x.2.2.1 (slN σ a) (cOff a σ)) (mCome n a x m)) := by
  have hal : a < m.2.2.length := (List.getElem?_eq_some_iff.mp hx).1
  have hin : x ∈ m.2.2 := List.mem_of_getElem? hx
  have hb := h.1
  have hbx := hi.2.2.1.2.2 x hin
  have hc := h.2.2.2.2.2.2.2.2.2 a x hx
  have hl1 := h.2.2.2.2.1
  have hms := mOff_msg hi hx
  have hio := mOff_inv (a := a) hi
  have hfo := mOff_fr (a := a) hi
  have hco := h.off hal
  have hrd : x.2.2.2.1 < 2 ^ 31 := by
    have := (hi.1.2.1 (mAsker x) (mAsker_lt hbx.2.1 hbx.2.2.1)).2.2.2.2.2.1
    have := hbx.2.2.2.1
    omega
  have hcm : cMsg n (cOff a σ) (slN σ a) x := by
    have hr : ∀ f, 2 ≤ f → f ≤ 6 → (cOff a σ).2.1 1 0 f = σ.2.1 1 0 f := fun f h1 h2 => by
      have : ¬ f = 1 := by omega
      simp [cOff, cTake, cI_, cA_, cR_, this]
    unfold cMsg at hc ⊢
    rw [hr 2 (by decide) (by decide), hr 3 (by decide) (by decide), hr 4 (by decide) (by decide), hr 5 (by decide) (by decide), hr 6 (by decide) (by decide)]
    exact hc
  have hle := mLeads_le (n := n) (x := x) (m := m) (by omega)
  have hoff5 : (mOff a m).1 0 0 5 < 2 ^ 31 := by simp [mOff, mI, mL]; omega
  have hoffl : (mOff a m).2.2.length = m.2.2.length - 1 := by simp only [mOff, mI, mL]; rw [List.length_eraseIdx, if_pos hal]
  refine ⟨by rw [h.2.2.2.2.ln]; exact hal, hc.2.2.1, hbx.2.2.1, h.lo hi hn (by omega) hbx.1 hbx.2.2.1 hrd hc, hc.1, hbx.1, ?_, fun hro => ?_⟩
  · rw [E_leads h hi hn (by omega) hbx.1 hbx.2.2.1 hrd hc, h.2.2.2.2.2.1]
    have e : nI m.2.2.length + (nI (mLeads n x m) - 1) = nI (m.2.2.length - 1 + mLeads n x m) := by
      have : nI m.2.2.length + (nI (mLeads n x m) - 1) = nI m.2.2.length - 1 + nI (mLeads n x m) := by
        rw [Int32.sub_eq_add_neg, Int32.sub_eq_add_neg, Int32.add_comm (nI (mLeads n x m)), ← Int32.add_assoc]
      rw [this, nI_m1 (by omega), nI_add]
    rw [e, show (2000 : Int32) = nI 2000 from nI_2000.symm, nI_ltI (by decide) (by omega)]
  · have hl' : (mOff a m).2.2.length + mLeads n x (mOff a m) ≤ 2000 := by rw [mOff_leads, hoffl]; omega
    exact ⟨fun u k0 k2 w => hco.ho hio hfo hn hoff5 hms hcm hl' u k0 k2 w, hco.mid hio hfo hn hoff5 hms hcm hl'⟩
def mNew0 (k kd a b : Nat) (m : MS) : MS := (fun x y z => if x = 3 ∧ y = m.1 0 0 3 + 1 then (if z = 1 then k else if z = 2 then kd else if z = 3 then a else if z = 4 then b else if z = 5 then m.1 0 0 5 + 1 else if z = 8 ∨ z = 10 then 4294967295 else 0) else if x = 0 ∧ y = 0 ∧ z = 3 then m.1 0 0 3 + 1 else if x = 0 ∧ y = 0 ∧ z = 5 then m.1 0 0 5 + 1 else if x = 2 ∧ y = k ∧ z = 10 then m.1 0 0 3 + 1 else m.1 x y z, fun x y z => if x = 3 ∧ y = m.1 0 0 3 + 1 then (fun _ => 0) else if x = 2 ∧ y = k ∧ z = 4 then (fun _ => 0) else m.2.1 x y z, m.2.2)
theorem mNew_eq {k kd a b : Nat} {m : MS} : mNew k kd a b m = mI (mNew0 k kd a b m) 2 k 7 1 := by
  simp only [mNew, mNew0, mI, Prod.mk.injEq, and_true]
  funext x y z
  by_cases e : x = 2 ∧ y = k ∧ z = 7
  · simp [e]
  · simp only [if_neg e]
theorem mBegC_ph {n k p : Nat} {m : MS} : mBegC n k (mI m 2 k 7 p) = mBegC n k m := by
  simp only [mBegC, mTo, mEnter, mI, mR, mL, Prod.mk.injEq]
  refine ⟨?_, trivial, ?_⟩
  · funext a b c
    by_cases e : a = 2 ∧ b = k ∧ c = 7
    · simp [e]
    · simp [e]
  · simp
theorem mBeg_eq {n k kd a b : Nat} {m : MS} : mBeg n k kd a b m = mBegC n k (mNew0 k kd a b m) := by unfold mBeg; rw [mNew_eq, mBegC_ph]
theorem CR.new {n bg : Nat} {σ : CS} {m : MS} (h : CR n bg σ m) {k kd a b : Nat} {q1 q2 q3 : Int32} (e1 : q1 = nI kd) (e2 : q2 = nI a) (e3 : q3 = nI b) : CR n (bg + 1) (cZero n k 4 (cT_ (cNew (bg + 1) (nI (bg + 1)) (nI k) q1 q2 q3 ((cBg1 bg σ).1 0 0 5) (cBg1 bg σ)) k (bg + 1))) (mNew0 k kd a b m) := by
  have e5 := h.x 5 (by decide) (by decide)
  have e5' : (cBg1 bg σ).1 0 0 5 = nI (m.1 0 0 5 + 1) := by simp [cBg1, cI_, e5, nI_1]
  rw [e5']
  obtain ⟨r1, r2, r3, r4, r5⟩ := h
  subst r1
  refine ⟨by simp [mNew0], fun x y z ht => ?_, fun x y z ht i hi => ?_, fun c hc => ?_, ?_⟩
  · unfold cTr at ht
    by_cases x3 : x = 3 ∧ y = m.1 0 0 3 + 1
    · have hz : z = 1 ∨ z = 2 ∨ z = 3 ∨ z = 4 ∨ z = 5 ∨ z = 7 ∨ z = 8 ∨ z = 9 ∨ z = 10 ∨ z = 11 := by omega
      obtain ⟨rfl, rfl⟩ := x3
      rcases hz with rfl | rfl | rfl | rfl | rfl | rfl | rfl | rfl | rfl | rfl <;> simp [cZero, cR_, cT_, cNew, nopF, mNew0, e1, e2, e3, nJ0, nJm]
    · have ht' : cTr n (m.1 0 0 3) x y z := by unfold cTr; omega
      have := r2 x y z ht'
      simp only [cZero, cR_, cT_, cNew, cBg1, cI_, mNew0, if_neg x3]
      by_cases y3 : x = 0 ∧ y = 0 ∧ z = 3
      · simp [y3]
      · by_cases y5 : x = 0 ∧ y = 0 ∧ z = 5
        · obtain ⟨rfl, rfl, rfl⟩ := y5
          simp [e5, nI_1]
        · have y10 : ¬ (x = 2 ∧ y = k ∧ z = 10) := by omega
          simp only [if_neg y3, if_neg y5, if_neg y10]; exact this
  · unfold cTrR at ht
    by_cases x3 : x = 3 ∧ y = m.1 0 0 3 + 1
    · obtain ⟨rfl, rfl⟩ := x3
      simp [cZero, cR_, cT_, cNew, mNew0, nJ0]
    · have ht' : cTrR n (m.1 0 0 3) x y z := by unfold cTrR; omega
      have := r3 x y z ht' i hi
      simp only [cZero, cR_, cT_, cNew, cBg1, cI_, mNew0, if_neg x3]
      by_cases y4 : x = 2 ∧ y = k ∧ z = 4
      · simp [y4, mix, hi, nJ0]
      · simp only [if_neg y4]; exact this
  · have := r4 c hc
    simp only [cZero, cR_, cT_, cNew, cBg1, cI_, mNew0]
    refine ⟨?_, fun i hi => ?_⟩
    · by_cases e : c = k
      · simp [e]
      · simp [e, this.1]
    · have := this.2 i hi
      simp; exact this
  · exact r5.same (by simp [cZero, cR_, cT_, cNew, cBg1, cI_]) (by simp [cZero, cR_, cT_, cNew, cBg1, cI_]) (fun f _ _ => by simp [cZero, cR_, cT_, cNew, cBg1, cI_])
theorem CR.beg {n bg : Nat} {σ : CS} {m : MS} (h : CR n bg σ m) {k kd a b : Nat} (hk : k < n) {q1 q2 q3 : Int32} (e1 : q1 = nI kd) (e2 : q2 = nI a) (e3 : q3 = nI b) (hl : m.2.2.length + n ≤ 2000) : CR n (bg + 1) (cBeg n bg k q1 q2 q3 σ) (mBeg n k kd a b m) := by
  rw [mBeg_eq]
  exact (h.new e1 e2 e3).begC hk hl
theorem E_go {n bg k : Nat} {σ : CS} {m : MS} (h : CR n bg σ m) (hi : mInv n m) (hn : n ≤ 31) (hk : k < n) : cGo n bg k σ ↔ mGo n k m := by
  have hup := (hi.1.2.1 k hk).2.2.2.2.2.2.1
  have hl := h.2.2.2.2.1
  unfold cGo mGo
  rw [h.nd hk 6 (by decide) (by decide), nJ0, nI_eq (by omega) (by decide), (h.2.2.2.1 k hk).1, h.1, h.2.2.2.2.2.1, nI_add, show (2000 : Int32) = nI 2000 from nI_2000.symm, nI_ltI (by decide) (by omega)]
  omega
theorem CR.crash {n bg k : Nat} {σ : CS} {m : MS} (h : CR n bg σ m) : CR n bg (cI_ (cI_ σ 2 k 6 0) 0 0 5 (σ.1 0 0 5 + 1)) (mCrash k m) := by
  unfold mCrash
  refine CR.put ?_ 0 0 5 _ (by rw [h.x 5 (by decide) (by decide), nI_1]) (by simp) (by simp) (by simp)
  exact h.put 2 k 6 0 nJ0 (by simp) (by simp) (by simp)
