def qX (σ : RS) (m : MS) : Prop := σ.1 37 = nI (m.1 0 0 3) ∧ σ.1 12 = nI (m.1 0 0 5)
def qN (n : Nat) (σ : RS) (m : MS) : Prop := ∀ k, k < n → σ.2 14 k = nI (m.1 2 k 7) ∧ σ.2 15 k = nI (m.1 2 k 8) ∧ σ.2 17 k = nI (m.1 2 k 9) ∧ σ.2 16 k = nI (m.1 2 k 10) ∧ σ.2 19 k = nI (m.1 2 k 11)
def qO (σ : RS) (m : MS) : Prop := ∀ o, 1 ≤ o → o ≤ m.1 0 0 3 → σ.2 26 o = nI (m.1 3 o 1) ∧ σ.2 27 o = nI (m.1 3 o 2) ∧ σ.2 28 o = nI (m.1 3 o 3) ∧ σ.2 29 o = nI (m.1 3 o 4) ∧ σ.2 30 o = nI (m.1 3 o 5) ∧ σ.2 36 o = nI (m.1 3 o 7) ∧ σ.2 31 o = nI (m.1 3 o 8) ∧ σ.2 34 o = nI (m.1 3 o 11)
def qK (n : Nat) (σ : RS) (m : MS) : Prop := ∀ k, k < n → ∀ i, i < n → σ.2 18 (31 * k + i) = nI (m.2.1 2 k 1 i) ∧ σ.2 23 (31 * k + i) = nI (m.2.1 2 k 3 i) ∧ σ.2 25 (31 * k + i) = nI (m.2.1 2 k 4 i)
def qV (n : Nat) (σ : RS) (m : MS) : Prop := ∀ o, 1 ≤ o → o ≤ m.1 0 0 3 → ∀ i, i < n → σ.2 35 (31 * o + i) = nI (m.2.1 3 o 6 i)
def qD (n : Nat) (σ : RS) (m : MS) : Prop := ∀ k, k < n → σ.2 13 k = (if m.1 2 k 6 = 0 then 1 else 0)
def qL (n : Nat) (σ : RS) (m : MS) : Prop := ∀ k, k < n → ∀ p, 1 ≤ p → p ≤ m.1 2 k 11 → σ.2 20 (512 * k + (p - 1)) = nI (m.2.1 2 k 22 p)
def qF (n : Nat) (σ : RS) (m : MS) : Prop := ∀ o, m.1 0 0 3 < o → o < 512 → σ.2 34 o = 0 ∧ σ.2 36 o = 0 ∧ ∀ i, i < n → σ.2 35 (31 * o + i) = 0
/-- what the reference shows of the plain machine, but the messages and the collect under way -/
def RA (n : Nat) (σ : RS) (m : MS) : Prop := qX σ m ∧ qN n σ m ∧ qO σ m ∧ qK n σ m ∧ qV n σ m ∧ qD n σ m ∧ qL n σ m ∧ qF n σ m
def rTk (A : Nat) : Prop := 13 ≤ A ∧ A ≤ 36 ∧ ¬ A = 21 ∧ ¬ A = 22 ∧ ¬ A = 24 ∧ ¬ A = 32 ∧ ¬ A = 33
theorem RA.same {n : Nat} {σ τ : RS} {m : MS} (h : RA n σ m) (h37 : τ.1 37 = σ.1 37) (h12 : τ.1 12 = σ.1 12) (hr : ∀ A, rTk A → τ.2 A = σ.2 A) : RA n τ m := by
  obtain ⟨x, nn, oo, kk, vv, dd, ll, ff⟩ := h
  have e : ∀ A, 13 ≤ A ∧ A ≤ 36 ∧ ¬ A = 21 ∧ ¬ A = 22 ∧ ¬ A = 24 ∧ ¬ A = 32 ∧ ¬ A = 33 → τ.2 A = σ.2 A := hr
  refine ⟨?_, ?_, ?_, ?_, ?_, ?_, ?_, ?_⟩
  · unfold qX; rw [h37, h12]; exact x
  · unfold qN; rw [e 14 (by decide), e 15 (by decide), e 17 (by decide), e 16 (by decide), e 19 (by decide)]; exact nn
  · unfold qO; rw [e 26 (by decide), e 27 (by decide), e 28 (by decide), e 29 (by decide), e 30 (by decide), e 36 (by decide), e 31 (by decide), e 34 (by decide)]; exact oo
  · unfold qK; rw [e 18 (by decide), e 23 (by decide), e 25 (by decide)]; exact kk
  · unfold qV; rw [e 35 (by decide)]; exact vv
  · unfold qD; rw [e 13 (by decide)]; exact dd
  · unfold qL; rw [e 20 (by decide)]; exact ll
  · unfold qF; rw [e 34 (by decide), e 36 (by decide), e 35 (by decide)]; exact ff
theorem RA.skip {n : Nat} {σ : RS} {m : MS} (h : RA n σ m) {A i : Nat} {v : Int32} (hA : ¬ rTk A) : RA n (rA σ A i v) m :=
  h.same rfl rfl (fun B hB => by rw [rA_2, if_neg (fun e => hA (by rw [← e]; exact hB))])
theorem RA.skipR {n : Nat} {σ : RS} {m : MS} (h : RA n σ m) {A : Nat} {r : Nat → Int32} (hA : ¬ rTk A) : RA n (rR σ A r) m :=
  h.same rfl rfl (fun B hB => by rw [rR_2, if_neg (fun e => hA (by rw [← e]; exact hB))])
theorem RA.skipI {n : Nat} {σ : RS} {m : MS} (h : RA n σ m) {k : Nat} {v : Int32} (h1 : ¬ k = 37) (h2 : ¬ k = 12) : RA n (rI σ k v) m :=
  h.same (by rw [rI_1, if_neg (fun e => h1 e.symm)]) (by rw [rI_1, if_neg (fun e => h2 e.symm)]) (fun B _ => rfl)
/-- what the reference doesn't show may change -/
theorem RA.msame {n : Nat} {σ : RS} {m m' : MS} (h : RA n σ m) (h03 : m'.1 0 0 3 = m.1 0 0 3) (h05 : m'.1 0 0 5 = m.1 0 0 5) (h2 : ∀ k f, 6 ≤ f → f ≤ 11 → m'.1 2 k f = m.1 2 k f) (h3 : ∀ o f, f ≤ 11 → ¬ f = 9 → ¬ f = 10 → m'.1 3 o f = m.1 3 o f) (r2 : ∀ k f, f = 1 ∨ f = 3 ∨ f = 4 ∨ f = 22 → m'.2.1 2 k f = m.2.1 2 k f) (r3 : ∀ o, m'.2.1 3 o 6 = m.2.1 3 o 6) : RA n σ m' := by
  obtain ⟨x, nn, oo, kk, vv, dd, ll, ff⟩ := h
  refine ⟨?_, ?_, ?_, ?_, ?_, ?_, ?_, ?_⟩
  · unfold qX; rw [h03, h05]; exact x
  · intro k hk; rw [h2 k 7 (by decide) (by decide), h2 k 8 (by decide) (by decide), h2 k 9 (by decide) (by decide), h2 k 10 (by decide) (by decide), h2 k 11 (by decide) (by decide)]; exact nn k hk
  · intro o h1 ho; rw [h3 o 1 (by decide) (by decide) (by decide), h3 o 2 (by decide) (by decide) (by decide), h3 o 3 (by decide) (by decide) (by decide), h3 o 4 (by decide) (by decide) (by decide), h3 o 5 (by decide) (by decide) (by decide), h3 o 7 (by decide) (by decide) (by decide), h3 o 8 (by decide) (by decide) (by decide), h3 o 11 (by decide) (by decide) (by decide)]; exact oo o h1 (by rw [← h03]; exact ho)
  · intro k hk i hi; rw [r2 k 1 (by decide), r2 k 3 (by decide), r2 k 4 (by decide)]; exact kk k hk i hi
  · intro o h1 ho i hi; rw [r3 o]; exact vv o h1 (by rw [← h03]; exact ho) i hi
  · intro k hk; rw [h2 k 6 (by decide) (by decide)]; exact dd k hk
  · intro k hk p h1 hp; rw [r2 k 22 (by decide)]; exact ll k hk p h1 (by rw [← h2 k 11 (by decide) (by decide)]; exact hp)
  · intro o ho; exact ff o (by rw [← h03]; exact ho)
theorem RA.putN {n : Nat} {σ : RS} {m : MS} (h : RA n σ m) (A f k w : Nat) {v : Int32} (hv : v = nI w) (hf : (A = 14 ∧ f = 7) ∨ (A = 15 ∧ f = 8) ∨ (A = 17 ∧ f = 9) ∨ (A = 16 ∧ f = 10)) : RA n (rA σ A k v) (mI m 2 k f w) := by
  obtain ⟨x, nn, oo, kk, vv, dd, ll, ff⟩ := h
  have hA : ¬ A = 26 ∧ ¬ A = 27 ∧ ¬ A = 28 ∧ ¬ A = 29 ∧ ¬ A = 30 ∧ ¬ A = 36 ∧ ¬ A = 31 ∧ ¬ A = 34 ∧ ¬ A = 18 ∧ ¬ A = 23 ∧ ¬ A = 25 ∧ ¬ A = 35 ∧ ¬ A = 13 ∧ ¬ A = 20 := by omega
  have hr : ∀ B, ¬ A = B → (rA σ A k v).2 B = σ.2 B := fun B hB => by rw [rA_2, if_neg (fun e => hB e.symm)]
  refine ⟨by simpa [qX, mI, rA_1] using x, fun k' hk' => ?_, ?_, ?_, ?_, ?_, ?_, ?_⟩
  · have := nn k' hk'
    by_cases e : k' = k
    · subst e
      rcases hf with ⟨rfl, rfl⟩ | ⟨rfl, rfl⟩ | ⟨rfl, rfl⟩ | ⟨rfl, rfl⟩ <;> simp [rA_2, upd, mI, hv, this]
    · rcases hf with ⟨rfl, rfl⟩ | ⟨rfl, rfl⟩ | ⟨rfl, rfl⟩ | ⟨rfl, rfl⟩ <;> simp [rA_2, upd, mI, e, this]
  · unfold qO; rw [hr 26 hA.1, hr 27 hA.2.1, hr 28 hA.2.2.1, hr 29 hA.2.2.2.1, hr 30 hA.2.2.2.2.1, hr 36 hA.2.2.2.2.2.1, hr 31 hA.2.2.2.2.2.2.1, hr 34 hA.2.2.2.2.2.2.2.1]; simpa [qO, mI] using oo
  · unfold qK; rw [hr 18 hA.2.2.2.2.2.2.2.2.1, hr 23 hA.2.2.2.2.2.2.2.2.2.1, hr 25 hA.2.2.2.2.2.2.2.2.2.2.1]; exact kk
  · unfold qV; rw [hr 35 hA.2.2.2.2.2.2.2.2.2.2.2.1]; simpa [qV, mI] using vv
  · intro k' hk'
    have := dd k' hk'
    have e : (mI m 2 k f w).1 2 k' 6 = m.1 2 k' 6 := by simp only [mI]; rw [if_neg (by omega)]
    rw [hr 13 (by omega), this, e]
  · intro k' hk' p h1 hp
    have e : (mI m 2 k f w).1 2 k' 11 = m.1 2 k' 11 := by simp only [mI]; rw [if_neg (by omega)]
    rw [e] at hp
    rw [hr 20 (by omega)]; exact ll k' hk' p h1 hp
  · unfold qF; rw [hr 34 hA.2.2.2.2.2.2.2.1, hr 36 hA.2.2.2.2.2.1, hr 35 hA.2.2.2.2.2.2.2.2.2.2.2.1]; simpa [qF, mI] using ff
theorem RA.putO {n : Nat} {σ : RS} {m : MS} (h : RA n σ m) (A f o w : Nat) {v : Int32} (hv : v = nI w) (ho : o ≤ m.1 0 0 3) (hf : (A = 36 ∧ f = 7) ∨ (A = 31 ∧ f = 8) ∨ (A = 34 ∧ f = 11)) : RA n (rA σ A o v) (mI m 3 o f w) := by
  obtain ⟨x, nn, oo, kk, vv, dd, ll, ff⟩ := h
  have hr : ∀ B, ¬ A = B → (rA σ A o v).2 B = σ.2 B := fun B hB => by rw [rA_2, if_neg (fun e => hB e.symm)]
  refine ⟨by simpa [qX, mI, rA_1] using x, ?_, fun o' h1 ho' => ?_, ?_, ?_, ?_, ?_, fun o' h1 ho' => ?_⟩
  · unfold qN; rw [hr 14 (by omega), hr 15 (by omega), hr 17 (by omega), hr 16 (by omega), hr 19 (by omega)]; simpa [qN, mI] using nn
  · have := oo o' h1 (by simpa [mI] using ho')
    by_cases e : o' = o
    · subst e
      rcases hf with ⟨rfl, rfl⟩ | ⟨rfl, rfl⟩ | ⟨rfl, rfl⟩ <;> simp [rA_2, upd, mI, hv, this]
    · rcases hf with ⟨rfl, rfl⟩ | ⟨rfl, rfl⟩ | ⟨rfl, rfl⟩ <;> simp [rA_2, upd, mI, e, this]
  · unfold qK; rw [hr 18 (by omega), hr 23 (by omega), hr 25 (by omega)]; exact kk
  · unfold qV; rw [hr 35 (by omega)]; simpa [qV, mI] using vv
  · unfold qD; rw [hr 13 (by omega)]; simpa [qD, mI] using dd
  · unfold qL; rw [hr 20 (by omega)]; simpa [qL, mI] using ll
  · have h1' : m.1 0 0 3 < o' := by simpa [mI] using h1
    have := ff o' h1' ho'
    have e : ¬ o' = o := by omega
    rcases hf with ⟨rfl, rfl⟩ | ⟨rfl, rfl⟩ | ⟨rfl, rfl⟩ <;> simp [rA_2, upd, e, this] <;> exact this.2.2
theorem RA.rowK {n : Nat} {σ : RS} {m : MS} (h : RA n σ m) (hn : n ≤ 31) (A f k : Nat) {w : Nat → Nat} {w' : Nat → Int32} (hw : ∀ i, i < n → w' i = nI (w i)) (hf : (A = 18 ∧ f = 1) ∨ (A = 23 ∧ f = 3) ∨ (A = 25 ∧ f = 4)) : RA n (rR σ A (mixr (31 * k) n w' (σ.2 A))) (mR m 2 k f w) := by
  obtain ⟨x, nn, oo, kk, vv, dd, ll, ff⟩ := h
  have hr : ∀ B, ¬ A = B → (rR σ A (mixr (31 * k) n w' (σ.2 A))).2 B = σ.2 B := fun B hB => by rw [rR_2, if_neg (fun e => hB e.symm)]
  refine ⟨x, ?_, ?_, fun k' hk' i hi => ?_, ?_, ?_, ?_, ?_⟩
  · unfold qN; rw [hr 14 (by omega), hr 15 (by omega), hr 17 (by omega), hr 16 (by omega), hr 19 (by omega)]; exact nn
  · unfold qO; rw [hr 26 (by omega), hr 27 (by omega), hr 28 (by omega), hr 29 (by omega), hr 30 (by omega), hr 36 (by omega), hr 31 (by omega), hr 34 (by omega)]; exact oo
  · have := kk k' hk' i hi
    by_cases e : k' = k
    · subst e
      rcases hf with ⟨rfl, rfl⟩ | ⟨rfl, rfl⟩ | ⟨rfl, rfl⟩ <;> simp [rR_2, mR, this, mixr_in hi, hw i hi]
    · have e2 := fun r => mixr_ne (w := w') (r := r) e hn (show i < 31 by omega)
      rcases hf with ⟨rfl, rfl⟩ | ⟨rfl, rfl⟩ | ⟨rfl, rfl⟩ <;> simp [rR_2, mR, this, e, e2]
  · unfold qV; rw [hr 35 (by omega)]; simpa [qV, mR] using vv
  · unfold qD; rw [hr 13 (by omega)]; exact dd
  · intro k' hk' p h1 hp
    rw [hr 20 (by omega)]
    have e : (mR m 2 k f w).2.1 2 k' 22 = m.2.1 2 k' 22 := by simp only [mR]; rw [if_neg (by omega)]
    rw [e]; exact ll k' hk' p h1 hp
  · unfold qF; rw [hr 34 (by omega), hr 36 (by omega), hr 35 (by omega)]; exact ff
theorem RA.rowV {n : Nat} {σ : RS} {m : MS} (h : RA n σ m) (hn : n ≤ 31) (o : Nat) (ho : o ≤ m.1 0 0 3) {w : Nat → Nat} {w' : Nat → Int32} (hw : ∀ i, i < n → w' i = nI (w i)) : RA n (rR σ 35 (mixr (31 * o) n w' (σ.2 35))) (mR m 3 o 6 w) := by
  obtain ⟨x, nn, oo, kk, vv, dd, ll, ff⟩ := h
  have hr : ∀ B, ¬ B = 35 → (rR σ 35 (mixr (31 * o) n w' (σ.2 35))).2 B = σ.2 B := fun B hB => by rw [rR_2, if_neg hB]
  refine ⟨x, ?_, ?_, ?_, fun o' h1 ho' i hi => ?_, ?_, ?_, fun o' h1 ho' => ?_⟩
  · unfold qN; rw [hr 14 (by omega), hr 15 (by omega), hr 17 (by omega), hr 16 (by omega), hr 19 (by omega)]; exact nn
  · unfold qO; rw [hr 26 (by omega), hr 27 (by omega), hr 28 (by omega), hr 29 (by omega), hr 30 (by omega), hr 36 (by omega), hr 31 (by omega), hr 34 (by omega)]; exact oo
  · unfold qK; rw [hr 18 (by omega), hr 23 (by omega), hr 25 (by omega)]; simpa [qK, mR] using kk
  · have := vv o' h1 ho' i hi
    by_cases e : o' = o
    · subst e; simp [rR_2, mR, mixr_in hi, hw i hi]
    · have e2 := mixr_ne (w := w') (r := σ.2 35) e hn (show i < 31 by omega)
      simp [rR_2, mR, this, e, e2]
  · unfold qD; rw [hr 13 (by omega)]; exact dd
  · unfold qL; rw [hr 20 (by omega)]; simpa [qL, mR] using ll
  · have h1' : m.1 0 0 3 < o' := h1
    have := ff o' h1' ho'
    rw [hr 34 (by omega), hr 36 (by omega)]
    refine ⟨this.1, this.2.1, fun i hi => ?_⟩
    rw [rR_2, if_pos rfl, mixr_ne (by omega) hn (by omega)]; exact this.2.2 i hi
/-- an UPDATE is written into the log of NODE k -/
theorem RA.lg {n : Nat} {σ : RS} {m : MS} (h : RA n σ m) {k t L : Nat} (hL : m.1 2 k 11 = L) (hb : ∀ k', k' < n → m.1 2 k' 11 ≤ 511) {q v : Int32} (hq : q = nI t) (hv : v = nI (L + 1)) (hlt : L < 512) : RA n (rA (rA σ 20 (512 * k + L) q) 19 k v) (mI (mR m 2 k 22 (fun p => if p = L + 1 then t else m.2.1 2 k 22 p)) 2 k 11 (L + 1)) := by
  obtain ⟨x, nn, oo, kk, vv, dd, ll, ff⟩ := h
  refine ⟨by simpa [qX, mI, mR, rA_1] using x, fun k' hk' => ?_, by simpa [qO, mI, mR, rA_2] using oo, by simpa [qK, mI, mR, rA_2] using kk, by simpa [qV, mI, mR, rA_2] using vv, by simpa [qD, mI, mR, rA_2] using dd, fun k' hk' p h1 hp => ?_, by simpa [qF, mI, mR, rA_2] using ff⟩
  · have := nn k' hk'
    by_cases e : k' = k
    · subst e; simp [rA_2, upd, mI, mR, hv, this]
    · simp [rA_2, upd, mI, mR, e, this]
  · have hbk := hb k' hk'
    have e20 : (rA (rA σ 20 (512 * k + L) q) 19 k v).2 20 = upd (σ.2 20) (512 * k + L) q := by simp [rA_2]
    rw [e20]
    by_cases e : k' = k
    · subst e
      have hp' : p ≤ L + 1 := by simpa [mI, mR] using hp
      by_cases e2 : p = L + 1
      · subst e2
        rw [show 512 * k' + (L + 1 - 1) = 512 * k' + L from by omega, upd_self, hq]; simp [mI, mR]
      · rw [upd_ne _ (by omega)]
        have := ll k' hk' p h1 (by omega)
        simp [mI, mR, e2]; exact this
    · have hp' : p ≤ m.1 2 k' 11 := by simpa [mI, mR, e] using hp
      rw [upd_ne _ (by omega)]
      have := ll k' hk' p h1 hp'
      simp [mI, mR, e]; exact this
theorem RA.mom {n : Nat} {σ : RS} {m : MS} (h : RA n σ m) {w : Nat} {v : Int32} (hv : v = nI w) : RA n (rI σ 12 v) (mI m 0 0 5 w) := by
  obtain ⟨x, nn, oo, kk, vv, dd, ll, ff⟩ := h
  exact ⟨⟨by simpa [mI, rI_1] using x.1, by simpa [mI, rI_1] using hv⟩, by simpa [qN, mI, rI_2] using nn, by simpa [qO, mI, rI_2] using oo, by simpa [qK, mI, rI_2] using kk, by simpa [qV, mI, rI_2] using vv, by simpa [qD, mI, rI_2] using dd, by simpa [qL, mI, rI_2] using ll, by simpa [qF, mI, rI_2] using ff⟩
theorem RA.down {n : Nat} {σ : RS} {m : MS} (h : RA n σ m) {k : Nat} : RA n (rA σ 13 k 1) (mI m 2 k 6 0) := by
  obtain ⟨x, nn, oo, kk, vv, dd, ll, ff⟩ := h
  refine ⟨by simpa [qX, mI, rA_1] using x, by simpa [qN, mI, rA_2] using nn, by simpa [qO, mI, rA_2] using oo, by simpa [qK, mI, rA_2] using kk, by simpa [qV, mI, rA_2] using vv, fun k' hk' => ?_, by simpa [qL, mI, rA_2] using ll, by simpa [qF, mI, rA_2] using ff⟩
  have := dd k' hk'
  by_cases e : k' = k
  · subst e; simp [rA_2, upd, mI]
  · simp [rA_2, upd, mI, e, this]
theorem mTo_RA {n kd ph k : Nat} {v : Nat → Nat} {σ : RS} {m : MS} (h : RA n σ (mI (mI (mI m 2 k 7 ph) 2 k 8 (m.1 2 k 8 + 1)) 2 k 9 0)) : RA n σ (mTo n kd ph k v m) := by
  refine h.msame ?_ ?_ (fun b f _ _ => ?_) (fun o f _ _ _ => ?_) (fun b f hf => ?_) (fun o => ?_)
  · simp [mTo, mEnter, mI, mR, mL]
  · simp [mTo, mEnter, mI, mR, mL]
  · simp [mTo, mEnter, mI, mR, mL]
  · simp [mTo, mEnter, mI, mR, mL]
  · have : ¬ f = 20 := by omega
    simp [mTo, mEnter, mI, mR, mL, this]
  · simp [mTo, mEnter, mI, mR, mL]
theorem rTo_eq {k : Nat} {σ : RS} (hk : k < 31) : rTo (nI k) σ = rA (rA σ 15 k (σ.2 15 k + 1)) 17 k 0 := by unfold rTo; rw [nI_clamp (by omega)]
theorem RA.to {n ph k kd : Nat} {v : Nat → Nat} {σ τ : RS} {m : MS} (h : RA n σ (mI m 2 k 7 ph)) (hk : k < n) (hn : n ≤ 31) (hr : ∀ A, 8 < A → τ.2 A = (rTo (nI k) σ).2 A) (h1 : ∀ A, ¬ A = 9 ∧ ¬ A = 10 → τ.1 A = (rTo (nI k) σ).1 A) : RA n τ (mTo n kd ph k v m) := by
  refine mTo_RA (RA.same (σ := rTo (nI k) σ) ?_ (h1 37 (by decide)) (h1 12 (by decide)) (fun A hA => hr A (by have := hA.1; omega)))
  rw [rTo_eq (by omega)]
  refine RA.putN (RA.putN h 15 8 k _ ?_ (by simp)) 17 9 k 0 nJ0 (by simp)
  have := (h.2.1 k hk).2.1
  rw [this, nI_1]; simp [mI]
/-- of NODE k: its collect under way, and whether it has one ahead of it -/
def qC (n : Nat) (σ : RS) (m : MS) (k : Nat) : Prop := (m.1 2 k 7 = 1 → ∀ i, i < n → σ.2 21 (31 * k + i) = nI (m.2.1 2 k 2 i)) ∧ (m.1 2 k 7 = 2 → ∀ i, i < n → σ.2 22 (31 * k + i) = nI (m.2.1 2 k 2 i)) ∧ (¬ m.1 2 k 7 = 0 → (σ.2 24 k = 0 ↔ m.1 3 (m.1 2 k 10) 9 = 0))
def RC (n : Nat) (σ : RS) (m : MS) : Prop := ∀ k, k < n → qC n σ m k
theorem qC.mv {n k : Nat} {σ τ : RS} {m m' : MS} (h : qC n σ m k) (e21 : ∀ i, i < n → τ.2 21 (31 * k + i) = σ.2 21 (31 * k + i)) (e22 : ∀ i, i < n → τ.2 22 (31 * k + i) = σ.2 22 (31 * k + i)) (e24 : τ.2 24 k = σ.2 24 k) (f7 : m'.1 2 k 7 = m.1 2 k 7) (f10 : m'.1 2 k 10 = m.1 2 k 10) (f2 : m'.2.1 2 k 2 = m.2.1 2 k 2) (f9 : ¬ m.1 2 k 7 = 0 → m'.1 3 (m.1 2 k 10) 9 = m.1 3 (m.1 2 k 10) 9) : qC n τ m' k := by
  obtain ⟨h1, h2, h3⟩ := h
  refine ⟨fun p i hi => ?_, fun p i hi => ?_, fun p => ?_⟩
  · rw [e21 i hi, f2]; exact h1 (by rw [← f7]; exact p) i hi
  · rw [e22 i hi, f2]; exact h2 (by rw [← f7]; exact p) i hi
  · rw [f7] at p
    rw [e24, f10, f9 p]; exact h3 p
theorem RC.same {n : Nat} {σ τ : RS} {m m' : MS} (h : RC n σ m) (e21 : τ.2 21 = σ.2 21) (e22 : τ.2 22 = σ.2 22) (e24 : τ.2 24 = σ.2 24) (f7 : ∀ k, m'.1 2 k 7 = m.1 2 k 7) (f10 : ∀ k, m'.1 2 k 10 = m.1 2 k 10) (f2 : ∀ k, m'.2.1 2 k 2 = m.2.1 2 k 2) (f9 : ∀ t, m'.1 3 t 9 = m.1 3 t 9) : RC n τ m' :=
  fun k hk => (h k hk).mv (fun i _ => by rw [e21]) (fun i _ => by rw [e22]) (by rw [e24]) (f7 k) (f10 k) (f2 k) (fun _ => f9 _)
/-- the reference shows the plain machine -/
def RR (n : Nat) (σ : RS) (z : Nat) (kz : Int32) (m : MS) : Prop := RA n σ m ∧ RM n σ z kz m.2.2 ∧ RC n σ m
theorem RR.skip1 {n z : Nat} {kz v : Int32} {σ : RS} {m : MS} (h : RR n σ z kz m) : RR n (rI σ 1 v) z kz m :=
  ⟨h.1.skipI (by decide) (by decide), h.2.1.same (by rw [rI_1, if_neg (by decide)]) (fun _ _ _ => rfl), h.2.2.same rfl rfl rfl (fun _ => rfl) (fun _ => rfl) (fun _ => rfl) (fun _ => rfl)⟩
theorem mTo_l {n kd ph k : Nat} {v : Nat → Nat} {m : MS} : (mTo n kd ph k v m).2.2 = m.2.2 ++ mAll kd k (m.1 2 k 8 + 1) v n := rfl
/-- NODE k begins a collect -/
theorem RR.col {n z k : Nat} {kz : Int32} {σ : RS} {m : MS} (ha : RA n σ m) (hm : RM n σ z kz m.2.2) (hc : ∀ k', k' < n → ¬ k' = k → qC n σ m k') (hb : σ.2 24 k = 0 ↔ m.1 3 (m.1 2 k 10) 9 = 0) (hk : k < n) (hn : n ≤ 31) (hl : m.2.2.length + n ≤ 2000) : RR n (rCol n (nI k) σ) z kz (mBegC n k m) := by
  have ek := nI_clamp (show k < 2 ^ 31 by omega)
  have h15 := (ha.2.1 k hk).2.1
  unfold rCol
  rw [ek, itr_zero hn (by omega)]
  generalize hs0 : (rA (rA σ 14 k 1) 32 (σ.2 16 k).toNatClampNeg (σ.2 32 (σ.2 16 k).toNatClampNeg + 1)) = σ0
  generalize hs1 : rR σ0 21 (mixr (31 * k) n (fun _ => 0) (σ0.2 21)) = σ1
  have r0 : ∀ A, ¬ A = 14 → ¬ A = 32 → σ0.2 A = σ.2 A := fun A h1 h2 => by rw [← hs0]; simp [rA_2, h1, h2]
  have r1 : ∀ A, ¬ A = 21 → σ1.2 A = σ0.2 A := fun A h1 => by rw [← hs1]; simp [rR_2, h1]
  have a0 : RA n σ0 (mI m 2 k 7 1) := by rw [← hs0]; exact (ha.putN 14 7 k 1 nJ1 (by simp)).skip (by unfold rTk; omega)
  have a1 : RA n σ1 (mI (mR m 2 k 2 (fun _ => 0)) 2 k 7 1) := by
    rw [← hs1]
    refine RA.msame (m := mI m 2 k 7 1) (a0.skipR (by unfold rTk; omega)) rfl rfl (fun _ _ _ _ => rfl) (fun _ _ _ _ _ => rfl) (fun b f hf => ?_) (fun _ => by simp [mI, mR])
    have : ¬ f = 2 := by omega
    simp [mI, mR, this]
  have m1 : RM n (rTo (nI k) σ1) z kz m.2.2 := by
    refine hm.same ?_ (fun f h2 h8 => ?_)
    · rw [rTo_eq (by omega), rA_1, rA_1, ← hs1, rR_1, ← hs0, rA_1, rA_1]
    · rw [rTo_eq (by omega), rA_2, if_neg (by omega), rA_2, if_neg (by omega), r1 f (by omega), r0 f (by omega) (by omega)]
  have e15 : (rTo (nI k) σ1).2 15 k = nI (m.1 2 k 8 + 1) := by
    rw [rTo_eq (by omega)]
    simp [rA_2, upd]
    rw [r1 15 (by decide), r0 15 (by decide) (by decide), h15, nI_1]
  obtain ⟨m2, -⟩ := m1.toC (v := fun _ => 0) (by omega) e15 n hl
  obtain ⟨rc, rc1⟩ := rToC_r (k := k) (σ := rTo (nI k) σ1) n
  have hrow : ∀ A, 8 < A → ¬ A = 15 → ¬ A = 17 → (rToC n (nI k) σ1).2 A = σ1.2 A := fun A h1 h2 h3 => by
    unfold rToC; rw [rc A h1, rTo_eq (by omega), rA_2, if_neg h3, rA_2, if_neg h2]
  rw [mBegC_eq]
  refine ⟨RA.to a1 hk hn rc rc1, m2, fun k' hk' => ?_⟩
  by_cases e : k' = k
  · subst e
    refine ⟨fun _ i hi => ?_, fun p => absurd p (by simp [mTo, mEnter, mI, mR, mL]), fun _ => ?_⟩
    · rw [hrow 21 (by decide) (by decide) (by decide), ← hs1, rR_2, if_pos rfl, mixr_in hi]; simp [mTo, mEnter, mI, mR, mL, nJ0]
    · rw [hrow 24 (by decide) (by decide) (by decide), r1 24 (by decide), r0 24 (by decide) (by decide), hb]; simp [mTo, mEnter, mI, mR, mL]
  · refine (hc k' hk' e).mv (fun i hi => ?_) (fun i _ => ?_) ?_ ?_ ?_ ?_ (fun _ => ?_)
    · rw [hrow 21 (by decide) (by decide) (by decide), ← hs1, rR_2, if_pos rfl, mixr_ne e hn (by omega), r0 21 (by decide) (by decide)]
    · rw [hrow 22 (by decide) (by decide) (by decide), r1 22 (by decide), r0 22 (by decide) (by decide)]
    · rw [hrow 24 (by decide) (by decide) (by decide), r1 24 (by decide), r0 24 (by decide) (by decide)]
    · simp [mTo, mEnter, mI, mR, mL, e]
    · simp [mTo, mEnter, mI, mR, mL]
    · simp [mTo, mEnter, mI, mR, mL, e]
    · simp [mTo, mEnter, mI, mR, mL]
/-- NODE k sends STORE to all, with row q -/
theorem RR.sto {n z k ph q : Nat} {kz : Int32} {v : Nat → Nat} {σ : RS} {m : MS} (ha : RA n σ (mI m 2 k 7 ph)) (hm : RM n σ z kz m.2.2) (hc : ∀ k', k' < n → ¬ k' = k → qC n σ m k') (hq : q = 21 ∨ q = 22) (hv : ∀ i, i < n → σ.2 q (31 * k + i) = nI (v i)) (h22 : ph = 2 → ∀ i, i < n → σ.2 22 (31 * k + i) = nI (m.2.1 2 k 2 i)) (hb : σ.2 24 k = 0 ↔ m.1 3 (m.1 2 k 10) 9 = 0) (hp : ¬ ph = 1) (hk : k < n) (hn : n ≤ 31) (hl : m.2.2.length + n ≤ 2000) : RR n (rToS n q (nI k) σ) z kz (mTo n 2 ph k v m) := by
  have h15 : σ.2 15 k = nI (m.1 2 k 8) := by have := (ha.2.1 k hk).2.1; simpa [mI] using this
  have m1 : RM n (rTo (nI k) σ) z kz m.2.2 := by
    refine hm.same ?_ (fun f h2 h8 => ?_)
    · rw [rTo_eq (by omega), rA_1, rA_1]
    · rw [rTo_eq (by omega), rA_2, if_neg (by omega), rA_2, if_neg (by omega)]
  have e15 : (rTo (nI k) σ).2 15 k = nI (m.1 2 k 8 + 1) := by
    rw [rTo_eq (by omega)]
    simp [rA_2, upd]
    rw [h15, nI_1]
  have hr0 : ∀ A, ¬ A = 15 → ¬ A = 17 → (rTo (nI k) σ).2 A = σ.2 A := fun A h2 h3 => by rw [rTo_eq (by omega), rA_2, if_neg h3, rA_2, if_neg h2]
  obtain ⟨m2, rc, rc1⟩ := m1.toS (v := v) (q := q) hn (by omega) (by omega) (by omega) e15 (fun i hi => by rw [hr0 q (by omega) (by omega)]; exact hv i hi) n hl
  have hrow : ∀ A, 8 < A → ¬ A = 15 → ¬ A = 17 → (rToS n q (nI k) σ).2 A = σ.2 A := fun A h1 h2 h3 => by
    unfold rToS; rw [rc A h1, hr0 A h2 h3]
  refine ⟨RA.to ha hk hn rc rc1, m2, fun k' hk' => ?_⟩
  by_cases e : k' = k
  · subst e
    refine ⟨fun p => absurd p (by simpa [mTo, mEnter, mI, mR, mL] using hp), fun p i hi => ?_, fun _ => ?_⟩
    · have p2 : ph = 2 := by simpa [mTo, mEnter, mI, mR, mL] using p
      rw [hrow 22 (by decide) (by decide) (by decide), h22 p2 i hi]; simp [mTo, mEnter, mI, mR, mL]
    · rw [hrow 24 (by decide) (by decide) (by decide), hb]; simp [mTo, mEnter, mI, mR, mL]
  · refine (hc k' hk' e).mv (fun i hi => ?_) (fun i _ => ?_) ?_ ?_ ?_ ?_ (fun _ => ?_)
    · rw [hrow 21 (by decide) (by decide) (by decide)]
    · rw [hrow 22 (by decide) (by decide) (by decide)]
    · rw [hrow 24 (by decide) (by decide) (by decide)]
    · simp [mTo, mEnter, mI, mR, mL, e]
    · simp [mTo, mEnter, mI, mR, mL]
    · simp [mTo, mEnter, mI, mR, mL]
    · simp [mTo, mEnter, mI, mR, mL]
