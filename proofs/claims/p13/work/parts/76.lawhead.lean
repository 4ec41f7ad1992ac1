/-! THE CLAIM OUT OF ONE WALK OF THE LAW'S BODY. Your part is whole_start (and what it stands on); all else here is the same for every law, but numbers. -/
def R_law : String := "SharedShelfLaw"
def lw_P (b : Addr) (xs : List Int32) (args : Array Value) (s : State) : Prop := args = #[.ref b] ∧ s.IntsAt b xs ∧ xs.length ≤ 2561 ∧ (Jvm.Cond.and given_1 narrow_1).before args s = true
def lw_Q (_ : Array Value) (s : State) (o : Outcome) (t : State) : Prop := o = .returned (some (.int 1)) ∧ Framed s o t [] 601024 7293000
def lw_Z (below : List Frame) (a : Array Value) (s : State) : State → Prop := fun t => ∃ o, t.status = .running ∧ Ended t below o ∧ lw_Q a s o t
/-- the law's own end, with 1 on the stack, nothing written that was there before, its room as the claim has it -/
theorem lw_ret {p : Program} {l : Launch} {e : Env} {s : State} {m : MethodId} {below : List Frame} {meth : Method} {c : Code} {b : Nat} (hx : p.tables.exec = Jvm.exec) (hb : c.code = code) (hr : meth.sig.returnType = ret) (hlocks : meth.locks = false) {pc : Nat} {H : Heap} {ls : Array Slot} (hdg : decode code pc = .ok (.ireturn, 1)) : W p l e room_1 s m #[Value.ref b] below meth c H [] 601024 7293000 (lw_Z below #[Value.ref b] s) (F0 m pc ls [.int 1]) := by
  intro T hT X
  obtain ⟨fs, hret, hrun, hended, hW, hframe⟩ := X.leave (v := some (.int 1)) (hlocks := hlocks) (fun h => by rw [hr] at h; cases h)
  have hmeth' : T.vm.method? m = some meth := X.method'
  refine ⟨T.setFrames fs, ?_, .returned (some (.int 1)), hrun, hended, rfl, ⟨_, rfl⟩, hW, hframe⟩
  jvm_step X.here [X.here.top, hx, hb, hdg, hmeth', hr, ret, narrow_b1]
  (try refine ⟨rfl, ?_⟩); (try refine ⟨rfl, ?_⟩)
  first | (intro acts; rw [hret _ acts rfl rfl rfl]) | rw [hret _ _ rfl rfl rfl]
  exact Steps.refl _
/-- what holds at the law's entry: the machine, the code, the tables' words (any of lw_tbl by 'hts w (by decide +kernel)'), the script of L ints xs at the cell b, what the Statement gives of the start (any of its parts by flat_of_before) -/
def lw_At (p : Program) (s : State) (m : MethodId) (meth : Method) (c : Code) (b L : Nat) (xs : Nat → Int32) : Prop :=
  p.tables.exec = Jvm.exec ∧ c.code = code ∧ meth.sig.returnType = ret ∧ c.maxLocals = 7 ∧ s.vm.findClass R_law = some m.cls ∧ (∀ w ∈ lw_tbl, w.before #[Value.ref b] s = true) ∧ va_X b L xs s s.heap ∧ b < s.heap.size ∧ meth.locks = false ∧ (Jvm.Cond.and given_1 narrow_1).before #[Value.ref b] s = true
theorem lg_self (a : Int64) : lg_cmp a a = 0 := by simp [lg_cmp]
theorem tUpd_0 {n : Nat} {k kd : Int32} (h : tUpd n k kd = 0) : isN n k ∧ (kd.toNatClampNeg ≤ 3 ∨ (10 ≤ kd.toNatClampNeg ∧ kd.toNatClampNeg ≤ 15)) := by
  unfold tUpd at h
  by_cases h1 : isN n k
  · rw [cif_pos h1] at h
    by_cases h2 : kd < 0 ∨ ¬ kd ≤ 3
    · rw [cif_pos h2] at h; exact absurd h (by decide)
    · exact ⟨h1, Or.inl (kind_3 (fun q => h2 (Or.inl q)) (Classical.byContradiction (fun q => h2 (Or.inr q)))).2⟩
  · rw [cif_neg h1] at h; exact absurd h (by decide)
theorem tQry_0 {n : Nat} {k kd : Int32} (h : tQry n k kd = 0) : isN n k ∧ (kd.toNatClampNeg ≤ 3 ∨ (10 ≤ kd.toNatClampNeg ∧ kd.toNatClampNeg ≤ 15)) := by
  unfold tQry at h
  by_cases h1 : isN n k
  · rw [cif_pos h1] at h
    by_cases h2 : kd < 10 ∨ ¬ kd ≤ 15
    · rw [cif_pos h2] at h; exact absurd h (by decide)
    · exact ⟨h1, Or.inr (kind_15 (fun q => h2 (Or.inl q)) (Classical.byContradiction (fun q => h2 (Or.inr q)))).2⟩
  · rw [cif_neg h1] at h; exact absurd h (by decide)
theorem t_le2 {n : Nat} {k kd : Int32} {M : MS} : tUpd n k kd ≤ 2 ∧ tQry n k kd ≤ 2 ∧ tDel k M ≤ 2 ∧ tCal k ≤ 2 ∧ tCra n k ≤ 2 := by
  refine ⟨?_, ?_, ?_, ?_, ?_⟩
  · unfold tUpd cif; split
    · split <;> decide
    · decide
  · unfold tQry cif; split
    · split <;> decide
    · decide
  · unfold tDel cif; split <;> decide
  · unfold tCal cif; split <;> decide
  · unfold tCra cif; split <;> decide
theorem t_eq0 {T : Nat} (h : T ≤ 2) (c : nI T = 0) : T = 0 := by rw [nJ0, nI_eq (by omega) (by decide)] at c; exact c
theorem cmp5 {L t : Nat} (hL : L ≤ 2561) (ht : t ≤ 600) : nI L - 5 < nI (1 + 5 * t) ↔ L < 6 + 5 * t := by
  have e : (nI L - 5).toInt = (L : Int) - 5 := by
    rw [Int32.toInt_sub, nI_toInt (by omega), show (5 : Int32).toInt = 5 from by decide]
    exact Int.bmod_eq_of_le (by omega) (by omega)
  rw [Int32.lt_iff_toInt_lt, e, nI_toInt (by omega)]
  omega
