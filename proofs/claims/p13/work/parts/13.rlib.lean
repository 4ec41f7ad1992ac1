/-- a bound for what a row of the reference holds, where the code uses it as a place -/
def rB (n : Nat) : Nat → Option Nat := fun k => match k with
  | 3 => some n
  | 4 => some n
  | 26 => some n
  | 8 => some 2001
  | 16 => some 512
  | 20 => some 512
  | 39 => some 512
  | 6 => some 512
  | 18 => some 512
  | 19 => some 512
  | 21 => some 512
  | 22 => some 512
  | 23 => some 512
  | 35 => some 512
  | _ => none
/-- the state's numbers are places where the code uses them so -/
def rOK (n : Nat) (σ : RS) : Prop := 3 ≤ n ∧ n ≤ 31 ∧ σ.1 0 = nI n ∧ vp_in (σ.1 9) 2001 ∧ vp_in (σ.1 37) 512 ∧ ∀ (k b : Nat), rB n k = some b → ∀ j, vp_in (σ.2 k j) b
theorem rOK.st {n : Nat} {σ : RS} (h : rOK n σ) {k i : Nat} {v : Int32} (hv : ∀ b, rB n k = some b → vp_in v b) : rOK n (rA σ k i v) := by
  obtain ⟨h1, h2, h3, h4, h5, h6⟩ := h
  refine ⟨h1, h2, h3, h4, h5, fun k' b hb j => ?_⟩
  show vp_in (va_up σ.2 k (upd (σ.2 k) i v) k' j) b
  by_cases hk : k' = k
  · subst hk
    simp only [va_up, if_true]
    by_cases hj : j = i
    · subst hj; rw [upd_self]; exact hv b hb
    · rw [upd_ne _ hj]; exact h6 _ b hb j
  · simp only [va_up, if_neg hk]; exact h6 _ b hb j
theorem rOK.put {n : Nat} {σ : RS} (h : rOK n σ) {k : Nat} {v : Int32} (h0 : k ≠ 0) (h9 : k = 9 → vp_in v 2001) (h37 : k = 37 → vp_in v 512) : rOK n (rI σ k v) := by
  obtain ⟨h1, h2, h3, h4, h5, h6⟩ := h
  refine ⟨h1, h2, ?_, ?_, ?_, h6⟩
  · show va_up σ.1 k v 0 = _; simp only [va_up, if_neg (Ne.symm h0)]; exact h3
  · show vp_in (va_up σ.1 k v 9) _
    by_cases q : 9 = k
    · subst q; simp only [va_up, if_true]; exact h9 rfl
    · simp only [va_up, if_neg q]; exact h4
  · show vp_in (va_up σ.1 k v 37) _
    by_cases q : 37 = k
    · subst q; simp only [va_up, if_true]; exact h37 rfl
    · simp only [va_up, if_neg q]; exact h5
theorem rOK.at {n : Nat} {σ : RS} (h : rOK n σ) (k : Nat) {b : Nat} (hb : rB n k = some b) (j : Nat) : vp_in (σ.2 k j) b := h.2.2.2.2.2 k b hb j
theorem vp_in.up {x : Int32} {a b : Nat} (h : vp_in x a) (hab : a ≤ b) : vp_in x b := by
  rw [vp_in_iff] at h ⊢; omega
theorem rOK.n31 {n : Nat} {σ : RS} (h : rOK n σ) {x : Int32} (hx : vp_in x n) : vp_in x 31 := hx.up h.2.1
theorem gIx {c N : Nat} {C x y : Int32} (hC : C = nI c) (hcN : c * N < 2 ^ 31) (hx : vp_in x N) (hy : vp_in y c) : vp_in (C * x + y) (c * N) := by
  by_cases hc0 : c = 0
  · subst hc0; rw [vp_in_iff] at hy; omega
  have hc : 1 ≤ c := by omega
  have hN : N < 2 ^ 31 := Nat.lt_of_le_of_lt (Nat.le_mul_of_pos_left N hc) hcN
  by_cases hN0 : N = 0
  · subst hN0; rw [vp_in_iff] at hx; omega
  have hcl : c < 2 ^ 31 := Nat.lt_of_le_of_lt (Nat.le_mul_of_pos_right c (by omega)) hcN
  obtain ⟨j, hj, rfl⟩ := vp_in_of hx hN
  obtain ⟨i, hi, rfl⟩ := vp_in_of hy hcl
  rw [hC, nI_mul, nI_add]
  have h1 : c * j + c ≤ c * N := by rw [← Nat.mul_succ]; exact Nat.mul_le_mul_left c hj
  exact vp_in_nI (by omega) hcN
/-- the reference's cells in a state of the machine -/
def rH (D : va_G) (cI cZ cN cO : ClassId) (A : Nat → Prop) (mm : Nat) (d : Nat → Nat) (σ : RS) (U : State) : Prop := va_P D vwCl (rW cI cZ mm d σ) U.heap ∧ va_K D vwCl (gTy cI cZ cN cO) U ∧ va_D A (rW cI cZ mm d σ)
theorem rH.blind {D : va_G} {cI cZ cN cO : ClassId} {A : Nat → Prop} {mm : Nat} {d : Nat → Nat} {σ : RS} {av : List Value} : FrameBlind (va_Pc av (rH D cI cZ cN cO A mm d σ)) := fun a U g mk q => ⟨q.1, q.2.1, va_K.moved (u := U) (U := U.calling g mk a) (Vm.Alike.refl U.vm) q.2.2.1, q.2.2.2⟩
section RC
variable {p : Program} {l : Launch} {e : Env} {R : Room} {s : State} {m : MethodId} {args : Array Value} {below : List Frame} {meth : Method} {c : Code} {H : Heap} {locs : List Loc} {cells slots : Nat} {Q : State → Prop} {cc : ByteArray} {pc nL : Nat} {ls : Array Slot} {rest st0 : List Value} {D : va_G} {cI cZ cN cO : ClassId} {A : Nat → Prop} {H0 : Heap} {mm : Nat} {d : Nat → Nat} {σ σ' : RS} {y : MethodName} {bytes : ByteArray} {maxL idx na : Nat} {ret : Option FieldType} {rm : Room} {As : List Value} {K : Prop}
theorem r_pre (C : Cx p c cc s m args RX4 D (gTy cI cZ cN cO)) (w : rWd D cI cZ A H0 mm d σ H locs) : PreV s H RX4 mm (va_Pc (.ref mm :: As) (rH D cI cZ cN cO A mm d σ)) As :=
  ⟨rH.blind, va_recv C.2.2.2.2 w.1 (ci := 4) (q0 := 0) rfl rfl, fun U hU hW => ⟨rfl, by rw [hU]; exact w.1, va_K.moved hW.alike C.2.2.2.2, w.2.1⟩⟩
/-- a call of the reference's own method that changes nothing, an int its answer -/
theorem r_callp {post : Int32 → Prop} (C : Cx p c cc s m args RX4 D (gTy cI cZ cN cO)) (w : rWd D cI cZ A H0 mm d σ H locs) (hml : c.maxLocals = nL) (hls : ls.size = nL) (hM : Met l y (.code y bytes maxL ret :: gw) rm (va_Pc (.ref mm :: As) (rH D cI cZ cN cO A mm d σ)) (vp_Si post) 0 0 (fun _ => False)) (h1 : Cond.methodLink RX4 idx y ∈ gw) (h2 : Cond.instanceMethod y ∈ gw) (h3 : Cond.selects RX4 y y ∈ gw) (h5 : Cond.code y bytes maxL ret ∈ gw)
    (hd : y.cls = RX4 ∧ y.cls ≠ "java/lang/invoke/MethodHandle" ∧ y.cls ≠ "java/lang/invoke/VarHandle" ∧ (parseMethodDescriptor y.desc).map (fun d => d.parameters.length) = some As.length) (hrc : rm.cells = 0) (hrs : rm.slots = 0) (hR : rm.frames + 1 ≤ R.frames ∧ 8 + (maxL + 11) + rm.locals ≤ R.locals) (hst : st0 = As.reverse ++ .ref mm :: rest) (hW : 2 * (F0 m pc ls st0).monitorRoom + (rest.map fun v => v.category).sum ≤ 8) (hdg : decode cc pc = .ok (.invokevirtual idx, 3)) (hf : cells + 0 ≤ R.cells ∧ slots + 0 ≤ R.slots)
    (kk : ∀ r : Int32, post r → W p l e R s m args below meth c H locs cells slots Q (F0 m (pc + 3) ls (.int r :: rest))) : W p l e R s m args below meth c H locs cells slots Q (F0 m pc ls st0) :=
  vp_callSi (W.runV (As := As) (rest := rest) ⟨C.1, C.2.1, hml, C.2.2.1, C.2.2.2.1⟩ hM (cwV As.length C.2.2.2.1 (gw_V h1 h2 h3 kN_X4 h5) rfl hrc hrs hd hR) (r_pre C w) rfl rfl hls hst hW hdg hf) kk
/-- a call of the reference's own method that writes, an int its answer -/
theorem r_calli {post : Int32 → Prop} (C : Cx p c cc s m args RX4 D (gTy cI cZ cN cO)) (w : rWd D cI cZ A H0 mm d σ H locs) (hml : c.maxLocals = nL) (hls : ls.size = nL) (hM : Met l y (.code y bytes maxL ret :: gw) rm (va_Pc (.ref mm :: As) (rH D cI cZ cN cO A mm d σ)) (va_Qi (fun (r : Int32) (_ : Unit) => post r) (fun _ t => rH D cI cZ cN cO A mm d σ' t ∧ K) A) 0 0 A) (h1 : Cond.methodLink RX4 idx y ∈ gw) (h2 : Cond.instanceMethod y ∈ gw) (h3 : Cond.selects RX4 y y ∈ gw) (h5 : Cond.code y bytes maxL ret ∈ gw)
    (hd : y.cls = RX4 ∧ y.cls ≠ "java/lang/invoke/MethodHandle" ∧ y.cls ≠ "java/lang/invoke/VarHandle" ∧ (parseMethodDescriptor y.desc).map (fun d => d.parameters.length) = some As.length) (hrc : rm.cells = 0) (hrs : rm.slots = 0) (hR : rm.frames + 1 ≤ R.frames ∧ 8 + (maxL + 11) + rm.locals ≤ R.locals) (hst : st0 = As.reverse ++ .ref mm :: rest) (hW : 2 * (F0 m pc ls st0).monitorRoom + (rest.map fun v => v.category).sum ≤ 8) (hdg : decode cc pc = .ok (.invokevirtual idx, 3)) (hf : cells + 0 ≤ R.cells ∧ slots + 0 ≤ R.slots)
    (kk : ∀ (r : Int32) (H1 : Heap) (locs1 : List Loc), post r → rWd D cI cZ A H0 mm d σ' H1 locs1 → K → W p l e R s m args below meth c H1 locs1 cells slots Q (F0 m (pc + 3) ls (.int r :: rest))) : W p l e R s m args below meth c H locs cells slots Q (F0 m pc ls st0) :=
  va_calli (va_runV (As := As) (rest := rest) ⟨C.1, C.2.1, hml, C.2.2.1, C.2.2.2.1⟩ hM (cwV As.length C.2.2.2.1 (gw_V h1 h2 h3 kN_X4 h5) rfl hrc hrs hd hR) (r_pre C w) rfl rfl hls hst hW hdg hf) w.2.2 (fun q _ h => h) (fun q h => h) (fun r u t H1 locs1 ht hvm hp hB hz hk hS => kk r H1 locs1 hp ⟨by rw [← ht]; exact hB.1.1, hB.1.2.2, hS⟩ hB.2)
/-- the same, without an answer -/
theorem r_callv (C : Cx p c cc s m args RX4 D (gTy cI cZ cN cO)) (w : rWd D cI cZ A H0 mm d σ H locs) (hml : c.maxLocals = nL) (hls : ls.size = nL) (hM : Met l y (.code y bytes maxL ret :: gw) rm (va_Pc (.ref mm :: As) (rH D cI cZ cN cO A mm d σ)) (va_Qv (fun _ : Unit => True) (fun _ t => rH D cI cZ cN cO A mm d σ' t ∧ K) A) 0 0 A) (h1 : Cond.methodLink RX4 idx y ∈ gw) (h2 : Cond.instanceMethod y ∈ gw) (h3 : Cond.selects RX4 y y ∈ gw) (h5 : Cond.code y bytes maxL ret ∈ gw)
    (hd : y.cls = RX4 ∧ y.cls ≠ "java/lang/invoke/MethodHandle" ∧ y.cls ≠ "java/lang/invoke/VarHandle" ∧ (parseMethodDescriptor y.desc).map (fun d => d.parameters.length) = some As.length) (hrc : rm.cells = 0) (hrs : rm.slots = 0) (hR : rm.frames + 1 ≤ R.frames ∧ 8 + (maxL + 11) + rm.locals ≤ R.locals) (hst : st0 = As.reverse ++ .ref mm :: rest) (hW : 2 * (F0 m pc ls st0).monitorRoom + (rest.map fun v => v.category).sum ≤ 8) (hdg : decode cc pc = .ok (.invokevirtual idx, 3)) (hf : cells + 0 ≤ R.cells ∧ slots + 0 ≤ R.slots)
    (kk : ∀ (H1 : Heap) (locs1 : List Loc), rWd D cI cZ A H0 mm d σ' H1 locs1 → K → W p l e R s m args below meth c H1 locs1 cells slots Q (F0 m (pc + 3) ls rest)) : W p l e R s m args below meth c H locs cells slots Q (F0 m pc ls st0) :=
  va_callv (va_runV (As := As) (rest := rest) ⟨C.1, C.2.1, hml, C.2.2.1, C.2.2.2.1⟩ hM (cwV As.length C.2.2.2.1 (gw_V h1 h2 h3 kN_X4 h5) rfl hrc hrs hd hR) (r_pre C w) rfl rfl hls hst hW hdg hf) w.2.2 (fun q _ h => h) (fun q h => h) (fun u t H1 locs1 ht hvm hp hB hz hk hS => kk H1 locs1 ⟨by rw [← ht]; exact hB.1.1, hB.1.2.2, hS⟩ hB.2)
end RC
