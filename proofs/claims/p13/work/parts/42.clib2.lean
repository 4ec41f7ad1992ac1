/-- a row put in another's place -/
def cR_ (σ : CS) (kd ix f : Nat) (r : Nat → Int32) : CS := (σ.1, fun a b c => if a = kd ∧ b = ix ∧ c = f then r else σ.2.1 a b c, σ.2.2)
theorem cR_get (σ : CS) (kd ix f : Nat) (r : Nat → Int32) : (cR_ σ kd ix f r).2.1 kd ix f = r := by simp [cR_]
theorem cR_R (σ : CS) (kd ix f : Nat) (r r' : Nat → Int32) : cR_ (cR_ σ kd ix f r) kd ix f r' = cR_ σ kd ix f r' := by
  unfold cR_
  refine Prod.ext rfl (Prod.ext ?_ rfl)
  funext a b c
  show (if _ then _ else if _ then _ else _) = if _ then _ else _
  split <;> rfl
theorem cR_self (σ : CS) (kd ix f : Nat) : cR_ σ kd ix f (σ.2.1 kd ix f) = σ := by
  unfold cR_
  refine Prod.ext rfl (Prod.ext ?_ rfl)
  funext a b c
  show (if _ then _ else _) = _
  split
  · rename_i h; obtain ⟨rfl, rfl, rfl⟩ := h; rfl
  · rfl
theorem cA_R (σ : CS) (kd ix f i : Nat) (v : Int32) : cA_ σ kd ix f i v = cR_ σ kd ix f (upd (σ.2.1 kd ix f) i v) := rfl
/-- the first i places of F, then g -/
def mix (F g : Nat → Int32) (i : Nat) : Nat → Int32 := fun j => if j < i then F j else g j
theorem mix_0 (F g : Nat → Int32) : mix F g 0 = g := by funext j; simp [mix]
theorem mix_step (F g : Nat → Int32) (i : Nat) : upd (mix F g i) i (F i) = mix F g (i + 1) := by
  funext j
  by_cases h : j = i
  · subst h; rw [upd_self]; simp [mix]
  · rw [upd_ne _ h]; simp only [mix]
    by_cases h2 : j < i
    · rw [if_pos h2, if_pos (by omega)]
    · rw [if_neg h2, if_neg (by omega)]
theorem mix_at (F g : Nat → Int32) (i : Nat) : mix F g i i = g i := by simp [mix]
theorem cA_mix {σ : CS} {kd ix f i : Nat} {F g : Nat → Int32} {v : Int32} (hi : i < 2 ^ 31) (hv : v = F i) : cA_ (cR_ σ kd ix f (mix F g i)) kd ix f (nI i).toNatClampNeg v = cR_ σ kd ix f (mix F g (i + 1)) := by
  rw [cA_R, cR_get, cR_R, nI_clamp hi, hv, mix_step]
/-- the class's numbers are places where the code uses them so -/
def cOK (n bg : Nat) (σ : CS) : Prop := 3 ≤ n ∧ n ≤ 31 ∧ bg ≤ 511 ∧ σ.1 0 0 3 = nI bg ∧ σ.1 1 0 0 = nI n ∧ vp_in (σ.1 1 0 7) 2000 ∧ vp_in (σ.1 1 0 8) 2001 ∧ (∀ j, vp_in (σ.2.1 1 0 1 j) 2000) ∧ (∀ j, vp_in (σ.2.1 1 0 3 j) n) ∧ (∀ j, vp_in (σ.2.1 1 0 4 j) n) ∧ (∀ k, k < n → σ.1 2 k 0 = nI k) ∧ (∀ o, 1 ≤ o → o ≤ bg → vp_in (σ.1 3 o 1) n ∧ σ.1 3 o 0 = nI o) ∧ (∀ k, σ.2.2 k ≤ bg)
def cNS (kd f : Nat) : Bool := !((kd == 0 && f == 3) || (kd == 1 && (f == 0 || f == 7 || f == 8)) || (kd == 2 && f == 0) || (kd == 3 && (f == 0 || f == 1)))
theorem cI_ne {σ : CS} {kd ix f a b c : Nat} {v : Int32} (h : ¬ (a = kd ∧ c = f)) : (cI_ σ kd ix f v).1 a b c = σ.1 a b c := by
  show (if a = kd ∧ b = ix ∧ c = f then v else σ.1 a b c) = _
  rw [if_neg (fun q => h ⟨q.1, q.2.2⟩)]
theorem cI_eq {σ : CS} {kd ix f : Nat} {v : Int32} : (cI_ σ kd ix f v).1 kd ix f = v := by
  show (if kd = kd ∧ ix = ix ∧ f = f then v else _) = _
  rw [if_pos ⟨rfl, rfl, rfl⟩]
theorem cOK.put {n bg : Nat} {σ : CS} (ok : cOK n bg σ) {kd ix f : Nat} {v : Int32} (h : cNS kd f = true) : cOK n bg (cI_ σ kd ix f v) := by
  obtain ⟨h1, h2, h3, h4, h5, h6, h7, h8, h9, h10, h11, h12, h13⟩ := ok
  have hne : ∀ a c, cNS a c = false → ¬ (a = kd ∧ c = f) := fun a c hf q => by obtain ⟨rfl, rfl⟩ := q; rw [h] at hf; exact absurd hf (by decide)
  refine ⟨h1, h2, h3, ?_, ?_, ?_, ?_, h8, h9, h10, fun k hk => ?_, fun o ho1 ho2 => ?_, h13⟩
  · rw [cI_ne (hne _ _ (by decide))]; exact h4
  · rw [cI_ne (hne _ _ (by decide))]; exact h5
  · rw [cI_ne (hne _ _ (by decide))]; exact h6
  · rw [cI_ne (hne _ _ (by decide))]; exact h7
  · rw [cI_ne (hne _ _ (by decide))]; exact h11 k hk
  · rw [cI_ne (hne _ _ (by decide)), cI_ne (hne _ _ (by decide))]; exact h12 o ho1 ho2
theorem cOK.head {n bg : Nat} {σ : CS} (ok : cOK n bg σ) {v : Int32} (hv : vp_in v 2000) : cOK n bg (cI_ σ 1 0 7 v) := by
  obtain ⟨h1, h2, h3, h4, h5, h6, h7, h8, h9, h10, h11, h12, h13⟩ := ok
  exact ⟨h1, h2, h3, h4, h5, hv, h7, h8, h9, h10, h11, h12, h13⟩
theorem cOK.len {n bg : Nat} {σ : CS} (ok : cOK n bg σ) {v : Int32} (hv : vp_in v 2001) : cOK n bg (cI_ σ 1 0 8 v) := by
  obtain ⟨h1, h2, h3, h4, h5, h6, h7, h8, h9, h10, h11, h12, h13⟩ := ok
  exact ⟨h1, h2, h3, h4, h5, h6, hv, h8, h9, h10, h11, h12, h13⟩
theorem cOK.row {n bg : Nat} {σ : CS} (ok : cOK n bg σ) {kd ix f : Nat} {r : Nat → Int32} (h : kd = 1 → (f = 1 → ∀ j, vp_in (r j) 2000) ∧ (f = 3 ∨ f = 4 → ∀ j, vp_in (r j) n)) : cOK n bg (cR_ σ kd ix f r) := by
  obtain ⟨h1, h2, h3, h4, h5, h6, h7, h8, h9, h10, h11, h12, h13⟩ := ok
  refine ⟨h1, h2, h3, h4, h5, h6, h7, fun j => ?_, fun j => ?_, fun j => ?_, h11, h12, h13⟩
  · show vp_in ((if 1 = kd ∧ 0 = ix ∧ 1 = f then r else σ.2.1 1 0 1) j) 2000
    split
    · rename_i q; obtain ⟨rfl, rfl, rfl⟩ := q; exact (h rfl).1 rfl j
    · exact h8 j
  · show vp_in ((if 1 = kd ∧ 0 = ix ∧ 3 = f then r else σ.2.1 1 0 3) j) n
    split
    · rename_i q; obtain ⟨rfl, rfl, rfl⟩ := q; exact (h rfl).2 (Or.inl rfl) j
    · exact h9 j
  · show vp_in ((if 1 = kd ∧ 0 = ix ∧ 4 = f then r else σ.2.1 1 0 4) j) n
    split
    · rename_i q; obtain ⟨rfl, rfl, rfl⟩ := q; exact (h rfl).2 (Or.inr rfl) j
    · exact h10 j
theorem cOK.st {n bg : Nat} {σ : CS} (ok : cOK n bg σ) {kd ix f i : Nat} {v : Int32} (h : kd = 1 → (f = 1 → vp_in v 2000) ∧ (f = 3 ∨ f = 4 → vp_in v n)) : cOK n bg (cA_ σ kd ix f i v) := by
  by_cases hx : ix = 0
  · subst hx
    refine ok.row (fun hk => ⟨fun hf j => ?_, fun hf j => ?_⟩)
    · subst hk hf
      by_cases hj : j = i
      · subst hj; rw [upd_self]; exact (h rfl).1 rfl
      · rw [upd_ne _ hj]; exact ok.2.2.2.2.2.2.2.1 j
    · subst hk
      by_cases hj : j = i
      · subst hj; rw [upd_self]; exact (h rfl).2 hf
      · rw [upd_ne _ hj]
        rcases hf with rfl | rfl
        · exact ok.2.2.2.2.2.2.2.2.1 j
        · exact ok.2.2.2.2.2.2.2.2.2.1 j
  · obtain ⟨h1, h2, h3, h4, h5, h6, h7, h8, h9, h10, h11, h12, h13⟩ := ok
    have hne : ∀ c, (cA_ σ kd ix f i v).2.1 1 0 c = σ.2.1 1 0 c := fun c => by
      show (if 1 = kd ∧ 0 = ix ∧ c = f then _ else _) = _
      rw [if_neg (fun q => hx q.2.1.symm)]
    exact ⟨h1, h2, h3, h4, h5, h6, h7, fun j => by rw [hne]; exact h8 j, fun j => by rw [hne]; exact h9 j, fun j => by rw [hne]; exact h10 j, h11, h12, h13⟩
theorem cOK.task {n bg : Nat} {σ : CS} (ok : cOK n bg σ) {k t : Nat} (ht : t ≤ bg) : cOK n bg (cT_ σ k t) := by
  obtain ⟨h1, h2, h3, h4, h5, h6, h7, h8, h9, h10, h11, h12, h13⟩ := ok
  refine ⟨h1, h2, h3, h4, h5, h6, h7, h8, h9, h10, h11, h12, fun j => ?_⟩
  show (if j = k then t else σ.2.2 j) ≤ bg
  split
  · exact ht
  · exact h13 j
theorem cOK.n {n bg : Nat} {σ : CS} (ok : cOK n bg σ) : n < 2 ^ 31 := by have := ok.2.1; omega
theorem cOK.wd {n bg : Nat} {σ : CS} (ok : cOK n bg σ) : σ.1 1 0 0 = nI n := ok.2.2.2.2.1
theorem cOK.bg {n bg : Nat} {σ : CS} (ok : cOK n bg σ) : σ.1 0 0 3 = nI bg := ok.2.2.2.1
theorem cOK.hd {n bg : Nat} {σ : CS} (ok : cOK n bg σ) : vp_in (σ.1 1 0 7) 2000 := ok.2.2.2.2.2.1
theorem cOK.ln {n bg : Nat} {σ : CS} (ok : cOK n bg σ) : vp_in (σ.1 1 0 8) 2001 := ok.2.2.2.2.2.2.1
theorem cOK.sl {n bg : Nat} {σ : CS} (ok : cOK n bg σ) (j : Nat) : vp_in (σ.2.1 1 0 1 j) 2000 := ok.2.2.2.2.2.2.2.1 j
theorem cOK.snd {n bg : Nat} {σ : CS} (ok : cOK n bg σ) (j : Nat) : vp_in (σ.2.1 1 0 3 j) n := ok.2.2.2.2.2.2.2.2.1 j
theorem cOK.rcv {n bg : Nat} {σ : CS} (ok : cOK n bg σ) (j : Nat) : vp_in (σ.2.1 1 0 4 j) n := ok.2.2.2.2.2.2.2.2.2.1 j
theorem cOK.ix {n bg : Nat} {σ : CS} (ok : cOK n bg σ) {k : Nat} (hk : k < n) : σ.1 2 k 0 = nI k := ok.2.2.2.2.2.2.2.2.2.2.1 k hk
theorem cOK.op {n bg : Nat} {σ : CS} (ok : cOK n bg σ) {o : Nat} (h1 : 1 ≤ o) (h2 : o ≤ bg) : vp_in (σ.1 3 o 1) n ∧ σ.1 3 o 0 = nI o := ok.2.2.2.2.2.2.2.2.2.2.2.1 o h1 h2
theorem cOK.tk {n bg : Nat} {σ : CS} (ok : cOK n bg σ) (k : Nat) : σ.2.2 k ≤ bg := ok.2.2.2.2.2.2.2.2.2.2.2.2 k
/-- the class's cells in a state of the machine -/
def cH (D : va_G) (cI cZ cN cO : ClassId) (A : Nat → Prop) (E : CE) (n bg : Nat) (σ : CS) (U : State) : Prop := va_P D vwCl (cW cI cN cO E n bg σ) U.heap ∧ va_K D vwCl (gTy cI cZ cN cO) U ∧ va_D A (cW cI cN cO E n bg σ)
theorem cH.blind {D : va_G} {cI cZ cN cO : ClassId} {A : Nat → Prop} {E : CE} {n bg : Nat} {σ : CS} {av : List Value} : FrameBlind (va_Pc av (cH D cI cZ cN cO A E n bg σ)) := fun a U g mk q => ⟨q.1, q.2.1, va_K.moved (u := U) (U := U.calling g mk a) (Vm.Alike.refl U.vm) q.2.2.1, q.2.2.2⟩
section CK
variable {p : Program} {l : Launch} {e : Env} {R : Room} {s : State} {m : MethodId} {args : Array Value} {below : List Frame} {meth : Method} {c : Code} {H : Heap} {locs : List Loc} {cells slots : Nat} {Q : State → Prop} {cc : ByteArray} {pc nL : Nat} {ls : Array Slot} {rest st0 : List Value} {D : va_G} {cI cZ cN cO : ClassId} {A : Nat → Prop} {H0 : Heap} {E : CE} {n bg : Nat} {σ σ' : CS} {y : MethodName} {bytes : ByteArray} {maxL idx na : Nat} {ret : Option FieldType} {rm : Room} {As : List Value} {K : Prop} {own RC : String} {a : Nat}
theorem c_pre (C : Cx p c cc s m args own D (gTy cI cZ cN cO)) (w : cWd D cI cN cO A H0 E n bg σ H locs) {q : vw_C} {ci q0 : Nat} {fs : List Value} (hc : vwCl[ci]? = some q) (he : (cW cI cN cO E n bg σ)[q0]? = some (a, .inr (ci, fs))) : PreV s H q.1 a (va_Pc (.ref a :: As) (cH D cI cZ cN cO A E n bg σ)) As :=
  ⟨cH.blind, va_recv C.2.2.2.2 w.1 hc he, fun U hU hW => ⟨rfl, by rw [hU]; exact w.1, va_K.moved hW.alike C.2.2.2.2, w.2.1⟩⟩
theorem c_preX3 (C : Cx p c cc s m args own D (gTy cI cZ cN cO)) (w : cWd D cI cN cO A H0 E n bg σ H locs) : PreV s H RX3 (E.1 0) (va_Pc (.ref (E.1 0) :: As) (cH D cI cZ cN cO A E n bg σ)) As := c_pre C w (q := (RX3, TX3, 9)) (ci := 3) (q0 := 0) rfl ((cW_fix (by decide)).trans rfl)
theorem c_preX2 (C : Cx p c cc s m args own D (gTy cI cZ cN cO)) (w : cWd D cI cN cO A H0 E n bg σ H locs) : PreV s H RX2 (E.1 2) (va_Pc (.ref (E.1 2) :: As) (cH D cI cZ cN cO A E n bg σ)) As := c_pre C w (q := (RX2, TX2, 10)) (ci := 2) (q0 := 2) rfl ((cW_fix (by decide)).trans rfl)
theorem c_preX0 (C : Cx p c cc s m args own D (gTy cI cZ cN cO)) (w : cWd D cI cN cO A H0 E n bg σ H locs) {k : Nat} (hk : k < n) : PreV s H RX0 (E.2.2.1 k) (va_Pc (.ref (E.2.2.1 k) :: As) (cH D cI cZ cN cO A E n bg σ)) As := c_pre C w (q := (RX0, TX0, 11)) (ci := 0) (q0 := 10 + (6 * k + 0)) rfl ((cW_nd hk (by decide)).trans rfl)
theorem c_preX1 (C : Cx p c cc s m args own D (gTy cI cZ cN cO)) (w : cWd D cI cN cO A H0 E n bg σ H locs) {o : Nat} (h1 : 1 ≤ o) (h2 : o ≤ bg) : PreV s H RX1 (E.2.2.2.2.1 o) (va_Pc (.ref (E.2.2.2.2.1 o) :: As) (cH D cI cZ cN cO A E n bg σ)) As := by
  have e := cW_op (cI := cI) (cN := cN) (cO := cO) (E := E) (n := n) (σ := σ) h1 h2 (show 0 < 2 by decide)
  rw [show (cOp cI E n σ (o - 1))[0]? = (cOp cI E n σ (o - 1 + 1 - 1))[0]? from rfl] at e
  obtain ⟨j, rfl⟩ : ∃ j, o = j + 1 := ⟨o - 1, by omega⟩
  exact c_pre C w (q := (RX1, TX1, 12)) (ci := 1) (q0 := 10 + 6 * n + (2 * (j + 1 - 1) + 0)) rfl e
/-- a call of the class's own method that changes nothing, an int its answer -/
theorem c_callp {post : Int32 → Prop} (C : Cx p c cc s m args own D (gTy cI cZ cN cO)) (hp : PreV s H RC a (va_Pc (.ref a :: As) (cH D cI cZ cN cO A E n bg σ)) As) (hml : c.maxLocals = nL) (hls : ls.size = nL) (hM : Met l y (.code y bytes maxL ret :: gw) rm (va_Pc (.ref a :: As) (cH D cI cZ cN cO A E n bg σ)) (vp_Si post) 0 0 (fun _ => False)) (h1 : Cond.methodLink own idx y ∈ gw) (h2 : Cond.instanceMethod y ∈ gw) (h3 : Cond.selects RC y y ∈ gw) (h4 : Cond.initialized RC ∈ gw) (h5 : Cond.code y bytes maxL ret ∈ gw)
    (hd : y.cls = RC ∧ y.cls ≠ "java/lang/invoke/MethodHandle" ∧ y.cls ≠ "java/lang/invoke/VarHandle" ∧ (parseMethodDescriptor y.desc).map (fun d => d.parameters.length) = some As.length) (hrc : rm.cells = 0) (hrs : rm.slots = 0) (hR : rm.frames + 1 ≤ R.frames ∧ 8 + (maxL + 11) + rm.locals ≤ R.locals) (hst : st0 = As.reverse ++ .ref a :: rest) (hW : 2 * (F0 m pc ls st0).monitorRoom + (rest.map fun v => v.category).sum ≤ 8) (hdg : decode cc pc = .ok (.invokevirtual idx, 3)) (hf : cells + 0 ≤ R.cells ∧ slots + 0 ≤ R.slots)
    (kk : ∀ r : Int32, post r → W p l e R s m args below meth c H locs cells slots Q (F0 m (pc + 3) ls (.int r :: rest))) : W p l e R s m args below meth c H locs cells slots Q (F0 m pc ls st0) :=
  vp_callSi (W.runV (As := As) (rest := rest) ⟨C.1, C.2.1, hml, C.2.2.1, C.2.2.2.1⟩ hM (cwV As.length C.2.2.2.1 (gw_V h1 h2 h3 h4 h5) rfl hrc hrs hd hR) hp rfl rfl hls hst hW hdg hf) kk
/-- the same, a long its answer -/
theorem c_calll {post : Int64 → Prop} (C : Cx p c cc s m args own D (gTy cI cZ cN cO)) (hp : PreV s H RC a (va_Pc (.ref a :: As) (cH D cI cZ cN cO A E n bg σ)) As) (hml : c.maxLocals = nL) (hls : ls.size = nL) (hM : Met l y (.code y bytes maxL ret :: gw) rm (va_Pc (.ref a :: As) (cH D cI cZ cN cO A E n bg σ)) (vp_Sl post) 0 0 (fun _ => False)) (h1 : Cond.methodLink own idx y ∈ gw) (h2 : Cond.instanceMethod y ∈ gw) (h3 : Cond.selects RC y y ∈ gw) (h4 : Cond.initialized RC ∈ gw) (h5 : Cond.code y bytes maxL ret ∈ gw)
    (hd : y.cls = RC ∧ y.cls ≠ "java/lang/invoke/MethodHandle" ∧ y.cls ≠ "java/lang/invoke/VarHandle" ∧ (parseMethodDescriptor y.desc).map (fun d => d.parameters.length) = some As.length) (hrc : rm.cells = 0) (hrs : rm.slots = 0) (hR : rm.frames + 1 ≤ R.frames ∧ 8 + (maxL + 11) + rm.locals ≤ R.locals) (hst : st0 = As.reverse ++ .ref a :: rest) (hW : 2 * (F0 m pc ls st0).monitorRoom + (rest.map fun v => v.category).sum ≤ 8) (hdg : decode cc pc = .ok (.invokevirtual idx, 3)) (hf : cells + 0 ≤ R.cells ∧ slots + 0 ≤ R.slots)
    (kk : ∀ r : Int64, post r → W p l e R s m args below meth c H locs cells slots Q (F0 m (pc + 3) ls (.long r :: rest))) : W p l e R s m args below meth c H locs cells slots Q (F0 m pc ls st0) :=
  vp_callSl (W.runV (As := As) (rest := rest) ⟨C.1, C.2.1, hml, C.2.2.1, C.2.2.2.1⟩ hM (cwV As.length C.2.2.2.1 (gw_V h1 h2 h3 h4 h5) rfl hrc hrs hd hR) hp rfl rfl hls hst hW hdg hf) kk
/-- the same, a reference its answer -/
theorem c_callq {post : Option Nat → Prop} (C : Cx p c cc s m args own D (gTy cI cZ cN cO)) (hp : PreV s H RC a (va_Pc (.ref a :: As) (cH D cI cZ cN cO A E n bg σ)) As) (hml : c.maxLocals = nL) (hls : ls.size = nL) (hM : Met l y (.code y bytes maxL ret :: gw) rm (va_Pc (.ref a :: As) (cH D cI cZ cN cO A E n bg σ)) (va_Sq post) 0 0 (fun _ => False)) (h1 : Cond.methodLink own idx y ∈ gw) (h2 : Cond.instanceMethod y ∈ gw) (h3 : Cond.selects RC y y ∈ gw) (h4 : Cond.initialized RC ∈ gw) (h5 : Cond.code y bytes maxL ret ∈ gw)
    (hd : y.cls = RC ∧ y.cls ≠ "java/lang/invoke/MethodHandle" ∧ y.cls ≠ "java/lang/invoke/VarHandle" ∧ (parseMethodDescriptor y.desc).map (fun d => d.parameters.length) = some As.length) (hrc : rm.cells = 0) (hrs : rm.slots = 0) (hR : rm.frames + 1 ≤ R.frames ∧ 8 + (maxL + 11) + rm.locals ≤ R.locals) (hst : st0 = As.reverse ++ .ref a :: rest) (hW : 2 * (F0 m pc ls st0).monitorRoom + (rest.map fun v => v.category).sum ≤ 8) (hdg : decode cc pc = .ok (.invokevirtual idx, 3)) (hf : cells + 0 ≤ R.cells ∧ slots + 0 ≤ R.slots)
    (kk : ∀ r : Option Nat, post r → W p l e R s m args below meth c H locs cells slots Q (F0 m (pc + 3) ls (va_rf r :: rest))) : W p l e R s m args below meth c H locs cells slots Q (F0 m pc ls st0) :=
  va_csq (W.runV (As := As) (rest := rest) ⟨C.1, C.2.1, hml, C.2.2.1, C.2.2.2.1⟩ hM (cwV As.length C.2.2.2.1 (gw_V h1 h2 h3 h4 h5) rfl hrc hrs hd hR) hp rfl rfl hls hst hW hdg hf) kk
/-- a call that writes, an int its answer -/
theorem c_calli {post : Int32 → Prop} (C : Cx p c cc s m args own D (gTy cI cZ cN cO)) (hp : PreV s H RC a (va_Pc (.ref a :: As) (cH D cI cZ cN cO A E n bg σ)) As) (hS0 : va_S A H0 H locs) (hml : c.maxLocals = nL) (hls : ls.size = nL) (hM : Met l y (.code y bytes maxL ret :: gw) rm (va_Pc (.ref a :: As) (cH D cI cZ cN cO A E n bg σ)) (va_Qi (fun (r : Int32) (_ : Unit) => post r) (fun _ t => cH D cI cZ cN cO A E n bg σ' t ∧ K) A) 0 0 A) (h1 : Cond.methodLink own idx y ∈ gw) (h2 : Cond.instanceMethod y ∈ gw) (h3 : Cond.selects RC y y ∈ gw) (h4 : Cond.initialized RC ∈ gw) (h5 : Cond.code y bytes maxL ret ∈ gw)
    (hd : y.cls = RC ∧ y.cls ≠ "java/lang/invoke/MethodHandle" ∧ y.cls ≠ "java/lang/invoke/VarHandle" ∧ (parseMethodDescriptor y.desc).map (fun d => d.parameters.length) = some As.length) (hrc : rm.cells = 0) (hrs : rm.slots = 0) (hR : rm.frames + 1 ≤ R.frames ∧ 8 + (maxL + 11) + rm.locals ≤ R.locals) (hst : st0 = As.reverse ++ .ref a :: rest) (hW : 2 * (F0 m pc ls st0).monitorRoom + (rest.map fun v => v.category).sum ≤ 8) (hdg : decode cc pc = .ok (.invokevirtual idx, 3)) (hf : cells + 0 ≤ R.cells ∧ slots + 0 ≤ R.slots)
    (kk : ∀ (r : Int32) (H1 : Heap) (locs1 : List Loc), post r → cWd D cI cN cO A H0 E n bg σ' H1 locs1 → K → W p l e R s m args below meth c H1 locs1 cells slots Q (F0 m (pc + 3) ls (.int r :: rest))) : W p l e R s m args below meth c H locs cells slots Q (F0 m pc ls st0) :=
  va_calli (va_runV (As := As) (rest := rest) ⟨C.1, C.2.1, hml, C.2.2.1, C.2.2.2.1⟩ hM (cwV As.length C.2.2.2.1 (gw_V h1 h2 h3 h4 h5) rfl hrc hrs hd hR) hp rfl rfl hls hst hW hdg hf) hS0 (fun q _ h => h) (fun q h => h) (fun r u t H1 locs1 ht hvm hp hB hz hk hS => kk r H1 locs1 hp ⟨by rw [← ht]; exact hB.1.1, hB.1.2.2, hS⟩ hB.2)
/-- the same, without an answer -/
theorem c_callv (C : Cx p c cc s m args own D (gTy cI cZ cN cO)) (hp : PreV s H RC a (va_Pc (.ref a :: As) (cH D cI cZ cN cO A E n bg σ)) As) (hS0 : va_S A H0 H locs) (hml : c.maxLocals = nL) (hls : ls.size = nL) (hM : Met l y (.code y bytes maxL ret :: gw) rm (va_Pc (.ref a :: As) (cH D cI cZ cN cO A E n bg σ)) (va_Qv (fun _ : Unit => True) (fun _ t => cH D cI cZ cN cO A E n bg σ' t ∧ K) A) 0 0 A) (h1 : Cond.methodLink own idx y ∈ gw) (h2 : Cond.instanceMethod y ∈ gw) (h3 : Cond.selects RC y y ∈ gw) (h4 : Cond.initialized RC ∈ gw) (h5 : Cond.code y bytes maxL ret ∈ gw)
    (hd : y.cls = RC ∧ y.cls ≠ "java/lang/invoke/MethodHandle" ∧ y.cls ≠ "java/lang/invoke/VarHandle" ∧ (parseMethodDescriptor y.desc).map (fun d => d.parameters.length) = some As.length) (hrc : rm.cells = 0) (hrs : rm.slots = 0) (hR : rm.frames + 1 ≤ R.frames ∧ 8 + (maxL + 11) + rm.locals ≤ R.locals) (hst : st0 = As.reverse ++ .ref a :: rest) (hW : 2 * (F0 m pc ls st0).monitorRoom + (rest.map fun v => v.category).sum ≤ 8) (hdg : decode cc pc = .ok (.invokevirtual idx, 3)) (hf : cells + 0 ≤ R.cells ∧ slots + 0 ≤ R.slots)
    (kk : ∀ (H1 : Heap) (locs1 : List Loc), cWd D cI cN cO A H0 E n bg σ' H1 locs1 → K → W p l e R s m args below meth c H1 locs1 cells slots Q (F0 m (pc + 3) ls rest)) : W p l e R s m args below meth c H locs cells slots Q (F0 m pc ls st0) :=
  va_callv (va_runV (As := As) (rest := rest) ⟨C.1, C.2.1, hml, C.2.2.1, C.2.2.2.1⟩ hM (cwV As.length C.2.2.2.1 (gw_V h1 h2 h3 h4 h5) rfl hrc hrs hd hR) hp rfl rfl hls hst hW hdg hf) hS0 (fun q _ h => h) (fun q h => h) (fun u t H1 locs1 ht hvm hp hB hz hk hS => kk H1 locs1 ⟨by rw [← ht]; exact hB.1.1, hB.1.2.2, hS⟩ hB.2)
/-- a task that is none, and one that is -/
theorem c_gT0 (C : Cx p c cc s m args own D (gTy cI cZ cN cO)) (w : cWd D cI cN cO A H0 E n bg σ H locs) {k : Nat} (hk : k < n) (ht : σ.2.2 k = 0) (hl : Cond.fieldLink own idx "SharedShelf$Node" "task" "LSharedShelf$Operation;" ∈ gw) (hdg : decode cc pc = .ok (.getfield idx, 3)) (kk : W p l e R s m args below meth c H locs cells slots Q (F0 m (pc + 3) ls (.null :: rest))) : W p l e R s m args below meth c H locs cells slots Q (F0 m pc ls (.ref (E.2.2.1 k) :: rest)) := c_gX0_10 C w hk hl hdg (by rw [ht]; exact kk)
theorem c_gT1 (C : Cx p c cc s m args own D (gTy cI cZ cN cO)) (w : cWd D cI cN cO A H0 E n bg σ H locs) {k t : Nat} (hk : k < n) (ht : σ.2.2 k = t) (h1 : 1 ≤ t) (hl : Cond.fieldLink own idx "SharedShelf$Node" "task" "LSharedShelf$Operation;" ∈ gw) (hdg : decode cc pc = .ok (.getfield idx, 3)) (kk : W p l e R s m args below meth c H locs cells slots Q (F0 m (pc + 3) ls (.ref (E.2.2.2.2.1 t) :: rest))) : W p l e R s m args below meth c H locs cells slots Q (F0 m pc ls (.ref (E.2.2.1 k) :: rest)) := c_gX0_10 C w hk hl hdg (by rw [ht, cTk, if_neg (by omega)]; exact kk)
theorem c_pT0 (C : Cx p c cc s m args own D (gTy cI cZ cN cO)) (w : cWd D cI cN cO A H0 E n bg σ H locs) {k : Nat} (hk : k < n) (hl : Cond.fieldLink own idx "SharedShelf$Node" "task" "LSharedShelf$Operation;" ∈ gw) (hdg : decode cc pc = .ok (.putfield idx, 3)) (kk : ∀ (H1 : Heap) (locs1 : List Loc), cWd D cI cN cO A H0 E n bg (cT_ σ k 0) H1 locs1 → W p l e R s m args below meth c H1 locs1 cells slots Q (F0 m (pc + 3) ls rest)) : W p l e R s m args below meth c H locs cells slots Q (F0 m pc ls (.null :: .ref (E.2.2.1 k) :: rest)) := c_pX0_10 (t := 0) C w hk hl hdg kk
theorem c_pT1 (C : Cx p c cc s m args own D (gTy cI cZ cN cO)) (w : cWd D cI cN cO A H0 E n bg σ H locs) {k t : Nat} (hk : k < n) (h1 : 1 ≤ t) (hl : Cond.fieldLink own idx "SharedShelf$Node" "task" "LSharedShelf$Operation;" ∈ gw) (hdg : decode cc pc = .ok (.putfield idx, 3)) (kk : ∀ (H1 : Heap) (locs1 : List Loc), cWd D cI cN cO A H0 E n bg (cT_ σ k t) H1 locs1 → W p l e R s m args below meth c H1 locs1 cells slots Q (F0 m (pc + 3) ls rest)) : W p l e R s m args below meth c H locs cells slots Q (F0 m pc ls (.ref (E.2.2.2.2.1 t) :: .ref (E.2.2.1 k) :: rest)) := by
  have q := c_pX0_10 (t := t) C w (rest := rest) hk hl hdg kk
  rw [cTk, if_neg (by omega)] at q
  exact q
theorem c_lOp (C : Cx p c cc s m args own D (gTy cI cZ cN cO)) (w : cWd D cI cN cO A H0 E n bg σ H locs) {o : Nat} (h1 : 1 ≤ o) (h2 : o ≤ bg) (h3 : bg ≤ 511) (hdg : decode cc pc = .ok (.aaload, 1)) (kk : W p l e R s m args below meth c H locs cells slots Q (F0 m (pc + 1) ls (.ref (E.2.2.2.2.1 o) :: rest))) : W p l e R s m args below meth c H locs cells slots Q (F0 m pc ls (.int (nI o) :: .ref (E.1 3) :: rest)) := c_lOA C w (by omega) hdg (by rw [if_pos ⟨h1, h2⟩]; exact kk)
/-- a NODE's row is copied into the messages' numbers -/
theorem c_copy (C : Cx p c cc s m args own D (gTy cI cZ cN cO)) (w : cWd D cI cN cO A H0 E n bg σ H locs) (hml : c.maxLocals = ls.size) {k f : Nat} (hk : k < n) (hf : 1 ≤ f ∧ f ≤ 5) (hlk : Cond.methodLink own idx arraycopyName ∈ gw) (hnt : Cond.native arraycopyName ∈ gw) (hst : Cond.static arraycopyName ∈ gw) (hin : Cond.initialized "java/lang/System" ∈ gw) {j : Nat} (hj : j < 2000) (hn : n ≤ 31)
    (hframes : 1 ≤ R.frames) (hlocals : (rest.map fun v => v.category).sum + (nativeFrameWords "java/lang/System" "arraycopy" 5 + 11) ≤ R.locals) (hdg : decode cc pc = .ok (.invokestatic idx, 3))
    (kk : ∀ (H1 : Heap) (locs1 : List Loc), cWd D cI cN cO A H0 E n bg (cR_ σ 1 0 6 (va_cpy (σ.2.1 2 k f) (σ.2.1 1 0 6) 0 (j * n) n)) H1 locs1 → W p l e R s m args below meth c H1 locs1 cells slots Q (F0 m (pc + 3) ls rest)) : W p l e R s m args below meth c H locs cells slots Q (F0 m pc ls (.int (nI n) :: .int (nI (j * n)) :: .ref (E.2.1 6) :: .int 0 :: .ref (E.2.2.2.1 k f) :: rest)) := by
  have hb : j * n + n ≤ 2000 * n := by rw [← Nat.succ_mul]; exact Nat.mul_le_mul_right n hj
  have hb2 : 2000 * n ≤ 62000 := by omega
  have c1 : (nI n).toNatClampNeg = n := nI_clamp (by omega)
  have c2 : (nI (j * n)).toNatClampNeg = j * n := nI_clamp (by omega)
  have hsrc : (cW cI cN cO E n bg σ)[10 + (6 * k + f)]? = some (E.2.2.2.1 k f, .inl (cI, n, .inl (σ.2.1 2 k f))) := by
    rw [cW_nd hk (by omega)]
    obtain ⟨f1, f2⟩ := hf
    match f, f1, f2 with
    | 1, _, _ => rfl
    | 2, _, _ => rfl
    | 3, _, _ => rfl
    | 4, _, _ => rfl
    | 5, _, _ => rfl
  refine va_copyi C.1 C.2.1 hml C.2.2.1 (C.2.2.2.1 _ hlk) (C.2.2.2.1 _ hnt) (C.2.2.2.1 _ hst) (C.2.2.2.1 _ hin) C.2.2.2.2 w.1 w.2.1 w.2.2 (10 + (6 * k + f)) 9 0 0 (ty := .int) hsrc ((cW_fix (by decide)).trans rfl) rfl rfl rfl (by decide) (by rw [Int32.lt_iff_toInt_lt, nI_toInt (by omega), Int32.toInt_zero]; omega) (by rw [Int32.lt_iff_toInt_lt, nI_toInt (by omega), Int32.toInt_zero]; omega) ?_ ?_ (fun _ _ => rfl) hframes hlocals hdg (fun H1 locs1 hP hD hS => ?_)
  · rw [c1]; show 0 + n ≤ n; omega
  · rw [c1, c2]; exact hb
  · rw [c1, c2] at hP hD
    exact kk H1 locs1 (cWd_of hP hD hS (cW_setF (by decide) rfl (fun _ => rfl) (fun _ => rfl)))
end CK
