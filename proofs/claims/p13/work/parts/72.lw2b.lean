/-- the reference's addresses; the class's are all others that are new -/
def rAd (mm : Nat) (d : Nat → Nat) (q : Nat) : Prop := q = mm ∨ ∃ j, j < 40 ∧ q = d j ∧ (2 ≤ j ∧ j ≤ 8 ∨ 13 ≤ j ∧ j ≤ 36 ∨ j = 39)
def cAd (S0 mm : Nat) (d : Nat → Nat) (oo q : Nat) : Prop := S0 ≤ q ∧ ¬ rAd mm d q ∧ ¬ q = oo
theorem rW_len {cI cZ : ClassId} {mm : Nat} {d : Nat → Nat} {σ : RS} : (rW cI cZ mm d σ).length = 33 := rfl
theorem rW_ad {cI cZ : ClassId} {mm : Nat} {d : Nat → Nat} {σ : RS} : ∀ (k : Nat) (q : Nat × va_E), (rW cI cZ mm d σ)[k]? = some q → rAd mm d q.1 := by
  intro k q h
  match k, h with
  | 0, h => cases h; exact Or.inl rfl
  | 1, h => cases h; exact Or.inr ⟨2, by decide, rfl, by decide⟩
  | 2, h => cases h; exact Or.inr ⟨3, by decide, rfl, by decide⟩
  | 3, h => cases h; exact Or.inr ⟨4, by decide, rfl, by decide⟩
  | 4, h => cases h; exact Or.inr ⟨5, by decide, rfl, by decide⟩
  | 5, h => cases h; exact Or.inr ⟨6, by decide, rfl, by decide⟩
  | 6, h => cases h; exact Or.inr ⟨7, by decide, rfl, by decide⟩
  | 7, h => cases h; exact Or.inr ⟨8, by decide, rfl, by decide⟩
  | 8, h => cases h; exact Or.inr ⟨13, by decide, rfl, by decide⟩
  | 9, h => cases h; exact Or.inr ⟨14, by decide, rfl, by decide⟩
  | 10, h => cases h; exact Or.inr ⟨15, by decide, rfl, by decide⟩
  | 11, h => cases h; exact Or.inr ⟨16, by decide, rfl, by decide⟩
  | 12, h => cases h; exact Or.inr ⟨17, by decide, rfl, by decide⟩
  | 13, h => cases h; exact Or.inr ⟨18, by decide, rfl, by decide⟩
  | 14, h => cases h; exact Or.inr ⟨19, by decide, rfl, by decide⟩
  | 15, h => cases h; exact Or.inr ⟨20, by decide, rfl, by decide⟩
  | 16, h => cases h; exact Or.inr ⟨21, by decide, rfl, by decide⟩
  | 17, h => cases h; exact Or.inr ⟨22, by decide, rfl, by decide⟩
  | 18, h => cases h; exact Or.inr ⟨23, by decide, rfl, by decide⟩
  | 19, h => cases h; exact Or.inr ⟨24, by decide, rfl, by decide⟩
  | 20, h => cases h; exact Or.inr ⟨25, by decide, rfl, by decide⟩
  | 21, h => cases h; exact Or.inr ⟨26, by decide, rfl, by decide⟩
  | 22, h => cases h; exact Or.inr ⟨27, by decide, rfl, by decide⟩
  | 23, h => cases h; exact Or.inr ⟨28, by decide, rfl, by decide⟩
  | 24, h => cases h; exact Or.inr ⟨29, by decide, rfl, by decide⟩
  | 25, h => cases h; exact Or.inr ⟨30, by decide, rfl, by decide⟩
  | 26, h => cases h; exact Or.inr ⟨31, by decide, rfl, by decide⟩
  | 27, h => cases h; exact Or.inr ⟨32, by decide, rfl, by decide⟩
  | 28, h => cases h; exact Or.inr ⟨33, by decide, rfl, by decide⟩
  | 29, h => cases h; exact Or.inr ⟨34, by decide, rfl, by decide⟩
  | 30, h => cases h; exact Or.inr ⟨35, by decide, rfl, by decide⟩
  | 31, h => cases h; exact Or.inr ⟨36, by decide, rfl, by decide⟩
  | 32, h => cases h; exact Or.inr ⟨39, by decide, rfl, by decide⟩
  | k + 33, h => have := (List.getElem?_eq_some_iff.mp h).1; rw [rW_len] at this; omega
def LWc (D : va_G) (cI cZ cN cO : ClassId) (S0 mm : Nat) (d : Nat → Nat) (oo x n : Nat) (M : MS) (H : Heap) : Prop := ∃ (E : CE) (σ : CS), E.1 0 = x ∧ va_P D vwCl (cW cI cN cO E n (M.1 0 0 3) σ) H ∧ va_D (cAd S0 mm d oo) (cW cI cN cO E n (M.1 0 0 3) σ) ∧ cOK n (M.1 0 0 3) σ ∧ CR n (M.1 0 0 3) σ M
def LWr (D : va_G) (cI cZ : ClassId) (mm : Nat) (d : Nat → Nat) (n : Nat) (M : MS) (th : Int32) (H : Heap) : Prop := ∃ σ : RS, va_P D vwCl (rW cI cZ mm d σ) H ∧ va_D (rAd mm d) (rW cI cZ mm d σ) ∧ rOK n σ ∧ RR n σ 2001 0 M ∧ σ.1 1 = th
def LWo (D : va_G) (cL : ClassId) (oo : Nat) (fo : Nat → Int64) (H : Heap) : Prop := va_P D vwCl [(oo, .inl (cL, 1, .inr (.inl fo)))] H
def LWb (S0 mm : Nat) (d : Nat → Nat) (oo : Nat) (H : Heap) : Prop := (∀ q, rAd mm d q → S0 ≤ q ∧ q < H.size) ∧ ¬ rAd mm d oo ∧ S0 ≤ oo ∧ oo < H.size
/-- the law's world: the class shows M, the reference M2 -/
def LW (D : va_G) (cI cZ cN cO cL : ClassId) (s : State) (x n : Nat) (M M2 : MS) (th : Int32) (mm : Nat) (d : Nat → Nat) (oo : Nat) (fo : Nat → Int64) (H : Heap) (locs : List Loc) : Prop := LWc D cI cZ cN cO s.heap.size mm d oo x n M H ∧ LWr D cI cZ mm d n M2 th H ∧ LWo D cL oo fo H ∧ LWb s.heap.size mm d oo H ∧ va_S (fun q => s.heap.size ≤ q) s.heap H locs
/-- what stays as it is throughout the law -/
def LC (p : Program) (l : Launch) (s : State) (m : MethodId) (c : Code) (b : Nat) (D : va_G) (cI cZ cN cO cL : ClassId) : Prop := Cx p c code s m #[Value.ref b] RL D (gTyL cI cZ cN cO cL) ∧ c.maxLocals = 7 ∧ l.stackTraces = false ∧ gThr (fun q => s.heap.size ≤ q) s s.heap ∧ gThB "java/lang/IndexOutOfBoundsException" s ∧ gThB "java/lang/IllegalArgumentException" s ∧ va_Nc "java/lang/IllegalArgumentException" "java/lang/IndexOutOfBoundsException" s ∧ (∃ a, vk_R RX3 39 "there is no such node" a s) ∧ (∃ a, vk_R RX3 46 "the kind of an update is 0 .. 3" a s) ∧ (∃ a, vk_R RX3 53 "the kind of a query is 10 .. 15" a s) ∧ (∃ a, vk_R RX3 58 "there is no such message" a s) ∧ (∃ a, vk_R RX3 64 "calm takes 0 .. 2,000 messages" a s)
section LAW
variable {p : Program} {l : Launch} {e : Env} {s : State} {m : MethodId} {below : List Frame} {meth : Method} {c : Code} {b : Nat} {D : va_G} {cI cZ cN cO cL : ClassId} {H H1 : Heap} {locs locs1 : List Loc} {cells slots : Nat} {Q : State → Prop} {ls : Array Slot} {pc idx : Nat} {x n mm oo : Nat} {d : Nat → Nat} {M M2 M3 : MS} {th th1 : Int32} {fo fo1 : Nat → Int64} {y : MethodName} {bytes : ByteArray} {maxL : Nat} {ret : Option FieldType} {rm : Room} {As st0 : List Value} {S0 : Nat}
theorem LC.c4 (C : LC p l s m c b D cI cZ cN cO cL) : Cx p c code s m #[Value.ref b] RL D (gTy cI cZ cN cO) := ⟨C.1.1, C.1.2.1, C.1.2.2.1, C.1.2.2.2.1, C.1.2.2.2.2.sub [0, 1, 2, 3] rfl⟩
theorem LWc.kept (w : LWc D cI cZ cN cO S0 mm d oo x n M H) (hk : ∀ q, cAd S0 mm d oo q → q < H.size → H1[q]? = H[q]?) : LWc D cI cZ cN cO S0 mm d oo x n M H1 := by
  obtain ⟨E, σ, h1, h2, h3, h4⟩ := w
  exact ⟨E, σ, h1, h2.kept (fun k q h => hk q.1 (h3.2 k q h) (h2.lt h)), h3, h4⟩
theorem LWr.kept (w : LWr D cI cZ mm d n M th H) (hk : ∀ q, rAd mm d q → q < H.size → H1[q]? = H[q]?) : LWr D cI cZ mm d n M th H1 := by
  obtain ⟨σ, h2, h3, h4⟩ := w
  exact ⟨σ, h2.kept (fun k q h => hk q.1 (h3.2 k q h) (h2.lt h)), h3, h4⟩
theorem LWo.kept (w : LWo D cL oo fo H) (hk : oo < H.size → H1[oo]? = H[oo]?) : LWo D cL oo fo H1 := by
  refine va_P.kept w (fun k q h => ?_)
  have a1 := (List.getElem?_eq_some_iff.mp h).1
  have hlt := va_P.lt w h
  simp at a1; subst a1
  simp at h; subst h
  exact hk hlt
theorem LWb.grow (w : LWb S0 mm d oo H) (hz : H.size ≤ H1.size) : LWb S0 mm d oo H1 := ⟨fun q h => ⟨(w.1 q h).1, Nat.lt_of_lt_of_le (w.1 q h).2 hz⟩, w.2.1, w.2.2.1, Nat.lt_of_lt_of_le w.2.2.2 hz⟩
theorem LW.new (w : LW D cI cZ cN cO cL s x n M M2 th mm d oo fo H locs) : ∀ q, H.size ≤ q → cAd s.heap.size mm d oo q := fun q hq => ⟨Nat.le_trans w.2.2.2.2.1 hq, fun h => by have := (w.2.2.2.1.1 q h).2; omega, fun h => by have := w.2.2.2.1.2.2.2; omega⟩
/-- the class and the answer have moved -/
theorem LW.mk1 (w : LW D cI cZ cN cO cL s x n M M2 th mm d oo fo H locs) (hc : LWc D cI cZ cN cO s.heap.size mm d oo x n M3 H1) (ho : LWo D cL oo fo1 H1) (hz : H.size ≤ H1.size) (hk : ∀ q : Nat, q < H.size → ¬ (cAd s.heap.size mm d oo q ∨ q = oo) → H1[q]? = H[q]?) (hS : va_S (fun q => s.heap.size ≤ q) s.heap H1 locs1) : LW D cI cZ cN cO cL s x n M3 M2 th mm d oo fo1 H1 locs1 :=
  ⟨hc, w.2.1.kept (fun q h1 h2 => hk q h2 (fun z => z.elim (fun z => z.2.1 h1) (fun z => w.2.2.2.1.2.1 (by rw [← z]; exact h1)))), ho, w.2.2.2.1.grow hz, hS⟩
/-- the reference has moved -/
theorem LW.mk2 (w : LW D cI cZ cN cO cL s x n M M2 th mm d oo fo H locs) (hc : LWr D cI cZ mm d n M3 th1 H1) (hz : H.size ≤ H1.size) (hk : ∀ q : Nat, q < H.size → ¬ rAd mm d q → H1[q]? = H[q]?) (hS : va_S (fun q => s.heap.size ≤ q) s.heap H1 locs1) : LW D cI cZ cN cO cL s x n M M3 th1 mm d oo fo H1 locs1 :=
  ⟨w.1.kept (fun q h1 h2 => hk q h2 h1.2.1), hc, w.2.2.1.kept (fun h => hk oo h w.2.2.2.1.2.1), w.2.2.2.1.grow hz, hS⟩
/-- only new cells -/
theorem LW.mk3 (w : LW D cI cZ cN cO cL s x n M M2 th mm d oo fo H locs) (hz : H.size ≤ H1.size) (hk : ∀ q : Nat, q < H.size → ¬ H.size ≤ q → H1[q]? = H[q]?) (hS : va_S (fun q => s.heap.size ≤ q) s.heap H1 locs1) : LW D cI cZ cN cO cL s x n M M2 th mm d oo fo H1 locs1 :=
  ⟨w.1.kept (fun q _ h2 => hk q h2 (by omega)), w.2.1.kept (fun q _ h2 => hk q h2 (by omega)), w.2.2.1.kept (fun h => hk oo h (by omega)), w.2.2.2.1.grow hz, hS⟩
/-- the class is asked: an int -/
theorem L_cp {post : Int32 → Prop} (C : LC p l s m c b D cI cZ cN cO cL) (hls : ls.size = 7) (w : LW D cI cZ cN cO cL s x n M M2 th mm d oo fo H locs) (hM : ∀ (E : CE) (σ : CS), cOK n (M.1 0 0 3) σ → CR n (M.1 0 0 3) σ M → Met l y (.code y bytes maxL ret :: gw) rm (va_Pc (.ref (E.1 0) :: As) (cH D cI cZ cN cO (cAd s.heap.size mm d oo) E n (M.1 0 0 3) σ)) (vp_Si post) 0 0 (fun _ => False)) (h1 : Cond.methodLink RL idx y ∈ gw) (h2 : Cond.instanceMethod y ∈ gw) (h3 : Cond.selects RX3 y y ∈ gw) (h5 : Cond.code y bytes maxL ret ∈ gw)
    (hd : y.cls = RX3 ∧ y.cls ≠ "java/lang/invoke/MethodHandle" ∧ y.cls ≠ "java/lang/invoke/VarHandle" ∧ (parseMethodDescriptor y.desc).map (fun d => d.parameters.length) = some As.length) (hrc : rm.cells = 0) (hrs : rm.slots = 0) (hR : rm.frames + 1 ≤ room_1.frames ∧ 8 + (maxL + 11) + rm.locals ≤ room_1.locals) (hst : st0 = As.reverse ++ [.ref x]) (hW : 2 * (F0 m pc ls st0).monitorRoom + (([] : List Value).map fun v => v.category).sum ≤ 8) (hdg : decode code pc = .ok (.invokevirtual idx, 3)) (hf : cells + 0 ≤ room_1.cells ∧ slots + 0 ≤ room_1.slots)
    (kk : ∀ r : Int32, post r → W p l e room_1 s m #[Value.ref b] below meth c H locs cells slots Q (F0 m (pc + 3) ls [.int r])) : W p l e room_1 s m #[Value.ref b] below meth c H locs cells slots Q (F0 m pc ls st0) := by
  obtain ⟨E, σ, rfl, hP, hD, ok, hCR⟩ := w.1
  exact c_callp (As := As) (rest := []) C.c4 (c_preX3 C.c4 ⟨hP, hD, va_S.rf⟩) C.2.1 hls (hM E σ ok hCR) h1 h2 h3 kN_X3 h5 hd hrc hrs hR hst hW hdg hf kk
/-- the class is asked: a long -/
theorem L_cl {post : Int64 → Prop} (C : LC p l s m c b D cI cZ cN cO cL) (hls : ls.size = 7) (w : LW D cI cZ cN cO cL s x n M M2 th mm d oo fo H locs) (hM : ∀ (E : CE) (σ : CS), cOK n (M.1 0 0 3) σ → CR n (M.1 0 0 3) σ M → Met l y (.code y bytes maxL ret :: gw) rm (va_Pc (.ref (E.1 0) :: As) (cH D cI cZ cN cO (cAd s.heap.size mm d oo) E n (M.1 0 0 3) σ)) (vp_Sl post) 0 0 (fun _ => False)) (h1 : Cond.methodLink RL idx y ∈ gw) (h2 : Cond.instanceMethod y ∈ gw) (h3 : Cond.selects RX3 y y ∈ gw) (h5 : Cond.code y bytes maxL ret ∈ gw)
    (hd : y.cls = RX3 ∧ y.cls ≠ "java/lang/invoke/MethodHandle" ∧ y.cls ≠ "java/lang/invoke/VarHandle" ∧ (parseMethodDescriptor y.desc).map (fun d => d.parameters.length) = some As.length) (hrc : rm.cells = 0) (hrs : rm.slots = 0) (hR : rm.frames + 1 ≤ room_1.frames ∧ 8 + (maxL + 11) + rm.locals ≤ room_1.locals) (hst : st0 = As.reverse ++ [.ref x]) (hW : 2 * (F0 m pc ls st0).monitorRoom + (([] : List Value).map fun v => v.category).sum ≤ 8) (hdg : decode code pc = .ok (.invokevirtual idx, 3)) (hf : cells + 0 ≤ room_1.cells ∧ slots + 0 ≤ room_1.slots)
    (kk : ∀ r : Int64, post r → W p l e room_1 s m #[Value.ref b] below meth c H locs cells slots Q (F0 m (pc + 3) ls [.long r])) : W p l e room_1 s m #[Value.ref b] below meth c H locs cells slots Q (F0 m pc ls st0) := by
  obtain ⟨E, σ, rfl, hP, hD, ok, hCR⟩ := w.1
  exact c_calll (As := As) (rest := []) C.c4 (c_preX3 C.c4 ⟨hP, hD, va_S.rf⟩) C.2.1 hls (hM E σ ok hCR) h1 h2 h3 kN_X3 h5 hd hrc hrs hR hst hW hdg hf kk
theorem L_preR (C : LC p l s m c b D cI cZ cN cO cL) {σ : RS} (hP : va_P D vwCl (rW cI cZ mm d σ) H) (hD : va_D (rAd mm d) (rW cI cZ mm d σ)) : PreV s H RX4 mm (va_Pc (.ref mm :: As) (rH D cI cZ cN cO (rAd mm d) mm d σ)) As :=
  ⟨rH.blind, va_recv C.c4.2.2.2.2 hP (ci := 4) (q0 := 0) rfl rfl, fun U hU hW => ⟨rfl, by rw [hU]; exact hP, va_K.moved hW.alike C.c4.2.2.2.2, hD⟩⟩
def rZ (D : va_G) (cI cZ cN cO : ClassId) (mm : Nat) (d : Nat → Nat) (n : Nat) (M : MS) (th : Int32) (t : State) : Prop := ∃ σ : RS, rH D cI cZ cN cO (rAd mm d) mm d σ t ∧ rOK n σ ∧ RR n σ 2001 0 M ∧ σ.1 1 = th
/-- the reference is called: an int -/
theorem L_ri {rest : List Value} {post : Int32 → Prop} (C : LC p l s m c b D cI cZ cN cO cL) (hls : ls.size = 7) (w : LW D cI cZ cN cO cL s x n M M2 th mm d oo fo H locs) (hM : ∀ (σ : RS), rOK n σ → RR n σ 2001 0 M2 → Met l y (.code y bytes maxL ret :: gw) rm (va_Pc (.ref mm :: As) (rH D cI cZ cN cO (rAd mm d) mm d σ)) (va_Qi (fun (r : Int32) (_ : Unit) => post r) (fun _ t => rZ D cI cZ cN cO mm d n M3 th1 t) (rAd mm d)) 0 0 (rAd mm d)) (h1 : Cond.methodLink RL idx y ∈ gw) (h2 : Cond.instanceMethod y ∈ gw) (h3 : Cond.selects RX4 y y ∈ gw) (h5 : Cond.code y bytes maxL ret ∈ gw)
    (hd : y.cls = RX4 ∧ y.cls ≠ "java/lang/invoke/MethodHandle" ∧ y.cls ≠ "java/lang/invoke/VarHandle" ∧ (parseMethodDescriptor y.desc).map (fun d => d.parameters.length) = some As.length) (hrc : rm.cells = 0) (hrs : rm.slots = 0) (hR : rm.frames + 1 ≤ room_1.frames ∧ 8 + (maxL + 11) + rm.locals ≤ room_1.locals) (hst : st0 = As.reverse ++ .ref mm :: rest) (hW : 2 * (F0 m pc ls st0).monitorRoom + (rest.map fun v => v.category).sum ≤ 8) (hdg : decode code pc = .ok (.invokevirtual idx, 3)) (hf : cells + 0 ≤ room_1.cells ∧ slots + 0 ≤ room_1.slots)
    (kk : ∀ (r : Int32) (H1 : Heap) (locs1 : List Loc), post r → LW D cI cZ cN cO cL s x n M M3 th1 mm d oo fo H1 locs1 → W p l e room_1 s m #[Value.ref b] below meth c H1 locs1 cells slots Q (F0 m (pc + 3) ls (.int r :: rest))) : W p l e room_1 s m #[Value.ref b] below meth c H locs cells slots Q (F0 m pc ls st0) := by
  obtain ⟨σ, hP, hD, ok, hRR, hth⟩ := w.2.1
  exact va_calli (va_runV (As := As) (rest := rest) ⟨C.1.1, C.1.2.1, C.2.1, C.1.2.2.1, C.1.2.2.2.1⟩ (hM σ ok hRR) (cwV As.length C.1.2.2.2.1 (gw_V h1 h2 h3 kN_X4 h5) rfl hrc hrs hd hR) (L_preR C hP hD) rfl rfl hls hst hW hdg hf) w.2.2.2.2 (fun q _ h => (w.2.2.2.1.1 q h).1) (fun q h => (w.2.2.2.1.1 q h).1) (fun r u t H1 locs1 ht hvm hp hB hz hk hS => kk r H1 locs1 hp (w.mk2 (by obtain ⟨σ1, h1, h2⟩ := hB; exact ⟨σ1, by rw [← ht]; exact h1.1, h1.2.2, h2⟩) hz hk hS))
/-- the reference is called: a long -/
theorem L_rl {rest : List Value} {post : Int64 → Prop} (C : LC p l s m c b D cI cZ cN cO cL) (hls : ls.size = 7) (w : LW D cI cZ cN cO cL s x n M M2 th mm d oo fo H locs) (hM : ∀ (σ : RS), rOK n σ → RR n σ 2001 0 M2 → Met l y (.code y bytes maxL ret :: gw) rm (va_Pc (.ref mm :: As) (rH D cI cZ cN cO (rAd mm d) mm d σ)) (va_Ql (fun (r : Int64) (_ : Unit) => post r) (fun _ t => rZ D cI cZ cN cO mm d n M3 th1 t) (rAd mm d)) 0 0 (rAd mm d)) (h1 : Cond.methodLink RL idx y ∈ gw) (h2 : Cond.instanceMethod y ∈ gw) (h3 : Cond.selects RX4 y y ∈ gw) (h5 : Cond.code y bytes maxL ret ∈ gw)
    (hd : y.cls = RX4 ∧ y.cls ≠ "java/lang/invoke/MethodHandle" ∧ y.cls ≠ "java/lang/invoke/VarHandle" ∧ (parseMethodDescriptor y.desc).map (fun d => d.parameters.length) = some As.length) (hrc : rm.cells = 0) (hrs : rm.slots = 0) (hR : rm.frames + 1 ≤ room_1.frames ∧ 8 + (maxL + 11) + rm.locals ≤ room_1.locals) (hst : st0 = As.reverse ++ .ref mm :: rest) (hW : 2 * (F0 m pc ls st0).monitorRoom + (rest.map fun v => v.category).sum ≤ 8) (hdg : decode code pc = .ok (.invokevirtual idx, 3)) (hf : cells + 0 ≤ room_1.cells ∧ slots + 0 ≤ room_1.slots)
    (kk : ∀ (r : Int64) (H1 : Heap) (locs1 : List Loc), post r → LW D cI cZ cN cO cL s x n M M3 th1 mm d oo fo H1 locs1 → W p l e room_1 s m #[Value.ref b] below meth c H1 locs1 cells slots Q (F0 m (pc + 3) ls (.long r :: rest))) : W p l e room_1 s m #[Value.ref b] below meth c H locs cells slots Q (F0 m pc ls st0) := by
  obtain ⟨σ, hP, hD, ok, hRR, hth⟩ := w.2.1
  exact va_calll (va_runV (As := As) (rest := rest) ⟨C.1.1, C.1.2.1, C.2.1, C.1.2.2.1, C.1.2.2.2.1⟩ (hM σ ok hRR) (cwV As.length C.1.2.2.2.1 (gw_V h1 h2 h3 kN_X4 h5) rfl hrc hrs hd hR) (L_preR C hP hD) rfl rfl hls hst hW hdg hf) w.2.2.2.2 (fun q _ h => (w.2.2.2.1.1 q h).1) (fun q h => (w.2.2.2.1.1 q h).1) (fun r u t H1 locs1 ht hvm hp hB hz hk hS => kk r H1 locs1 hp (w.mk2 (by obtain ⟨σ1, h1, h2⟩ := hB; exact ⟨σ1, by rw [← ht]; exact h1.1, h1.2.2, h2⟩) hz hk hS))
set_option maxHeartbeats 4000000 in
set_option maxRecDepth 100000 in
theorem L_update_ret {p0 p1 p2 p3 : Int32} {mc ms : Nat} {v : Int32} (C : LC p l s m c b D cI cZ cN cO cL) (hls : ls.size = 7) (w : LW D cI cZ cN cO cL s x n M M2 th mm d oo fo H locs) (hM : ∀ (E : CE) (σ : CS), cOK n (M.1 0 0 3) σ → CR n (M.1 0 0 3) σ M → Met l yX3_update (.code yX3_update cX3_update 5 (some .int) :: gw) ({ frames := 4, cells := mc, slots := ms, locals := 98 }) (va_Pc (.ref (E.1 0) :: [.int p0, .int p1, .int p2, .int p3]) (cG D cI cZ cN cO (cAd s.heap.size mm d oo) E n (M.1 0 0 3) σ)) (va_Qi (fun (r : Int32) (_ : Unit) => r = v) (fun _ t => ∃ (E1 : CE) (bg1 : Nat) (σ1 : CS), (E1.1 = E.1 ∧ bg1 = M3.1 0 0 3 ∧ cOK n bg1 σ1 ∧ CR n bg1 σ1 M3) ∧ cH D cI cZ cN cO (cAd s.heap.size mm d oo) E1 n bg1 σ1 t) (cAd s.heap.size mm d oo)) mc ms (cAd s.heap.size mm d oo)) (hmc : mc ≤ 2) (hms : ms ≤ 43) (h1 : Cond.methodLink RL idx yL_update ∈ gw) (hdg : decode code pc = .ok (.invokestatic idx, 3)) (hf : cells + 2 ≤ room_1.cells ∧ slots + 43 ≤ room_1.slots)
    (kk : ∀ (H1 : Heap) (locs1 : List Loc) (fo1 : Nat → Int64), fo1 0 = v.toInt64 → LW D cI cZ cN cO cL s x n M3 M2 th mm d oo fo1 H1 locs1 → W p l e room_1 s m #[Value.ref b] below meth c H1 locs1 (cells + 2) (slots + 43) Q (F0 m (pc + 3) ls [.int 0])) : W p l e room_1 s m #[Value.ref b] below meth c H locs cells slots Q (F0 m pc ls [.ref oo, .int p3, .int p2, .int p1, .int p0, .ref x]) := by
  have hnew := w.new
  obtain ⟨E, σ, rfl, hP, hD, ok, hCR⟩ := id w.1
  have hoo : ¬ cAd s.heap.size mm d oo oo := fun h => h.2.2 rfl
  refine va_calli (vx_runSW (As := [.ref ((E.1 0)), .int p0, .int p1, .int p2, .int p3, .ref oo]) (rest := []) ⟨C.1.1, C.1.2.1, C.2.1, C.1.2.2.1, C.1.2.2.2.1⟩ (h_update_ret l D cI cZ cN cO cL (cAd s.heap.size mm d oo) E n (M.1 0 0 3) σ p0 p1 p2 p3 oo fo (hM E σ ok hCR) hoo) (vx_cwSW 6 C.1.2.2.2.1 (gw_SW h1 kT_L_update kN_L kW_L_update) rfl rfl rfl (by decide +kernel) ⟨Nat.le_of_ble_eq_true rfl, Nat.le_of_ble_eq_true rfl⟩) ⟨fun a U g mk q => ⟨q.1, (cG.blind (av := [.ref ((E.1 0)), .int p0, .int p1, .int p2, .int p3, .ref oo]) a U g mk ⟨q.1, q.2.1⟩).2, q.2.2.1, va_K.moved (u := U) (U := U.calling g mk a) (Vm.Alike.refl U.vm) q.2.2.2⟩, fun U hU hW => ⟨rfl, ⟨⟨by rw [hU]; exact hP, va_K.moved hW.alike C.c4.2.2.2.2, hD⟩, by rw [hU]; exact hnew⟩, by rw [hU]; exact w.2.2.1, va_K.moved hW.alike C.1.2.2.2.2⟩⟩ rfl rfl hls rfl (lv_room (Nat.le_of_ble_eq_true rfl)) hdg ⟨by omega, by omega⟩) w.2.2.2.2 (fun q _ h => h.elim (fun h => h.1) (fun h => by rw [h]; exact w.2.2.2.1.2.2.1)) (fun q h => h.elim (fun h => h.1) (fun h => by rw [h]; exact w.2.2.2.1.2.2.1)) (fun r u t H1 locs1 ht hvm hp hB hz hk hS => ?_)
  obtain ⟨E1, bg1, σ1, v1, ⟨e1, e2, e3, e4⟩, e5, e6, e7⟩ := hB
  subst hp e2 e5
  rw [ht] at e7
  refine W.widen (k := cells + 2) (n := slots + 43) (by omega) (by omega) (kk H1 locs1 _ ?_ (w.mk1 ⟨E1, σ1, by rw [e1], by rw [← ht]; exact e6.1, e6.2.2, e3, e4⟩ e7 hz hk hS))
  simp [vp_updL]
set_option maxHeartbeats 4000000 in
set_option maxRecDepth 100000 in
theorem L_query_ret {p0 p1 p2 : Int32} {mc ms : Nat} {v : Int32} (C : LC p l s m c b D cI cZ cN cO cL) (hls : ls.size = 7) (w : LW D cI cZ cN cO cL s x n M M2 th mm d oo fo H locs) (hM : ∀ (E : CE) (σ : CS), cOK n (M.1 0 0 3) σ → CR n (M.1 0 0 3) σ M → Met l yX3_query (.code yX3_query cX3_query 4 (some .int) :: gw) ({ frames := 4, cells := mc, slots := ms, locals := 98 }) (va_Pc (.ref (E.1 0) :: [.int p0, .int p1, .int p2]) (cG D cI cZ cN cO (cAd s.heap.size mm d oo) E n (M.1 0 0 3) σ)) (va_Qi (fun (r : Int32) (_ : Unit) => r = v) (fun _ t => ∃ (E1 : CE) (bg1 : Nat) (σ1 : CS), (E1.1 = E.1 ∧ bg1 = M3.1 0 0 3 ∧ cOK n bg1 σ1 ∧ CR n bg1 σ1 M3) ∧ cH D cI cZ cN cO (cAd s.heap.size mm d oo) E1 n bg1 σ1 t) (cAd s.heap.size mm d oo)) mc ms (cAd s.heap.size mm d oo)) (hmc : mc ≤ 2) (hms : ms ≤ 43) (h1 : Cond.methodLink RL idx yL_query ∈ gw) (hdg : decode code pc = .ok (.invokestatic idx, 3)) (hf : cells + 2 ≤ room_1.cells ∧ slots + 43 ≤ room_1.slots)
    (kk : ∀ (H1 : Heap) (locs1 : List Loc) (fo1 : Nat → Int64), fo1 0 = v.toInt64 → LW D cI cZ cN cO cL s x n M3 M2 th mm d oo fo1 H1 locs1 → W p l e room_1 s m #[Value.ref b] below meth c H1 locs1 (cells + 2) (slots + 43) Q (F0 m (pc + 3) ls [.int 0])) : W p l e room_1 s m #[Value.ref b] below meth c H locs cells slots Q (F0 m pc ls [.ref oo, .int p2, .int p1, .int p0, .ref x]) := by
  have hnew := w.new
  obtain ⟨E, σ, rfl, hP, hD, ok, hCR⟩ := id w.1
  have hoo : ¬ cAd s.heap.size mm d oo oo := fun h => h.2.2 rfl
  refine va_calli (vx_runSW (As := [.ref ((E.1 0)), .int p0, .int p1, .int p2, .ref oo]) (rest := []) ⟨C.1.1, C.1.2.1, C.2.1, C.1.2.2.1, C.1.2.2.2.1⟩ (h_query_ret l D cI cZ cN cO cL (cAd s.heap.size mm d oo) E n (M.1 0 0 3) σ p0 p1 p2 oo fo (hM E σ ok hCR) hoo) (vx_cwSW 5 C.1.2.2.2.1 (gw_SW h1 kT_L_query kN_L kW_L_query) rfl rfl rfl (by decide +kernel) ⟨Nat.le_of_ble_eq_true rfl, Nat.le_of_ble_eq_true rfl⟩) ⟨fun a U g mk q => ⟨q.1, (cG.blind (av := [.ref ((E.1 0)), .int p0, .int p1, .int p2, .ref oo]) a U g mk ⟨q.1, q.2.1⟩).2, q.2.2.1, va_K.moved (u := U) (U := U.calling g mk a) (Vm.Alike.refl U.vm) q.2.2.2⟩, fun U hU hW => ⟨rfl, ⟨⟨by rw [hU]; exact hP, va_K.moved hW.alike C.c4.2.2.2.2, hD⟩, by rw [hU]; exact hnew⟩, by rw [hU]; exact w.2.2.1, va_K.moved hW.alike C.1.2.2.2.2⟩⟩ rfl rfl hls rfl (lv_room (Nat.le_of_ble_eq_true rfl)) hdg ⟨by omega, by omega⟩) w.2.2.2.2 (fun q _ h => h.elim (fun h => h.1) (fun h => by rw [h]; exact w.2.2.2.1.2.2.1)) (fun q h => h.elim (fun h => h.1) (fun h => by rw [h]; exact w.2.2.2.1.2.2.1)) (fun r u t H1 locs1 ht hvm hp hB hz hk hS => ?_)
  obtain ⟨E1, bg1, σ1, v1, ⟨e1, e2, e3, e4⟩, e5, e6, e7⟩ := hB
  subst hp e2 e5
  rw [ht] at e7
  refine W.widen (k := cells + 2) (n := slots + 43) (by omega) (by omega) (kk H1 locs1 _ ?_ (w.mk1 ⟨E1, σ1, by rw [e1], by rw [← ht]; exact e6.1, e6.2.2, e3, e4⟩ e7 hz hk hS))
  simp [vp_updL]
set_option maxHeartbeats 4000000 in
set_option maxRecDepth 100000 in
theorem L_deliver_ret {p0 : Int32} {mc ms : Nat} {v : Int32} (C : LC p l s m c b D cI cZ cN cO cL) (hls : ls.size = 7) (w : LW D cI cZ cN cO cL s x n M M2 th mm d oo fo H locs) (hM : ∀ (E : CE) (σ : CS), cOK n (M.1 0 0 3) σ → CR n (M.1 0 0 3) σ M → Met l yX3_deliver (.code yX3_deliver cX3_deliver 2 (some .int) :: gw) ({ frames := 7, cells := mc, slots := ms, locals := 185 }) (va_Pc (.ref (E.1 0) :: [.int p0]) (cG D cI cZ cN cO (cAd s.heap.size mm d oo) E n (M.1 0 0 3) σ)) (va_Qi (fun (r : Int32) (_ : Unit) => r = v) (fun _ t => ∃ (E1 : CE) (bg1 : Nat) (σ1 : CS), (E1.1 = E.1 ∧ bg1 = M3.1 0 0 3 ∧ cOK n bg1 σ1 ∧ CR n bg1 σ1 M3) ∧ cH D cI cZ cN cO (cAd s.heap.size mm d oo) E1 n bg1 σ1 t) (cAd s.heap.size mm d oo)) mc ms (cAd s.heap.size mm d oo)) (hmc : mc ≤ 2) (hms : ms ≤ 43) (h1 : Cond.methodLink RL idx yL_deliver ∈ gw) (hdg : decode code pc = .ok (.invokestatic idx, 3)) (hf : cells + 2 ≤ room_1.cells ∧ slots + 43 ≤ room_1.slots)
    (kk : ∀ (H1 : Heap) (locs1 : List Loc) (fo1 : Nat → Int64), fo1 0 = v.toInt64 → LW D cI cZ cN cO cL s x n M3 M2 th mm d oo fo1 H1 locs1 → W p l e room_1 s m #[Value.ref b] below meth c H1 locs1 (cells + 2) (slots + 43) Q (F0 m (pc + 3) ls [.int 0])) : W p l e room_1 s m #[Value.ref b] below meth c H locs cells slots Q (F0 m pc ls [.ref oo, .int p0, .ref x]) := by
  have hnew := w.new
  obtain ⟨E, σ, rfl, hP, hD, ok, hCR⟩ := id w.1
  have hoo : ¬ cAd s.heap.size mm d oo oo := fun h => h.2.2 rfl
  refine va_calli (vx_runSW (As := [.ref ((E.1 0)), .int p0, .ref oo]) (rest := []) ⟨C.1.1, C.1.2.1, C.2.1, C.1.2.2.1, C.1.2.2.2.1⟩ (h_deliver_ret l D cI cZ cN cO cL (cAd s.heap.size mm d oo) E n (M.1 0 0 3) σ p0 oo fo (hM E σ ok hCR) hoo) (vx_cwSW 3 C.1.2.2.2.1 (gw_SW h1 kT_L_deliver kN_L kW_L_deliver) rfl rfl rfl (by decide +kernel) ⟨Nat.le_of_ble_eq_true rfl, Nat.le_of_ble_eq_true rfl⟩) ⟨fun a U g mk q => ⟨q.1, (cG.blind (av := [.ref ((E.1 0)), .int p0, .ref oo]) a U g mk ⟨q.1, q.2.1⟩).2, q.2.2.1, va_K.moved (u := U) (U := U.calling g mk a) (Vm.Alike.refl U.vm) q.2.2.2⟩, fun U hU hW => ⟨rfl, ⟨⟨by rw [hU]; exact hP, va_K.moved hW.alike C.c4.2.2.2.2, hD⟩, by rw [hU]; exact hnew⟩, by rw [hU]; exact w.2.2.1, va_K.moved hW.alike C.1.2.2.2.2⟩⟩ rfl rfl hls rfl (lv_room (Nat.le_of_ble_eq_true rfl)) hdg ⟨by omega, by omega⟩) w.2.2.2.2 (fun q _ h => h.elim (fun h => h.1) (fun h => by rw [h]; exact w.2.2.2.1.2.2.1)) (fun q h => h.elim (fun h => h.1) (fun h => by rw [h]; exact w.2.2.2.1.2.2.1)) (fun r u t H1 locs1 ht hvm hp hB hz hk hS => ?_)
  obtain ⟨E1, bg1, σ1, v1, ⟨e1, e2, e3, e4⟩, e5, e6, e7⟩ := hB
  subst hp e2 e5
  rw [ht] at e7
  refine W.widen (k := cells + 2) (n := slots + 43) (by omega) (by omega) (kk H1 locs1 _ ?_ (w.mk1 ⟨E1, σ1, by rw [e1], by rw [← ht]; exact e6.1, e6.2.2, e3, e4⟩ e7 hz hk hS))
  simp [vp_updL]
set_option maxHeartbeats 4000000 in
set_option maxRecDepth 100000 in
theorem L_calm_ret {p0 : Int32} {mc ms : Nat} {v : Int32} (C : LC p l s m c b D cI cZ cN cO cL) (hls : ls.size = 7) (w : LW D cI cZ cN cO cL s x n M M2 th mm d oo fo H locs) (hM : ∀ (E : CE) (σ : CS), cOK n (M.1 0 0 3) σ → CR n (M.1 0 0 3) σ M → Met l yX3_calm (.code yX3_calm cX3_calm 3 (some .int) :: gw) ({ frames := 7, cells := mc, slots := ms, locals := 185 }) (va_Pc (.ref (E.1 0) :: [.int p0]) (cG D cI cZ cN cO (cAd s.heap.size mm d oo) E n (M.1 0 0 3) σ)) (va_Qi (fun (r : Int32) (_ : Unit) => r = v) (fun _ t => ∃ (E1 : CE) (bg1 : Nat) (σ1 : CS), (E1.1 = E.1 ∧ bg1 = M3.1 0 0 3 ∧ cOK n bg1 σ1 ∧ CR n bg1 σ1 M3) ∧ cH D cI cZ cN cO (cAd s.heap.size mm d oo) E1 n bg1 σ1 t) (cAd s.heap.size mm d oo)) mc ms (cAd s.heap.size mm d oo)) (hmc : mc ≤ 2) (hms : ms ≤ 43) (h1 : Cond.methodLink RL idx yL_calm ∈ gw) (hdg : decode code pc = .ok (.invokestatic idx, 3)) (hf : cells + 2 ≤ room_1.cells ∧ slots + 43 ≤ room_1.slots)
    (kk : ∀ (H1 : Heap) (locs1 : List Loc) (fo1 : Nat → Int64), fo1 0 = v.toInt64 → LW D cI cZ cN cO cL s x n M3 M2 th mm d oo fo1 H1 locs1 → W p l e room_1 s m #[Value.ref b] below meth c H1 locs1 (cells + 2) (slots + 43) Q (F0 m (pc + 3) ls [.int 0])) : W p l e room_1 s m #[Value.ref b] below meth c H locs cells slots Q (F0 m pc ls [.ref oo, .int p0, .ref x]) := by
  have hnew := w.new
  obtain ⟨E, σ, rfl, hP, hD, ok, hCR⟩ := id w.1
  have hoo : ¬ cAd s.heap.size mm d oo oo := fun h => h.2.2 rfl
  refine va_calli (vx_runSW (As := [.ref ((E.1 0)), .int p0, .ref oo]) (rest := []) ⟨C.1.1, C.1.2.1, C.2.1, C.1.2.2.1, C.1.2.2.2.1⟩ (h_calm_ret l D cI cZ cN cO cL (cAd s.heap.size mm d oo) E n (M.1 0 0 3) σ p0 oo fo (hM E σ ok hCR) hoo) (vx_cwSW 3 C.1.2.2.2.1 (gw_SW h1 kT_L_calm kN_L kW_L_calm) rfl rfl rfl (by decide +kernel) ⟨Nat.le_of_ble_eq_true rfl, Nat.le_of_ble_eq_true rfl⟩) ⟨fun a U g mk q => ⟨q.1, (cG.blind (av := [.ref ((E.1 0)), .int p0, .ref oo]) a U g mk ⟨q.1, q.2.1⟩).2, q.2.2.1, va_K.moved (u := U) (U := U.calling g mk a) (Vm.Alike.refl U.vm) q.2.2.2⟩, fun U hU hW => ⟨rfl, ⟨⟨by rw [hU]; exact hP, va_K.moved hW.alike C.c4.2.2.2.2, hD⟩, by rw [hU]; exact hnew⟩, by rw [hU]; exact w.2.2.1, va_K.moved hW.alike C.1.2.2.2.2⟩⟩ rfl rfl hls rfl (lv_room (Nat.le_of_ble_eq_true rfl)) hdg ⟨by omega, by omega⟩) w.2.2.2.2 (fun q _ h => h.elim (fun h => h.1) (fun h => by rw [h]; exact w.2.2.2.1.2.2.1)) (fun q h => h.elim (fun h => h.1) (fun h => by rw [h]; exact w.2.2.2.1.2.2.1)) (fun r u t H1 locs1 ht hvm hp hB hz hk hS => ?_)
  obtain ⟨E1, bg1, σ1, v1, ⟨e1, e2, e3, e4⟩, e5, e6, e7⟩ := hB
  subst hp e2 e5
  rw [ht] at e7
  refine W.widen (k := cells + 2) (n := slots + 43) (by omega) (by omega) (kk H1 locs1 _ ?_ (w.mk1 ⟨E1, σ1, by rw [e1], by rw [← ht]; exact e6.1, e6.2.2, e3, e4⟩ e7 hz hk hS))
  simp [vp_updL]
set_option maxHeartbeats 4000000 in
set_option maxRecDepth 100000 in
theorem L_crash_ret {p0 : Int32} {mc ms : Nat} {v : Int32} (C : LC p l s m c b D cI cZ cN cO cL) (hls : ls.size = 7) (w : LW D cI cZ cN cO cL s x n M M2 th mm d oo fo H locs) (hM : ∀ (E : CE) (σ : CS), cOK n (M.1 0 0 3) σ → CR n (M.1 0 0 3) σ M → Met l yX3_crash (.code yX3_crash cX3_crash 3 (some .boolean) :: gw) ({ frames := 1, cells := mc, slots := ms, locals := 21 }) (va_Pc (.ref (E.1 0) :: [.int p0]) (cG D cI cZ cN cO (cAd s.heap.size mm d oo) E n (M.1 0 0 3) σ)) (va_Qi (fun (r : Int32) (_ : Unit) => r = v) (fun _ t => ∃ (E1 : CE) (bg1 : Nat) (σ1 : CS), (E1.1 = E.1 ∧ bg1 = M3.1 0 0 3 ∧ cOK n bg1 σ1 ∧ CR n bg1 σ1 M3) ∧ cH D cI cZ cN cO (cAd s.heap.size mm d oo) E1 n bg1 σ1 t) (cAd s.heap.size mm d oo)) mc ms (cAd s.heap.size mm d oo)) (hmc : mc ≤ 2) (hms : ms ≤ 43) (h1 : Cond.methodLink RL idx yL_crash ∈ gw) (hdg : decode code pc = .ok (.invokestatic idx, 3)) (hf : cells + 2 ≤ room_1.cells ∧ slots + 43 ≤ room_1.slots)
    (kk : ∀ (H1 : Heap) (locs1 : List Loc) (fo1 : Nat → Int64), fo1 0 = (if v = 0 then 0 else 1) → LW D cI cZ cN cO cL s x n M3 M2 th mm d oo fo1 H1 locs1 → W p l e room_1 s m #[Value.ref b] below meth c H1 locs1 (cells + 2) (slots + 43) Q (F0 m (pc + 3) ls [.int 0])) : W p l e room_1 s m #[Value.ref b] below meth c H locs cells slots Q (F0 m pc ls [.ref oo, .int p0, .ref x]) := by
  have hnew := w.new
  obtain ⟨E, σ, rfl, hP, hD, ok, hCR⟩ := id w.1
  have hoo : ¬ cAd s.heap.size mm d oo oo := fun h => h.2.2 rfl
  refine va_calli (vx_runSW (As := [.ref ((E.1 0)), .int p0, .ref oo]) (rest := []) ⟨C.1.1, C.1.2.1, C.2.1, C.1.2.2.1, C.1.2.2.2.1⟩ (h_crash_ret l D cI cZ cN cO cL (cAd s.heap.size mm d oo) E n (M.1 0 0 3) σ p0 oo fo (hM E σ ok hCR) hoo) (vx_cwSW 3 C.1.2.2.2.1 (gw_SW h1 kT_L_crash kN_L kW_L_crash) rfl rfl rfl (by decide +kernel) ⟨Nat.le_of_ble_eq_true rfl, Nat.le_of_ble_eq_true rfl⟩) ⟨fun a U g mk q => ⟨q.1, (cG.blind (av := [.ref ((E.1 0)), .int p0, .ref oo]) a U g mk ⟨q.1, q.2.1⟩).2, q.2.2.1, va_K.moved (u := U) (U := U.calling g mk a) (Vm.Alike.refl U.vm) q.2.2.2⟩, fun U hU hW => ⟨rfl, ⟨⟨by rw [hU]; exact hP, va_K.moved hW.alike C.c4.2.2.2.2, hD⟩, by rw [hU]; exact hnew⟩, by rw [hU]; exact w.2.2.1, va_K.moved hW.alike C.1.2.2.2.2⟩⟩ rfl rfl hls rfl (lv_room (Nat.le_of_ble_eq_true rfl)) hdg ⟨by omega, by omega⟩) w.2.2.2.2 (fun q _ h => h.elim (fun h => h.1) (fun h => by rw [h]; exact w.2.2.2.1.2.2.1)) (fun q h => h.elim (fun h => h.1) (fun h => by rw [h]; exact w.2.2.2.1.2.2.1)) (fun r u t H1 locs1 ht hvm hp hB hz hk hS => ?_)
  obtain ⟨E1, bg1, σ1, v1, ⟨e1, e2, e3, e4⟩, e5, e6, e7⟩ := hB
  subst hp e2 e5
  rw [ht] at e7
  refine W.widen (k := cells + 2) (n := slots + 43) (by omega) (by omega) (kk H1 locs1 _ ?_ (w.mk1 ⟨E1, σ1, by rw [e1], by rw [← ht]; exact e6.1, e6.2.2, e3, e4⟩ e7 hz hk hS))
  simp [vp_updL]
set_option maxHeartbeats 4000000 in
set_option maxRecDepth 100000 in
theorem L_update_no {p0 p1 p2 p3 : Int32} (C : LC p l s m c b D cI cZ cN cO cL) (hls : ls.size = 7) (w : LW D cI cZ cN cO cL s x n M M2 th mm d oo fo H locs) (hno : ¬ isN n p0) (h1 : Cond.methodLink RL idx yL_update ∈ gw) (hdg : decode code pc = .ok (.invokestatic idx, 3)) (hf : cells + 2 ≤ room_1.cells ∧ slots + 43 ≤ room_1.slots)
    (kk : ∀ (H1 : Heap) (locs1 : List Loc), LW D cI cZ cN cO cL s x n M M2 th mm d oo fo H1 locs1 → W p l e room_1 s m #[Value.ref b] below meth c H1 locs1 (cells + 2) (slots + 43) Q (F0 m (pc + 3) ls [.int 1])) : W p l e room_1 s m #[Value.ref b] below meth c H locs cells slots Q (F0 m pc ls [.ref oo, .int p3, .int p2, .int p1, .int p0, .ref x]) := by
  obtain ⟨sa, hR⟩ := C.2.2.2.2.2.2.2.1
  obtain ⟨E, σ, rfl, hP, hD, ok, hCR⟩ := id w.1
  have hTh := (C.2.2.2.1.kept (fun a h1 h2 => w.2.2.2.2.2.1 a h1 h2)).narrow (B := fun q => H.size ≤ q) (fun q h => Nat.le_trans w.2.2.2.2.1 h)
  refine va_calli (vx_runSW (As := [.ref ((E.1 0)), .int p0, .int p1, .int p2, .int p3, .ref oo]) (rest := []) ⟨C.1.1, C.1.2.1, C.2.1, C.1.2.2.1, C.1.2.2.2.1⟩ (h_update_no l D cI cZ cN cO (cAd s.heap.size mm d oo) E n (M.1 0 0 3) σ p0 p1 p2 p3 oo H.size sa ok C.2.2.1 hno) (vx_cwSW 6 C.1.2.2.2.1 (gw_SW h1 kT_L_update kN_L kW_L_update) rfl rfl rfl (by decide +kernel) ⟨Nat.le_of_ble_eq_true rfl, Nat.le_of_ble_eq_true rfl⟩) ⟨fun a U g mk q => by obtain ⟨q0, q1, qP, qR, qB, qT⟩ := q; exact ⟨q0, q1, ⟨qP.1, va_K.moved (u := U) (U := U.calling g mk a) (Vm.Alike.refl U.vm) qP.2.1, qP.2.2⟩, vk_R.same rfl qR, gThB.same (u := U) (U := U.calling g mk a) rfl qB, gThr.moved (u := U) (U := U.calling g mk a) (Vm.Alike.refl U.vm) qT⟩, fun U hU hW => ⟨rfl, by rw [hU], ⟨by rw [hU]; exact hP, va_K.moved hW.alike C.c4.2.2.2.2, hD⟩, vk_R.warm hW hR, gThB.warm hW C.2.2.2.2.1, (by rw [hU]; exact gThr.moved hW.alike hTh)⟩⟩ rfl rfl hls rfl (lv_room (Nat.le_of_ble_eq_true rfl)) hdg ⟨by omega, by omega⟩) w.2.2.2.2 (fun q h1 h2 => Nat.le_trans w.2.2.2.2.1 h2) (fun q h2 => Nat.le_trans w.2.2.2.2.1 h2) (fun r u t H1 locs1 ht hvm hp hB hz hk hS => ?_)
  subst hp
  exact W.widen (k := cells + 2) (n := slots + 43) (by omega) (by omega) (kk H1 locs1 (w.mk3 hz hk hS))
set_option maxHeartbeats 4000000 in
set_option maxRecDepth 100000 in
theorem L_update_bad {p0 p1 p2 p3 : Int32} (C : LC p l s m c b D cI cZ cN cO cL) (hls : ls.size = 7) (w : LW D cI cZ cN cO cL s x n M M2 th mm d oo fo H locs) (hy : isN n p0) (hbad : p1 < 0 ∨ ¬ p1 ≤ 3) (h1 : Cond.methodLink RL idx yL_update ∈ gw) (hdg : decode code pc = .ok (.invokestatic idx, 3)) (hf : cells + 2 ≤ room_1.cells ∧ slots + 43 ≤ room_1.slots)
    (kk : ∀ (H1 : Heap) (locs1 : List Loc), LW D cI cZ cN cO cL s x n M M2 th mm d oo fo H1 locs1 → W p l e room_1 s m #[Value.ref b] below meth c H1 locs1 (cells + 2) (slots + 43) Q (F0 m (pc + 3) ls [.int 2])) : W p l e room_1 s m #[Value.ref b] below meth c H locs cells slots Q (F0 m pc ls [.ref oo, .int p3, .int p2, .int p1, .int p0, .ref x]) := by
  obtain ⟨sa, hR⟩ := C.2.2.2.2.2.2.2.2.1
  obtain ⟨E, σ, rfl, hP, hD, ok, hCR⟩ := id w.1
  have hTh := (C.2.2.2.1.kept (fun a h1 h2 => w.2.2.2.2.2.1 a h1 h2)).narrow (B := fun q => H.size ≤ q) (fun q h => Nat.le_trans w.2.2.2.2.1 h)
  refine va_calli (vx_runSW (As := [.ref ((E.1 0)), .int p0, .int p1, .int p2, .int p3, .ref oo]) (rest := []) ⟨C.1.1, C.1.2.1, C.2.1, C.1.2.2.1, C.1.2.2.2.1⟩ (h_update_bad l D cI cZ cN cO (cAd s.heap.size mm d oo) E n (M.1 0 0 3) σ p0 p1 p2 p3 oo H.size sa ok C.2.2.1 hy hbad) (vx_cwSW 6 C.1.2.2.2.1 (gw_SW h1 kT_L_update kN_L kW_L_update) rfl rfl rfl (by decide +kernel) ⟨Nat.le_of_ble_eq_true rfl, Nat.le_of_ble_eq_true rfl⟩) ⟨fun a U g mk q => by obtain ⟨q0, q1, qP, qR, qB, qT, qN⟩ := q; exact ⟨q0, q1, ⟨qP.1, va_K.moved (u := U) (U := U.calling g mk a) (Vm.Alike.refl U.vm) qP.2.1, qP.2.2⟩, vk_R.same rfl qR, gThB.same (u := U) (U := U.calling g mk a) rfl qB, gThr.moved (u := U) (U := U.calling g mk a) (Vm.Alike.refl U.vm) qT, qN.moved (u := U) (U := U.calling g mk a) (Vm.Alike.refl U.vm)⟩, fun U hU hW => ⟨rfl, by rw [hU], ⟨by rw [hU]; exact hP, va_K.moved hW.alike C.c4.2.2.2.2, hD⟩, vk_R.warm hW hR, gThB.warm hW C.2.2.2.2.2.1, (by rw [hU]; exact gThr.moved hW.alike hTh), va_Nc.moved hW.alike C.2.2.2.2.2.2.1⟩⟩ rfl rfl hls rfl (lv_room (Nat.le_of_ble_eq_true rfl)) hdg ⟨by omega, by omega⟩) w.2.2.2.2 (fun q h1 h2 => Nat.le_trans w.2.2.2.2.1 h2) (fun q h2 => Nat.le_trans w.2.2.2.2.1 h2) (fun r u t H1 locs1 ht hvm hp hB hz hk hS => ?_)
  subst hp
  exact W.widen (k := cells + 2) (n := slots + 43) (by omega) (by omega) (kk H1 locs1 (w.mk3 hz hk hS))
set_option maxHeartbeats 4000000 in
set_option maxRecDepth 100000 in
theorem L_query_no {p0 p1 p2 : Int32} (C : LC p l s m c b D cI cZ cN cO cL) (hls : ls.size = 7) (w : LW D cI cZ cN cO cL s x n M M2 th mm d oo fo H locs) (hno : ¬ isN n p0) (h1 : Cond.methodLink RL idx yL_query ∈ gw) (hdg : decode code pc = .ok (.invokestatic idx, 3)) (hf : cells + 2 ≤ room_1.cells ∧ slots + 43 ≤ room_1.slots)
    (kk : ∀ (H1 : Heap) (locs1 : List Loc), LW D cI cZ cN cO cL s x n M M2 th mm d oo fo H1 locs1 → W p l e room_1 s m #[Value.ref b] below meth c H1 locs1 (cells + 2) (slots + 43) Q (F0 m (pc + 3) ls [.int 1])) : W p l e room_1 s m #[Value.ref b] below meth c H locs cells slots Q (F0 m pc ls [.ref oo, .int p2, .int p1, .int p0, .ref x]) := by
  obtain ⟨sa, hR⟩ := C.2.2.2.2.2.2.2.1
  obtain ⟨E, σ, rfl, hP, hD, ok, hCR⟩ := id w.1
  have hTh := (C.2.2.2.1.kept (fun a h1 h2 => w.2.2.2.2.2.1 a h1 h2)).narrow (B := fun q => H.size ≤ q) (fun q h => Nat.le_trans w.2.2.2.2.1 h)
  refine va_calli (vx_runSW (As := [.ref ((E.1 0)), .int p0, .int p1, .int p2, .ref oo]) (rest := []) ⟨C.1.1, C.1.2.1, C.2.1, C.1.2.2.1, C.1.2.2.2.1⟩ (h_query_no l D cI cZ cN cO (cAd s.heap.size mm d oo) E n (M.1 0 0 3) σ p0 p1 p2 oo H.size sa ok C.2.2.1 hno) (vx_cwSW 5 C.1.2.2.2.1 (gw_SW h1 kT_L_query kN_L kW_L_query) rfl rfl rfl (by decide +kernel) ⟨Nat.le_of_ble_eq_true rfl, Nat.le_of_ble_eq_true rfl⟩) ⟨fun a U g mk q => by obtain ⟨q0, q1, qP, qR, qB, qT⟩ := q; exact ⟨q0, q1, ⟨qP.1, va_K.moved (u := U) (U := U.calling g mk a) (Vm.Alike.refl U.vm) qP.2.1, qP.2.2⟩, vk_R.same rfl qR, gThB.same (u := U) (U := U.calling g mk a) rfl qB, gThr.moved (u := U) (U := U.calling g mk a) (Vm.Alike.refl U.vm) qT⟩, fun U hU hW => ⟨rfl, by rw [hU], ⟨by rw [hU]; exact hP, va_K.moved hW.alike C.c4.2.2.2.2, hD⟩, vk_R.warm hW hR, gThB.warm hW C.2.2.2.2.1, (by rw [hU]; exact gThr.moved hW.alike hTh)⟩⟩ rfl rfl hls rfl (lv_room (Nat.le_of_ble_eq_true rfl)) hdg ⟨by omega, by omega⟩) w.2.2.2.2 (fun q h1 h2 => Nat.le_trans w.2.2.2.2.1 h2) (fun q h2 => Nat.le_trans w.2.2.2.2.1 h2) (fun r u t H1 locs1 ht hvm hp hB hz hk hS => ?_)
  subst hp
  exact W.widen (k := cells + 2) (n := slots + 43) (by omega) (by omega) (kk H1 locs1 (w.mk3 hz hk hS))
set_option maxHeartbeats 4000000 in
set_option maxRecDepth 100000 in
theorem L_query_bad {p0 p1 p2 : Int32} (C : LC p l s m c b D cI cZ cN cO cL) (hls : ls.size = 7) (w : LW D cI cZ cN cO cL s x n M M2 th mm d oo fo H locs) (hy : isN n p0) (hbad : p1 < 10 ∨ ¬ p1 ≤ 15) (h1 : Cond.methodLink RL idx yL_query ∈ gw) (hdg : decode code pc = .ok (.invokestatic idx, 3)) (hf : cells + 2 ≤ room_1.cells ∧ slots + 43 ≤ room_1.slots)
    (kk : ∀ (H1 : Heap) (locs1 : List Loc), LW D cI cZ cN cO cL s x n M M2 th mm d oo fo H1 locs1 → W p l e room_1 s m #[Value.ref b] below meth c H1 locs1 (cells + 2) (slots + 43) Q (F0 m (pc + 3) ls [.int 2])) : W p l e room_1 s m #[Value.ref b] below meth c H locs cells slots Q (F0 m pc ls [.ref oo, .int p2, .int p1, .int p0, .ref x]) := by
  obtain ⟨sa, hR⟩ := C.2.2.2.2.2.2.2.2.2.1
  obtain ⟨E, σ, rfl, hP, hD, ok, hCR⟩ := id w.1
  have hTh := (C.2.2.2.1.kept (fun a h1 h2 => w.2.2.2.2.2.1 a h1 h2)).narrow (B := fun q => H.size ≤ q) (fun q h => Nat.le_trans w.2.2.2.2.1 h)
  refine va_calli (vx_runSW (As := [.ref ((E.1 0)), .int p0, .int p1, .int p2, .ref oo]) (rest := []) ⟨C.1.1, C.1.2.1, C.2.1, C.1.2.2.1, C.1.2.2.2.1⟩ (h_query_bad l D cI cZ cN cO (cAd s.heap.size mm d oo) E n (M.1 0 0 3) σ p0 p1 p2 oo H.size sa ok C.2.2.1 hy hbad) (vx_cwSW 5 C.1.2.2.2.1 (gw_SW h1 kT_L_query kN_L kW_L_query) rfl rfl rfl (by decide +kernel) ⟨Nat.le_of_ble_eq_true rfl, Nat.le_of_ble_eq_true rfl⟩) ⟨fun a U g mk q => by obtain ⟨q0, q1, qP, qR, qB, qT, qN⟩ := q; exact ⟨q0, q1, ⟨qP.1, va_K.moved (u := U) (U := U.calling g mk a) (Vm.Alike.refl U.vm) qP.2.1, qP.2.2⟩, vk_R.same rfl qR, gThB.same (u := U) (U := U.calling g mk a) rfl qB, gThr.moved (u := U) (U := U.calling g mk a) (Vm.Alike.refl U.vm) qT, qN.moved (u := U) (U := U.calling g mk a) (Vm.Alike.refl U.vm)⟩, fun U hU hW => ⟨rfl, by rw [hU], ⟨by rw [hU]; exact hP, va_K.moved hW.alike C.c4.2.2.2.2, hD⟩, vk_R.warm hW hR, gThB.warm hW C.2.2.2.2.2.1, (by rw [hU]; exact gThr.moved hW.alike hTh), va_Nc.moved hW.alike C.2.2.2.2.2.2.1⟩⟩ rfl rfl hls rfl (lv_room (Nat.le_of_ble_eq_true rfl)) hdg ⟨by omega, by omega⟩) w.2.2.2.2 (fun q h1 h2 => Nat.le_trans w.2.2.2.2.1 h2) (fun q h2 => Nat.le_trans w.2.2.2.2.1 h2) (fun r u t H1 locs1 ht hvm hp hB hz hk hS => ?_)
  subst hp
  exact W.widen (k := cells + 2) (n := slots + 43) (by omega) (by omega) (kk H1 locs1 (w.mk3 hz hk hS))
set_option maxHeartbeats 4000000 in
set_option maxRecDepth 100000 in
theorem L_deliver_no {p0 : Int32} (C : LC p l s m c b D cI cZ cN cO cL) (hls : ls.size = 7) (w : LW D cI cZ cN cO cL s x n M M2 th mm d oo fo H locs) (hno : ∀ σ : CS, CR n (M.1 0 0 3) σ M → ¬ holds σ p0) (h1 : Cond.methodLink RL idx yL_deliver ∈ gw) (hdg : decode code pc = .ok (.invokestatic idx, 3)) (hf : cells + 2 ≤ room_1.cells ∧ slots + 43 ≤ room_1.slots)
    (kk : ∀ (H1 : Heap) (locs1 : List Loc), LW D cI cZ cN cO cL s x n M M2 th mm d oo fo H1 locs1 → W p l e room_1 s m #[Value.ref b] below meth c H1 locs1 (cells + 2) (slots + 43) Q (F0 m (pc + 3) ls [.int 1])) : W p l e room_1 s m #[Value.ref b] below meth c H locs cells slots Q (F0 m pc ls [.ref oo, .int p0, .ref x]) := by
  obtain ⟨sa, hR⟩ := C.2.2.2.2.2.2.2.2.2.2.1
  obtain ⟨E, σ, rfl, hP, hD, ok, hCR⟩ := id w.1
  have hTh := (C.2.2.2.1.kept (fun a h1 h2 => w.2.2.2.2.2.1 a h1 h2)).narrow (B := fun q => H.size ≤ q) (fun q h => Nat.le_trans w.2.2.2.2.1 h)
  refine va_calli (vx_runSW (As := [.ref ((E.1 0)), .int p0, .ref oo]) (rest := []) ⟨C.1.1, C.1.2.1, C.2.1, C.1.2.2.1, C.1.2.2.2.1⟩ (h_deliver_no l D cI cZ cN cO (cAd s.heap.size mm d oo) E n (M.1 0 0 3) σ p0 oo H.size sa ok C.2.2.1 (hno σ hCR)) (vx_cwSW 3 C.1.2.2.2.1 (gw_SW h1 kT_L_deliver kN_L kW_L_deliver) rfl rfl rfl (by decide +kernel) ⟨Nat.le_of_ble_eq_true rfl, Nat.le_of_ble_eq_true rfl⟩) ⟨fun a U g mk q => by obtain ⟨q0, q1, qP, qR, qB, qT⟩ := q; exact ⟨q0, q1, ⟨qP.1, va_K.moved (u := U) (U := U.calling g mk a) (Vm.Alike.refl U.vm) qP.2.1, qP.2.2⟩, vk_R.same rfl qR, gThB.same (u := U) (U := U.calling g mk a) rfl qB, gThr.moved (u := U) (U := U.calling g mk a) (Vm.Alike.refl U.vm) qT⟩, fun U hU hW => ⟨rfl, by rw [hU], ⟨by rw [hU]; exact hP, va_K.moved hW.alike C.c4.2.2.2.2, hD⟩, vk_R.warm hW hR, gThB.warm hW C.2.2.2.2.1, (by rw [hU]; exact gThr.moved hW.alike hTh)⟩⟩ rfl rfl hls rfl (lv_room (Nat.le_of_ble_eq_true rfl)) hdg ⟨by omega, by omega⟩) w.2.2.2.2 (fun q h1 h2 => Nat.le_trans w.2.2.2.2.1 h2) (fun q h2 => Nat.le_trans w.2.2.2.2.1 h2) (fun r u t H1 locs1 ht hvm hp hB hz hk hS => ?_)
  subst hp
  exact W.widen (k := cells + 2) (n := slots + 43) (by omega) (by omega) (kk H1 locs1 (w.mk3 hz hk hS))
set_option maxHeartbeats 4000000 in
set_option maxRecDepth 100000 in
theorem L_calm_bad {p0 : Int32} (C : LC p l s m c b D cI cZ cN cO cL) (hls : ls.size = 7) (w : LW D cI cZ cN cO cL s x n M M2 th mm d oo fo H locs) (hbad : p0 < 0 ∨ ¬ p0 ≤ 2000) (h1 : Cond.methodLink RL idx yL_calm ∈ gw) (hdg : decode code pc = .ok (.invokestatic idx, 3)) (hf : cells + 2 ≤ room_1.cells ∧ slots + 43 ≤ room_1.slots)
    (kk : ∀ (H1 : Heap) (locs1 : List Loc), LW D cI cZ cN cO cL s x n M M2 th mm d oo fo H1 locs1 → W p l e room_1 s m #[Value.ref b] below meth c H1 locs1 (cells + 2) (slots + 43) Q (F0 m (pc + 3) ls [.int 1])) : W p l e room_1 s m #[Value.ref b] below meth c H locs cells slots Q (F0 m pc ls [.ref oo, .int p0, .ref x]) := by
  obtain ⟨sa, hR⟩ := C.2.2.2.2.2.2.2.2.2.2.2
  obtain ⟨E, σ, rfl, hP, hD, ok, hCR⟩ := id w.1
  have hTh := (C.2.2.2.1.kept (fun a h1 h2 => w.2.2.2.2.2.1 a h1 h2)).narrow (B := fun q => H.size ≤ q) (fun q h => Nat.le_trans w.2.2.2.2.1 h)
  refine va_calli (vx_runSW (As := [.ref ((E.1 0)), .int p0, .ref oo]) (rest := []) ⟨C.1.1, C.1.2.1, C.2.1, C.1.2.2.1, C.1.2.2.2.1⟩ (h_calm_bad l D cI cZ cN cO (cAd s.heap.size mm d oo) E n (M.1 0 0 3) σ p0 oo H.size sa ok C.2.2.1 hbad) (vx_cwSW 3 C.1.2.2.2.1 (gw_SW h1 kT_L_calm kN_L kW_L_calm) rfl rfl rfl (by decide +kernel) ⟨Nat.le_of_ble_eq_true rfl, Nat.le_of_ble_eq_true rfl⟩) ⟨fun a U g mk q => by obtain ⟨q0, q1, qP, qR, qB, qT⟩ := q; exact ⟨q0, q1, ⟨qP.1, va_K.moved (u := U) (U := U.calling g mk a) (Vm.Alike.refl U.vm) qP.2.1, qP.2.2⟩, vk_R.same rfl qR, gThB.same (u := U) (U := U.calling g mk a) rfl qB, gThr.moved (u := U) (U := U.calling g mk a) (Vm.Alike.refl U.vm) qT⟩, fun U hU hW => ⟨rfl, by rw [hU], ⟨by rw [hU]; exact hP, va_K.moved hW.alike C.c4.2.2.2.2, hD⟩, vk_R.warm hW hR, gThB.warm hW C.2.2.2.2.2.1, (by rw [hU]; exact gThr.moved hW.alike hTh)⟩⟩ rfl rfl hls rfl (lv_room (Nat.le_of_ble_eq_true rfl)) hdg ⟨by omega, by omega⟩) w.2.2.2.2 (fun q h1 h2 => Nat.le_trans w.2.2.2.2.1 h2) (fun q h2 => Nat.le_trans w.2.2.2.2.1 h2) (fun r u t H1 locs1 ht hvm hp hB hz hk hS => ?_)
  subst hp
  exact W.widen (k := cells + 2) (n := slots + 43) (by omega) (by omega) (kk H1 locs1 (w.mk3 hz hk hS))
set_option maxHeartbeats 4000000 in
set_option maxRecDepth 100000 in
theorem L_crash_no {p0 : Int32} (C : LC p l s m c b D cI cZ cN cO cL) (hls : ls.size = 7) (w : LW D cI cZ cN cO cL s x n M M2 th mm d oo fo H locs) (hno : ¬ isN n p0) (h1 : Cond.methodLink RL idx yL_crash ∈ gw) (hdg : decode code pc = .ok (.invokestatic idx, 3)) (hf : cells + 2 ≤ room_1.cells ∧ slots + 43 ≤ room_1.slots)
    (kk : ∀ (H1 : Heap) (locs1 : List Loc), LW D cI cZ cN cO cL s x n M M2 th mm d oo fo H1 locs1 → W p l e room_1 s m #[Value.ref b] below meth c H1 locs1 (cells + 2) (slots + 43) Q (F0 m (pc + 3) ls [.int 1])) : W p l e room_1 s m #[Value.ref b] below meth c H locs cells slots Q (F0 m pc ls [.ref oo, .int p0, .ref x]) := by
  obtain ⟨sa, hR⟩ := C.2.2.2.2.2.2.2.1
  obtain ⟨E, σ, rfl, hP, hD, ok, hCR⟩ := id w.1
  have hTh := (C.2.2.2.1.kept (fun a h1 h2 => w.2.2.2.2.2.1 a h1 h2)).narrow (B := fun q => H.size ≤ q) (fun q h => Nat.le_trans w.2.2.2.2.1 h)
  refine va_calli (vx_runSW (As := [.ref ((E.1 0)), .int p0, .ref oo]) (rest := []) ⟨C.1.1, C.1.2.1, C.2.1, C.1.2.2.1, C.1.2.2.2.1⟩ (h_crash_no l D cI cZ cN cO (cAd s.heap.size mm d oo) E n (M.1 0 0 3) σ p0 oo H.size sa ok C.2.2.1 hno) (vx_cwSW 3 C.1.2.2.2.1 (gw_SW h1 kT_L_crash kN_L kW_L_crash) rfl rfl rfl (by decide +kernel) ⟨Nat.le_of_ble_eq_true rfl, Nat.le_of_ble_eq_true rfl⟩) ⟨fun a U g mk q => by obtain ⟨q0, q1, qP, qR, qB, qT⟩ := q; exact ⟨q0, q1, ⟨qP.1, va_K.moved (u := U) (U := U.calling g mk a) (Vm.Alike.refl U.vm) qP.2.1, qP.2.2⟩, vk_R.same rfl qR, gThB.same (u := U) (U := U.calling g mk a) rfl qB, gThr.moved (u := U) (U := U.calling g mk a) (Vm.Alike.refl U.vm) qT⟩, fun U hU hW => ⟨rfl, by rw [hU], ⟨by rw [hU]; exact hP, va_K.moved hW.alike C.c4.2.2.2.2, hD⟩, vk_R.warm hW hR, gThB.warm hW C.2.2.2.2.1, (by rw [hU]; exact gThr.moved hW.alike hTh)⟩⟩ rfl rfl hls rfl (lv_room (Nat.le_of_ble_eq_true rfl)) hdg ⟨by omega, by omega⟩) w.2.2.2.2 (fun q h1 h2 => Nat.le_trans w.2.2.2.2.1 h2) (fun q h2 => Nat.le_trans w.2.2.2.2.1 h2) (fun r u t H1 locs1 ht hvm hp hB hz hk hS => ?_)
  subst hp
  exact W.widen (k := cells + 2) (n := slots + 43) (by omega) (by omega) (kk H1 locs1 (w.mk3 hz hk hS))
end LAW
