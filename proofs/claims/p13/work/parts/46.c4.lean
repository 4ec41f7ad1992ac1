theorem cR_ne {σ : CS} {kd ix f a b c : Nat} {r : Nat → Int32} (h : ¬ (a = kd ∧ c = f)) : (cR_ σ kd ix f r).2.1 a b c = σ.2.1 a b c := by
  show (if a = kd ∧ b = ix ∧ c = f then r else _) = _
  rw [if_neg (fun q => h ⟨q.1, q.2.2⟩)]
theorem cR_comm {σ : CS} {kd ix f f' : Nat} {r r' : Nat → Int32} (h : f ≠ f') : cR_ (cR_ σ kd ix f r) kd ix f' r' = cR_ (cR_ σ kd ix f' r') kd ix f r := by
  refine Prod.ext rfl (Prod.ext ?_ rfl)
  funext a b c
  show (if a = kd ∧ b = ix ∧ c = f' then r' else if a = kd ∧ b = ix ∧ c = f then r else _) = if a = kd ∧ b = ix ∧ c = f then r else if a = kd ∧ b = ix ∧ c = f' then r' else _
  by_cases h1 : a = kd ∧ b = ix ∧ c = f'
  · rw [if_pos h1, if_neg (fun q => h (q.2.2.symm.trans h1.2.2)), if_pos h1]
  · rw [if_neg h1, if_neg h1]
theorem mix_same {F g : Nat → Int32} {i : Nat} (h : F i = g i) : mix F g (i + 1) = mix F g i := by
  funext j
  simp only [mix]
  by_cases h1 : j < i
  · rw [if_pos h1, if_pos (by omega)]
  · rw [if_neg h1]
    by_cases h2 : j = i
    · subst h2; rw [if_pos (by omega)]; exact h
    · rw [if_neg (by omega)]
def cZero (n k f : Nat) (σ : CS) : CS := cR_ σ 2 k f (mix (fun _ => 0) (σ.2.1 2 k f) n)
def cEnter (k : Nat) (q : Int32) (σ : CS) : CS := cI_ (cI_ (cI_ σ 2 k 7 q) 2 k 8 ((cI_ σ 2 k 7 q).1 2 k 8 + 1)) 2 k 9 0
def cRest (k : Nat) (σ : CS) : CS := cT_ (cI_ (cI_ σ 2 k 7 0) 2 k 9 0) k 0
def cSame (n k : Nat) (σ : CS) : Prop := ∀ j, j < n → σ.2.1 2 k 2 j = σ.2.1 2 k 3 j
def cMv (k : Nat) (σ : CS) (i : Nat) : Prop := ¬ σ.2.1 2 k 4 i ≤ 0 ∧ ¬ σ.2.1 2 k 2 i = σ.2.1 2 k 3 i
def cWait (k : Nat) (σ : CS) (kd rd : Int32) : Prop := rd = σ.1 2 k 8 ∧ ((kd = 1 ∧ σ.1 2 k 7 = 1) ∨ (kd = 3 ∧ (σ.1 2 k 7 = 2 ∨ σ.1 2 k 7 = 3)))
def cRem1 (n k : Nat) (σ : CS) : CS := cR_ σ 2 k 3 (mix (σ.2.1 2 k 2) (σ.2.1 2 k 3) n)
def mvF (k : Nat) (σ : CS) : Nat → Int32 := fun j => if σ.2.1 2 k 2 j = σ.2.1 2 k 3 j then σ.2.1 2 k 4 j else σ.2.1 2 k 4 j + 1
def cRem0 (n k : Nat) (σ : CS) : CS := cR_ (cR_ σ 2 k 3 (mix (σ.2.1 2 k 2) (σ.2.1 2 k 3) n)) 2 k 4 (mix (mvF k σ) (σ.2.1 2 k 4) n)
set_option maxHeartbeats 4000000 in
set_option maxRecDepth 100000 in
theorem kl_clearCurrent {p : Program} {l : Launch} {e : Env} {R : Room} {s : State} {m : MethodId} {args : Array Value} {below : List Frame} {meth : Method} {c : Code} {cells slots : Nat} {Q : State → Prop} {D : va_G} {cI cZ cN cO : ClassId} {A : Nat → Prop} {H0 : Heap} {E : CE} {n bg : Nat} (C : Cx p c cX0_clearCurrent s m args RX0 D (gTy cI cZ cN cO)) (hml : c.maxLocals = 2) {σ : CS} {k : Nat} (hn : n ≤ 31) (hk : k < n) (kk : ∀ (H : Heap) (locs : List Loc), cWd D cI cN cO A H0 E n bg (cR_ σ 2 k 2 (mix (fun _ => 0) (σ.2.1 2 k 2) n)) H locs → cOK n bg (cR_ σ 2 k 2 (mix (fun _ => 0) (σ.2.1 2 k 2) n)) → ∀ ls : Array Slot, lv_has ls 2 [(1, .int (nI n)), (0, .ref ((E.2.2.1 k)))] → W p l e R s m args below meth c H locs cells slots Q (F0 m 24 ls [])) : ∀ (fu i : Nat), i + fu = n → ∀ (H : Heap) (locs : List Loc), cWd D cI cN cO A H0 E n bg (cR_ σ 2 k 2 (mix (fun _ => 0) (σ.2.1 2 k 2) i)) H locs → cOK n bg (cR_ σ 2 k 2 (mix (fun _ => 0) (σ.2.1 2 k 2) i)) → ∀ ls : Array Slot, lv_has ls 2 [(1, .int (nI i)), (0, .ref ((E.2.2.1 k)))] → W p l e R s m args below meth c H locs cells slots Q (F0 m 2 ls []) := by
  intro fu
  induction fu with
  | zero =>
    intro i hik
    intro H locs w ok ls hl
    have hx := C.1
    have hb := C.2.1
    have hi : n = i := by omega
    subst hi
    refine lv_iload_n hx hb dX0_clearCurrent_2 rfl (lv_at hl 0 rfl) ?_
    refine lv_aload_n hx hb dX0_clearCurrent_3 rfl (lv_at hl 1 rfl) ?_
    refine c_gX0_2 C w hk kF_X0_26 dX0_clearCurrent_4 ?_
    refine c_nN2 C w hk dX0_clearCurrent_7 ?_
    refine lv_icmp_ge (tgt := 24) hx hb dX0_clearCurrent_8 (by decide) (fun c_8 => ?_) (fun c_8 => absurd (Int32.le_refl _) c_8)
    exact kk _ _ w ok ls (lv_sub hl [0, 1] rfl)
  | succ fu ih =>
    intro i hik
    intro H locs w ok ls hl
    have hx := C.1
    have hb := C.2.1
    have hi : i < n := by omega
    refine lv_iload_n hx hb dX0_clearCurrent_2 rfl (lv_at hl 0 rfl) ?_
    refine lv_aload_n hx hb dX0_clearCurrent_3 rfl (lv_at hl 1 rfl) ?_
    refine c_gX0_2 C w hk kF_X0_26 dX0_clearCurrent_4 ?_
    refine c_nN2 C w hk dX0_clearCurrent_7 ?_
    refine lv_icmp_ge (tgt := 24) hx hb dX0_clearCurrent_8 (by decide) (fun c_8 => absurd c_8 (nI_ge hi (by omega))) (fun c_8 => ?_)
    refine lv_aload_n hx hb dX0_clearCurrent_11 rfl (lv_at hl 1 rfl) ?_
    refine c_gX0_2 C w hk kF_X0_26 dX0_clearCurrent_12 ?_
    refine lv_iload_n hx hb dX0_clearCurrent_15 rfl (lv_at hl 0 rfl) ?_
    refine lv_iconst (v := 0) hx hb dX0_clearCurrent_16 (by decide) ?_
    refine c_sN2 (v := 0) C w hk (vp_in_nI hi (by omega)) dX0_clearCurrent_17 (fun H locs w => ?_)
    have ok : cOK n bg _ := cOK.st ok (kd := 2) (ix := k) (f := 2) (i := (nI i).toNatClampNeg) (v := 0) (fun h => absurd h (by decide))
    obtain ⟨x_1, ex_1⟩ : ∃ y : Int32, y = (nI i) + 1 := ⟨_, rfl⟩
    refine lv_iinc (v := x_1) (lv' := [(1, _), (0, _)]) C.1 C.2.1 dX0_clearCurrent_18 hl (k := 0) rfl (by rw [ex_1]; rfl) (by decide) rfl (fun ls hl => ?_)
    refine lv_goto (tgt := 2) hx hb dX0_clearCurrent_21 (by decide) ?_
    rw [cA_mix (F := fun _ => 0) (by omega) rfl] at w ok
    have hx2 : x_1 = nI (i + 1) := by rw [ex_1]; exact nI_1 i
    rw [hx2] at hl
    exact ih (i + 1) (by omega) _ _ w ok ls (lv_sub hl [0, 1] rfl)
set_option maxHeartbeats 4000000 in
set_option maxRecDepth 100000 in
theorem k_X0_clearCurrent (l : Launch) (D : va_G) (cI cZ cN cO : ClassId) (A : Nat → Prop) (E : CE) (n bg : Nat) (σ : CS) (k : Nat) (ok : cOK n bg σ) (hk : k < n) : Met l yX0_clearCurrent (.code yX0_clearCurrent cX0_clearCurrent 2 none :: gw) ({ frames := 0, cells := 0, slots := 0, locals := 0 }) (va_Pc (.ref (E.2.2.1 k) :: []) (cH D cI cZ cN cO A E n bg σ)) (va_Qv (fun _ : Unit => True) (fun _ t => cH D cI cZ cN cO A E n bg (cZero n k 2 σ) t ∧ cOK n bg (cZero n k 2 σ)) A) 0 0 A := by
  refine Met.ofW (cc := cX0_clearCurrent) (maxL := 2) (ret := none) (by decide) rfl ?_
  intro p e s m args below meth c s₁ B hml hv
  obtain ⟨rfl, hP, hK, hD⟩ := hv
  have hx := B.exec
  have hb := B.bytes
  have hr := B.returns
  have hts := atoms_spec (ws := (.code yX0_clearCurrent cX0_clearCurrent 2 none :: gw)) B.pre
  have hg : ∀ w ∈ gw, w.before _ s = true := fun w h => hts w (List.mem_cons_of_mem _ h)
  have hown : s.vm.findClass RX0 = some m.cls := findClass_of_methodNamed B.named
  have hlocks := B.notSynchronized
  have C : Cx p c cX0_clearCurrent s m _ RX0 D (gTy cI cZ cN cO) := ⟨hx, hb, hown, hg, hK⟩
  have w : cWd D cI cN cO A s.heap E n bg σ s.heap [] := ⟨hP, hD, va_S.rf⟩
  have hl := lv_entry ([.ref ((E.2.2.1 k))]) (n := 2) (Nat.le_of_ble_eq_true rfl)
  rw [lg_entry_eq]
  generalize (lg_sl ([.ref ((E.2.2.1 k))]) ++ List.replicate (2 - (lg_sl ([.ref ((E.2.2.1 k))])).length) Slot.unset).toArray = ls at hl ⊢
  have hl : lv_has ls 2 [(0, .ref ((E.2.2.1 k)))] := hl
  refine lv_iconst (v := 0) hx hb dX0_clearCurrent_0 (by decide) ?_
  refine lv_istore_n (lv' := [(1, _), (0, _)]) C.1 C.2.1 dX0_clearCurrent_1 rfl hl (by decide) rfl (fun ls hl => ?_)
  rw [← nI_0] at hl
  have e0 : cR_ (σ) 2 k 2 (mix (fun _ => 0) ((σ).2.1 2 k 2) 0) = σ := by rw [mix_0, cR_self]
  rw [← e0] at w ok
  refine kl_clearCurrent C hml ok.2.1 hk ?_ n 0 (by omega) _ _ w ok ls (lv_sub hl [0, 1] rfl)
  intro H locs w ok ls hl
  exact W.vret hx hb hr (fun t ht hW => ⟨⟨(), rfl, trivial, ⟨by rw [ht]; exact w.1, va_K.moved hW.alike hK, w.2.1⟩, ok⟩, w.2.2.F ht⟩) w.2.2.2.2 dX0_clearCurrent_24
set_option maxHeartbeats 4000000 in
set_option maxRecDepth 100000 in
theorem kl_takeUp {p : Program} {l : Launch} {e : Env} {R : Room} {s : State} {m : MethodId} {args : Array Value} {below : List Frame} {meth : Method} {c : Code} {cells slots : Nat} {Q : State → Prop} {D : va_G} {cI cZ cN cO : ClassId} {A : Nat → Prop} {H0 : Heap} {E : CE} {n bg : Nat} (C : Cx p c cX0_takeUp s m args RX0 D (gTy cI cZ cN cO)) (hml : c.maxLocals = 3) {σ : CS} {k : Nat} (hn : n ≤ 31) (hk : k < n) (kk : ∀ (H : Heap) (locs : List Loc), cWd D cI cN cO A H0 E n bg (cR_ σ 2 k 4 (mix (fun _ => 0) (σ.2.1 2 k 4) n)) H locs → cOK n bg (cR_ σ 2 k 4 (mix (fun _ => 0) (σ.2.1 2 k 4) n)) → ∀ ls : Array Slot, lv_has ls 3 [(2, .int (nI n)), (0, .ref ((E.2.2.1 k)))] → W p l e R s m args below meth c H locs cells slots Q (F0 m 29 ls [])) : ∀ (fu i : Nat), i + fu = n → ∀ (H : Heap) (locs : List Loc), cWd D cI cN cO A H0 E n bg (cR_ σ 2 k 4 (mix (fun _ => 0) (σ.2.1 2 k 4) i)) H locs → cOK n bg (cR_ σ 2 k 4 (mix (fun _ => 0) (σ.2.1 2 k 4) i)) → ∀ ls : Array Slot, lv_has ls 3 [(2, .int (nI i)), (0, .ref ((E.2.2.1 k)))] → W p l e R s m args below meth c H locs cells slots Q (F0 m 7 ls []) := by
  intro fu
  induction fu with
  | zero =>
    intro i hik
    intro H locs w ok ls hl
    have hx := C.1
    have hb := C.2.1
    have hi : n = i := by omega
    subst hi
    refine lv_iload_n hx hb dX0_takeUp_7 rfl (lv_at hl 0 rfl) ?_
    refine lv_aload_n hx hb dX0_takeUp_8 rfl (lv_at hl 1 rfl) ?_
    refine c_gX0_4 C w hk kF_X0_32 dX0_takeUp_9 ?_
    refine c_nN4 C w hk dX0_takeUp_12 ?_
    refine lv_icmp_ge (tgt := 29) hx hb dX0_takeUp_13 (by decide) (fun c_13 => ?_) (fun c_13 => absurd (Int32.le_refl _) c_13)
    exact kk _ _ w ok ls (lv_sub hl [0, 1] rfl)
  | succ fu ih =>
    intro i hik
    intro H locs w ok ls hl
    have hx := C.1
    have hb := C.2.1
    have hi : i < n := by omega
    refine lv_iload_n hx hb dX0_takeUp_7 rfl (lv_at hl 0 rfl) ?_
    refine lv_aload_n hx hb dX0_takeUp_8 rfl (lv_at hl 1 rfl) ?_
    refine c_gX0_4 C w hk kF_X0_32 dX0_takeUp_9 ?_
    refine c_nN4 C w hk dX0_takeUp_12 ?_
    refine lv_icmp_ge (tgt := 29) hx hb dX0_takeUp_13 (by decide) (fun c_13 => absurd c_13 (nI_ge hi (by omega))) (fun c_13 => ?_)
    refine lv_aload_n hx hb dX0_takeUp_16 rfl (lv_at hl 1 rfl) ?_
    refine c_gX0_4 C w hk kF_X0_32 dX0_takeUp_17 ?_
    refine lv_iload_n hx hb dX0_takeUp_20 rfl (lv_at hl 0 rfl) ?_
    refine lv_iconst (v := 0) hx hb dX0_takeUp_21 (by decide) ?_
    refine c_sN4 (v := 0) C w hk (vp_in_nI hi (by omega)) dX0_takeUp_22 (fun H locs w => ?_)
    have ok : cOK n bg _ := cOK.st ok (kd := 2) (ix := k) (f := 4) (i := (nI i).toNatClampNeg) (v := 0) (fun h => absurd h (by decide))
    obtain ⟨x_1, ex_1⟩ : ∃ y : Int32, y = (nI i) + 1 := ⟨_, rfl⟩
    refine lv_iinc (v := x_1) (lv' := [(2, _), (0, _)]) C.1 C.2.1 dX0_takeUp_23 hl (k := 0) rfl (by rw [ex_1]; rfl) (by decide) rfl (fun ls hl => ?_)
    refine lv_goto (tgt := 7) hx hb dX0_takeUp_26 (by decide) ?_
    rw [cA_mix (F := fun _ => 0) (by omega) rfl] at w ok
    have hx2 : x_1 = nI (i + 1) := by rw [ex_1]; exact nI_1 i
    rw [hx2] at hl
    exact ih (i + 1) (by omega) _ _ w ok ls (lv_sub hl [0, 1] rfl)
set_option maxHeartbeats 4000000 in
set_option maxRecDepth 100000 in
theorem k_X0_takeUp (l : Launch) (D : va_G) (cI cZ cN cO : ClassId) (A : Nat → Prop) (E : CE) (n bg : Nat) (σ : CS) (k tt : Nat) (ok : cOK n bg σ) (hk : k < n) (h1 : 1 ≤ tt) (h2 : tt ≤ bg) : Met l yX0_takeUp (.code yX0_takeUp cX0_takeUp 3 none :: gw) ({ frames := 0, cells := 0, slots := 0, locals := 0 }) (va_Pc (.ref (E.2.2.1 k) :: [.ref ((E.2.2.2.2.1 tt))]) (cH D cI cZ cN cO A E n bg σ)) (va_Qv (fun _ : Unit => True) (fun _ t => cH D cI cZ cN cO A E n bg (cZero n k 4 (cT_ σ k tt)) t ∧ cOK n bg (cZero n k 4 (cT_ σ k tt))) A) 0 0 A := by
  refine Met.ofW (cc := cX0_takeUp) (maxL := 3) (ret := none) (by decide) rfl ?_
  intro p e s m args below meth c s₁ B hml hv
  obtain ⟨rfl, hP, hK, hD⟩ := hv
  have hx := B.exec
  have hb := B.bytes
  have hr := B.returns
  have hts := atoms_spec (ws := (.code yX0_takeUp cX0_takeUp 3 none :: gw)) B.pre
  have hg : ∀ w ∈ gw, w.before _ s = true := fun w h => hts w (List.mem_cons_of_mem _ h)
  have hown : s.vm.findClass RX0 = some m.cls := findClass_of_methodNamed B.named
  have hlocks := B.notSynchronized
  have C : Cx p c cX0_takeUp s m _ RX0 D (gTy cI cZ cN cO) := ⟨hx, hb, hown, hg, hK⟩
  have w : cWd D cI cN cO A s.heap E n bg σ s.heap [] := ⟨hP, hD, va_S.rf⟩
  have hl := lv_entry ([.ref ((E.2.2.1 k)), .ref ((E.2.2.2.2.1 tt))]) (n := 3) (Nat.le_of_ble_eq_true rfl)
  rw [lg_entry_eq]
  generalize (lg_sl ([.ref ((E.2.2.1 k)), .ref ((E.2.2.2.2.1 tt))]) ++ List.replicate (3 - (lg_sl ([.ref ((E.2.2.1 k)), .ref ((E.2.2.2.2.1 tt))])).length) Slot.unset).toArray = ls at hl ⊢
  have hl : lv_has ls 3 [(0, .ref ((E.2.2.1 k))), (1, .ref ((E.2.2.2.2.1 tt)))] := hl
  refine lv_aload_n hx hb dX0_takeUp_0 rfl (lv_at hl 0 rfl) ?_
  refine lv_aload_n hx hb dX0_takeUp_1 rfl (lv_at hl 1 rfl) ?_
  refine c_pT1 (t := tt) C w hk h1 kF_X0_38 dX0_takeUp_2 (fun H locs w => ?_)
  have ok : cOK n bg _ := cOK.task ok (k := k) h2
  refine lv_iconst (v := 0) hx hb dX0_takeUp_5 (by decide) ?_
  refine lv_istore_n (lv' := [(2, _), (0, _), (1, _)]) C.1 C.2.1 dX0_takeUp_6 rfl hl (by decide) rfl (fun ls hl => ?_)
  rw [← nI_0] at hl
  have e0 : cR_ (cT_ σ k tt) 2 k 4 (mix (fun _ => 0) ((cT_ σ k tt).2.1 2 k 4) 0) = cT_ σ k tt := by rw [mix_0, cR_self]
  rw [← e0] at w ok
  refine kl_takeUp C hml ok.2.1 hk ?_ n 0 (by omega) _ _ w ok ls (lv_sub hl [0, 1] rfl)
  intro H locs w ok ls hl
  exact W.vret hx hb hr (fun t ht hW => ⟨⟨(), rfl, trivial, ⟨by rw [ht]; exact w.1, va_K.moved hW.alike hK, w.2.1⟩, ok⟩, w.2.2.F ht⟩) w.2.2.2.2 dX0_takeUp_29
set_option maxHeartbeats 4000000 in
set_option maxRecDepth 100000 in
theorem k_X0_enter (l : Launch) (D : va_G) (cI cZ cN cO : ClassId) (A : Nat → Prop) (E : CE) (n bg : Nat) (σ : CS) (k : Nat) (q : Int32) (ok : cOK n bg σ) (hk : k < n) : Met l yX0_enter (.code yX0_enter cX0_enter 2 none :: gw) ({ frames := 0, cells := 0, slots := 0, locals := 0 }) (va_Pc (.ref (E.2.2.1 k) :: [.int q]) (cH D cI cZ cN cO A E n bg σ)) (va_Qv (fun _ : Unit => True) (fun _ t => cH D cI cZ cN cO A E n bg (cEnter k q σ) t ∧ cOK n bg (cEnter k q σ)) A) 0 0 A := by
  refine Met.ofW (cc := cX0_enter) (maxL := 2) (ret := none) (by decide) rfl ?_
  intro p e s m args below meth c s₁ B hml hv
  obtain ⟨rfl, hP, hK, hD⟩ := hv
  have hx := B.exec
  have hb := B.bytes
  have hr := B.returns
  have hts := atoms_spec (ws := (.code yX0_enter cX0_enter 2 none :: gw)) B.pre
  have hg : ∀ w ∈ gw, w.before _ s = true := fun w h => hts w (List.mem_cons_of_mem _ h)
  have hown : s.vm.findClass RX0 = some m.cls := findClass_of_methodNamed B.named
  have hlocks := B.notSynchronized
  have C : Cx p c cX0_enter s m _ RX0 D (gTy cI cZ cN cO) := ⟨hx, hb, hown, hg, hK⟩
  have w : cWd D cI cN cO A s.heap E n bg σ s.heap [] := ⟨hP, hD, va_S.rf⟩
  have hl := lv_entry ([.ref ((E.2.2.1 k)), .int q]) (n := 2) (Nat.le_of_ble_eq_true rfl)
  rw [lg_entry_eq]
  generalize (lg_sl ([.ref ((E.2.2.1 k)), .int q]) ++ List.replicate (2 - (lg_sl ([.ref ((E.2.2.1 k)), .int q])).length) Slot.unset).toArray = ls at hl ⊢
  have hl : lv_has ls 2 [(0, .ref ((E.2.2.1 k))), (1, .int q)] := hl
  refine lv_aload_n hx hb dX0_enter_0 rfl (lv_at hl 0 rfl) ?_
  refine lv_iload_n hx hb dX0_enter_1 rfl (lv_at hl 1 rfl) ?_
  refine c_pX0_7 (v := q) C w hk kF_X0_15 dX0_enter_2 (fun H locs w => ?_)
  have ok : cOK n bg _ := cOK.put ok (kd := 2) (ix := k) (f := 7) (v := q) rfl
  refine lv_aload_n hx hb dX0_enter_5 rfl (lv_at hl 0 rfl) ?_
  refine lv_dup hx hb dX0_enter_6 rfl ?_
  refine c_gX0_8 C w hk kF_X0_42 dX0_enter_7 ?_
  refine lv_topi (fun t_1 et_1 => ?_)
  refine lv_iconst (v := 1) hx hb dX0_enter_10 (by decide) ?_
  refine lv_iadd hx hb dX0_enter_11 ?_
  refine lv_topi (fun t_2 et_2 => ?_)
  refine c_pX0_8 (v := t_2) C w hk kF_X0_42 dX0_enter_12 (fun H locs w => ?_)
  have ok : cOK n bg _ := cOK.put ok (kd := 2) (ix := k) (f := 8) (v := t_2) rfl
  refine lv_aload_n hx hb dX0_enter_15 rfl (lv_at hl 0 rfl) ?_
  refine lv_iconst (v := 0) hx hb dX0_enter_16 (by decide) ?_
  refine c_pX0_9 (v := 0) C w hk kF_X0_45 dX0_enter_17 (fun H locs w => ?_)
  have ok : cOK n bg _ := cOK.put ok (kd := 2) (ix := k) (f := 9) (v := 0) rfl
  subst et_2 et_1
  exact W.vret hx hb hr (fun t ht hW => ⟨⟨(), rfl, trivial, ⟨by rw [ht]; exact w.1, va_K.moved hW.alike hK, w.2.1⟩, ok⟩, w.2.2.F ht⟩) w.2.2.2.2 dX0_enter_20
set_option maxHeartbeats 4000000 in
set_option maxRecDepth 100000 in
theorem k_X0_rest (l : Launch) (D : va_G) (cI cZ cN cO : ClassId) (A : Nat → Prop) (E : CE) (n bg : Nat) (σ : CS) (k : Nat) (ok : cOK n bg σ) (hk : k < n) : Met l yX0_rest (.code yX0_rest cX0_rest 1 none :: gw) ({ frames := 0, cells := 0, slots := 0, locals := 0 }) (va_Pc (.ref (E.2.2.1 k) :: []) (cH D cI cZ cN cO A E n bg σ)) (va_Qv (fun _ : Unit => True) (fun _ t => cH D cI cZ cN cO A E n bg (cRest k σ) t ∧ cOK n bg (cRest k σ)) A) 0 0 A := by
  refine Met.ofW (cc := cX0_rest) (maxL := 1) (ret := none) (by decide) rfl ?_
  intro p e s m args below meth c s₁ B hml hv
  obtain ⟨rfl, hP, hK, hD⟩ := hv
  have hx := B.exec
  have hb := B.bytes
  have hr := B.returns
  have hts := atoms_spec (ws := (.code yX0_rest cX0_rest 1 none :: gw)) B.pre
  have hg : ∀ w ∈ gw, w.before _ s = true := fun w h => hts w (List.mem_cons_of_mem _ h)
  have hown : s.vm.findClass RX0 = some m.cls := findClass_of_methodNamed B.named
  have hlocks := B.notSynchronized
  have C : Cx p c cX0_rest s m _ RX0 D (gTy cI cZ cN cO) := ⟨hx, hb, hown, hg, hK⟩
  have w : cWd D cI cN cO A s.heap E n bg σ s.heap [] := ⟨hP, hD, va_S.rf⟩
  have hl := lv_entry ([.ref ((E.2.2.1 k))]) (n := 1) (Nat.le_of_ble_eq_true rfl)
  rw [lg_entry_eq]
  generalize (lg_sl ([.ref ((E.2.2.1 k))]) ++ List.replicate (1 - (lg_sl ([.ref ((E.2.2.1 k))])).length) Slot.unset).toArray = ls at hl ⊢
  have hl : lv_has ls 1 [(0, .ref ((E.2.2.1 k)))] := hl
  refine lv_aload_n hx hb dX0_rest_0 rfl (lv_at hl 0 rfl) ?_
  refine lv_iconst (v := 0) hx hb dX0_rest_1 (by decide) ?_
  refine c_pX0_7 (v := 0) C w hk kF_X0_15 dX0_rest_2 (fun H locs w => ?_)
  have ok : cOK n bg _ := cOK.put ok (kd := 2) (ix := k) (f := 7) (v := 0) rfl
  refine lv_aload_n hx hb dX0_rest_5 rfl (lv_at hl 0 rfl) ?_
  refine lv_iconst (v := 0) hx hb dX0_rest_6 (by decide) ?_
  refine c_pX0_9 (v := 0) C w hk kF_X0_45 dX0_rest_7 (fun H locs w => ?_)
  have ok : cOK n bg _ := cOK.put ok (kd := 2) (ix := k) (f := 9) (v := 0) rfl
  refine lv_aload_n hx hb dX0_rest_10 rfl (lv_at hl 0 rfl) ?_
  refine lv_null hx hb dX0_rest_11 ?_
  refine c_pT0 C w hk kF_X0_38 dX0_rest_12 (fun H locs w => ?_)
  have ok : cOK n bg _ := cOK.task ok (k := k) (Nat.zero_le _)
  exact W.vret hx hb hr (fun t ht hW => ⟨⟨(), rfl, trivial, ⟨by rw [ht]; exact w.1, va_K.moved hW.alike hK, w.2.1⟩, ok⟩, w.2.2.F ht⟩) w.2.2.2.2 dX0_rest_15
set_option maxHeartbeats 4000000 in
set_option maxRecDepth 100000 in
theorem k_X0_lengthenLog (l : Launch) (D : va_G) (cI cZ cN cO : ClassId) (A : Nat → Prop) (E : CE) (n bg : Nat) (σ : CS) (k : Nat) (ok : cOK n bg σ) (hk : k < n) : Met l yX0_lengthenLog (.code yX0_lengthenLog cX0_lengthenLog 1 (some .int) :: gw) ({ frames := 0, cells := 0, slots := 0, locals := 0 }) (va_Pc (.ref (E.2.2.1 k) :: []) (cH D cI cZ cN cO A E n bg σ)) (va_Qi (fun (r : Int32) (_ : Unit) => r = σ.2.1 2 k 5 k + 1) (fun _ t => cH D cI cZ cN cO A E n bg (cA_ σ 2 k 5 k (σ.2.1 2 k 5 k + 1)) t ∧ cOK n bg (cA_ σ 2 k 5 k (σ.2.1 2 k 5 k + 1))) A) 0 0 A := by
  refine Met.ofW (cc := cX0_lengthenLog) (maxL := 1) (ret := (some .int)) (by decide) rfl ?_
  intro p e s m args below meth c s₁ B hml hv
  obtain ⟨rfl, hP, hK, hD⟩ := hv
  have hx := B.exec
  have hb := B.bytes
  have hr := B.returns
  have hts := atoms_spec (ws := (.code yX0_lengthenLog cX0_lengthenLog 1 (some .int) :: gw)) B.pre
  have hg : ∀ w ∈ gw, w.before _ s = true := fun w h => hts w (List.mem_cons_of_mem _ h)
  have hown : s.vm.findClass RX0 = some m.cls := findClass_of_methodNamed B.named
  have hlocks := B.notSynchronized
  have C : Cx p c cX0_lengthenLog s m _ RX0 D (gTy cI cZ cN cO) := ⟨hx, hb, hown, hg, hK⟩
  have w : cWd D cI cN cO A s.heap E n bg σ s.heap [] := ⟨hP, hD, va_S.rf⟩
  have hl := lv_entry ([.ref ((E.2.2.1 k))]) (n := 1) (Nat.le_of_ble_eq_true rfl)
  rw [lg_entry_eq]
  generalize (lg_sl ([.ref ((E.2.2.1 k))]) ++ List.replicate (1 - (lg_sl ([.ref ((E.2.2.1 k))])).length) Slot.unset).toArray = ls at hl ⊢
  have hl : lv_has ls 1 [(0, .ref ((E.2.2.1 k)))] := hl
  have hkn : k < 2 ^ 31 := by have := ok.2.1; omega
  refine lv_aload_n hx hb dX0_lengthenLog_0 rfl (lv_at hl 0 rfl) ?_
  refine c_gX0_5 C w hk kF_X0_35 dX0_lengthenLog_1 ?_
  refine lv_aload_n hx hb dX0_lengthenLog_4 rfl (lv_at hl 0 rfl) ?_
  refine c_gX0_0 C w hk kF_X0_19 dX0_lengthenLog_5 ?_
  rw [ok.ix hk]
  refine lv_dup2_11 hx hb dX0_lengthenLog_8 rfl rfl ?_
  refine c_lN5 C w hk (vp_in_nI hk ok.n) dX0_lengthenLog_9 ?_
  refine lv_topi (fun t_1 et_1 => ?_)
  refine lv_iconst (v := 1) hx hb dX0_lengthenLog_10 (by decide) ?_
  refine lv_iadd hx hb dX0_lengthenLog_11 ?_
  refine lv_topi (fun t_2 et_2 => ?_)
  subst et_2 et_1
  refine c_sN5 C w hk (vp_in_nI hk ok.n) dX0_lengthenLog_12 (fun H locs w => ?_)
  have ok : cOK n bg _ := cOK.st ok (kd := 2) (ix := k) (f := 5) (i := (nI k).toNatClampNeg) (v := σ.2.1 2 k 5 (nI k).toNatClampNeg + 1) (fun h => absurd h (by decide))
  rw [nI_clamp (by omega)] at w ok
  refine lv_aload_n hx hb dX0_lengthenLog_13 rfl (lv_at hl 0 rfl) ?_
  refine c_gX0_5 C w hk kF_X0_35 dX0_lengthenLog_14 ?_
  refine lv_aload_n hx hb dX0_lengthenLog_17 rfl (lv_at hl 0 rfl) ?_
  refine c_gX0_0 C w hk kF_X0_19 dX0_lengthenLog_18 ?_
  rw [ok.ix hk]
  refine c_lN5 C w hk (vp_in_nI hk ok.n) dX0_lengthenLog_21 ?_
  refine lv_topi (fun t_3 et_3 => ?_)
  exact W.iret hx hb hr (fun t ht hW => ⟨⟨_, (), rfl, (by rw [et_3, nI_clamp hkn, cA_R, cR_get, upd_self]), ⟨by rw [ht]; exact w.1, va_K.moved hW.alike hK, w.2.1⟩, ok⟩, w.2.2.F ht⟩) w.2.2.2.2 dX0_lengthenLog_22
set_option maxHeartbeats 4000000 in
set_option maxRecDepth 100000 in
theorem k_X0_isMajority (l : Launch) (D : va_G) (cI cZ cN cO : ClassId) (A : Nat → Prop) (E : CE) (n bg : Nat) (σ : CS) (k : Nat) (q : Int32) (ok : cOK n bg σ) (hk : k < n) : Met l yX0_isMajority (.code yX0_isMajority cX0_isMajority 2 (some .boolean) :: gw) ({ frames := 0, cells := 0, slots := 0, locals := 0 }) (va_Pc (.ref (E.2.2.1 k) :: [.int q]) (cH D cI cZ cN cO A E n bg σ)) (vp_Si (fun r => r = if 2 * q ≤ nI n then 0 else 1)) 0 0 (fun _ => False) := by
  refine Met.ofW (cc := cX0_isMajority) (maxL := 2) (ret := (some .boolean)) (by decide) rfl ?_
  intro p e s m args below meth c s₁ B hml hv
  obtain ⟨rfl, hP, hK, hD⟩ := hv
  have hx := B.exec
  have hb := B.bytes
  have hr := B.returns
  have hts := atoms_spec (ws := (.code yX0_isMajority cX0_isMajority 2 (some .boolean) :: gw)) B.pre
  have hg : ∀ w ∈ gw, w.before _ s = true := fun w h => hts w (List.mem_cons_of_mem _ h)
  have hown : s.vm.findClass RX0 = some m.cls := findClass_of_methodNamed B.named
  have hlocks := B.notSynchronized
  have C : Cx p c cX0_isMajority s m _ RX0 D (gTy cI cZ cN cO) := ⟨hx, hb, hown, hg, hK⟩
  have w : cWd D cI cN cO A s.heap E n bg σ s.heap [] := ⟨hP, hD, va_S.rf⟩
  have hl := lv_entry ([.ref ((E.2.2.1 k)), .int q]) (n := 2) (Nat.le_of_ble_eq_true rfl)
  rw [lg_entry_eq]
  generalize (lg_sl ([.ref ((E.2.2.1 k)), .int q]) ++ List.replicate (2 - (lg_sl ([.ref ((E.2.2.1 k)), .int q])).length) Slot.unset).toArray = ls at hl ⊢
  have hl : lv_has ls 2 [(0, .ref ((E.2.2.1 k))), (1, .int q)] := hl
  refine lv_iconst (v := 2) hx hb dX0_isMajority_0 (by decide) ?_
  refine lv_iload_n hx hb dX0_isMajority_1 rfl (lv_at hl 1 rfl) ?_
  refine lv_imul hx hb dX0_isMajority_2 ?_
  refine lv_topi (fun t_1 et_1 => ?_)
  refine lv_aload_n hx hb dX0_isMajority_3 rfl (lv_at hl 0 rfl) ?_
  refine c_gX0_1 C w hk kF_X0_22 dX0_isMajority_4 ?_
  refine c_nN1 C w hk dX0_isMajority_7 ?_
  refine lv_icmp_le (tgt := 15) hx hb dX0_isMajority_8 (by decide) (fun c_8 => ?_) (fun c_8 => ?_)
  · refine lv_iconst (v := 0) hx hb dX0_isMajority_15 (by decide) ?_
    exact W.zret (v := 0) (ty := .boolean) hx hb hr rfl (fun t ht hW => ⟨_, rfl, (by rw [if_pos (by rw [← et_1]; exact c_8)]), ht⟩) (fun _ h => by cases h) dX0_isMajority_16
  · refine lv_iconst (v := 1) hx hb dX0_isMajority_11 (by decide) ?_
    refine lv_goto (tgt := 16) hx hb dX0_isMajority_12 (by decide) ?_
    exact W.zret (v := 1) (ty := .boolean) hx hb hr rfl (fun t ht hW => ⟨_, rfl, (by rw [if_neg (by rw [← et_1]; exact c_8)]), ht⟩) (fun _ h => by cases h) dX0_isMajority_16
set_option maxHeartbeats 4000000 in
set_option maxRecDepth 100000 in
theorem k_X0_waitsFor (l : Launch) (D : va_G) (cI cZ cN cO : ClassId) (A : Nat → Prop) (E : CE) (n bg : Nat) (σ : CS) (k : Nat) (kd rd : Int32) (ok : cOK n bg σ) (hk : k < n) : Met l yX0_waitsFor (.code yX0_waitsFor cX0_waitsFor 3 (some .boolean) :: gw) ({ frames := 0, cells := 0, slots := 0, locals := 0 }) (va_Pc (.ref (E.2.2.1 k) :: [.int kd, .int rd]) (cH D cI cZ cN cO A E n bg σ)) (vp_Si (fun r => (r = 1 ∧ cWait k σ kd rd) ∨ (r = 0 ∧ ¬ cWait k σ kd rd))) 0 0 (fun _ => False) := by
  refine Met.ofW (cc := cX0_waitsFor) (maxL := 3) (ret := (some .boolean)) (by decide) rfl ?_
  intro p e s m args below meth c s₁ B hml hv
  obtain ⟨rfl, hP, hK, hD⟩ := hv
  have hx := B.exec
  have hb := B.bytes
  have hr := B.returns
  have hts := atoms_spec (ws := (.code yX0_waitsFor cX0_waitsFor 3 (some .boolean) :: gw)) B.pre
  have hg : ∀ w ∈ gw, w.before _ s = true := fun w h => hts w (List.mem_cons_of_mem _ h)
  have hown : s.vm.findClass RX0 = some m.cls := findClass_of_methodNamed B.named
  have hlocks := B.notSynchronized
  have C : Cx p c cX0_waitsFor s m _ RX0 D (gTy cI cZ cN cO) := ⟨hx, hb, hown, hg, hK⟩
  have w : cWd D cI cN cO A s.heap E n bg σ s.heap [] := ⟨hP, hD, va_S.rf⟩
  have hl := lv_entry ([.ref ((E.2.2.1 k)), .int kd, .int rd]) (n := 3) (Nat.le_of_ble_eq_true rfl)
  rw [lg_entry_eq]
  generalize (lg_sl ([.ref ((E.2.2.1 k)), .int kd, .int rd]) ++ List.replicate (3 - (lg_sl ([.ref ((E.2.2.1 k)), .int kd, .int rd])).length) Slot.unset).toArray = ls at hl ⊢
  have hl : lv_has ls 3 [(0, .ref ((E.2.2.1 k))), (1, .int kd), (2, .int rd)] := hl
  refine lv_iload_n hx hb dX0_waitsFor_0 rfl (lv_at hl 2 rfl) ?_
  refine lv_aload_n hx hb dX0_waitsFor_1 rfl (lv_at hl 0 rfl) ?_
  refine c_gX0_8 C w hk kF_X0_42 dX0_waitsFor_2 ?_
  refine lv_topi (fun t_1 et_1 => ?_)
  refine lv_icmp_eq (tgt := 10) hx hb dX0_waitsFor_5 (by decide) (fun c_5 => ?_) (fun c_5 => ?_)
  · refine lv_iload_n hx hb dX0_waitsFor_10 rfl (lv_at hl 1 rfl) ?_
    refine lv_iconst (v := 1) hx hb dX0_waitsFor_11 (by decide) ?_
    refine lv_icmp_ne (tgt := 31) hx hb dX0_waitsFor_12 (by decide) (fun c_12 => ?_) (fun c_12 => ?_)
    · refine lv_iload_n hx hb dX0_waitsFor_31 rfl (lv_at hl 1 rfl) ?_
      refine lv_iconst (v := 3) hx hb dX0_waitsFor_32 (by decide) ?_
      refine lv_icmp_ne (tgt := 56) hx hb dX0_waitsFor_33 (by decide) (fun c_33 => ?_) (fun c_33 => ?_)
      · refine lv_iconst (v := 0) hx hb dX0_waitsFor_56 (by decide) ?_
        subst et_1
        exact W.zret (v := 0) (ty := .boolean) hx hb hr rfl (fun t ht hW => ⟨_, rfl, Or.inr ⟨rfl, fun h => h.2.elim (fun q => c_12 q.1) (fun q => c_33 q.1)⟩, ht⟩) (fun _ h => by cases h) dX0_waitsFor_57
      · refine lv_aload_n hx hb dX0_waitsFor_36 rfl (lv_at hl 0 rfl) ?_
        refine c_gX0_7 C w hk kF_X0_15 dX0_waitsFor_37 ?_
        refine lv_topi (fun t_2 et_2 => ?_)
        refine lv_iconst (v := 2) hx hb dX0_waitsFor_40 (by decide) ?_
        refine lv_icmp_eq (tgt := 52) hx hb dX0_waitsFor_41 (by decide) (fun c_41 => ?_) (fun c_41 => ?_)
        · refine lv_iconst (v := 1) hx hb dX0_waitsFor_52 (by decide) ?_
          refine lv_goto (tgt := 57) hx hb dX0_waitsFor_53 (by decide) ?_
          subst et_2 et_1
          exact W.zret (v := 1) (ty := .boolean) hx hb hr rfl (fun t ht hW => ⟨_, rfl, Or.inl ⟨rfl, c_5, Or.inr ⟨c_33, Or.inl c_41⟩⟩, ht⟩) (fun _ h => by cases h) dX0_waitsFor_57
        · refine lv_aload_n hx hb dX0_waitsFor_44 rfl (lv_at hl 0 rfl) ?_
          refine c_gX0_7 C w hk kF_X0_15 dX0_waitsFor_45 ?_
          refine lv_topi (fun t_3 et_3 => ?_)
          refine lv_iconst (v := 3) hx hb dX0_waitsFor_48 (by decide) ?_
          refine lv_icmp_ne (tgt := 56) hx hb dX0_waitsFor_49 (by decide) (fun c_49 => ?_) (fun c_49 => ?_)
          · refine lv_iconst (v := 0) hx hb dX0_waitsFor_56 (by decide) ?_
            subst et_3 et_2 et_1
            exact W.zret (v := 0) (ty := .boolean) hx hb hr rfl (fun t ht hW => ⟨_, rfl, Or.inr ⟨rfl, fun h => h.2.elim (fun q => c_12 q.1) (fun q => q.2.elim c_41 c_49)⟩, ht⟩) (fun _ h => by cases h) dX0_waitsFor_57
          · refine lv_iconst (v := 1) hx hb dX0_waitsFor_52 (by decide) ?_
            refine lv_goto (tgt := 57) hx hb dX0_waitsFor_53 (by decide) ?_
            subst et_3 et_2 et_1
            exact W.zret (v := 1) (ty := .boolean) hx hb hr rfl (fun t ht hW => ⟨_, rfl, Or.inl ⟨rfl, c_5, Or.inr ⟨c_33, Or.inr c_49⟩⟩, ht⟩) (fun _ h => by cases h) dX0_waitsFor_57
    · refine lv_aload_n hx hb dX0_waitsFor_15 rfl (lv_at hl 0 rfl) ?_
      refine c_gX0_7 C w hk kF_X0_15 dX0_waitsFor_16 ?_
      refine lv_topi (fun t_4 et_4 => ?_)
      refine lv_iconst (v := 1) hx hb dX0_waitsFor_19 (by decide) ?_
      refine lv_icmp_ne (tgt := 27) hx hb dX0_waitsFor_20 (by decide) (fun c_20 => ?_) (fun c_20 => ?_)
      · refine lv_iconst (v := 0) hx hb dX0_waitsFor_27 (by decide) ?_
        refine lv_goto (tgt := 57) hx hb dX0_waitsFor_28 (by decide) ?_
        subst et_4 et_1
        exact W.zret (v := 0) (ty := .boolean) hx hb hr rfl (fun t ht hW => ⟨_, rfl, Or.inr ⟨rfl, fun h => h.2.elim (fun q => c_20 q.2) (fun q => absurd (c_12.symm.trans q.1) (by decide))⟩, ht⟩) (fun _ h => by cases h) dX0_waitsFor_57
      · refine lv_iconst (v := 1) hx hb dX0_waitsFor_23 (by decide) ?_
        refine lv_goto (tgt := 57) hx hb dX0_waitsFor_24 (by decide) ?_
        subst et_4 et_1
        exact W.zret (v := 1) (ty := .boolean) hx hb hr rfl (fun t ht hW => ⟨_, rfl, Or.inl ⟨rfl, c_5, Or.inl ⟨c_12, c_20⟩⟩, ht⟩) (fun _ h => by cases h) dX0_waitsFor_57
  · refine lv_iconst (v := 0) hx hb dX0_waitsFor_8 (by decide) ?_
    subst et_1
    exact W.zret (v := 0) (ty := .boolean) hx hb hr rfl (fun t ht hW => ⟨_, rfl, Or.inr ⟨rfl, fun h => c_5 h.1⟩, ht⟩) (fun _ h => by cases h) dX0_waitsFor_9
set_option maxHeartbeats 4000000 in
set_option maxRecDepth 100000 in
theorem kl_alike {p : Program} {l : Launch} {e : Env} {R : Room} {s : State} {m : MethodId} {args : Array Value} {below : List Frame} {meth : Method} {c : Code} {cells slots : Nat} {Q : State → Prop} {D : va_G} {cI cZ cN cO : ClassId} {A : Nat → Prop} {H0 : Heap} {E : CE} {n bg : Nat} {H : Heap} {locs : List Loc} (C : Cx p c cX0_collectsAreAlike s m args RX0 D (gTy cI cZ cN cO)) (hml : c.maxLocals = 2) {σ : CS} {k : Nat} (w : cWd D cI cN cO A H0 E n bg σ H locs) (ok : cOK n bg σ) (hn : n ≤ 31) (hk : k < n) (kk : (∀ j, j < n → σ.2.1 2 k 2 j = σ.2.1 2 k 3 j) → ∀ ls : Array Slot, lv_has ls 2 [(1, .int (nI n)), (0, .ref ((E.2.2.1 k)))] → W p l e R s m args below meth c H locs cells slots Q (F0 m 34 ls [])) (ke : ∀ (i : Nat), i < n → ¬ σ.2.1 2 k 2 i = σ.2.1 2 k 3 i → ∀ ls : Array Slot, lv_has ls 2 [(0, .ref ((E.2.2.1 k)))] → W p l e R s m args below meth c H locs cells slots Q (F0 m 26 ls [])) : ∀ (fu i : Nat), i + fu = n → (∀ j, j < i → σ.2.1 2 k 2 j = σ.2.1 2 k 3 j) → ∀ ls : Array Slot, lv_has ls 2 [(1, .int (nI i)), (0, .ref ((E.2.2.1 k)))] → W p l e R s m args below meth c H locs cells slots Q (F0 m 2 ls []) := by
  intro fu
  induction fu with
  | zero =>
    intro i hik
    intro hI ls hl
    have hx := C.1
    have hb := C.2.1
    have hi : n = i := by omega
    subst hi
    refine lv_iload_n hx hb dX0_collectsAreAlike_2 rfl (lv_at hl 0 rfl) ?_
    refine lv_aload_n hx hb dX0_collectsAreAlike_3 rfl (lv_at hl 1 rfl) ?_
    refine c_gX0_2 C w hk kF_X0_26 dX0_collectsAreAlike_4 ?_
    refine c_nN2 C w hk dX0_collectsAreAlike_7 ?_
    refine lv_icmp_ge (tgt := 34) hx hb dX0_collectsAreAlike_8 (by decide) (fun c_8 => ?_) (fun c_8 => absurd (Int32.le_refl _) c_8)
    exact kk hI ls (lv_sub hl [0, 1] rfl)
  | succ fu ih =>
    intro i hik
    intro hI ls hl
    have hx := C.1
    have hb := C.2.1
    have hi : i < n := by omega
    refine lv_iload_n hx hb dX0_collectsAreAlike_2 rfl (lv_at hl 0 rfl) ?_
    refine lv_aload_n hx hb dX0_collectsAreAlike_3 rfl (lv_at hl 1 rfl) ?_
    refine c_gX0_2 C w hk kF_X0_26 dX0_collectsAreAlike_4 ?_
    refine c_nN2 C w hk dX0_collectsAreAlike_7 ?_
    refine lv_icmp_ge (tgt := 34) hx hb dX0_collectsAreAlike_8 (by decide) (fun c_8 => absurd c_8 (nI_ge hi (by omega))) (fun c_8 => ?_)
    refine lv_aload_n hx hb dX0_collectsAreAlike_11 rfl (lv_at hl 1 rfl) ?_
    refine c_gX0_2 C w hk kF_X0_26 dX0_collectsAreAlike_12 ?_
    refine lv_iload_n hx hb dX0_collectsAreAlike_15 rfl (lv_at hl 0 rfl) ?_
    refine c_lN2 C w hk (vp_in_nI hi (by omega)) dX0_collectsAreAlike_16 ?_
    refine lv_topi (fun t_1 et_1 => ?_)
    refine lv_aload_n hx hb dX0_collectsAreAlike_17 rfl (lv_at hl 1 rfl) ?_
    refine c_gX0_3 C w hk kF_X0_29 dX0_collectsAreAlike_18 ?_
    refine lv_iload_n hx hb dX0_collectsAreAlike_21 rfl (lv_at hl 0 rfl) ?_
    refine c_lN3 C w hk (vp_in_nI hi (by omega)) dX0_collectsAreAlike_22 ?_
    refine lv_topi (fun t_2 et_2 => ?_)
    refine lv_icmp_eq (tgt := 28) hx hb dX0_collectsAreAlike_23 (by decide) (fun c_23 => ?_) (fun c_23 => ?_)
    · obtain ⟨x_3, ex_3⟩ : ∃ y : Int32, y = (nI i) + 1 := ⟨_, rfl⟩
      refine lv_iinc (v := x_3) (lv' := [(1, _), (0, _)]) C.1 C.2.1 dX0_collectsAreAlike_28 hl (k := 0) rfl (by rw [ex_3]; rfl) (by decide) rfl (fun ls hl => ?_)
      refine lv_goto (tgt := 2) hx hb dX0_collectsAreAlike_31 (by decide) ?_
      have hq : σ.2.1 2 k 2 i = σ.2.1 2 k 3 i := by have h := c_23; rw [et_1, et_2, nI_clamp (by omega)] at h; exact h
      have hx2 : x_3 = nI (i + 1) := by rw [ex_3]; exact nI_1 i
      rw [hx2] at hl
      exact ih (i + 1) (by omega) (fun j hj => (Nat.lt_succ_iff_lt_or_eq.mp hj).elim (hI j) (fun e => by rw [e]; exact hq)) ls (lv_sub hl [0, 1] rfl)
    · exact ke i hi (by have h := c_23; rw [et_1, et_2, nI_clamp (by omega)] at h; exact h) ls (lv_sub hl [1] rfl)
set_option maxHeartbeats 4000000 in
set_option maxRecDepth 100000 in
theorem k_X0_collectsAreAlike (l : Launch) (D : va_G) (cI cZ cN cO : ClassId) (A : Nat → Prop) (E : CE) (n bg : Nat) (σ : CS) (k : Nat) (ok : cOK n bg σ) (hk : k < n) : Met l yX0_collectsAreAlike (.code yX0_collectsAreAlike cX0_collectsAreAlike 2 (some .boolean) :: gw) ({ frames := 0, cells := 0, slots := 0, locals := 0 }) (va_Pc (.ref (E.2.2.1 k) :: []) (cH D cI cZ cN cO A E n bg σ)) (vp_Si (fun r => (r = 1 ∧ cSame n k σ) ∨ (r = 0 ∧ ¬ cSame n k σ))) 0 0 (fun _ => False) := by
  refine Met.ofW (cc := cX0_collectsAreAlike) (maxL := 2) (ret := (some .boolean)) (by decide) rfl ?_
  intro p e s m args below meth c s₁ B hml hv
  obtain ⟨rfl, hP, hK, hD⟩ := hv
  have hx := B.exec
  have hb := B.bytes
  have hr := B.returns
  have hts := atoms_spec (ws := (.code yX0_collectsAreAlike cX0_collectsAreAlike 2 (some .boolean) :: gw)) B.pre
  have hg : ∀ w ∈ gw, w.before _ s = true := fun w h => hts w (List.mem_cons_of_mem _ h)
  have hown : s.vm.findClass RX0 = some m.cls := findClass_of_methodNamed B.named
  have hlocks := B.notSynchronized
  have C : Cx p c cX0_collectsAreAlike s m _ RX0 D (gTy cI cZ cN cO) := ⟨hx, hb, hown, hg, hK⟩
  have w : cWd D cI cN cO A s.heap E n bg σ s.heap [] := ⟨hP, hD, va_S.rf⟩
  have hl := lv_entry ([.ref ((E.2.2.1 k))]) (n := 2) (Nat.le_of_ble_eq_true rfl)
  rw [lg_entry_eq]
  generalize (lg_sl ([.ref ((E.2.2.1 k))]) ++ List.replicate (2 - (lg_sl ([.ref ((E.2.2.1 k))])).length) Slot.unset).toArray = ls at hl ⊢
  have hl : lv_has ls 2 [(0, .ref ((E.2.2.1 k)))] := hl
  refine lv_iconst (v := 0) hx hb dX0_collectsAreAlike_0 (by decide) ?_
  refine lv_istore_n (lv' := [(1, _), (0, _)]) C.1 C.2.1 dX0_collectsAreAlike_1 rfl hl (by decide) rfl (fun ls hl => ?_)
  rw [← nI_0] at hl
  refine kl_alike C hml w ok ok.2.1 hk ?_ ?_ n 0 (by omega) (fun j hj => absurd hj (Nat.not_lt_zero j)) ls (lv_sub hl [0, 1] rfl)
  · intro hI ls hl
    refine lv_iconst (v := 1) hx hb dX0_collectsAreAlike_34 (by decide) ?_
    exact W.zret (v := 1) (ty := .boolean) hx hb hr rfl (fun t ht hW => ⟨_, rfl, Or.inl ⟨rfl, hI⟩, ht⟩) (fun _ h => by cases h) dX0_collectsAreAlike_35
  · intro i hi hne ls hl
    refine lv_iconst (v := 0) hx hb dX0_collectsAreAlike_26 (by decide) ?_
    exact W.zret (v := 0) (ty := .boolean) hx hb hr rfl (fun t ht hW => ⟨_, rfl, Or.inr ⟨rfl, fun h => hne (h i hi)⟩, ht⟩) (fun _ h => by cases h) dX0_collectsAreAlike_27
set_option maxHeartbeats 4000000 in
set_option maxRecDepth 100000 in
theorem kl_least {p : Program} {l : Launch} {e : Env} {R : Room} {s : State} {m : MethodId} {args : Array Value} {below : List Frame} {meth : Method} {c : Code} {cells slots : Nat} {Q : State → Prop} {D : va_G} {cI cZ cN cO : ClassId} {A : Nat → Prop} {H0 : Heap} {E : CE} {n bg : Nat} {H : Heap} {locs : List Loc} (C : Cx p c cX0_leastThatMovedTwice s m args RX0 D (gTy cI cZ cN cO)) (hml : c.maxLocals = 2) {σ : CS} {k : Nat} (w : cWd D cI cN cO A H0 E n bg σ H locs) (ok : cOK n bg σ) (hn : n ≤ 31) (hk : k < n) (kk : (∀ j, j < n → ¬ cMv k σ j) → ∀ ls : Array Slot, lv_has ls 2 [(1, .int (nI n)), (0, .ref ((E.2.2.1 k)))] → W p l e R s m args below meth c H locs cells slots Q (F0 m 43 ls [])) (ke : ∀ (i : Nat), i < n → (cMv k σ i ∧ ∀ j, j < i → ¬ cMv k σ j) → ∀ ls : Array Slot, lv_has ls 2 [(1, .int (nI i)), (0, .ref ((E.2.2.1 k)))] → W p l e R s m args below meth c H locs cells slots Q (F0 m 35 ls [])) : ∀ (fu i : Nat), i + fu = n → (∀ j, j < i → ¬ cMv k σ j) → ∀ ls : Array Slot, lv_has ls 2 [(1, .int (nI i)), (0, .ref ((E.2.2.1 k)))] → W p l e R s m args below meth c H locs cells slots Q (F0 m 2 ls []) := by
  intro fu
  induction fu with
  | zero =>
    intro i hik
    intro hI ls hl
    have hx := C.1
    have hb := C.2.1
    have hi : n = i := by omega
    subst hi
    refine lv_iload_n hx hb dX0_leastThatMovedTwice_2 rfl (lv_at hl 0 rfl) ?_
    refine lv_aload_n hx hb dX0_leastThatMovedTwice_3 rfl (lv_at hl 1 rfl) ?_
    refine c_gX0_2 C w hk kF_X0_26 dX0_leastThatMovedTwice_4 ?_
    refine c_nN2 C w hk dX0_leastThatMovedTwice_7 ?_
    refine lv_icmp_ge (tgt := 43) hx hb dX0_leastThatMovedTwice_8 (by decide) (fun c_8 => ?_) (fun c_8 => absurd (Int32.le_refl _) c_8)
    exact kk hI ls (lv_sub hl [0, 1] rfl)
  | succ fu ih =>
    intro i hik
    intro hI ls hl
    have hx := C.1
    have hb := C.2.1
    have hi : i < n := by omega
    refine lv_iload_n hx hb dX0_leastThatMovedTwice_2 rfl (lv_at hl 0 rfl) ?_
    refine lv_aload_n hx hb dX0_leastThatMovedTwice_3 rfl (lv_at hl 1 rfl) ?_
    refine c_gX0_2 C w hk kF_X0_26 dX0_leastThatMovedTwice_4 ?_
    refine c_nN2 C w hk dX0_leastThatMovedTwice_7 ?_
    refine lv_icmp_ge (tgt := 43) hx hb dX0_leastThatMovedTwice_8 (by decide) (fun c_8 => absurd c_8 (nI_ge hi (by omega))) (fun c_8 => ?_)
    refine lv_aload_n hx hb dX0_leastThatMovedTwice_11 rfl (lv_at hl 1 rfl) ?_
    refine c_gX0_4 C w hk kF_X0_32 dX0_leastThatMovedTwice_12 ?_
    refine lv_iload_n hx hb dX0_leastThatMovedTwice_15 rfl (lv_at hl 0 rfl) ?_
    refine c_lN4 C w hk (vp_in_nI hi (by omega)) dX0_leastThatMovedTwice_16 ?_
    refine lv_topi (fun t_1 et_1 => ?_)
    refine lv_if_le (tgt := 37) hx hb dX0_leastThatMovedTwice_17 (by decide) (fun c_17 => ?_) (fun c_17 => ?_)
    · obtain ⟨x_2, ex_2⟩ : ∃ y : Int32, y = (nI i) + 1 := ⟨_, rfl⟩
      refine lv_iinc (v := x_2) (lv' := [(1, _), (0, _)]) C.1 C.2.1 dX0_leastThatMovedTwice_37 hl (k := 0) rfl (by rw [ex_2]; rfl) (by decide) rfl (fun ls hl => ?_)
      refine lv_goto (tgt := 2) hx hb dX0_leastThatMovedTwice_40 (by decide) ?_
      have hq : ¬ cMv k σ i := fun z => z.1 (by have h := c_17; rw [et_1, nI_clamp (by omega)] at h; exact h)
      have hx2 : x_2 = nI (i + 1) := by rw [ex_2]; exact nI_1 i
      rw [hx2] at hl
      exact ih (i + 1) (by omega) (fun j hj => (Nat.lt_succ_iff_lt_or_eq.mp hj).elim (hI j) (fun e => by rw [e]; exact hq)) ls (lv_sub hl [0, 1] rfl)
    · refine lv_aload_n hx hb dX0_leastThatMovedTwice_20 rfl (lv_at hl 1 rfl) ?_
      refine c_gX0_2 C w hk kF_X0_26 dX0_leastThatMovedTwice_21 ?_
      refine lv_iload_n hx hb dX0_leastThatMovedTwice_24 rfl (lv_at hl 0 rfl) ?_
      refine c_lN2 C w hk (vp_in_nI hi (by omega)) dX0_leastThatMovedTwice_25 ?_
      refine lv_topi (fun t_3 et_3 => ?_)
      refine lv_aload_n hx hb dX0_leastThatMovedTwice_26 rfl (lv_at hl 1 rfl) ?_
      refine c_gX0_3 C w hk kF_X0_29 dX0_leastThatMovedTwice_27 ?_
      refine lv_iload_n hx hb dX0_leastThatMovedTwice_30 rfl (lv_at hl 0 rfl) ?_
      refine c_lN3 C w hk (vp_in_nI hi (by omega)) dX0_leastThatMovedTwice_31 ?_
      refine lv_topi (fun t_4 et_4 => ?_)
      refine lv_icmp_eq (tgt := 37) hx hb dX0_leastThatMovedTwice_32 (by decide) (fun c_32 => ?_) (fun c_32 => ?_)
      · obtain ⟨x_5, ex_5⟩ : ∃ y : Int32, y = (nI i) + 1 := ⟨_, rfl⟩
        refine lv_iinc (v := x_5) (lv' := [(1, _), (0, _)]) C.1 C.2.1 dX0_leastThatMovedTwice_37 hl (k := 0) rfl (by rw [ex_5]; rfl) (by decide) rfl (fun ls hl => ?_)
        refine lv_goto (tgt := 2) hx hb dX0_leastThatMovedTwice_40 (by decide) ?_
        have hq : ¬ cMv k σ i := fun z => z.2 (by have h := c_32; rw [et_3, et_4, nI_clamp (by omega)] at h; exact h)
        have hx2 : x_5 = nI (i + 1) := by rw [ex_5]; exact nI_1 i
        rw [hx2] at hl
        exact ih (i + 1) (by omega) (fun j hj => (Nat.lt_succ_iff_lt_or_eq.mp hj).elim (hI j) (fun e => by rw [e]; exact hq)) ls (lv_sub hl [0, 1] rfl)
      · exact ke i hi ⟨⟨by have h := c_17; rw [et_1, nI_clamp (by omega)] at h; exact h, by have h := c_32; rw [et_3, et_4, nI_clamp (by omega)] at h; exact h⟩, hI⟩ ls (lv_sub hl [0, 1] rfl)
set_option maxHeartbeats 4000000 in
set_option maxRecDepth 100000 in
theorem k_X0_leastThatMovedTwice (l : Launch) (D : va_G) (cI cZ cN cO : ClassId) (A : Nat → Prop) (E : CE) (n bg : Nat) (σ : CS) (k : Nat) (ok : cOK n bg σ) (hk : k < n) : Met l yX0_leastThatMovedTwice (.code yX0_leastThatMovedTwice cX0_leastThatMovedTwice 2 (some .int) :: gw) ({ frames := 0, cells := 0, slots := 0, locals := 0 }) (va_Pc (.ref (E.2.2.1 k) :: []) (cH D cI cZ cN cO A E n bg σ)) (vp_Si (fun r => (∃ i, i < n ∧ r = nI i ∧ cMv k σ i ∧ ∀ j, j < i → ¬ cMv k σ j) ∨ (r = -1 ∧ ∀ j, j < n → ¬ cMv k σ j))) 0 0 (fun _ => False) := by
  refine Met.ofW (cc := cX0_leastThatMovedTwice) (maxL := 2) (ret := (some .int)) (by decide) rfl ?_
  intro p e s m args below meth c s₁ B hml hv
  obtain ⟨rfl, hP, hK, hD⟩ := hv
  have hx := B.exec
  have hb := B.bytes
  have hr := B.returns
  have hts := atoms_spec (ws := (.code yX0_leastThatMovedTwice cX0_leastThatMovedTwice 2 (some .int) :: gw)) B.pre
  have hg : ∀ w ∈ gw, w.before _ s = true := fun w h => hts w (List.mem_cons_of_mem _ h)
  have hown : s.vm.findClass RX0 = some m.cls := findClass_of_methodNamed B.named
  have hlocks := B.notSynchronized
  have C : Cx p c cX0_leastThatMovedTwice s m _ RX0 D (gTy cI cZ cN cO) := ⟨hx, hb, hown, hg, hK⟩
  have w : cWd D cI cN cO A s.heap E n bg σ s.heap [] := ⟨hP, hD, va_S.rf⟩
  have hl := lv_entry ([.ref ((E.2.2.1 k))]) (n := 2) (Nat.le_of_ble_eq_true rfl)
  rw [lg_entry_eq]
  generalize (lg_sl ([.ref ((E.2.2.1 k))]) ++ List.replicate (2 - (lg_sl ([.ref ((E.2.2.1 k))])).length) Slot.unset).toArray = ls at hl ⊢
  have hl : lv_has ls 2 [(0, .ref ((E.2.2.1 k)))] := hl
  refine lv_iconst (v := 0) hx hb dX0_leastThatMovedTwice_0 (by decide) ?_
  refine lv_istore_n (lv' := [(1, _), (0, _)]) C.1 C.2.1 dX0_leastThatMovedTwice_1 rfl hl (by decide) rfl (fun ls hl => ?_)
  rw [← nI_0] at hl
  refine kl_least C hml w ok ok.2.1 hk ?_ ?_ n 0 (by omega) (fun j hj => absurd hj (Nat.not_lt_zero j)) ls (lv_sub hl [0, 1] rfl)
  · intro hI ls hl
    refine lv_iconst (v := (-1)) hx hb dX0_leastThatMovedTwice_43 (by decide) ?_
    exact W.iret hx hb hr (fun t ht hW => ⟨_, rfl, Or.inr ⟨rfl, hI⟩, ht⟩) (fun _ h => by cases h) dX0_leastThatMovedTwice_44
  · intro i hi hmv ls hl
    refine lv_iload_n hx hb dX0_leastThatMovedTwice_35 rfl (lv_at hl 0 rfl) ?_
    exact W.iret hx hb hr (fun t ht hW => ⟨_, rfl, Or.inl ⟨i, hi, rfl, hmv⟩, ht⟩) (fun _ h => by cases h) dX0_leastThatMovedTwice_36
set_option maxHeartbeats 4000000 in
set_option maxRecDepth 100000 in
theorem kl_rem1 {p : Program} {l : Launch} {e : Env} {R : Room} {s : State} {m : MethodId} {args : Array Value} {below : List Frame} {meth : Method} {c : Code} {cells slots : Nat} {Q : State → Prop} {D : va_G} {cI cZ cN cO : ClassId} {A : Nat → Prop} {H0 : Heap} {E : CE} {n bg : Nat} (C : Cx p c cX0_rememberCollect s m args RX0 D (gTy cI cZ cN cO)) (hml : c.maxLocals = 3) {σ : CS} {k : Nat} (hn : n ≤ 31) (hk : k < n) (kk : ∀ (H : Heap) (locs : List Loc), cWd D cI cN cO A H0 E n bg (cR_ σ 2 k 3 (mix (σ.2.1 2 k 2) (σ.2.1 2 k 3) n)) H locs → cOK n bg (cR_ σ 2 k 3 (mix (σ.2.1 2 k 2) (σ.2.1 2 k 3) n)) → ∀ ls : Array Slot, lv_has ls 3 [(2, .int (nI n)), (0, .ref ((E.2.2.1 k))), (1, .int 1)] → W p l e R s m args below meth c H locs cells slots Q (F0 m 58 ls [])) : ∀ (fu i : Nat), i + fu = n → ∀ (H : Heap) (locs : List Loc), cWd D cI cN cO A H0 E n bg (cR_ σ 2 k 3 (mix (σ.2.1 2 k 2) (σ.2.1 2 k 3) i)) H locs → cOK n bg (cR_ σ 2 k 3 (mix (σ.2.1 2 k 2) (σ.2.1 2 k 3) i)) → ∀ ls : Array Slot, lv_has ls 3 [(2, .int (nI i)), (0, .ref ((E.2.2.1 k))), (1, .int 1)] → W p l e R s m args below meth c H locs cells slots Q (F0 m 2 ls []) := by
  intro fu
  induction fu with
  | zero =>
    intro i hik
    intro H locs w ok ls hl
    have hx := C.1
    have hb := C.2.1
    have hi : n = i := by omega
    subst hi
    refine lv_iload_n hx hb dX0_rememberCollect_2 rfl (lv_at hl 0 rfl) ?_
    refine lv_aload_n hx hb dX0_rememberCollect_3 rfl (lv_at hl 1 rfl) ?_
    refine c_gX0_2 C w hk kF_X0_26 dX0_rememberCollect_4 ?_
    refine c_nN2 C w hk dX0_rememberCollect_7 ?_
    refine lv_icmp_ge (tgt := 58) hx hb dX0_rememberCollect_8 (by decide) (fun c_8 => ?_) (fun c_8 => absurd (Int32.le_refl _) c_8)
    exact kk _ _ w ok ls (lv_sub hl [0, 1, 2] rfl)
  | succ fu ih =>
    intro i hik
    intro H locs w ok ls hl
    have hx := C.1
    have hb := C.2.1
    have hi : i < n := by omega
    refine lv_iload_n hx hb dX0_rememberCollect_2 rfl (lv_at hl 0 rfl) ?_
    refine lv_aload_n hx hb dX0_rememberCollect_3 rfl (lv_at hl 1 rfl) ?_
    refine c_gX0_2 C w hk kF_X0_26 dX0_rememberCollect_4 ?_
    refine c_nN2 C w hk dX0_rememberCollect_7 ?_
    refine lv_icmp_ge (tgt := 58) hx hb dX0_rememberCollect_8 (by decide) (fun c_8 => absurd c_8 (nI_ge hi (by omega))) (fun c_8 => ?_)
    refine lv_iload_n hx hb dX0_rememberCollect_11 rfl (lv_at hl 2 rfl) ?_
    refine lv_if_ne (tgt := 40) hx hb dX0_rememberCollect_12 (by decide) (fun c_12 => ?_) (fun c_12 => absurd c_12 (by decide))
    refine lv_aload_n hx hb dX0_rememberCollect_40 rfl (lv_at hl 1 rfl) ?_
    refine c_gX0_3 C w hk kF_X0_29 dX0_rememberCollect_41 ?_
    refine lv_iload_n hx hb dX0_rememberCollect_44 rfl (lv_at hl 0 rfl) ?_
    refine lv_aload_n hx hb dX0_rememberCollect_45 rfl (lv_at hl 1 rfl) ?_
    refine c_gX0_2 C w hk kF_X0_26 dX0_rememberCollect_46 ?_
    refine lv_iload_n hx hb dX0_rememberCollect_49 rfl (lv_at hl 0 rfl) ?_
    refine c_lN2 C w hk (vp_in_nI hi (by omega)) dX0_rememberCollect_50 ?_
    refine lv_topi (fun t_1 et_1 => ?_)
    refine c_sN3 (v := t_1) C w hk (vp_in_nI hi (by omega)) dX0_rememberCollect_51 (fun H locs w => ?_)
    have ok : cOK n bg _ := cOK.st ok (kd := 2) (ix := k) (f := 3) (i := (nI i).toNatClampNeg) (v := t_1) (fun h => absurd h (by decide))
    obtain ⟨x_2, ex_2⟩ : ∃ y : Int32, y = (nI i) + 1 := ⟨_, rfl⟩
    refine lv_iinc (v := x_2) (lv' := [(2, _), (0, _), (1, _)]) C.1 C.2.1 dX0_rememberCollect_52 hl (k := 0) rfl (by rw [ex_2]; rfl) (by decide) rfl (fun ls hl => ?_)
    refine lv_goto (tgt := 2) hx hb dX0_rememberCollect_55 (by decide) ?_
    have hv : t_1 = σ.2.1 2 k 2 i := by rw [et_1, nI_clamp (by omega), cR_ne (by decide)]
    rw [cA_mix (F := σ.2.1 2 k 2) (by omega) hv] at w ok
    have hx2 : x_2 = nI (i + 1) := by rw [ex_2]; exact nI_1 i
    rw [hx2] at hl
    exact ih (i + 1) (by omega) _ _ w ok ls (lv_sub hl [0, 1, 2] rfl)
set_option maxHeartbeats 4000000 in
set_option maxRecDepth 100000 in
theorem k_rem1 (l : Launch) (D : va_G) (cI cZ cN cO : ClassId) (A : Nat → Prop) (E : CE) (n bg : Nat) (σ : CS) (k : Nat) (ok : cOK n bg σ) (hk : k < n) : Met l yX0_rememberCollect (.code yX0_rememberCollect cX0_rememberCollect 3 none :: gw) ({ frames := 0, cells := 0, slots := 0, locals := 0 }) (va_Pc (.ref (E.2.2.1 k) :: [.int 1]) (cH D cI cZ cN cO A E n bg σ)) (va_Qv (fun _ : Unit => True) (fun _ t => cH D cI cZ cN cO A E n bg (cRem1 n k σ) t ∧ cOK n bg (cRem1 n k σ)) A) 0 0 A := by
  refine Met.ofW (cc := cX0_rememberCollect) (maxL := 3) (ret := none) (by decide) rfl ?_
  intro p e s m args below meth c s₁ B hml hv
  obtain ⟨rfl, hP, hK, hD⟩ := hv
  have hx := B.exec
  have hb := B.bytes
  have hr := B.returns
  have hts := atoms_spec (ws := (.code yX0_rememberCollect cX0_rememberCollect 3 none :: gw)) B.pre
  have hg : ∀ w ∈ gw, w.before _ s = true := fun w h => hts w (List.mem_cons_of_mem _ h)
  have hown : s.vm.findClass RX0 = some m.cls := findClass_of_methodNamed B.named
  have hlocks := B.notSynchronized
  have C : Cx p c cX0_rememberCollect s m _ RX0 D (gTy cI cZ cN cO) := ⟨hx, hb, hown, hg, hK⟩
  have w : cWd D cI cN cO A s.heap E n bg σ s.heap [] := ⟨hP, hD, va_S.rf⟩
  have hl := lv_entry ([.ref ((E.2.2.1 k)), .int 1]) (n := 3) (Nat.le_of_ble_eq_true rfl)
  rw [lg_entry_eq]
  generalize (lg_sl ([.ref ((E.2.2.1 k)), .int 1]) ++ List.replicate (3 - (lg_sl ([.ref ((E.2.2.1 k)), .int 1])).length) Slot.unset).toArray = ls at hl ⊢
  have hl : lv_has ls 3 [(0, .ref ((E.2.2.1 k))), (1, .int 1)] := hl
  refine lv_iconst (v := 0) hx hb dX0_rememberCollect_0 (by decide) ?_
  refine lv_istore_n (lv' := [(2, _), (0, _), (1, _)]) C.1 C.2.1 dX0_rememberCollect_1 rfl hl (by decide) rfl (fun ls hl => ?_)
  have hl := lv_sub hl (l' := [(2, .int (nI 0)), (0, .ref (E.2.2.1 k)), (1, .int 1)]) [0, 1, 2] (by rw [nI_0]; rfl)
  have e0 : cR_ σ 2 k 3 (mix (σ.2.1 2 k 2) (σ.2.1 2 k 3) 0) = σ := by rw [mix_0, cR_self]
  rw [← e0] at w ok
  refine kl_rem1 C hml ok.2.1 hk ?_ n 0 (by omega) _ _ w ok ls (lv_sub hl [0, 1, 2] rfl)
  intro H locs w ok ls hl
  exact W.vret hx hb hr (fun t ht hW => ⟨⟨(), rfl, trivial, ⟨by rw [ht]; exact w.1, va_K.moved hW.alike hK, w.2.1⟩, ok⟩, w.2.2.F ht⟩) w.2.2.2.2 dX0_rememberCollect_58
set_option maxHeartbeats 4000000 in
set_option maxRecDepth 100000 in
theorem kl_rem0 {p : Program} {l : Launch} {e : Env} {R : Room} {s : State} {m : MethodId} {args : Array Value} {below : List Frame} {meth : Method} {c : Code} {cells slots : Nat} {Q : State → Prop} {D : va_G} {cI cZ cN cO : ClassId} {A : Nat → Prop} {H0 : Heap} {E : CE} {n bg : Nat} (C : Cx p c cX0_rememberCollect s m args RX0 D (gTy cI cZ cN cO)) (hml : c.maxLocals = 3) {σ : CS} {k : Nat} (hn : n ≤ 31) (hk : k < n) (kk : ∀ (H : Heap) (locs : List Loc), cWd D cI cN cO A H0 E n bg (cR_ (cR_ σ 2 k 3 (mix (σ.2.1 2 k 2) (σ.2.1 2 k 3) n)) 2 k 4 (mix (mvF k σ) (σ.2.1 2 k 4) n)) H locs → cOK n bg (cR_ (cR_ σ 2 k 3 (mix (σ.2.1 2 k 2) (σ.2.1 2 k 3) n)) 2 k 4 (mix (mvF k σ) (σ.2.1 2 k 4) n)) → ∀ ls : Array Slot, lv_has ls 3 [(2, .int (nI n)), (0, .ref ((E.2.2.1 k))), (1, .int 0)] → W p l e R s m args below meth c H locs cells slots Q (F0 m 58 ls [])) : ∀ (fu i : Nat), i + fu = n → ∀ (H : Heap) (locs : List Loc), cWd D cI cN cO A H0 E n bg (cR_ (cR_ σ 2 k 3 (mix (σ.2.1 2 k 2) (σ.2.1 2 k 3) i)) 2 k 4 (mix (mvF k σ) (σ.2.1 2 k 4) i)) H locs → cOK n bg (cR_ (cR_ σ 2 k 3 (mix (σ.2.1 2 k 2) (σ.2.1 2 k 3) i)) 2 k 4 (mix (mvF k σ) (σ.2.1 2 k 4) i)) → ∀ ls : Array Slot, lv_has ls 3 [(2, .int (nI i)), (0, .ref ((E.2.2.1 k))), (1, .int 0)] → W p l e R s m args below meth c H locs cells slots Q (F0 m 2 ls []) := by
  intro fu
  induction fu with
  | zero =>
    intro i hik
    intro H locs w ok ls hl
    have hx := C.1
    have hb := C.2.1
    have hi : n = i := by omega
    subst hi
    refine lv_iload_n hx hb dX0_rememberCollect_2 rfl (lv_at hl 0 rfl) ?_
    refine lv_aload_n hx hb dX0_rememberCollect_3 rfl (lv_at hl 1 rfl) ?_
    refine c_gX0_2 C w hk kF_X0_26 dX0_rememberCollect_4 ?_
    refine c_nN2 C w hk dX0_rememberCollect_7 ?_
    refine lv_icmp_ge (tgt := 58) hx hb dX0_rememberCollect_8 (by decide) (fun c_8 => ?_) (fun c_8 => absurd (Int32.le_refl _) c_8)
    exact kk _ _ w ok ls (lv_sub hl [0, 1, 2] rfl)
  | succ fu ih =>
    intro i hik
    intro H locs w ok ls hl
    have hx := C.1
    have hb := C.2.1
    have hi : i < n := by omega
    refine lv_iload_n hx hb dX0_rememberCollect_2 rfl (lv_at hl 0 rfl) ?_
    refine lv_aload_n hx hb dX0_rememberCollect_3 rfl (lv_at hl 1 rfl) ?_
    refine c_gX0_2 C w hk kF_X0_26 dX0_rememberCollect_4 ?_
    refine c_nN2 C w hk dX0_rememberCollect_7 ?_
    refine lv_icmp_ge (tgt := 58) hx hb dX0_rememberCollect_8 (by decide) (fun c_8 => absurd c_8 (nI_ge hi (by omega))) (fun c_8 => ?_)
    refine lv_iload_n hx hb dX0_rememberCollect_11 rfl (lv_at hl 2 rfl) ?_
    refine lv_if_ne (tgt := 40) hx hb dX0_rememberCollect_12 (by decide) (fun c_12 => absurd rfl c_12) (fun c_12 => ?_)
    refine lv_aload_n hx hb dX0_rememberCollect_15 rfl (lv_at hl 1 rfl) ?_
    refine c_gX0_2 C w hk kF_X0_26 dX0_rememberCollect_16 ?_
    refine lv_iload_n hx hb dX0_rememberCollect_19 rfl (lv_at hl 0 rfl) ?_
    refine c_lN2 C w hk (vp_in_nI hi (by omega)) dX0_rememberCollect_20 ?_
    refine lv_topi (fun t_1 et_1 => ?_)
    refine lv_aload_n hx hb dX0_rememberCollect_21 rfl (lv_at hl 1 rfl) ?_
    refine c_gX0_3 C w hk kF_X0_29 dX0_rememberCollect_22 ?_
    refine lv_iload_n hx hb dX0_rememberCollect_25 rfl (lv_at hl 0 rfl) ?_
    refine c_lN3 C w hk (vp_in_nI hi (by omega)) dX0_rememberCollect_26 ?_
    refine lv_topi (fun t_2 et_2 => ?_)
    refine lv_icmp_eq (tgt := 40) hx hb dX0_rememberCollect_27 (by decide) (fun c_27 => ?_) (fun c_27 => ?_)
    · refine lv_aload_n hx hb dX0_rememberCollect_40 rfl (lv_at hl 1 rfl) ?_
      refine c_gX0_3 C w hk kF_X0_29 dX0_rememberCollect_41 ?_
      refine lv_iload_n hx hb dX0_rememberCollect_44 rfl (lv_at hl 0 rfl) ?_
      refine lv_aload_n hx hb dX0_rememberCollect_45 rfl (lv_at hl 1 rfl) ?_
      refine c_gX0_2 C w hk kF_X0_26 dX0_rememberCollect_46 ?_
      refine lv_iload_n hx hb dX0_rememberCollect_49 rfl (lv_at hl 0 rfl) ?_
      refine c_lN2 C w hk (vp_in_nI hi (by omega)) dX0_rememberCollect_50 ?_
      refine lv_topi (fun t_3 et_3 => ?_)
      refine c_sN3 (v := t_3) C w hk (vp_in_nI hi (by omega)) dX0_rememberCollect_51 (fun H locs w => ?_)
      have ok : cOK n bg _ := cOK.st ok (kd := 2) (ix := k) (f := 3) (i := (nI i).toNatClampNeg) (v := t_3) (fun h => absurd h (by decide))
      obtain ⟨x_4, ex_4⟩ : ∃ y : Int32, y = (nI i) + 1 := ⟨_, rfl⟩
      refine lv_iinc (v := x_4) (lv' := [(2, _), (0, _), (1, _)]) C.1 C.2.1 dX0_rememberCollect_52 hl (k := 0) rfl (by rw [ex_4]; rfl) (by decide) rfl (fun ls hl => ?_)
      refine lv_goto (tgt := 2) hx hb dX0_rememberCollect_55 (by decide) ?_
      have hc : (σ.2.1 2 k 2 i = σ.2.1 2 k 3 i) := by have h := c_27; rw [et_1, et_2, nI_clamp (by omega), cR_ne (show ¬ ((2 : Nat) = 2 ∧ (2 : Nat) = 4) by decide), cR_ne (show ¬ ((2 : Nat) = 2 ∧ (2 : Nat) = 3) by decide), cR_ne (show ¬ ((2 : Nat) = 2 ∧ (3 : Nat) = 4) by decide), cR_get, mix_at] at h; exact h
      have hv : t_3 = σ.2.1 2 k 2 i := by rw [et_3, nI_clamp (by omega), cR_ne (show ¬ ((2 : Nat) = 2 ∧ (2 : Nat) = 4) by decide), cR_ne (show ¬ ((2 : Nat) = 2 ∧ (2 : Nat) = 3) by decide)]
      have hst : cA_ (cR_ (cR_ σ 2 k 3 (mix (σ.2.1 2 k 2) (σ.2.1 2 k 3) i)) 2 k 4 (mix (mvF k σ) (σ.2.1 2 k 4) i)) 2 k 3 (nI i).toNatClampNeg t_3 = cR_ (cR_ σ 2 k 3 (mix (σ.2.1 2 k 2) (σ.2.1 2 k 3) (i + 1))) 2 k 4 (mix (mvF k σ) (σ.2.1 2 k 4) (i + 1)) := by rw [cA_R, cR_ne (show ¬ ((2 : Nat) = 2 ∧ (3 : Nat) = 4) by decide), cR_get, cR_comm (by decide), cR_R, nI_clamp (by omega), hv, mix_step, mix_same (F := mvF k σ) (show mvF k σ i = σ.2.1 2 k 4 i from if_pos hc)]
      rw [hst] at w ok
      have hx2 : x_4 = nI (i + 1) := by rw [ex_4]; exact nI_1 i
      rw [hx2] at hl
      exact ih (i + 1) (by omega) _ _ w ok ls (lv_sub hl [0, 1, 2] rfl)
    · refine lv_aload_n hx hb dX0_rememberCollect_30 rfl (lv_at hl 1 rfl) ?_
      refine c_gX0_4 C w hk kF_X0_32 dX0_rememberCollect_31 ?_
      refine lv_iload_n hx hb dX0_rememberCollect_34 rfl (lv_at hl 0 rfl) ?_
      refine lv_dup2_11 hx hb dX0_rememberCollect_35 rfl rfl ?_
      refine c_lN4 C w hk (vp_in_nI hi (by omega)) dX0_rememberCollect_36 ?_
      refine lv_topi (fun t_5 et_5 => ?_)
      refine lv_iconst (v := 1) hx hb dX0_rememberCollect_37 (by decide) ?_
      refine lv_iadd hx hb dX0_rememberCollect_38 ?_
      refine lv_topi (fun t_6 et_6 => ?_)
      refine c_sN4 (v := t_6) C w hk (vp_in_nI hi (by omega)) dX0_rememberCollect_39 (fun H locs w => ?_)
      have ok : cOK n bg _ := cOK.st ok (kd := 2) (ix := k) (f := 4) (i := (nI i).toNatClampNeg) (v := t_6) (fun h => absurd h (by decide))
      refine lv_aload_n hx hb dX0_rememberCollect_40 rfl (lv_at hl 1 rfl) ?_
      refine c_gX0_3 C w hk kF_X0_29 dX0_rememberCollect_41 ?_
      refine lv_iload_n hx hb dX0_rememberCollect_44 rfl (lv_at hl 0 rfl) ?_
      refine lv_aload_n hx hb dX0_rememberCollect_45 rfl (lv_at hl 1 rfl) ?_
      refine c_gX0_2 C w hk kF_X0_26 dX0_rememberCollect_46 ?_
      refine lv_iload_n hx hb dX0_rememberCollect_49 rfl (lv_at hl 0 rfl) ?_
      refine c_lN2 C w hk (vp_in_nI hi (by omega)) dX0_rememberCollect_50 ?_
      refine lv_topi (fun t_7 et_7 => ?_)
      refine c_sN3 (v := t_7) C w hk (vp_in_nI hi (by omega)) dX0_rememberCollect_51 (fun H locs w => ?_)
      have ok : cOK n bg _ := cOK.st ok (kd := 2) (ix := k) (f := 3) (i := (nI i).toNatClampNeg) (v := t_7) (fun h => absurd h (by decide))
      obtain ⟨x_8, ex_8⟩ : ∃ y : Int32, y = (nI i) + 1 := ⟨_, rfl⟩
      refine lv_iinc (v := x_8) (lv' := [(2, _), (0, _), (1, _)]) C.1 C.2.1 dX0_rememberCollect_52 hl (k := 0) rfl (by rw [ex_8]; rfl) (by decide) rfl (fun ls hl => ?_)
      refine lv_goto (tgt := 2) hx hb dX0_rememberCollect_55 (by decide) ?_
      have hc : ¬ (σ.2.1 2 k 2 i = σ.2.1 2 k 3 i) := by have h := c_27; rw [et_1, et_2, nI_clamp (by omega), cR_ne (show ¬ ((2 : Nat) = 2 ∧ (2 : Nat) = 4) by decide), cR_ne (show ¬ ((2 : Nat) = 2 ∧ (2 : Nat) = 3) by decide), cR_ne (show ¬ ((2 : Nat) = 2 ∧ (3 : Nat) = 4) by decide), cR_get, mix_at] at h; exact h
      have hv : t_7 = σ.2.1 2 k 2 i := by rw [et_7, cA_R, cR_ne (show ¬ ((2 : Nat) = 2 ∧ (2 : Nat) = 4) by decide), nI_clamp (by omega), cR_ne (show ¬ ((2 : Nat) = 2 ∧ (2 : Nat) = 4) by decide), cR_ne (show ¬ ((2 : Nat) = 2 ∧ (2 : Nat) = 3) by decide)]
      have hm : t_6 = mvF k σ i := by rw [et_6, et_5, nI_clamp (by omega), cR_get, mix_at]; exact (if_neg hc).symm
      have hst : cA_ (cA_ (cR_ (cR_ σ 2 k 3 (mix (σ.2.1 2 k 2) (σ.2.1 2 k 3) i)) 2 k 4 (mix (mvF k σ) (σ.2.1 2 k 4) i)) 2 k 4 (nI i).toNatClampNeg t_6) 2 k 3 (nI i).toNatClampNeg t_7 = cR_ (cR_ σ 2 k 3 (mix (σ.2.1 2 k 2) (σ.2.1 2 k 3) (i + 1))) 2 k 4 (mix (mvF k σ) (σ.2.1 2 k 4) (i + 1)) := by rw [cA_mix (F := mvF k σ) (by omega) hm, cA_R, cR_ne (show ¬ ((2 : Nat) = 2 ∧ (3 : Nat) = 4) by decide), cR_get, cR_comm (by decide), cR_R, nI_clamp (by omega), hv, mix_step]
      rw [hst] at w ok
      have hx2 : x_8 = nI (i + 1) := by rw [ex_8]; exact nI_1 i
      rw [hx2] at hl
      exact ih (i + 1) (by omega) _ _ w ok ls (lv_sub hl [0, 1, 2] rfl)
set_option maxHeartbeats 4000000 in
set_option maxRecDepth 100000 in
theorem k_rem0 (l : Launch) (D : va_G) (cI cZ cN cO : ClassId) (A : Nat → Prop) (E : CE) (n bg : Nat) (σ : CS) (k : Nat) (ok : cOK n bg σ) (hk : k < n) : Met l yX0_rememberCollect (.code yX0_rememberCollect cX0_rememberCollect 3 none :: gw) ({ frames := 0, cells := 0, slots := 0, locals := 0 }) (va_Pc (.ref (E.2.2.1 k) :: [.int 0]) (cH D cI cZ cN cO A E n bg σ)) (va_Qv (fun _ : Unit => True) (fun _ t => cH D cI cZ cN cO A E n bg (cRem0 n k σ) t ∧ cOK n bg (cRem0 n k σ)) A) 0 0 A := by
  refine Met.ofW (cc := cX0_rememberCollect) (maxL := 3) (ret := none) (by decide) rfl ?_
  intro p e s m args below meth c s₁ B hml hv
  obtain ⟨rfl, hP, hK, hD⟩ := hv
  have hx := B.exec
  have hb := B.bytes
  have hr := B.returns
  have hts := atoms_spec (ws := (.code yX0_rememberCollect cX0_rememberCollect 3 none :: gw)) B.pre
  have hg : ∀ w ∈ gw, w.before _ s = true := fun w h => hts w (List.mem_cons_of_mem _ h)
  have hown : s.vm.findClass RX0 = some m.cls := findClass_of_methodNamed B.named
  have hlocks := B.notSynchronized
  have C : Cx p c cX0_rememberCollect s m _ RX0 D (gTy cI cZ cN cO) := ⟨hx, hb, hown, hg, hK⟩
  have w : cWd D cI cN cO A s.heap E n bg σ s.heap [] := ⟨hP, hD, va_S.rf⟩
  have hl := lv_entry ([.ref ((E.2.2.1 k)), .int 0]) (n := 3) (Nat.le_of_ble_eq_true rfl)
  rw [lg_entry_eq]
  generalize (lg_sl ([.ref ((E.2.2.1 k)), .int 0]) ++ List.replicate (3 - (lg_sl ([.ref ((E.2.2.1 k)), .int 0])).length) Slot.unset).toArray = ls at hl ⊢
  have hl : lv_has ls 3 [(0, .ref ((E.2.2.1 k))), (1, .int 0)] := hl
  refine lv_iconst (v := 0) hx hb dX0_rememberCollect_0 (by decide) ?_
  refine lv_istore_n (lv' := [(2, _), (0, _), (1, _)]) C.1 C.2.1 dX0_rememberCollect_1 rfl hl (by decide) rfl (fun ls hl => ?_)
  rw [← nI_0] at hl
  have e0 : cR_ (cR_ σ 2 k 3 (mix (σ.2.1 2 k 2) (σ.2.1 2 k 3) 0)) 2 k 4 (mix (mvF k σ) (σ.2.1 2 k 4) 0) = σ := by rw [mix_0, cR_self, mix_0, cR_self]
  have hl := lv_sub hl (l' := [(2, .int (nI 0)), (0, .ref (E.2.2.1 k)), (1, .int 0)]) [0, 1, 2] (by rw [nI_0]; rfl)
  rw [← e0] at w ok
  refine kl_rem0 C hml ok.2.1 hk ?_ n 0 (by omega) _ _ w ok ls (lv_sub hl [0, 1, 2] rfl)
  intro H locs w ok ls hl
  exact W.vret hx hb hr (fun t ht hW => ⟨⟨(), rfl, trivial, ⟨by rw [ht]; exact w.1, va_K.moved hW.alike hK, w.2.1⟩, ok⟩, w.2.2.F ht⟩) w.2.2.2.2 dX0_rememberCollect_58
set_option maxHeartbeats 4000000 in
set_option maxRecDepth 100000 in
theorem k_X0_tell (l : Launch) (D : va_G) (cI cZ cN cO : ClassId) (A : Nat → Prop) (E : CE) (n bg : Nat) (σ : CS) (k : Nat) (p1 : Int32) (ok : cOK n bg σ) (hk : k < n) : Met l yX0_tell (.code yX0_tell cX0_tell 2 (some .int) :: gw) ({ frames := 0, cells := 0, slots := 0, locals := 0 }) (va_Pc (.ref (E.2.2.1 k) :: [.int p1]) (cH D cI cZ cN cO A E n bg σ)) (vp_Si (fun r => r = if p1.toInt < 0 ∨ 5 < p1.toInt then -1 else if p1 = 0 then (if σ.1 2 k 6 = 0 then 0 else 1) else if p1 = 1 then σ.1 2 k 7 else if p1 = 2 then σ.1 2 k 8 else if p1 = 3 then nI (σ.2.2 k) else if p1 = 4 then σ.1 2 k 9 else σ.2.1 2 k 5 k)) 0 0 (fun _ => False) := by
  refine Met.ofW (cc := cX0_tell) (maxL := 2) (ret := (some .int)) (by decide) rfl ?_
  intro p e s m args below meth c s₁ B hml hv
  obtain ⟨rfl, hP, hK, hD⟩ := hv
  have hx := B.exec
  have hb := B.bytes
  have hr := B.returns
  have hts := atoms_spec (ws := (.code yX0_tell cX0_tell 2 (some .int) :: gw)) B.pre
  have hg : ∀ w ∈ gw, w.before _ s = true := fun w h => hts w (List.mem_cons_of_mem _ h)
  have hown : s.vm.findClass RX0 = some m.cls := findClass_of_methodNamed B.named
  have hlocks := B.notSynchronized
  have C : Cx p c cX0_tell s m _ RX0 D (gTy cI cZ cN cO) := ⟨hx, hb, hown, hg, hK⟩
  have w : cWd D cI cN cO A s.heap E n bg σ s.heap [] := ⟨hP, hD, va_S.rf⟩
  have hl := lv_entry ([.ref ((E.2.2.1 k)), .int p1]) (n := 2) (Nat.le_of_ble_eq_true rfl)
  rw [lg_entry_eq]
  generalize (lg_sl ([.ref ((E.2.2.1 k)), .int p1]) ++ List.replicate (2 - (lg_sl ([.ref ((E.2.2.1 k)), .int p1])).length) Slot.unset).toArray = ls at hl ⊢
  have hl : lv_has ls 2 [(0, .ref ((E.2.2.1 k))), (1, .int p1)] := hl
  have hkn : k < 2 ^ 31 := by have := ok.2.1; omega
  refine lv_iload_n hx hb dX0_tell_0 rfl (lv_at hl 1 rfl) ?_
  rcases gSw p1 5 5 rfl (by decide) with hsw | ⟨j, hj, hjx⟩
  · refine lv_tableOut (tgt := 97) hx hb dX0_tell_1 hsw (by decide) ?_
    refine lv_iconst (v := (-1)) hx hb dX0_tell_97 (by decide) ?_
    exact W.iret hx hb hr (fun t ht hW => ⟨_, rfl, (by rw [if_pos hsw]), ht⟩) (fun _ h => by cases h) dX0_tell_98
  · rcases (show j = 0 ∨ j = 1 ∨ j = 2 ∨ j = 3 ∨ j = 4 ∨ j = 5 by omega) with hj0 | hj0 | hj0 | hj0 | hj0 | hj0
    · rw [hj0] at hjx
      subst hjx
      refine lv_tableIn (off := 39) (tgt := 40) hx hb dX0_tell_1 (by decide +kernel) (by decide +kernel) (by decide +kernel) (by decide) ?_
      refine lv_aload_n hx hb dX0_tell_40 rfl (lv_at hl 0 rfl) ?_
      refine c_gX0_6 C w hk kF_X0_9 dX0_tell_41 ?_
      refine lv_topi (fun t_1 et_1 => ?_)
      refine lv_if_eq (tgt := 51) hx hb dX0_tell_44 (by decide) (fun c_44 => ?_) (fun c_44 => ?_)
      · refine lv_iconst (v := 0) hx hb dX0_tell_51 (by decide) ?_
        subst et_1
        exact W.iret hx hb hr (fun t ht hW => ⟨_, rfl, (by rw [if_neg (by decide +kernel), if_pos (by decide +kernel)]; first | exact (if_pos (by assumption)).symm | exact (if_neg (by assumption)).symm), ht⟩) (fun _ h => by cases h) dX0_tell_52
      · refine lv_iconst (v := 1) hx hb dX0_tell_47 (by decide) ?_
        refine lv_goto (tgt := 52) hx hb dX0_tell_48 (by decide) ?_
        subst et_1
        exact W.iret hx hb hr (fun t ht hW => ⟨_, rfl, (by rw [if_neg (by decide +kernel), if_pos (by decide +kernel)]; first | exact (if_pos (by assumption)).symm | exact (if_neg (by assumption)).symm), ht⟩) (fun _ h => by cases h) dX0_tell_52
    · rw [hj0] at hjx
      subst hjx
      refine lv_tableIn (off := 52) (tgt := 53) hx hb dX0_tell_1 (by decide +kernel) (by decide +kernel) (by decide +kernel) (by decide) ?_
      refine lv_aload_n hx hb dX0_tell_53 rfl (lv_at hl 0 rfl) ?_
      refine c_gX0_7 C w hk kF_X0_15 dX0_tell_54 ?_
      refine lv_topi (fun t_2 et_2 => ?_)
      subst et_2
      exact W.iret hx hb hr (fun t ht hW => ⟨_, rfl, (by rw [if_neg (by decide +kernel), if_neg (by decide +kernel), if_pos (by decide +kernel)]), ht⟩) (fun _ h => by cases h) dX0_tell_57
    · rw [hj0] at hjx
      subst hjx
      refine lv_tableIn (off := 57) (tgt := 58) hx hb dX0_tell_1 (by decide +kernel) (by decide +kernel) (by decide +kernel) (by decide) ?_
      refine lv_aload_n hx hb dX0_tell_58 rfl (lv_at hl 0 rfl) ?_
      refine c_gX0_8 C w hk kF_X0_42 dX0_tell_59 ?_
      refine lv_topi (fun t_3 et_3 => ?_)
      subst et_3
      exact W.iret hx hb hr (fun t ht hW => ⟨_, rfl, (by rw [if_neg (by decide +kernel), if_neg (by decide +kernel), if_neg (by decide +kernel), if_pos (by decide +kernel)]), ht⟩) (fun _ h => by cases h) dX0_tell_62
    · rw [hj0] at hjx
      subst hjx
      refine lv_tableIn (off := 62) (tgt := 63) hx hb dX0_tell_1 (by decide +kernel) (by decide +kernel) (by decide +kernel) (by decide) ?_
      refine lv_aload_n hx hb dX0_tell_63 rfl (lv_at hl 0 rfl) ?_
      rcases Nat.eq_zero_or_pos (σ.2.2 k) with htk | htk
      · refine c_gT0 C w hk htk kF_X0_38 dX0_tell_64 ?_
        refine lv_ifnonnullN hx hb dX0_tell_67 ?_
        refine lv_iconst (v := 0) hx hb dX0_tell_70 (by decide) ?_
        refine lv_goto (tgt := 81) hx hb dX0_tell_71 (by decide) ?_
        exact W.iret hx hb hr (fun t ht hW => ⟨_, rfl, (by rw [if_neg (by decide +kernel), if_neg (by decide +kernel), if_neg (by decide +kernel), if_neg (by decide +kernel), if_pos (by decide +kernel)]; rw [htk]; exact nI_0.symm), ht⟩) (fun _ h => by cases h) dX0_tell_81
      · refine c_gT1 (t := σ.2.2 k) C w hk rfl htk kF_X0_38 dX0_tell_64 ?_
        refine lv_ifnonnull (tgt := 74) hx hb dX0_tell_67 (by decide) ?_
        refine lv_aload_n hx hb dX0_tell_74 rfl (lv_at hl 0 rfl) ?_
        refine c_gT1 (t := σ.2.2 k) C w hk rfl htk kF_X0_38 dX0_tell_75 ?_
        refine c_gX1_0 C w htk (ok.tk k) kF_X0_48 dX0_tell_78 ?_
        rw [(ok.op htk (ok.tk k)).2]
        exact W.iret hx hb hr (fun t ht hW => ⟨_, rfl, (by rw [if_neg (by decide +kernel), if_neg (by decide +kernel), if_neg (by decide +kernel), if_neg (by decide +kernel), if_pos (by decide +kernel)]), ht⟩) (fun _ h => by cases h) dX0_tell_81
    · rw [hj0] at hjx
      subst hjx
      refine lv_tableIn (off := 81) (tgt := 82) hx hb dX0_tell_1 (by decide +kernel) (by decide +kernel) (by decide +kernel) (by decide) ?_
      refine lv_aload_n hx hb dX0_tell_82 rfl (lv_at hl 0 rfl) ?_
      refine c_gX0_9 C w hk kF_X0_45 dX0_tell_83 ?_
      refine lv_topi (fun t_4 et_4 => ?_)
      subst et_4
      exact W.iret hx hb hr (fun t ht hW => ⟨_, rfl, (by rw [if_neg (by decide +kernel), if_neg (by decide +kernel), if_neg (by decide +kernel), if_neg (by decide +kernel), if_neg (by decide +kernel), if_pos (by decide +kernel)]), ht⟩) (fun _ h => by cases h) dX0_tell_86
    · rw [hj0] at hjx
      subst hjx
      refine lv_tableIn (off := 86) (tgt := 87) hx hb dX0_tell_1 (by decide +kernel) (by decide +kernel) (by decide +kernel) (by decide) ?_
      refine lv_aload_n hx hb dX0_tell_87 rfl (lv_at hl 0 rfl) ?_
      refine c_gX0_5 C w hk kF_X0_35 dX0_tell_88 ?_
      refine lv_aload_n hx hb dX0_tell_91 rfl (lv_at hl 0 rfl) ?_
      refine c_gX0_0 C w hk kF_X0_19 dX0_tell_92 ?_
      rw [ok.ix hk]
      refine c_lN5 C w hk (vp_in_nI hk ok.n) dX0_tell_95 ?_
      refine lv_topi (fun t_5 et_5 => ?_)
      subst et_5
      exact W.iret hx hb hr (fun t ht hW => ⟨_, rfl, (by rw [if_neg (by decide +kernel), if_neg (by decide +kernel), if_neg (by decide +kernel), if_neg (by decide +kernel), if_neg (by decide +kernel), if_neg (by decide +kernel), nI_clamp hkn]), ht⟩) (fun _ h => by cases h) dX0_tell_96
