theorem cR_ix {σ : CS} {kd ix f a b c : Nat} {r : Nat → Int32} (h : ¬ (a = kd ∧ b = ix ∧ c = f)) : (cR_ σ kd ix f r).2.1 a b c = σ.2.1 a b c := if_neg h
abbrev cSees (σ : CS) (o q : Nat) (kd : Int32) : Prop := σ.1 3 q 2 = kd ∧ ¬ σ.1 3 q 11 ≤ 0 ∧ ¬ σ.2.1 3 o 6 (σ.1 3 q 1).toNatClampNeg < σ.1 3 q 11
def cLess (n : Nat) (σ : CS) (o q : Nat) : Prop := ∀ j, j < n → ¬ σ.2.1 3 q 6 j < σ.2.1 3 o 6 j
theorem cView_at {σ : CS} {o q i : Nat} : (cR_ σ 3 o 6 (mix (σ.2.1 3 q 6) (σ.2.1 3 o 6) i)).2.1 3 q 6 i = σ.2.1 3 q 6 i := by
  by_cases h : q = o
  · subst h; rw [cR_get, mix_at]
  · rw [cR_ix (fun z => h z.2.1)]
def cSee (n o : Nat) (r : Nat → Int32) (σ : CS) : CS := cI_ (cR_ σ 3 o 6 (mix r (σ.2.1 3 o 6) n)) 3 o 7 1
set_option maxHeartbeats 4000000 in
set_option maxRecDepth 100000 in
theorem k_X1_isUpdate (l : Launch) (D : va_G) (cI cZ cN cO : ClassId) (A : Nat → Prop) (E : CE) (n bg : Nat) (σ : CS) (o : Nat) (ok : cOK n bg σ) (h1 : 1 ≤ o) (h2 : o ≤ bg) : Met l yX1_isUpdate (.code yX1_isUpdate cX1_isUpdate 1 (some .boolean) :: gw) ({ frames := 0, cells := 0, slots := 0, locals := 0 }) (va_Pc (.ref (E.2.2.2.2.1 o) :: []) (cH D cI cZ cN cO A E n bg σ)) (vp_Si (fun r => r = if 3 < σ.1 3 o 2 then 0 else 1)) 0 0 (fun _ => False) := by
  refine Met.ofW (cc := cX1_isUpdate) (maxL := 1) (ret := (some .boolean)) (by decide) rfl ?_
  intro p e s m args below meth c s₁ B hml hv
  obtain ⟨rfl, hP, hK, hD⟩ := hv
  have hx := B.exec
  have hb := B.bytes
  have hr := B.returns
  have hts := atoms_spec (ws := (.code yX1_isUpdate cX1_isUpdate 1 (some .boolean) :: gw)) B.pre
  have hg : ∀ w ∈ gw, w.before _ s = true := fun w h => hts w (List.mem_cons_of_mem _ h)
  have hown : s.vm.findClass RX1 = some m.cls := findClass_of_methodNamed B.named
  have hlocks := B.notSynchronized
  have C : Cx p c cX1_isUpdate s m _ RX1 D (gTy cI cZ cN cO) := ⟨hx, hb, hown, hg, hK⟩
  have w : cWd D cI cN cO A s.heap E n bg σ s.heap [] := ⟨hP, hD, va_S.rf⟩
  have hl := lv_entry ([.ref ((E.2.2.2.2.1 o))]) (n := 1) (Nat.le_of_ble_eq_true rfl)
  rw [lg_entry_eq]
  generalize (lg_sl ([.ref ((E.2.2.2.2.1 o))]) ++ List.replicate (1 - (lg_sl ([.ref ((E.2.2.2.2.1 o))])).length) Slot.unset).toArray = ls at hl ⊢
  have hl : lv_has ls 1 [(0, .ref ((E.2.2.2.2.1 o)))] := hl
  refine lv_aload_n hx hb dX1_isUpdate_0 rfl (lv_at hl 0 rfl) ?_
  refine c_gX1_2 C w h1 h2 kF_X1_24 dX1_isUpdate_1 ?_
  refine lv_topi (fun t_1 et_1 => ?_)
  refine lv_iconst (v := 3) hx hb dX1_isUpdate_4 (by decide) ?_
  refine lv_icmp_gt (tgt := 12) hx hb dX1_isUpdate_5 (by decide) (fun c_5 => ?_) (fun c_5 => ?_)
  · refine lv_iconst (v := 0) hx hb dX1_isUpdate_12 (by decide) ?_
    exact W.zret (v := 0) (ty := .boolean) hx hb hr rfl (fun t ht hW => ⟨_, rfl, (by rw [if_pos (by rw [← et_1]; exact c_5)]), ht⟩) (fun _ h => by cases h) dX1_isUpdate_13
  · refine lv_iconst (v := 1) hx hb dX1_isUpdate_8 (by decide) ?_
    refine lv_goto (tgt := 13) hx hb dX1_isUpdate_9 (by decide) ?_
    exact W.zret (v := 1) (ty := .boolean) hx hb hr rfl (fun t ht hW => ⟨_, rfl, (by rw [if_neg (by rw [← et_1]; exact c_5)]), ht⟩) (fun _ h => by cases h) dX1_isUpdate_13
set_option maxHeartbeats 4000000 in
set_option maxRecDepth 100000 in
theorem k_X1_isDone (l : Launch) (D : va_G) (cI cZ cN cO : ClassId) (A : Nat → Prop) (E : CE) (n bg : Nat) (σ : CS) (o : Nat) (ok : cOK n bg σ) (h1 : 1 ≤ o) (h2 : o ≤ bg) : Met l yX1_isDone (.code yX1_isDone cX1_isDone 1 (some .boolean) :: gw) ({ frames := 0, cells := 0, slots := 0, locals := 0 }) (va_Pc (.ref (E.2.2.2.2.1 o) :: []) (cH D cI cZ cN cO A E n bg σ)) (vp_Si (fun r => r = if σ.1 3 o 8 = -1 then 0 else 1)) 0 0 (fun _ => False) := by
  refine Met.ofW (cc := cX1_isDone) (maxL := 1) (ret := (some .boolean)) (by decide) rfl ?_
  intro p e s m args below meth c s₁ B hml hv
  obtain ⟨rfl, hP, hK, hD⟩ := hv
  have hx := B.exec
  have hb := B.bytes
  have hr := B.returns
  have hts := atoms_spec (ws := (.code yX1_isDone cX1_isDone 1 (some .boolean) :: gw)) B.pre
  have hg : ∀ w ∈ gw, w.before _ s = true := fun w h => hts w (List.mem_cons_of_mem _ h)
  have hown : s.vm.findClass RX1 = some m.cls := findClass_of_methodNamed B.named
  have hlocks := B.notSynchronized
  have C : Cx p c cX1_isDone s m _ RX1 D (gTy cI cZ cN cO) := ⟨hx, hb, hown, hg, hK⟩
  have w : cWd D cI cN cO A s.heap E n bg σ s.heap [] := ⟨hP, hD, va_S.rf⟩
  have hl := lv_entry ([.ref ((E.2.2.2.2.1 o))]) (n := 1) (Nat.le_of_ble_eq_true rfl)
  rw [lg_entry_eq]
  generalize (lg_sl ([.ref ((E.2.2.2.2.1 o))]) ++ List.replicate (1 - (lg_sl ([.ref ((E.2.2.2.2.1 o))])).length) Slot.unset).toArray = ls at hl ⊢
  have hl : lv_has ls 1 [(0, .ref ((E.2.2.2.2.1 o)))] := hl
  refine lv_aload_n hx hb dX1_isDone_0 rfl (lv_at hl 0 rfl) ?_
  refine c_gX1_8 C w h1 h2 kF_X1_9 dX1_isDone_1 ?_
  refine lv_topi (fun t_1 et_1 => ?_)
  refine lv_iconst (v := (-1)) hx hb dX1_isDone_4 (by decide) ?_
  refine lv_icmp_eq (tgt := 12) hx hb dX1_isDone_5 (by decide) (fun c_5 => ?_) (fun c_5 => ?_)
  · refine lv_iconst (v := 0) hx hb dX1_isDone_12 (by decide) ?_
    exact W.zret (v := 0) (ty := .boolean) hx hb hr rfl (fun t ht hW => ⟨_, rfl, (by rw [if_pos (by rw [← et_1]; exact c_5)]), ht⟩) (fun _ h => by cases h) dX1_isDone_13
  · refine lv_iconst (v := 1) hx hb dX1_isDone_8 (by decide) ?_
    refine lv_goto (tgt := 13) hx hb dX1_isDone_9 (by decide) ?_
    exact W.zret (v := 1) (ty := .boolean) hx hb hr rfl (fun t ht hW => ⟨_, rfl, (by rw [if_neg (by rw [← et_1]; exact c_5)]), ht⟩) (fun _ h => by cases h) dX1_isDone_13
set_option maxHeartbeats 4000000 in
set_option maxRecDepth 100000 in
theorem kl_seeN {p : Program} {l : Launch} {e : Env} {R : Room} {s : State} {m : MethodId} {args : Array Value} {below : List Frame} {meth : Method} {c : Code} {cells slots : Nat} {Q : State → Prop} {D : va_G} {cI cZ cN cO : ClassId} {A : Nat → Prop} {H0 : Heap} {E : CE} {n bg : Nat} (C : Cx p c cX1_see s m args RX1 D (gTy cI cZ cN cO)) (hml : c.maxLocals = 3) {σ : CS} {o k : Nat} (hn : n ≤ 31) (h1 : 1 ≤ o) (h2 : o ≤ bg) (hk : k < n) (kk : ∀ (H : Heap) (locs : List Loc), cWd D cI cN cO A H0 E n bg (cR_ σ 3 o 6 (mix (σ.2.1 2 k 2) (σ.2.1 3 o 6) n)) H locs → cOK n bg (cR_ σ 3 o 6 (mix (σ.2.1 2 k 2) (σ.2.1 3 o 6) n)) → ∀ ls : Array Slot, lv_has ls 3 [(2, .int (nI n)), (0, .ref ((E.2.2.2.2.1 o))), (1, .ref ((E.2.2.2.1 k 2)))] → W p l e R s m args below meth c H locs cells slots Q (F0 m 32 ls [])) : ∀ (fu i : Nat), i + fu = n → ∀ (H : Heap) (locs : List Loc), cWd D cI cN cO A H0 E n bg (cR_ σ 3 o 6 (mix (σ.2.1 2 k 2) (σ.2.1 3 o 6) i)) H locs → cOK n bg (cR_ σ 3 o 6 (mix (σ.2.1 2 k 2) (σ.2.1 3 o 6) i)) → ∀ ls : Array Slot, lv_has ls 3 [(2, .int (nI i)), (0, .ref ((E.2.2.2.2.1 o))), (1, .ref ((E.2.2.2.1 k 2)))] → W p l e R s m args below meth c H locs cells slots Q (F0 m 2 ls []) := by
  intro fu
  induction fu with
  | zero =>
    intro i hik
    intro H locs w ok ls hl
    have hx := C.1
    have hb := C.2.1
    have hi : n = i := by omega
    subst hi
    refine lv_iload_n hx hb dX1_see_2 rfl (lv_at hl 0 rfl) ?_
    refine lv_aload_n hx hb dX1_see_3 rfl (lv_at hl 1 rfl) ?_
    refine c_gX1_6 C w h1 h2 kF_X1_36 dX1_see_4 ?_
    refine c_nO C w h1 h2 dX1_see_7 ?_
    refine lv_icmp_ge (tgt := 32) hx hb dX1_see_8 (by decide) (fun c_8 => ?_) (fun c_8 => absurd (Int32.le_refl _) c_8)
    exact kk _ _ w ok ls (lv_sub hl [0, 1, 2] rfl)
  | succ fu ih =>
    intro i hik
    intro H locs w ok ls hl
    have hx := C.1
    have hb := C.2.1
    have hi : i < n := by omega
    refine lv_iload_n hx hb dX1_see_2 rfl (lv_at hl 0 rfl) ?_
    refine lv_aload_n hx hb dX1_see_3 rfl (lv_at hl 1 rfl) ?_
    refine c_gX1_6 C w h1 h2 kF_X1_36 dX1_see_4 ?_
    refine c_nO C w h1 h2 dX1_see_7 ?_
    refine lv_icmp_ge (tgt := 32) hx hb dX1_see_8 (by decide) (fun c_8 => absurd c_8 (nI_ge hi (by omega))) (fun c_8 => ?_)
    refine lv_iload_n hx hb dX1_see_11 rfl (lv_at hl 0 rfl) ?_
    refine lv_aload_n hx hb dX1_see_12 rfl (lv_at hl 2 rfl) ?_
    refine c_nN2 C w hk dX1_see_13 ?_
    refine lv_icmp_ge (tgt := 32) hx hb dX1_see_14 (by decide) (fun c_14 => absurd c_14 (nI_ge hi (by omega))) (fun c_14 => ?_)
    refine lv_aload_n hx hb dX1_see_17 rfl (lv_at hl 1 rfl) ?_
    refine c_gX1_6 C w h1 h2 kF_X1_36 dX1_see_18 ?_
    refine lv_iload_n hx hb dX1_see_21 rfl (lv_at hl 0 rfl) ?_
    refine lv_aload_n hx hb dX1_see_22 rfl (lv_at hl 2 rfl) ?_
    refine lv_iload_n hx hb dX1_see_23 rfl (lv_at hl 0 rfl) ?_
    refine c_lN2 C w hk (vp_in_nI hi (by omega)) dX1_see_24 ?_
    refine lv_topi (fun t_1 et_1 => ?_)
    refine c_sO (v := t_1) C w h1 h2 (vp_in_nI hi (by omega)) dX1_see_25 (fun H locs w => ?_)
    have ok : cOK n bg _ := cOK.st ok (kd := 3) (ix := o) (f := 6) (i := (nI i).toNatClampNeg) (v := t_1) (fun h => absurd h (by decide))
    obtain ⟨x_2, ex_2⟩ : ∃ y : Int32, y = (nI i) + 1 := ⟨_, rfl⟩
    refine lv_iinc (v := x_2) (lv' := [(2, _), (0, _), (1, _)]) C.1 C.2.1 dX1_see_26 hl (k := 0) rfl (by rw [ex_2]; rfl) (by decide) rfl (fun ls hl => ?_)
    refine lv_goto (tgt := 2) hx hb dX1_see_29 (by decide) ?_
    have hv : t_1 = (σ.2.1 2 k 2) i := by rw [et_1, nI_clamp (by omega)]; rw [cR_ix (by simp)]
    rw [cA_mix (F := (σ.2.1 2 k 2)) (by omega) hv] at w ok
    have hx2 : x_2 = nI (i + 1) := by rw [ex_2]; exact nI_1 i
    rw [hx2] at hl
    exact ih (i + 1) (by omega) _ _ w ok ls (lv_sub hl [0, 1, 2] rfl)
set_option maxHeartbeats 4000000 in
set_option maxRecDepth 100000 in
theorem k_seeN (l : Launch) (D : va_G) (cI cZ cN cO : ClassId) (A : Nat → Prop) (E : CE) (n bg : Nat) (σ : CS) (o k : Nat) (ok : cOK n bg σ) (h1 : 1 ≤ o) (h2 : o ≤ bg) (hk : k < n) : Met l yX1_see (.code yX1_see cX1_see 3 none :: gw) ({ frames := 0, cells := 0, slots := 0, locals := 0 }) (va_Pc (.ref (E.2.2.2.2.1 o) :: [.ref ((E.2.2.2.1 k 2))]) (cH D cI cZ cN cO A E n bg σ)) (va_Qv (fun _ : Unit => True) (fun _ t => cH D cI cZ cN cO A E n bg (cSee n o (σ.2.1 2 k 2) σ) t ∧ cOK n bg (cSee n o (σ.2.1 2 k 2) σ)) A) 0 0 A := by
  refine Met.ofW (cc := cX1_see) (maxL := 3) (ret := none) (by decide) rfl ?_
  intro p e s m args below meth c s₁ B hml hv
  obtain ⟨rfl, hP, hK, hD⟩ := hv
  have hx := B.exec
  have hb := B.bytes
  have hr := B.returns
  have hts := atoms_spec (ws := (.code yX1_see cX1_see 3 none :: gw)) B.pre
  have hg : ∀ w ∈ gw, w.before _ s = true := fun w h => hts w (List.mem_cons_of_mem _ h)
  have hown : s.vm.findClass RX1 = some m.cls := findClass_of_methodNamed B.named
  have hlocks := B.notSynchronized
  have C : Cx p c cX1_see s m _ RX1 D (gTy cI cZ cN cO) := ⟨hx, hb, hown, hg, hK⟩
  have w : cWd D cI cN cO A s.heap E n bg σ s.heap [] := ⟨hP, hD, va_S.rf⟩
  have hl := lv_entry ([.ref ((E.2.2.2.2.1 o)), .ref ((E.2.2.2.1 k 2))]) (n := 3) (Nat.le_of_ble_eq_true rfl)
  rw [lg_entry_eq]
  generalize (lg_sl ([.ref ((E.2.2.2.2.1 o)), .ref ((E.2.2.2.1 k 2))]) ++ List.replicate (3 - (lg_sl ([.ref ((E.2.2.2.2.1 o)), .ref ((E.2.2.2.1 k 2))])).length) Slot.unset).toArray = ls at hl ⊢
  have hl : lv_has ls 3 [(0, .ref ((E.2.2.2.2.1 o))), (1, .ref ((E.2.2.2.1 k 2)))] := hl
  refine lv_iconst (v := 0) hx hb dX1_see_0 (by decide) ?_
  refine lv_istore_n (lv' := [(2, _), (0, _), (1, _)]) C.1 C.2.1 dX1_see_1 rfl hl (by decide) rfl (fun ls hl => ?_)
  rw [← nI_0] at hl
  have e0 : cR_ σ 3 o 6 (mix (σ.2.1 2 k 2) (σ.2.1 3 o 6) 0) = σ := by rw [mix_0, cR_self]
  rw [← e0] at w ok
  refine kl_seeN C hml ok.2.1 h1 h2 hk ?_ n 0 (by omega) _ _ w ok ls (lv_sub hl [0, 1, 2] rfl)
  intro H locs w ok ls hl
  refine lv_aload_n hx hb dX1_see_32 rfl (lv_at hl 1 rfl) ?_
  refine lv_iconst (v := 1) hx hb dX1_see_33 (by decide) ?_
  refine c_pX1_7 (v := 1) C w h1 h2 rfl rfl kF_X1_40 dX1_see_34 (fun H locs w => ?_)
  have ok : cOK n bg _ := cOK.put ok (kd := 3) (ix := o) (f := 7) (v := 1) rfl
  exact W.vret hx hb hr (fun t ht hW => ⟨⟨(), rfl, trivial, ⟨by rw [ht]; exact w.1, va_K.moved hW.alike hK, w.2.1⟩, ok⟩, w.2.2.F ht⟩) w.2.2.2.2 dX1_see_37
set_option maxHeartbeats 4000000 in
set_option maxRecDepth 100000 in
theorem kl_seeO {p : Program} {l : Launch} {e : Env} {R : Room} {s : State} {m : MethodId} {args : Array Value} {below : List Frame} {meth : Method} {c : Code} {cells slots : Nat} {Q : State → Prop} {D : va_G} {cI cZ cN cO : ClassId} {A : Nat → Prop} {H0 : Heap} {E : CE} {n bg : Nat} (C : Cx p c cX1_see s m args RX1 D (gTy cI cZ cN cO)) (hml : c.maxLocals = 3) {σ : CS} {o q : Nat} (hn : n ≤ 31) (h1 : 1 ≤ o) (h2 : o ≤ bg) (g1 : 1 ≤ q) (g2 : q ≤ bg) (kk : ∀ (H : Heap) (locs : List Loc), cWd D cI cN cO A H0 E n bg (cR_ σ 3 o 6 (mix (σ.2.1 3 q 6) (σ.2.1 3 o 6) n)) H locs → cOK n bg (cR_ σ 3 o 6 (mix (σ.2.1 3 q 6) (σ.2.1 3 o 6) n)) → ∀ ls : Array Slot, lv_has ls 3 [(2, .int (nI n)), (0, .ref ((E.2.2.2.2.1 o))), (1, .ref ((E.2.2.2.2.2 q)))] → W p l e R s m args below meth c H locs cells slots Q (F0 m 32 ls [])) : ∀ (fu i : Nat), i + fu = n → ∀ (H : Heap) (locs : List Loc), cWd D cI cN cO A H0 E n bg (cR_ σ 3 o 6 (mix (σ.2.1 3 q 6) (σ.2.1 3 o 6) i)) H locs → cOK n bg (cR_ σ 3 o 6 (mix (σ.2.1 3 q 6) (σ.2.1 3 o 6) i)) → ∀ ls : Array Slot, lv_has ls 3 [(2, .int (nI i)), (0, .ref ((E.2.2.2.2.1 o))), (1, .ref ((E.2.2.2.2.2 q)))] → W p l e R s m args below meth c H locs cells slots Q (F0 m 2 ls []) := by
  intro fu
  induction fu with
  | zero =>
    intro i hik
    intro H locs w ok ls hl
    have hx := C.1
    have hb := C.2.1
    have hi : n = i := by omega
    subst hi
    refine lv_iload_n hx hb dX1_see_2 rfl (lv_at hl 0 rfl) ?_
    refine lv_aload_n hx hb dX1_see_3 rfl (lv_at hl 1 rfl) ?_
    refine c_gX1_6 C w h1 h2 kF_X1_36 dX1_see_4 ?_
    refine c_nO C w h1 h2 dX1_see_7 ?_
    refine lv_icmp_ge (tgt := 32) hx hb dX1_see_8 (by decide) (fun c_8 => ?_) (fun c_8 => absurd (Int32.le_refl _) c_8)
    exact kk _ _ w ok ls (lv_sub hl [0, 1, 2] rfl)
  | succ fu ih =>
    intro i hik
    intro H locs w ok ls hl
    have hx := C.1
    have hb := C.2.1
    have hi : i < n := by omega
    refine lv_iload_n hx hb dX1_see_2 rfl (lv_at hl 0 rfl) ?_
    refine lv_aload_n hx hb dX1_see_3 rfl (lv_at hl 1 rfl) ?_
    refine c_gX1_6 C w h1 h2 kF_X1_36 dX1_see_4 ?_
    refine c_nO C w h1 h2 dX1_see_7 ?_
    refine lv_icmp_ge (tgt := 32) hx hb dX1_see_8 (by decide) (fun c_8 => absurd c_8 (nI_ge hi (by omega))) (fun c_8 => ?_)
    refine lv_iload_n hx hb dX1_see_11 rfl (lv_at hl 0 rfl) ?_
    refine lv_aload_n hx hb dX1_see_12 rfl (lv_at hl 2 rfl) ?_
    refine c_nO C w g1 g2 dX1_see_13 ?_
    refine lv_icmp_ge (tgt := 32) hx hb dX1_see_14 (by decide) (fun c_14 => absurd c_14 (nI_ge hi (by omega))) (fun c_14 => ?_)
    refine lv_aload_n hx hb dX1_see_17 rfl (lv_at hl 1 rfl) ?_
    refine c_gX1_6 C w h1 h2 kF_X1_36 dX1_see_18 ?_
    refine lv_iload_n hx hb dX1_see_21 rfl (lv_at hl 0 rfl) ?_
    refine lv_aload_n hx hb dX1_see_22 rfl (lv_at hl 2 rfl) ?_
    refine lv_iload_n hx hb dX1_see_23 rfl (lv_at hl 0 rfl) ?_
    refine c_lO C w g1 g2 (vp_in_nI hi (by omega)) dX1_see_24 ?_
    refine lv_topi (fun t_1 et_1 => ?_)
    refine c_sO (v := t_1) C w h1 h2 (vp_in_nI hi (by omega)) dX1_see_25 (fun H locs w => ?_)
    have ok : cOK n bg _ := cOK.st ok (kd := 3) (ix := o) (f := 6) (i := (nI i).toNatClampNeg) (v := t_1) (fun h => absurd h (by decide))
    obtain ⟨x_2, ex_2⟩ : ∃ y : Int32, y = (nI i) + 1 := ⟨_, rfl⟩
    refine lv_iinc (v := x_2) (lv' := [(2, _), (0, _), (1, _)]) C.1 C.2.1 dX1_see_26 hl (k := 0) rfl (by rw [ex_2]; rfl) (by decide) rfl (fun ls hl => ?_)
    refine lv_goto (tgt := 2) hx hb dX1_see_29 (by decide) ?_
    have hv : t_1 = (σ.2.1 3 q 6) i := by rw [et_1, nI_clamp (by omega)]; exact cView_at
    rw [cA_mix (F := (σ.2.1 3 q 6)) (by omega) hv] at w ok
    have hx2 : x_2 = nI (i + 1) := by rw [ex_2]; exact nI_1 i
    rw [hx2] at hl
    exact ih (i + 1) (by omega) _ _ w ok ls (lv_sub hl [0, 1, 2] rfl)
set_option maxHeartbeats 4000000 in
set_option maxRecDepth 100000 in
theorem k_seeO (l : Launch) (D : va_G) (cI cZ cN cO : ClassId) (A : Nat → Prop) (E : CE) (n bg : Nat) (σ : CS) (o q : Nat) (ok : cOK n bg σ) (h1 : 1 ≤ o) (h2 : o ≤ bg) (g1 : 1 ≤ q) (g2 : q ≤ bg) : Met l yX1_see (.code yX1_see cX1_see 3 none :: gw) ({ frames := 0, cells := 0, slots := 0, locals := 0 }) (va_Pc (.ref (E.2.2.2.2.1 o) :: [.ref ((E.2.2.2.2.2 q))]) (cH D cI cZ cN cO A E n bg σ)) (va_Qv (fun _ : Unit => True) (fun _ t => cH D cI cZ cN cO A E n bg (cSee n o (σ.2.1 3 q 6) σ) t ∧ cOK n bg (cSee n o (σ.2.1 3 q 6) σ)) A) 0 0 A := by
  refine Met.ofW (cc := cX1_see) (maxL := 3) (ret := none) (by decide) rfl ?_
  intro p e s m args below meth c s₁ B hml hv
  obtain ⟨rfl, hP, hK, hD⟩ := hv
  have hx := B.exec
  have hb := B.bytes
  have hr := B.returns
  have hts := atoms_spec (ws := (.code yX1_see cX1_see 3 none :: gw)) B.pre
  have hg : ∀ w ∈ gw, w.before _ s = true := fun w h => hts w (List.mem_cons_of_mem _ h)
  have hown : s.vm.findClass RX1 = some m.cls := findClass_of_methodNamed B.named
  have hlocks := B.notSynchronized
  have C : Cx p c cX1_see s m _ RX1 D (gTy cI cZ cN cO) := ⟨hx, hb, hown, hg, hK⟩
  have w : cWd D cI cN cO A s.heap E n bg σ s.heap [] := ⟨hP, hD, va_S.rf⟩
  have hl := lv_entry ([.ref ((E.2.2.2.2.1 o)), .ref ((E.2.2.2.2.2 q))]) (n := 3) (Nat.le_of_ble_eq_true rfl)
  rw [lg_entry_eq]
  generalize (lg_sl ([.ref ((E.2.2.2.2.1 o)), .ref ((E.2.2.2.2.2 q))]) ++ List.replicate (3 - (lg_sl ([.ref ((E.2.2.2.2.1 o)), .ref ((E.2.2.2.2.2 q))])).length) Slot.unset).toArray = ls at hl ⊢
  have hl : lv_has ls 3 [(0, .ref ((E.2.2.2.2.1 o))), (1, .ref ((E.2.2.2.2.2 q)))] := hl
  refine lv_iconst (v := 0) hx hb dX1_see_0 (by decide) ?_
  refine lv_istore_n (lv' := [(2, _), (0, _), (1, _)]) C.1 C.2.1 dX1_see_1 rfl hl (by decide) rfl (fun ls hl => ?_)
  rw [← nI_0] at hl
  have e0 : cR_ σ 3 o 6 (mix (σ.2.1 3 q 6) (σ.2.1 3 o 6) 0) = σ := by rw [mix_0, cR_self]
  rw [← e0] at w ok
  refine kl_seeO C hml ok.2.1 h1 h2 g1 g2 ?_ n 0 (by omega) _ _ w ok ls (lv_sub hl [0, 1, 2] rfl)
  intro H locs w ok ls hl
  refine lv_aload_n hx hb dX1_see_32 rfl (lv_at hl 1 rfl) ?_
  refine lv_iconst (v := 1) hx hb dX1_see_33 (by decide) ?_
  refine c_pX1_7 (v := 1) C w h1 h2 rfl rfl kF_X1_40 dX1_see_34 (fun H locs w => ?_)
  have ok : cOK n bg _ := cOK.put ok (kd := 3) (ix := o) (f := 7) (v := 1) rfl
  exact W.vret hx hb hr (fun t ht hW => ⟨⟨(), rfl, trivial, ⟨by rw [ht]; exact w.1, va_K.moved hW.alike hK, w.2.1⟩, ok⟩, w.2.2.F ht⟩) w.2.2.2.2 dX1_see_37
set_option maxHeartbeats 4000000 in
set_option maxRecDepth 100000 in
theorem k_X1_sees (l : Launch) (D : va_G) (cI cZ cN cO : ClassId) (A : Nat → Prop) (E : CE) (n bg : Nat) (σ : CS) (o q : Nat) (kd : Int32) (ok : cOK n bg σ) (h1 : 1 ≤ o) (h2 : o ≤ bg) (g1 : 1 ≤ q) (g2 : q ≤ bg) : Met l yX1_sees (.code yX1_sees cX1_sees 3 (some .boolean) :: gw) ({ frames := 0, cells := 0, slots := 0, locals := 0 }) (va_Pc (.ref (E.2.2.2.2.1 o) :: [.ref ((E.2.2.2.2.1 q)), .int kd]) (cH D cI cZ cN cO A E n bg σ)) (vp_Si (fun r => r = if cSees σ o q kd then 1 else 0)) 0 0 (fun _ => False) := by
  refine Met.ofW (cc := cX1_sees) (maxL := 3) (ret := (some .boolean)) (by decide) rfl ?_
  intro p e s m args below meth c s₁ B hml hv
  obtain ⟨rfl, hP, hK, hD⟩ := hv
  have hx := B.exec
  have hb := B.bytes
  have hr := B.returns
  have hts := atoms_spec (ws := (.code yX1_sees cX1_sees 3 (some .boolean) :: gw)) B.pre
  have hg : ∀ w ∈ gw, w.before _ s = true := fun w h => hts w (List.mem_cons_of_mem _ h)
  have hown : s.vm.findClass RX1 = some m.cls := findClass_of_methodNamed B.named
  have hlocks := B.notSynchronized
  have C : Cx p c cX1_sees s m _ RX1 D (gTy cI cZ cN cO) := ⟨hx, hb, hown, hg, hK⟩
  have w : cWd D cI cN cO A s.heap E n bg σ s.heap [] := ⟨hP, hD, va_S.rf⟩
  have hl := lv_entry ([.ref ((E.2.2.2.2.1 o)), .ref ((E.2.2.2.2.1 q)), .int kd]) (n := 3) (Nat.le_of_ble_eq_true rfl)
  rw [lg_entry_eq]
  generalize (lg_sl ([.ref ((E.2.2.2.2.1 o)), .ref ((E.2.2.2.2.1 q)), .int kd]) ++ List.replicate (3 - (lg_sl ([.ref ((E.2.2.2.2.1 o)), .ref ((E.2.2.2.2.1 q)), .int kd])).length) Slot.unset).toArray = ls at hl ⊢
  have hl : lv_has ls 3 [(0, .ref ((E.2.2.2.2.1 o))), (1, .ref ((E.2.2.2.2.1 q))), (2, .int kd)] := hl
  refine lv_aload_n hx hb dX1_sees_0 rfl (lv_at hl 1 rfl) ?_
  refine lv_ifnull hx hb dX1_sees_1 ?_
  refine lv_aload_n hx hb dX1_sees_4 rfl (lv_at hl 1 rfl) ?_
  refine c_gX1_2 C w g1 g2 kF_X1_24 dX1_sees_5 ?_
  refine lv_topi (fun t_1 et_1 => ?_)
  refine lv_iload_n hx hb dX1_sees_8 rfl (lv_at hl 2 rfl) ?_
  refine lv_icmp_ne (tgt := 39) hx hb dX1_sees_9 (by decide) (fun c_9 => ?_) (fun c_9 => ?_)
  · refine lv_iconst (v := 0) hx hb dX1_sees_39 (by decide) ?_
    subst et_1
    exact W.zret (v := 0) (ty := .boolean) hx hb hr rfl (fun t ht hW => ⟨_, rfl, (by rw [if_neg (fun h : cSees σ o q kd => c_9 h.1)]), ht⟩) (fun _ h => by cases h) dX1_sees_40
  · refine lv_aload_n hx hb dX1_sees_12 rfl (lv_at hl 1 rfl) ?_
    refine c_gX1_11 C w g1 g2 kF_X1_44 dX1_sees_13 ?_
    refine lv_topi (fun t_2 et_2 => ?_)
    refine lv_if_le (tgt := 39) hx hb dX1_sees_16 (by decide) (fun c_16 => ?_) (fun c_16 => ?_)
    · refine lv_iconst (v := 0) hx hb dX1_sees_39 (by decide) ?_
      subst et_2 et_1
      exact W.zret (v := 0) (ty := .boolean) hx hb hr rfl (fun t ht hW => ⟨_, rfl, (by rw [if_neg (fun h : cSees σ o q kd => h.2.1 c_16)]), ht⟩) (fun _ h => by cases h) dX1_sees_40
    · refine lv_aload_n hx hb dX1_sees_19 rfl (lv_at hl 1 rfl) ?_
      refine c_gX1_11 C w g1 g2 kF_X1_44 dX1_sees_20 ?_
      refine lv_topi (fun t_3 et_3 => ?_)
      refine lv_aload_n hx hb dX1_sees_23 rfl (lv_at hl 0 rfl) ?_
      refine c_gX1_6 C w h1 h2 kF_X1_36 dX1_sees_24 ?_
      refine lv_aload_n hx hb dX1_sees_27 rfl (lv_at hl 1 rfl) ?_
      refine c_gX1_1 C w g1 g2 kF_X1_21 dX1_sees_28 ?_
      refine lv_topi (fun t_4 et_4 => ?_)
      refine c_lO C w h1 h2 (by rw [et_4]; exact (ok.op g1 g2).1) dX1_sees_31 ?_
      refine lv_topi (fun t_5 et_5 => ?_)
      refine lv_icmp_gt (tgt := 39) hx hb dX1_sees_32 (by decide) (fun c_32 => ?_) (fun c_32 => ?_)
      · refine lv_iconst (v := 0) hx hb dX1_sees_39 (by decide) ?_
        subst et_5 et_4 et_3 et_2 et_1
        exact W.zret (v := 0) (ty := .boolean) hx hb hr rfl (fun t ht hW => ⟨_, rfl, (by rw [if_neg (fun h : cSees σ o q kd => h.2.2 c_32)]), ht⟩) (fun _ h => by cases h) dX1_sees_40
      · refine lv_iconst (v := 1) hx hb dX1_sees_35 (by decide) ?_
        refine lv_goto (tgt := 40) hx hb dX1_sees_36 (by decide) ?_
        subst et_5 et_4 et_3 et_2 et_1
        exact W.zret (v := 1) (ty := .boolean) hx hb hr rfl (fun t ht hW => ⟨_, rfl, (by rw [if_pos (show cSees σ o q kd from ⟨c_9, c_16, c_32⟩)]), ht⟩) (fun _ h => by cases h) dX1_sees_40
set_option maxHeartbeats 4000000 in
set_option maxRecDepth 100000 in
theorem kl_less {p : Program} {l : Launch} {e : Env} {R : Room} {s : State} {m : MethodId} {args : Array Value} {below : List Frame} {meth : Method} {c : Code} {cells slots : Nat} {Q : State → Prop} {D : va_G} {cI cZ cN cO : ClassId} {A : Nat → Prop} {H0 : Heap} {E : CE} {n bg : Nat} {H : Heap} {locs : List Loc} (C : Cx p c cX1_seesAtMost s m args RX1 D (gTy cI cZ cN cO)) (hml : c.maxLocals = 3) {σ : CS} {o q : Nat} (w : cWd D cI cN cO A H0 E n bg σ H locs) (ok : cOK n bg σ) (hn : n ≤ 31) (h1 : 1 ≤ o) (h2 : o ≤ bg) (g1 : 1 ≤ q) (g2 : q ≤ bg) (kk : (∀ j, j < n → ¬ σ.2.1 3 q 6 j < σ.2.1 3 o 6 j) → ∀ ls : Array Slot, lv_has ls 3 [(2, .int (nI n)), (0, .ref ((E.2.2.2.2.1 o))), (1, .ref ((E.2.2.2.2.1 q)))] → W p l e R s m args below meth c H locs cells slots Q (F0 m 34 ls [])) (ke : ∀ (i : Nat), i < n → σ.2.1 3 q 6 i < σ.2.1 3 o 6 i → ∀ ls : Array Slot, lv_has ls 3 [(0, .ref ((E.2.2.2.2.1 o)))] → W p l e R s m args below meth c H locs cells slots Q (F0 m 26 ls [])) : ∀ (fu i : Nat), i + fu = n → (∀ j, j < i → ¬ σ.2.1 3 q 6 j < σ.2.1 3 o 6 j) → ∀ ls : Array Slot, lv_has ls 3 [(2, .int (nI i)), (0, .ref ((E.2.2.2.2.1 o))), (1, .ref ((E.2.2.2.2.1 q)))] → W p l e R s m args below meth c H locs cells slots Q (F0 m 2 ls []) := by
  intro fu
  induction fu with
  | zero =>
    intro i hik
    intro hI ls hl
    have hx := C.1
    have hb := C.2.1
    have hi : n = i := by omega
    subst hi
    refine lv_iload_n hx hb dX1_seesAtMost_2 rfl (lv_at hl 0 rfl) ?_
    refine lv_aload_n hx hb dX1_seesAtMost_3 rfl (lv_at hl 1 rfl) ?_
    refine c_gX1_6 C w h1 h2 kF_X1_36 dX1_seesAtMost_4 ?_
    refine c_nO C w h1 h2 dX1_seesAtMost_7 ?_
    refine lv_icmp_ge (tgt := 34) hx hb dX1_seesAtMost_8 (by decide) (fun c_8 => ?_) (fun c_8 => absurd (Int32.le_refl _) c_8)
    exact kk hI ls (lv_sub hl [0, 1, 2] rfl)
  | succ fu ih =>
    intro i hik
    intro hI ls hl
    have hx := C.1
    have hb := C.2.1
    have hi : i < n := by omega
    refine lv_iload_n hx hb dX1_seesAtMost_2 rfl (lv_at hl 0 rfl) ?_
    refine lv_aload_n hx hb dX1_seesAtMost_3 rfl (lv_at hl 1 rfl) ?_
    refine c_gX1_6 C w h1 h2 kF_X1_36 dX1_seesAtMost_4 ?_
    refine c_nO C w h1 h2 dX1_seesAtMost_7 ?_
    refine lv_icmp_ge (tgt := 34) hx hb dX1_seesAtMost_8 (by decide) (fun c_8 => absurd c_8 (nI_ge hi (by omega))) (fun c_8 => ?_)
    refine lv_aload_n hx hb dX1_seesAtMost_11 rfl (lv_at hl 1 rfl) ?_
    refine c_gX1_6 C w h1 h2 kF_X1_36 dX1_seesAtMost_12 ?_
    refine lv_iload_n hx hb dX1_seesAtMost_15 rfl (lv_at hl 0 rfl) ?_
    refine c_lO C w h1 h2 (vp_in_nI hi (by omega)) dX1_seesAtMost_16 ?_
    refine lv_topi (fun t_1 et_1 => ?_)
    refine lv_aload_n hx hb dX1_seesAtMost_17 rfl (lv_at hl 2 rfl) ?_
    refine c_gX1_6 C w g1 g2 kF_X1_36 dX1_seesAtMost_18 ?_
    refine lv_iload_n hx hb dX1_seesAtMost_21 rfl (lv_at hl 0 rfl) ?_
    refine c_lO C w g1 g2 (vp_in_nI hi (by omega)) dX1_seesAtMost_22 ?_
    refine lv_topi (fun t_2 et_2 => ?_)
    refine lv_icmp_le (tgt := 28) hx hb dX1_seesAtMost_23 (by decide) (fun c_23 => ?_) (fun c_23 => ?_)
    · obtain ⟨x_3, ex_3⟩ : ∃ y : Int32, y = (nI i) + 1 := ⟨_, rfl⟩
      refine lv_iinc (v := x_3) (lv' := [(2, _), (0, _), (1, _)]) C.1 C.2.1 dX1_seesAtMost_28 hl (k := 0) rfl (by rw [ex_3]; rfl) (by decide) rfl (fun ls hl => ?_)
      refine lv_goto (tgt := 2) hx hb dX1_seesAtMost_31 (by decide) ?_
      have hq : ¬ σ.2.1 3 q 6 i < σ.2.1 3 o 6 i := by have h := c_23; rw [et_1, et_2, nI_clamp (by omega)] at h; exact Int32.not_lt.mpr h
      have hx2 : x_3 = nI (i + 1) := by rw [ex_3]; exact nI_1 i
      rw [hx2] at hl
      exact ih (i + 1) (by omega) (fun j hj => (Nat.lt_succ_iff_lt_or_eq.mp hj).elim (hI j) (fun e => by rw [e]; exact hq)) ls (lv_sub hl [0, 1, 2] rfl)
    · exact ke i hi (by have h := c_23; rw [et_1, et_2, nI_clamp (by omega)] at h; exact Int32.not_le.mp h) ls (lv_sub hl [1] rfl)
set_option maxHeartbeats 4000000 in
set_option maxRecDepth 100000 in
theorem k_X1_seesAtMost (l : Launch) (D : va_G) (cI cZ cN cO : ClassId) (A : Nat → Prop) (E : CE) (n bg : Nat) (σ : CS) (o q : Nat) (ok : cOK n bg σ) (h1 : 1 ≤ o) (h2 : o ≤ bg) (g1 : 1 ≤ q) (g2 : q ≤ bg) : Met l yX1_seesAtMost (.code yX1_seesAtMost cX1_seesAtMost 3 (some .boolean) :: gw) ({ frames := 0, cells := 0, slots := 0, locals := 0 }) (va_Pc (.ref (E.2.2.2.2.1 o) :: [.ref ((E.2.2.2.2.1 q))]) (cH D cI cZ cN cO A E n bg σ)) (vp_Si (fun r => (r = 1 ∧ cLess n σ o q) ∨ (r = 0 ∧ ¬ cLess n σ o q))) 0 0 (fun _ => False) := by
  refine Met.ofW (cc := cX1_seesAtMost) (maxL := 3) (ret := (some .boolean)) (by decide) rfl ?_
  intro p e s m args below meth c s₁ B hml hv
  obtain ⟨rfl, hP, hK, hD⟩ := hv
  have hx := B.exec
  have hb := B.bytes
  have hr := B.returns
  have hts := atoms_spec (ws := (.code yX1_seesAtMost cX1_seesAtMost 3 (some .boolean) :: gw)) B.pre
  have hg : ∀ w ∈ gw, w.before _ s = true := fun w h => hts w (List.mem_cons_of_mem _ h)
  have hown : s.vm.findClass RX1 = some m.cls := findClass_of_methodNamed B.named
  have hlocks := B.notSynchronized
  have C : Cx p c cX1_seesAtMost s m _ RX1 D (gTy cI cZ cN cO) := ⟨hx, hb, hown, hg, hK⟩
  have w : cWd D cI cN cO A s.heap E n bg σ s.heap [] := ⟨hP, hD, va_S.rf⟩
  have hl := lv_entry ([.ref ((E.2.2.2.2.1 o)), .ref ((E.2.2.2.2.1 q))]) (n := 3) (Nat.le_of_ble_eq_true rfl)
  rw [lg_entry_eq]
  generalize (lg_sl ([.ref ((E.2.2.2.2.1 o)), .ref ((E.2.2.2.2.1 q))]) ++ List.replicate (3 - (lg_sl ([.ref ((E.2.2.2.2.1 o)), .ref ((E.2.2.2.2.1 q))])).length) Slot.unset).toArray = ls at hl ⊢
  have hl : lv_has ls 3 [(0, .ref ((E.2.2.2.2.1 o))), (1, .ref ((E.2.2.2.2.1 q)))] := hl
  refine lv_iconst (v := 0) hx hb dX1_seesAtMost_0 (by decide) ?_
  refine lv_istore_n (lv' := [(2, _), (0, _), (1, _)]) C.1 C.2.1 dX1_seesAtMost_1 rfl hl (by decide) rfl (fun ls hl => ?_)
  rw [← nI_0] at hl
  refine kl_less C hml w ok ok.2.1 h1 h2 g1 g2 ?_ ?_ n 0 (by omega) (fun j hj => absurd hj (Nat.not_lt_zero j)) ls (lv_sub hl [0, 1, 2] rfl)
  · intro hI ls hl
    refine lv_iconst (v := 1) hx hb dX1_seesAtMost_34 (by decide) ?_
    exact W.zret (v := 1) (ty := .boolean) hx hb hr rfl (fun t ht hW => ⟨_, rfl, Or.inl ⟨rfl, hI⟩, ht⟩) (fun _ h => by cases h) dX1_seesAtMost_35
  · intro i hi hne ls hl
    refine lv_iconst (v := 0) hx hb dX1_seesAtMost_26 (by decide) ?_
    exact W.zret (v := 0) (ty := .boolean) hx hb hr rfl (fun t ht hW => ⟨_, rfl, Or.inr ⟨rfl, fun h => h i hi hne⟩, ht⟩) (fun _ h => by cases h) dX1_seesAtMost_27
set_option maxHeartbeats 4000000 in
set_option maxRecDepth 100000 in
theorem k_X1_tell (l : Launch) (D : va_G) (cI cZ cN cO : ClassId) (A : Nat → Prop) (E : CE) (n bg : Nat) (σ : CS) (o : Nat) (p1 : Int32) (ok : cOK n bg σ) (h1 : 1 ≤ o) (h2 : o ≤ bg) : Met l yX1_tell (.code yX1_tell cX1_tell 2 (some .int) :: gw) ({ frames := 1, cells := 0, slots := 0, locals := 20 }) (va_Pc (.ref (E.2.2.2.2.1 o) :: [.int p1]) (cH D cI cZ cN cO A E n bg σ)) (vp_Si (fun r => True)) 0 0 (fun _ => False) := by
  refine Met.ofW (cc := cX1_tell) (maxL := 2) (ret := (some .int)) (by decide) rfl ?_
  intro p e s m args below meth c s₁ B hml hv
  obtain ⟨rfl, hP, hK, hD⟩ := hv
  have hx := B.exec
  have hb := B.bytes
  have hr := B.returns
  have hts := atoms_spec (ws := (.code yX1_tell cX1_tell 2 (some .int) :: gw)) B.pre
  have hg : ∀ w ∈ gw, w.before _ s = true := fun w h => hts w (List.mem_cons_of_mem _ h)
  have hown : s.vm.findClass RX1 = some m.cls := findClass_of_methodNamed B.named
  have hlocks := B.notSynchronized
  have C : Cx p c cX1_tell s m _ RX1 D (gTy cI cZ cN cO) := ⟨hx, hb, hown, hg, hK⟩
  have w : cWd D cI cN cO A s.heap E n bg σ s.heap [] := ⟨hP, hD, va_S.rf⟩
  have hl := lv_entry ([.ref ((E.2.2.2.2.1 o)), .int p1]) (n := 2) (Nat.le_of_ble_eq_true rfl)
  rw [lg_entry_eq]
  generalize (lg_sl ([.ref ((E.2.2.2.2.1 o)), .int p1]) ++ List.replicate (2 - (lg_sl ([.ref ((E.2.2.2.2.1 o)), .int p1])).length) Slot.unset).toArray = ls at hl ⊢
  have hl : lv_has ls 2 [(0, .ref ((E.2.2.2.2.1 o))), (1, .int p1)] := hl
  refine lv_iload_n hx hb dX1_tell_0 rfl (lv_at hl 1 rfl) ?_
  rcases gSw p1 9 9 rfl (by decide) with hsw | ⟨j, hj, hjx⟩
  · refine lv_tableOut (tgt := 114) hx hb dX1_tell_1 hsw (by decide) ?_
    refine lv_iconst (v := (-1)) hx hb dX1_tell_114 (by decide) ?_
    exact W.iret hx hb hr (fun t ht hW => ⟨_, rfl, trivial, ht⟩) (fun _ h => by cases h) dX1_tell_115
  · rcases (show j = 0 ∨ j = 1 ∨ j = 2 ∨ j = 3 ∨ j = 4 ∨ j = 5 ∨ j = 6 ∨ j = 7 ∨ j = 8 ∨ j = 9 by omega) with hj0 | hj0 | hj0 | hj0 | hj0 | hj0 | hj0 | hj0 | hj0 | hj0
    · rw [hj0] at hjx
      subst hjx
      refine lv_tableIn (off := 55) (tgt := 56) hx hb dX1_tell_1 (by decide +kernel) (by decide +kernel) (by decide +kernel) (by decide) ?_
      refine lv_aload_n hx hb dX1_tell_56 rfl (lv_at hl 0 rfl) ?_
      refine c_gX1_1 C w h1 h2 kF_X1_21 dX1_tell_57 ?_
      refine lv_topi (fun t_1 et_1 => ?_)
      exact W.iret hx hb hr (fun t ht hW => ⟨_, rfl, trivial, ht⟩) (fun _ h => by cases h) dX1_tell_60
    · rw [hj0] at hjx
      subst hjx
      refine lv_tableIn (off := 60) (tgt := 61) hx hb dX1_tell_1 (by decide +kernel) (by decide +kernel) (by decide +kernel) (by decide) ?_
      refine lv_aload_n hx hb dX1_tell_61 rfl (lv_at hl 0 rfl) ?_
      refine c_gX1_2 C w h1 h2 kF_X1_24 dX1_tell_62 ?_
      refine lv_topi (fun t_2 et_2 => ?_)
      exact W.iret hx hb hr (fun t ht hW => ⟨_, rfl, trivial, ht⟩) (fun _ h => by cases h) dX1_tell_65
    · rw [hj0] at hjx
      subst hjx
      refine lv_tableIn (off := 65) (tgt := 66) hx hb dX1_tell_1 (by decide +kernel) (by decide +kernel) (by decide +kernel) (by decide) ?_
      refine lv_aload_n hx hb dX1_tell_66 rfl (lv_at hl 0 rfl) ?_
      refine c_gX1_3 C w h1 h2 kF_X1_27 dX1_tell_67 ?_
      refine lv_topi (fun t_3 et_3 => ?_)
      exact W.iret hx hb hr (fun t ht hW => ⟨_, rfl, trivial, ht⟩) (fun _ h => by cases h) dX1_tell_70
    · rw [hj0] at hjx
      subst hjx
      refine lv_tableIn (off := 70) (tgt := 71) hx hb dX1_tell_1 (by decide +kernel) (by decide +kernel) (by decide +kernel) (by decide) ?_
      refine lv_aload_n hx hb dX1_tell_71 rfl (lv_at hl 0 rfl) ?_
      refine c_gX1_4 C w h1 h2 kF_X1_30 dX1_tell_72 ?_
      refine lv_topi (fun t_4 et_4 => ?_)
      exact W.iret hx hb hr (fun t ht hW => ⟨_, rfl, trivial, ht⟩) (fun _ h => by cases h) dX1_tell_75
    · rw [hj0] at hjx
      subst hjx
      refine lv_tableIn (off := 75) (tgt := 76) hx hb dX1_tell_1 (by decide +kernel) (by decide +kernel) (by decide +kernel) (by decide) ?_
      refine lv_aload_n hx hb dX1_tell_76 rfl (lv_at hl 0 rfl) ?_
      refine c_callp (As := []) (rest := []) C (c_preX1 C w h1 h2) hml hl.1 (k_X1_isDone l D cI cZ cN cO A E n bg _ o ok h1 h2) kM_X1_47 kI_X1_isDone kS_X1_isDone kN_X1 kD_X1_isDone (show yX1_isDone.cls = RX1 ∧ yX1_isDone.cls ≠ "java/lang/invoke/MethodHandle" ∧ yX1_isDone.cls ≠ "java/lang/invoke/VarHandle" ∧ (parseMethodDescriptor yX1_isDone.desc).map (fun d => d.parameters.length) = some 0 from by decide +kernel) rfl rfl ⟨Nat.le_of_ble_eq_true rfl, Nat.le_of_ble_eq_true rfl⟩ rfl (lv_room (Nat.le_of_ble_eq_true rfl)) dX1_tell_77 ⟨Nat.zero_le _, Nat.zero_le _⟩ (fun r_5 hr_5 => ?_)
      refine lv_if_eq (tgt := 87) hx hb dX1_tell_80 (by decide) (fun c_80 => ?_) (fun c_80 => ?_)
      · refine lv_iconst (v := 0) hx hb dX1_tell_87 (by decide) ?_
        exact W.iret hx hb hr (fun t ht hW => ⟨_, rfl, trivial, ht⟩) (fun _ h => by cases h) dX1_tell_88
      · refine lv_iconst (v := 1) hx hb dX1_tell_83 (by decide) ?_
        refine lv_goto (tgt := 88) hx hb dX1_tell_84 (by decide) ?_
        exact W.iret hx hb hr (fun t ht hW => ⟨_, rfl, trivial, ht⟩) (fun _ h => by cases h) dX1_tell_88
    · rw [hj0] at hjx
      subst hjx
      refine lv_tableIn (off := 88) (tgt := 89) hx hb dX1_tell_1 (by decide +kernel) (by decide +kernel) (by decide +kernel) (by decide) ?_
      refine lv_aload_n hx hb dX1_tell_89 rfl (lv_at hl 0 rfl) ?_
      refine c_gX1_5 C w h1 h2 kF_X1_33 dX1_tell_90 ?_
      refine lv_topi (fun t_6 et_6 => ?_)
      exact W.iret hx hb hr (fun t ht hW => ⟨_, rfl, trivial, ht⟩) (fun _ h => by cases h) dX1_tell_93
    · rw [hj0] at hjx
      subst hjx
      refine lv_tableIn (off := 93) (tgt := 94) hx hb dX1_tell_1 (by decide +kernel) (by decide +kernel) (by decide +kernel) (by decide) ?_
      refine lv_aload_n hx hb dX1_tell_94 rfl (lv_at hl 0 rfl) ?_
      refine c_gX1_8 C w h1 h2 kF_X1_9 dX1_tell_95 ?_
      refine lv_topi (fun t_7 et_7 => ?_)
      exact W.iret hx hb hr (fun t ht hW => ⟨_, rfl, trivial, ht⟩) (fun _ h => by cases h) dX1_tell_98
    · rw [hj0] at hjx
      subst hjx
      refine lv_tableIn (off := 98) (tgt := 99) hx hb dX1_tell_1 (by decide +kernel) (by decide +kernel) (by decide +kernel) (by decide) ?_
      refine lv_aload_n hx hb dX1_tell_99 rfl (lv_at hl 0 rfl) ?_
      refine c_gX1_9 C w h1 h2 kF_X1_51 dX1_tell_100 ?_
      refine lv_topi (fun t_8 et_8 => ?_)
      exact W.iret hx hb hr (fun t ht hW => ⟨_, rfl, trivial, ht⟩) (fun _ h => by cases h) dX1_tell_103
    · rw [hj0] at hjx
      subst hjx
      refine lv_tableIn (off := 103) (tgt := 104) hx hb dX1_tell_1 (by decide +kernel) (by decide +kernel) (by decide +kernel) (by decide) ?_
      refine lv_aload_n hx hb dX1_tell_104 rfl (lv_at hl 0 rfl) ?_
      refine c_gX1_10 C w h1 h2 kF_X1_15 dX1_tell_105 ?_
      refine lv_topi (fun t_9 et_9 => ?_)
      exact W.iret hx hb hr (fun t ht hW => ⟨_, rfl, trivial, ht⟩) (fun _ h => by cases h) dX1_tell_108
    · rw [hj0] at hjx
      subst hjx
      refine lv_tableIn (off := 108) (tgt := 109) hx hb dX1_tell_1 (by decide +kernel) (by decide +kernel) (by decide +kernel) (by decide) ?_
      refine lv_aload_n hx hb dX1_tell_109 rfl (lv_at hl 0 rfl) ?_
      refine c_gX1_11 C w h1 h2 kF_X1_44 dX1_tell_110 ?_
      refine lv_topi (fun t_10 et_10 => ?_)
      exact W.iret hx hb hr (fun t ht hW => ⟨_, rfl, trivial, ht⟩) (fun _ h => by cases h) dX1_tell_113
