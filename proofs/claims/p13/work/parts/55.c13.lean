def mxL (a b : Int64) : Int64 := if b < a then a else b
def cSum (σ : CS) (o : Nat) : Nat → Int64
  | 0 => 0
  | i + 1 => if cSees σ o (i + 1) 0 then cSum σ o i + (σ.1 3 (i + 1) 3).toInt64 else cSum σ o i
def cGr (σ : CS) (o : Nat) : Nat → Int64
  | 0 => -9223372036854775808
  | i + 1 => if cSees σ o (i + 1) 1 then mxL (cGr σ o i) (σ.1 3 (i + 1) 3).toInt64 else cGr σ o i
def cGk (σ : CS) (o : Nat) : Nat → Int64
  | 0 => -9223372036854775808
  | i + 1 => if cSees σ o (i + 1) 3 ∧ σ.1 3 (i + 1) 3 = σ.1 3 o 3 then mxL (cGk σ o i) (σ.1 3 (i + 1) 4).toInt64 else cGk σ o i
def cHas (bg : Nat) (σ : CS) (o : Nat) : Prop := ∃ q, 1 ≤ q ∧ q ≤ bg ∧ cSees σ o q 2 ∧ σ.1 3 q 3 = σ.1 3 o 3
def cRpt (σ : CS) (o u : Nat) : Prop := ∃ q, 1 ≤ q ∧ q < u ∧ cSees σ o q (σ.1 3 u 2) ∧ σ.1 3 q 3 = σ.1 3 u 3
noncomputable def cDf (σ : CS) (o : Nat) (kd : Int32) : Nat → Int32
  | 0 => 0
  | i + 1 => cif (cSees σ o (i + 1) kd ∧ ¬ cRpt σ o (i + 1)) (cDf σ o kd i + 1) (cDf σ o kd i)
set_option maxHeartbeats 4000000 in
set_option maxRecDepth 100000 in
theorem kl_sum {p : Program} {l : Launch} {e : Env} {R : Room} {s : State} {m : MethodId} {args : Array Value} {below : List Frame} {meth : Method} {c : Code} {cells slots : Nat} {Q : State → Prop} {D : va_G} {cI cZ cN cO : ClassId} {A : Nat → Prop} {H0 : Heap} {E : CE} {n bg : Nat} {H : Heap} {locs : List Loc} (C : Cx p c cX3_sum s m args RX3 D (gTy cI cZ cN cO)) (hml : c.maxLocals = 6) {σ : CS} {o : Nat} (w : cWd D cI cN cO A H0 E n bg σ H locs) (ok : cOK n bg σ) (hb5 : bg ≤ 511) (h1 : 1 ≤ o) (h2 : o ≤ bg) (hRf : 1 ≤ R.frames) (hRl : 24 ≤ R.locals) (hRc : cells + 0 ≤ R.cells) (hRs : slots + 0 ≤ R.slots) (kk : ∀ (v : Int64), (v = cSum σ o bg) → ∀ ls : Array Slot, lv_has ls 6 [(4, .int (nI (bg + 1))), (2, .long v), (0, .ref ((E.1 0))), (1, .ref ((E.2.2.2.2.1 o)))] → W p l e R s m args below meth c H locs cells slots Q (F0 m 48 ls [])) : ∀ (fu i : Nat), i + fu = bg → ∀ (v : Int64), (v = cSum σ o i) → ∀ ls : Array Slot, lv_has ls 6 [(4, .int (nI (i + 1))), (2, .long v), (0, .ref ((E.1 0))), (1, .ref ((E.2.2.2.2.1 o)))] → W p l e R s m args below meth c H locs cells slots Q (F0 m 5 ls []) := by
  intro fu
  induction fu with
  | zero =>
    intro i hik
    intro v hI ls hl
    have hx := C.1
    have hb := C.2.1
    have hi : bg = i := by omega
    subst hi
    refine lv_iload hx hb dX3_sum_5 (lv_at hl 0 rfl) ?_
    refine lv_aload_n hx hb dX3_sum_7 rfl (lv_at hl 2 rfl) ?_
    refine c_gX3_3 C w kF_X3_119 dX3_sum_8 ?_
    rw [ok.bg]
    refine lv_icmp_gt (tgt := 48) hx hb dX3_sum_11 (by decide) (fun c_11 => ?_) (fun c_11 => absurd (nI_lt (by omega) (by omega)) c_11)
    exact kk v hI ls (lv_sub hl [0, 1, 2, 3] rfl)
  | succ fu ih =>
    intro i hik
    intro v hI ls hl
    have hx := C.1
    have hb := C.2.1
    have hi : i < bg := by omega
    refine lv_iload hx hb dX3_sum_5 (lv_at hl 0 rfl) ?_
    refine lv_aload_n hx hb dX3_sum_7 rfl (lv_at hl 2 rfl) ?_
    refine c_gX3_3 C w kF_X3_119 dX3_sum_8 ?_
    rw [ok.bg]
    refine lv_icmp_gt (tgt := 48) hx hb dX3_sum_11 (by decide) (fun c_11 => absurd c_11 (nI_nlt (by omega) (by omega))) (fun c_11 => ?_)
    refine lv_aload_n hx hb dX3_sum_14 rfl (lv_at hl 2 rfl) ?_
    refine c_gX3_2 C w kF_X3_29 dX3_sum_15 ?_
    refine lv_iload hx hb dX3_sum_18 (lv_at hl 0 rfl) ?_
    refine c_lOp (o := (i + 1)) C w (by omega) (by omega) ok.2.2.1 dX3_sum_20 ?_
    refine lv_astore (lv' := [(5, _), (4, _), (2, _), (0, _), (1, _)]) C.1 C.2.1 dX3_sum_21 hl (by decide) rfl (fun ls hl => ?_)
    refine lv_aload_n hx hb dX3_sum_23 rfl (lv_at hl 4 rfl) ?_
    refine lv_aload hx hb dX3_sum_24 (lv_at hl 0 rfl) ?_
    refine lv_iconst (v := 0) hx hb dX3_sum_26 (by decide) ?_
    refine c_callp (As := [.ref ((E.2.2.2.2.1 (i + 1))), .int 0]) (rest := []) C (c_preX1 C w h1 h2) hml hl.1 (k_X1_sees l D cI cZ cN cO A E n bg _ o (i + 1) 0 ok h1 h2 (by omega) (by omega)) kM_X3_306 kI_X1_sees kS_X1_sees kN_X1 kD_X1_sees (show yX1_sees.cls = RX1 ∧ yX1_sees.cls ≠ "java/lang/invoke/MethodHandle" ∧ yX1_sees.cls ≠ "java/lang/invoke/VarHandle" ∧ (parseMethodDescriptor yX1_sees.desc).map (fun d => d.parameters.length) = some 2 from by decide +kernel) rfl rfl ⟨(by show 0 + 1 ≤ R.frames; omega), (by show 8 + (3 + 11) + 0 ≤ R.locals; omega)⟩ rfl (lv_room (Nat.le_of_ble_eq_true rfl)) dX3_sum_27 ⟨hRc, hRs⟩ (fun r_1 hr_1 => ?_)
    refine lv_if_eq (tgt := 42) hx hb dX3_sum_30 (by decide) (fun c_30 => ?_) (fun c_30 => ?_)
    · obtain ⟨x_2, ex_2⟩ : ∃ y : Int32, y = (nI (i + 1)) + 1 := ⟨_, rfl⟩
      refine lv_iinc (v := x_2) (lv' := [(4, _), (5, _), (2, _), (0, _), (1, _)]) C.1 C.2.1 dX3_sum_42 hl (k := 1) rfl (by rw [ex_2]; rfl) (by decide) rfl (fun ls hl => ?_)
      refine lv_goto (tgt := 5) hx hb dX3_sum_45 (by decide) ?_
      have hq : v = cSum σ o (i + 1) := by rw [hI]; exact (if_neg (ite_eq0 hr_1 c_30)).symm
      have hx2 : x_2 = nI (i + 1 + 1) := by rw [ex_2]; exact nI_1 (i + 1)
      rw [hx2] at hl
      exact ih (i + 1) (by omega) v hq ls (lv_sub hl [0, 2, 3, 4] rfl)
    · refine lv_lload_n hx hb dX3_sum_33 rfl (lv_at hl 2 rfl) ?_
      refine lv_aload hx hb dX3_sum_34 (lv_at hl 0 rfl) ?_
      refine c_gX1_3 C w (by omega) (by omega) kF_X3_310 dX3_sum_36 ?_
      refine lv_topi (fun t_3 et_3 => ?_)
      refine lv_i2l (v := t_3.toInt64) hx hb dX3_sum_39 rfl ?_
      refine lv_ladd hx hb dX3_sum_40 ?_
      refine lv_topl (fun t_5 elt_5 => ?_)
      refine lv_lstore_n (lv' := [(2, _), (5, _), (4, _), (0, _), (1, _)]) C.1 C.2.1 dX3_sum_41 rfl hl (by decide) rfl (fun ls hl => ?_)
      obtain ⟨x_6, ex_6⟩ : ∃ y : Int32, y = (nI (i + 1)) + 1 := ⟨_, rfl⟩
      refine lv_iinc (v := x_6) (lv' := [(4, _), (2, _), (5, _), (0, _), (1, _)]) C.1 C.2.1 dX3_sum_42 hl (k := 2) rfl (by rw [ex_6]; rfl) (by decide) rfl (fun ls hl => ?_)
      refine lv_goto (tgt := 5) hx hb dX3_sum_45 (by decide) ?_
      have hq : t_5 = cSum σ o (i + 1) := by rw [elt_5, hI, et_3]; exact (if_pos (ite_ne0 hr_1 c_30)).symm
      have hx2 : x_6 = nI (i + 1 + 1) := by rw [ex_6]; exact nI_1 (i + 1)
      rw [hx2] at hl
      exact ih (i + 1) (by omega) t_5 hq ls (lv_sub hl [0, 1, 3, 4] rfl)
set_option maxHeartbeats 4000000 in
set_option maxRecDepth 100000 in
theorem k_X3_sum (l : Launch) (D : va_G) (cI cZ cN cO : ClassId) (A : Nat → Prop) (E : CE) (n bg : Nat) (σ : CS) (o : Nat) (ok : cOK n bg σ) (h1 : 1 ≤ o) (h2 : o ≤ bg) : Met l yX3_sum (.code yX3_sum cX3_sum 6 (some .long) :: gw) ({ frames := 1, cells := 0, slots := 0, locals := 24 }) (va_Pc (.ref (E.1 0) :: [.ref ((E.2.2.2.2.1 o))]) (cH D cI cZ cN cO A E n bg σ)) (vp_Sl (fun r => r = cSum σ o bg)) 0 0 (fun _ => False) := by
  refine Met.ofW (cc := cX3_sum) (maxL := 6) (ret := (some .long)) (by decide) rfl ?_
  intro p e s m args below meth c s₁ B hml hv
  obtain ⟨rfl, hP, hK, hD⟩ := hv
  have hx := B.exec
  have hb := B.bytes
  have hr := B.returns
  have hts := atoms_spec (ws := (.code yX3_sum cX3_sum 6 (some .long) :: gw)) B.pre
  have hg : ∀ w ∈ gw, w.before _ s = true := fun w h => hts w (List.mem_cons_of_mem _ h)
  have hown : s.vm.findClass RX3 = some m.cls := findClass_of_methodNamed B.named
  have hlocks := B.notSynchronized
  have C : Cx p c cX3_sum s m _ RX3 D (gTy cI cZ cN cO) := ⟨hx, hb, hown, hg, hK⟩
  have w : cWd D cI cN cO A s.heap E n bg σ s.heap [] := ⟨hP, hD, va_S.rf⟩
  have hl := lv_entry ([.ref ((E.1 0)), .ref ((E.2.2.2.2.1 o))]) (n := 6) (Nat.le_of_ble_eq_true rfl)
  rw [lg_entry_eq]
  generalize (lg_sl ([.ref ((E.1 0)), .ref ((E.2.2.2.2.1 o))]) ++ List.replicate (6 - (lg_sl ([.ref ((E.1 0)), .ref ((E.2.2.2.2.1 o))])).length) Slot.unset).toArray = ls at hl ⊢
  have hl : lv_has ls 6 [(0, .ref ((E.1 0))), (1, .ref ((E.2.2.2.2.1 o)))] := hl
  refine lv_lconst (v := 0) hx hb dX3_sum_0 (by decide) ?_
  refine lv_lstore_n (lv' := [(2, _), (0, _), (1, _)]) C.1 C.2.1 dX3_sum_1 rfl hl (by decide) rfl (fun ls hl => ?_)
  refine lv_iconst (v := 1) hx hb dX3_sum_2 (by decide) ?_
  refine lv_istore (lv' := [(4, _), (2, _), (0, _), (1, _)]) C.1 C.2.1 dX3_sum_3 hl (by decide) rfl (fun ls hl => ?_)
  have hl := lv_sub hl (l' := [(4, .int (nI (0 + 1))), (2, .long 0), (0, .ref (E.1 0)), (1, .ref (E.2.2.2.2.1 o))]) [0, 1, 2, 3] (by rw [show nI (0 + 1) = 1 from by decide +kernel]; rfl)
  refine kl_sum C hml w ok ok.2.2.1 h1 h2 (Nat.le_of_ble_eq_true rfl) (Nat.le_of_ble_eq_true rfl) (Nat.zero_le _) (Nat.zero_le _) ?_ bg 0 (by omega) 0 rfl ls (lv_sub hl [0, 1, 2, 3] rfl)
  intro v hI ls hl
  refine lv_lload_n hx hb dX3_sum_48 rfl (lv_at hl 1 rfl) ?_
  exact W.lret (v := v) hx hb hr (fun t ht hW => ⟨_, rfl, hI, ht⟩) (fun _ h => by cases h) dX3_sum_49
set_option maxHeartbeats 4000000 in
set_option maxRecDepth 100000 in
theorem kl_greatest {p : Program} {l : Launch} {e : Env} {R : Room} {s : State} {m : MethodId} {args : Array Value} {below : List Frame} {meth : Method} {c : Code} {cells slots : Nat} {Q : State → Prop} {D : va_G} {cI cZ cN cO : ClassId} {A : Nat → Prop} {H0 : Heap} {E : CE} {n bg : Nat} {H : Heap} {locs : List Loc} (C : Cx p c cX3_greatest s m args RX3 D (gTy cI cZ cN cO)) (hml : c.maxLocals = 6) {σ : CS} {o : Nat} (w : cWd D cI cN cO A H0 E n bg σ H locs) (ok : cOK n bg σ) (hb5 : bg ≤ 511) (h1 : 1 ≤ o) (h2 : o ≤ bg) (hRf : 1 ≤ R.frames) (hRl : 24 ≤ R.locals) (hRc : cells + 0 ≤ R.cells) (hRs : slots + 0 ≤ R.slots) (kk : ∀ (v : Int64), (v = cGr σ o bg) → ∀ ls : Array Slot, lv_has ls 6 [(4, .int (nI (bg + 1))), (2, .long v), (0, .ref ((E.1 0))), (1, .ref ((E.2.2.2.2.1 o)))] → W p l e R s m args below meth c H locs cells slots Q (F0 m 52 ls [])) : ∀ (fu i : Nat), i + fu = bg → ∀ (v : Int64), (v = cGr σ o i) → ∀ ls : Array Slot, lv_has ls 6 [(4, .int (nI (i + 1))), (2, .long v), (0, .ref ((E.1 0))), (1, .ref ((E.2.2.2.2.1 o)))] → W p l e R s m args below meth c H locs cells slots Q (F0 m 7 ls []) := by
  intro fu
  induction fu with
  | zero =>
    intro i hik
    intro v hI ls hl
    have hx := C.1
    have hb := C.2.1
    have hi : bg = i := by omega
    subst hi
    refine lv_iload hx hb dX3_greatest_7 (lv_at hl 0 rfl) ?_
    refine lv_aload_n hx hb dX3_greatest_9 rfl (lv_at hl 2 rfl) ?_
    refine c_gX3_3 C w kF_X3_119 dX3_greatest_10 ?_
    rw [ok.bg]
    refine lv_icmp_gt (tgt := 52) hx hb dX3_greatest_13 (by decide) (fun c_13 => ?_) (fun c_13 => absurd (nI_lt (by omega) (by omega)) c_13)
    exact kk v hI ls (lv_sub hl [0, 1, 2, 3] rfl)
  | succ fu ih =>
    intro i hik
    intro v hI ls hl
    have hx := C.1
    have hb := C.2.1
    have hi : i < bg := by omega
    refine lv_iload hx hb dX3_greatest_7 (lv_at hl 0 rfl) ?_
    refine lv_aload_n hx hb dX3_greatest_9 rfl (lv_at hl 2 rfl) ?_
    refine c_gX3_3 C w kF_X3_119 dX3_greatest_10 ?_
    rw [ok.bg]
    refine lv_icmp_gt (tgt := 52) hx hb dX3_greatest_13 (by decide) (fun c_13 => absurd c_13 (nI_nlt (by omega) (by omega))) (fun c_13 => ?_)
    refine lv_aload_n hx hb dX3_greatest_16 rfl (lv_at hl 2 rfl) ?_
    refine c_gX3_2 C w kF_X3_29 dX3_greatest_17 ?_
    refine lv_iload hx hb dX3_greatest_20 (lv_at hl 0 rfl) ?_
    refine c_lOp (o := (i + 1)) C w (by omega) (by omega) ok.2.2.1 dX3_greatest_22 ?_
    refine lv_astore (lv' := [(5, _), (4, _), (2, _), (0, _), (1, _)]) C.1 C.2.1 dX3_greatest_23 hl (by decide) rfl (fun ls hl => ?_)
    refine lv_aload_n hx hb dX3_greatest_25 rfl (lv_at hl 4 rfl) ?_
    refine lv_aload hx hb dX3_greatest_26 (lv_at hl 0 rfl) ?_
    refine lv_iconst (v := 1) hx hb dX3_greatest_28 (by decide) ?_
    refine c_callp (As := [.ref ((E.2.2.2.2.1 (i + 1))), .int 1]) (rest := []) C (c_preX1 C w h1 h2) hml hl.1 (k_X1_sees l D cI cZ cN cO A E n bg _ o (i + 1) 1 ok h1 h2 (by omega) (by omega)) kM_X3_306 kI_X1_sees kS_X1_sees kN_X1 kD_X1_sees (show yX1_sees.cls = RX1 ∧ yX1_sees.cls ≠ "java/lang/invoke/MethodHandle" ∧ yX1_sees.cls ≠ "java/lang/invoke/VarHandle" ∧ (parseMethodDescriptor yX1_sees.desc).map (fun d => d.parameters.length) = some 2 from by decide +kernel) rfl rfl ⟨(by show 0 + 1 ≤ R.frames; omega), (by show 8 + (3 + 11) + 0 ≤ R.locals; omega)⟩ rfl (lv_room (Nat.le_of_ble_eq_true rfl)) dX3_greatest_29 ⟨hRc, hRs⟩ (fun r_1 hr_1 => ?_)
    refine lv_if_eq (tgt := 46) hx hb dX3_greatest_32 (by decide) (fun c_32 => ?_) (fun c_32 => ?_)
    · obtain ⟨x_2, ex_2⟩ : ∃ y : Int32, y = (nI (i + 1)) + 1 := ⟨_, rfl⟩
      refine lv_iinc (v := x_2) (lv' := [(4, _), (5, _), (2, _), (0, _), (1, _)]) C.1 C.2.1 dX3_greatest_46 hl (k := 1) rfl (by rw [ex_2]; rfl) (by decide) rfl (fun ls hl => ?_)
      refine lv_goto (tgt := 7) hx hb dX3_greatest_49 (by decide) ?_
      have hq : v = cGr σ o (i + 1) := by rw [hI]; exact (if_neg (ite_eq0 hr_1 c_32)).symm
      have hx2 : x_2 = nI (i + 1 + 1) := by rw [ex_2]; exact nI_1 (i + 1)
      rw [hx2] at hl
      exact ih (i + 1) (by omega) v hq ls (lv_sub hl [0, 2, 3, 4] rfl)
    · refine lv_lload_n hx hb dX3_greatest_35 rfl (lv_at hl 2 rfl) ?_
      refine lv_aload hx hb dX3_greatest_36 (lv_at hl 0 rfl) ?_
      refine c_gX1_3 C w (by omega) (by omega) kF_X3_310 dX3_greatest_38 ?_
      refine lv_topi (fun t_3 et_3 => ?_)
      refine lv_i2l (v := t_3.toInt64) hx hb dX3_greatest_41 rfl ?_
      refine va_mmax_long C.1 C.2.1 (hml.trans hl.1.symm) C.2.2.1 (C.2.2.2.1 _ kM_X3_317) (C.2.2.2.1 _ kT_Lib_MathLoose_max_long_x) (C.2.2.2.1 _ kN_java_lang_Math) (C.2.2.2.1 _ kD_Lib_MathLoose_max_long_x) (by omega) (by show 0 + 15 ≤ R.locals; omega) hRc hRs dX3_greatest_42 ?_
      refine lv_topl (fun t_5 elt_5 => ?_)
      have elt_5 : t_5 = mxL v t_3.toInt64 := elt_5
      refine lv_lstore_n (lv' := [(2, _), (5, _), (4, _), (0, _), (1, _)]) C.1 C.2.1 dX3_greatest_45 rfl hl (by decide) rfl (fun ls hl => ?_)
      obtain ⟨x_6, ex_6⟩ : ∃ y : Int32, y = (nI (i + 1)) + 1 := ⟨_, rfl⟩
      refine lv_iinc (v := x_6) (lv' := [(4, _), (2, _), (5, _), (0, _), (1, _)]) C.1 C.2.1 dX3_greatest_46 hl (k := 2) rfl (by rw [ex_6]; rfl) (by decide) rfl (fun ls hl => ?_)
      refine lv_goto (tgt := 7) hx hb dX3_greatest_49 (by decide) ?_
      have hq : t_5 = cGr σ o (i + 1) := by rw [elt_5, hI, et_3]; exact (if_pos (ite_ne0 hr_1 c_32)).symm
      have hx2 : x_6 = nI (i + 1 + 1) := by rw [ex_6]; exact nI_1 (i + 1)
      rw [hx2] at hl
      exact ih (i + 1) (by omega) t_5 hq ls (lv_sub hl [0, 1, 3, 4] rfl)
set_option maxHeartbeats 4000000 in
set_option maxRecDepth 100000 in
theorem k_X3_greatest (l : Launch) (D : va_G) (cI cZ cN cO : ClassId) (A : Nat → Prop) (E : CE) (n bg : Nat) (σ : CS) (o : Nat) (ok : cOK n bg σ) (h1 : 1 ≤ o) (h2 : o ≤ bg) : Met l yX3_greatest (.code yX3_greatest cX3_greatest 6 (some .long) :: gw) ({ frames := 1, cells := 0, slots := 0, locals := 24 }) (va_Pc (.ref (E.1 0) :: [.ref ((E.2.2.2.2.1 o))]) (cH D cI cZ cN cO A E n bg σ)) (vp_Sl (fun r => r = cGr σ o bg)) 0 0 (fun _ => False) := by
  refine Met.ofW (cc := cX3_greatest) (maxL := 6) (ret := (some .long)) (by decide) rfl ?_
  intro p e s m args below meth c s₁ B hml hv
  obtain ⟨rfl, hP, hK, hD⟩ := hv
  have hx := B.exec
  have hb := B.bytes
  have hr := B.returns
  have hts := atoms_spec (ws := (.code yX3_greatest cX3_greatest 6 (some .long) :: gw)) B.pre
  have hg : ∀ w ∈ gw, w.before _ s = true := fun w h => hts w (List.mem_cons_of_mem _ h)
  have hown : s.vm.findClass RX3 = some m.cls := findClass_of_methodNamed B.named
  have hlocks := B.notSynchronized
  have C : Cx p c cX3_greatest s m _ RX3 D (gTy cI cZ cN cO) := ⟨hx, hb, hown, hg, hK⟩
  have w : cWd D cI cN cO A s.heap E n bg σ s.heap [] := ⟨hP, hD, va_S.rf⟩
  have hl := lv_entry ([.ref ((E.1 0)), .ref ((E.2.2.2.2.1 o))]) (n := 6) (Nat.le_of_ble_eq_true rfl)
  rw [lg_entry_eq]
  generalize (lg_sl ([.ref ((E.1 0)), .ref ((E.2.2.2.2.1 o))]) ++ List.replicate (6 - (lg_sl ([.ref ((E.1 0)), .ref ((E.2.2.2.2.1 o))])).length) Slot.unset).toArray = ls at hl ⊢
  have hl : lv_has ls 6 [(0, .ref ((E.1 0))), (1, .ref ((E.2.2.2.2.1 o)))] := hl
  refine lv_ldc2 (v := -9223372036854775808) C.1 C.2.1 C.2.2.1 (C.2.2.2.1 _ kZ_constantLong_RX3_315_9223372036854775808_) dX3_greatest_0 ?_
  refine lv_lstore_n (lv' := [(2, _), (0, _), (1, _)]) C.1 C.2.1 dX3_greatest_3 rfl hl (by decide) rfl (fun ls hl => ?_)
  refine lv_iconst (v := 1) hx hb dX3_greatest_4 (by decide) ?_
  refine lv_istore (lv' := [(4, _), (2, _), (0, _), (1, _)]) C.1 C.2.1 dX3_greatest_5 hl (by decide) rfl (fun ls hl => ?_)
  have hl := lv_sub hl (l' := [(4, .int (nI (0 + 1))), (2, .long (-9223372036854775808)), (0, .ref (E.1 0)), (1, .ref (E.2.2.2.2.1 o))]) [0, 1, 2, 3] (by rw [show nI (0 + 1) = 1 from by decide +kernel]; rfl)
  refine kl_greatest C hml w ok ok.2.2.1 h1 h2 (Nat.le_of_ble_eq_true rfl) (Nat.le_of_ble_eq_true rfl) (Nat.zero_le _) (Nat.zero_le _) ?_ bg 0 (by omega) (-9223372036854775808) rfl ls (lv_sub hl [0, 1, 2, 3] rfl)
  intro v hI ls hl
  refine lv_lload_n hx hb dX3_greatest_52 rfl (lv_at hl 1 rfl) ?_
  exact W.lret (v := v) hx hb hr (fun t ht hW => ⟨_, rfl, hI, ht⟩) (fun _ h => by cases h) dX3_greatest_53
set_option maxHeartbeats 4000000 in
set_option maxRecDepth 100000 in
theorem kl_greatestOfKey {p : Program} {l : Launch} {e : Env} {R : Room} {s : State} {m : MethodId} {args : Array Value} {below : List Frame} {meth : Method} {c : Code} {cells slots : Nat} {Q : State → Prop} {D : va_G} {cI cZ cN cO : ClassId} {A : Nat → Prop} {H0 : Heap} {E : CE} {n bg : Nat} {H : Heap} {locs : List Loc} (C : Cx p c cX3_greatestOfKey s m args RX3 D (gTy cI cZ cN cO)) (hml : c.maxLocals = 6) {σ : CS} {o : Nat} (w : cWd D cI cN cO A H0 E n bg σ H locs) (ok : cOK n bg σ) (hb5 : bg ≤ 511) (h1 : 1 ≤ o) (h2 : o ≤ bg) (hRf : 1 ≤ R.frames) (hRl : 24 ≤ R.locals) (hRc : cells + 0 ≤ R.cells) (hRs : slots + 0 ≤ R.slots) (kk : ∀ (v : Int64), (v = cGk σ o bg) → ∀ ls : Array Slot, lv_has ls 6 [(4, .int (nI (bg + 1))), (2, .long v), (0, .ref ((E.1 0))), (1, .ref ((E.2.2.2.2.1 o)))] → W p l e R s m args below meth c H locs cells slots Q (F0 m 64 ls [])) : ∀ (fu i : Nat), i + fu = bg → ∀ (v : Int64), (v = cGk σ o i) → ∀ ls : Array Slot, lv_has ls 6 [(4, .int (nI (i + 1))), (2, .long v), (0, .ref ((E.1 0))), (1, .ref ((E.2.2.2.2.1 o)))] → W p l e R s m args below meth c H locs cells slots Q (F0 m 7 ls []) := by
  intro fu
  induction fu with
  | zero =>
    intro i hik
    intro v hI ls hl
    have hx := C.1
    have hb := C.2.1
    have hi : bg = i := by omega
    subst hi
    refine lv_iload hx hb dX3_greatestOfKey_7 (lv_at hl 0 rfl) ?_
    refine lv_aload_n hx hb dX3_greatestOfKey_9 rfl (lv_at hl 2 rfl) ?_
    refine c_gX3_3 C w kF_X3_119 dX3_greatestOfKey_10 ?_
    rw [ok.bg]
    refine lv_icmp_gt (tgt := 64) hx hb dX3_greatestOfKey_13 (by decide) (fun c_13 => ?_) (fun c_13 => absurd (nI_lt (by omega) (by omega)) c_13)
    exact kk v hI ls (lv_sub hl [0, 1, 2, 3] rfl)
  | succ fu ih =>
    intro i hik
    intro v hI ls hl
    have hx := C.1
    have hb := C.2.1
    have hi : i < bg := by omega
    refine lv_iload hx hb dX3_greatestOfKey_7 (lv_at hl 0 rfl) ?_
    refine lv_aload_n hx hb dX3_greatestOfKey_9 rfl (lv_at hl 2 rfl) ?_
    refine c_gX3_3 C w kF_X3_119 dX3_greatestOfKey_10 ?_
    rw [ok.bg]
    refine lv_icmp_gt (tgt := 64) hx hb dX3_greatestOfKey_13 (by decide) (fun c_13 => absurd c_13 (nI_nlt (by omega) (by omega))) (fun c_13 => ?_)
    refine lv_aload_n hx hb dX3_greatestOfKey_16 rfl (lv_at hl 2 rfl) ?_
    refine c_gX3_2 C w kF_X3_29 dX3_greatestOfKey_17 ?_
    refine lv_iload hx hb dX3_greatestOfKey_20 (lv_at hl 0 rfl) ?_
    refine c_lOp (o := (i + 1)) C w (by omega) (by omega) ok.2.2.1 dX3_greatestOfKey_22 ?_
    refine lv_astore (lv' := [(5, _), (4, _), (2, _), (0, _), (1, _)]) C.1 C.2.1 dX3_greatestOfKey_23 hl (by decide) rfl (fun ls hl => ?_)
    refine lv_aload_n hx hb dX3_greatestOfKey_25 rfl (lv_at hl 4 rfl) ?_
    refine lv_aload hx hb dX3_greatestOfKey_26 (lv_at hl 0 rfl) ?_
    refine lv_iconst (v := 3) hx hb dX3_greatestOfKey_28 (by decide) ?_
    refine c_callp (As := [.ref ((E.2.2.2.2.1 (i + 1))), .int 3]) (rest := []) C (c_preX1 C w h1 h2) hml hl.1 (k_X1_sees l D cI cZ cN cO A E n bg _ o (i + 1) 3 ok h1 h2 (by omega) (by omega)) kM_X3_306 kI_X1_sees kS_X1_sees kN_X1 kD_X1_sees (show yX1_sees.cls = RX1 ∧ yX1_sees.cls ≠ "java/lang/invoke/MethodHandle" ∧ yX1_sees.cls ≠ "java/lang/invoke/VarHandle" ∧ (parseMethodDescriptor yX1_sees.desc).map (fun d => d.parameters.length) = some 2 from by decide +kernel) rfl rfl ⟨(by show 0 + 1 ≤ R.frames; omega), (by show 8 + (3 + 11) + 0 ≤ R.locals; omega)⟩ rfl (lv_room (Nat.le_of_ble_eq_true rfl)) dX3_greatestOfKey_29 ⟨hRc, hRs⟩ (fun r_1 hr_1 => ?_)
    refine lv_if_eq (tgt := 58) hx hb dX3_greatestOfKey_32 (by decide) (fun c_32 => ?_) (fun c_32 => ?_)
    · obtain ⟨x_2, ex_2⟩ : ∃ y : Int32, y = (nI (i + 1)) + 1 := ⟨_, rfl⟩
      refine lv_iinc (v := x_2) (lv' := [(4, _), (5, _), (2, _), (0, _), (1, _)]) C.1 C.2.1 dX3_greatestOfKey_58 hl (k := 1) rfl (by rw [ex_2]; rfl) (by decide) rfl (fun ls hl => ?_)
      refine lv_goto (tgt := 7) hx hb dX3_greatestOfKey_61 (by decide) ?_
      have hq : v = cGk σ o (i + 1) := by rw [hI]; exact (if_neg (fun z => ite_eq0 hr_1 c_32 z.1)).symm
      have hx2 : x_2 = nI (i + 1 + 1) := by rw [ex_2]; exact nI_1 (i + 1)
      rw [hx2] at hl
      exact ih (i + 1) (by omega) v hq ls (lv_sub hl [0, 2, 3, 4] rfl)
    · refine lv_aload hx hb dX3_greatestOfKey_35 (lv_at hl 0 rfl) ?_
      refine c_gX1_3 C w (by omega) (by omega) kF_X3_310 dX3_greatestOfKey_37 ?_
      refine lv_topi (fun t_3 et_3 => ?_)
      refine lv_aload_n hx hb dX3_greatestOfKey_40 rfl (lv_at hl 4 rfl) ?_
      refine c_gX1_3 C w h1 h2 kF_X3_310 dX3_greatestOfKey_41 ?_
      refine lv_topi (fun t_4 et_4 => ?_)
      refine lv_icmp_ne (tgt := 58) hx hb dX3_greatestOfKey_44 (by decide) (fun c_44 => ?_) (fun c_44 => ?_)
      · obtain ⟨x_5, ex_5⟩ : ∃ y : Int32, y = (nI (i + 1)) + 1 := ⟨_, rfl⟩
        refine lv_iinc (v := x_5) (lv' := [(4, _), (5, _), (2, _), (0, _), (1, _)]) C.1 C.2.1 dX3_greatestOfKey_58 hl (k := 1) rfl (by rw [ex_5]; rfl) (by decide) rfl (fun ls hl => ?_)
        refine lv_goto (tgt := 7) hx hb dX3_greatestOfKey_61 (by decide) ?_
        have hq : v = cGk σ o (i + 1) := by rw [hI]; exact (if_neg (fun z => c_44 (by rw [et_3, et_4]; exact z.2))).symm
        have hx2 : x_5 = nI (i + 1 + 1) := by rw [ex_5]; exact nI_1 (i + 1)
        rw [hx2] at hl
        exact ih (i + 1) (by omega) v hq ls (lv_sub hl [0, 2, 3, 4] rfl)
      · refine lv_lload_n hx hb dX3_greatestOfKey_47 rfl (lv_at hl 2 rfl) ?_
        refine lv_aload hx hb dX3_greatestOfKey_48 (lv_at hl 0 rfl) ?_
        refine c_gX1_4 C w (by omega) (by omega) kF_X3_320 dX3_greatestOfKey_50 ?_
        refine lv_topi (fun t_6 et_6 => ?_)
        refine lv_i2l (v := t_6.toInt64) hx hb dX3_greatestOfKey_53 rfl ?_
        refine va_mmax_long C.1 C.2.1 (hml.trans hl.1.symm) C.2.2.1 (C.2.2.2.1 _ kM_X3_317) (C.2.2.2.1 _ kT_Lib_MathLoose_max_long_x) (C.2.2.2.1 _ kN_java_lang_Math) (C.2.2.2.1 _ kD_Lib_MathLoose_max_long_x) (by omega) (by show 0 + 15 ≤ R.locals; omega) hRc hRs dX3_greatestOfKey_54 ?_
        refine lv_topl (fun t_8 elt_8 => ?_)
        have elt_8 : t_8 = mxL v t_6.toInt64 := elt_8
        refine lv_lstore_n (lv' := [(2, _), (5, _), (4, _), (0, _), (1, _)]) C.1 C.2.1 dX3_greatestOfKey_57 rfl hl (by decide) rfl (fun ls hl => ?_)
        obtain ⟨x_9, ex_9⟩ : ∃ y : Int32, y = (nI (i + 1)) + 1 := ⟨_, rfl⟩
        refine lv_iinc (v := x_9) (lv' := [(4, _), (2, _), (5, _), (0, _), (1, _)]) C.1 C.2.1 dX3_greatestOfKey_58 hl (k := 2) rfl (by rw [ex_9]; rfl) (by decide) rfl (fun ls hl => ?_)
        refine lv_goto (tgt := 7) hx hb dX3_greatestOfKey_61 (by decide) ?_
        have hq : t_8 = cGk σ o (i + 1) := by rw [elt_8, hI, et_6]; exact (if_pos ⟨ite_ne0 hr_1 c_32, by rw [← et_3, ← et_4]; exact c_44⟩).symm
        have hx2 : x_9 = nI (i + 1 + 1) := by rw [ex_9]; exact nI_1 (i + 1)
        rw [hx2] at hl
        exact ih (i + 1) (by omega) t_8 hq ls (lv_sub hl [0, 1, 3, 4] rfl)
set_option maxHeartbeats 4000000 in
set_option maxRecDepth 100000 in
theorem k_X3_greatestOfKey (l : Launch) (D : va_G) (cI cZ cN cO : ClassId) (A : Nat → Prop) (E : CE) (n bg : Nat) (σ : CS) (o : Nat) (ok : cOK n bg σ) (h1 : 1 ≤ o) (h2 : o ≤ bg) : Met l yX3_greatestOfKey (.code yX3_greatestOfKey cX3_greatestOfKey 6 (some .long) :: gw) ({ frames := 1, cells := 0, slots := 0, locals := 24 }) (va_Pc (.ref (E.1 0) :: [.ref ((E.2.2.2.2.1 o))]) (cH D cI cZ cN cO A E n bg σ)) (vp_Sl (fun r => r = cGk σ o bg)) 0 0 (fun _ => False) := by
  refine Met.ofW (cc := cX3_greatestOfKey) (maxL := 6) (ret := (some .long)) (by decide) rfl ?_
  intro p e s m args below meth c s₁ B hml hv
  obtain ⟨rfl, hP, hK, hD⟩ := hv
  have hx := B.exec
  have hb := B.bytes
  have hr := B.returns
  have hts := atoms_spec (ws := (.code yX3_greatestOfKey cX3_greatestOfKey 6 (some .long) :: gw)) B.pre
  have hg : ∀ w ∈ gw, w.before _ s = true := fun w h => hts w (List.mem_cons_of_mem _ h)
  have hown : s.vm.findClass RX3 = some m.cls := findClass_of_methodNamed B.named
  have hlocks := B.notSynchronized
  have C : Cx p c cX3_greatestOfKey s m _ RX3 D (gTy cI cZ cN cO) := ⟨hx, hb, hown, hg, hK⟩
  have w : cWd D cI cN cO A s.heap E n bg σ s.heap [] := ⟨hP, hD, va_S.rf⟩
  have hl := lv_entry ([.ref ((E.1 0)), .ref ((E.2.2.2.2.1 o))]) (n := 6) (Nat.le_of_ble_eq_true rfl)
  rw [lg_entry_eq]
  generalize (lg_sl ([.ref ((E.1 0)), .ref ((E.2.2.2.2.1 o))]) ++ List.replicate (6 - (lg_sl ([.ref ((E.1 0)), .ref ((E.2.2.2.2.1 o))])).length) Slot.unset).toArray = ls at hl ⊢
  have hl : lv_has ls 6 [(0, .ref ((E.1 0))), (1, .ref ((E.2.2.2.2.1 o)))] := hl
  refine lv_ldc2 (v := -9223372036854775808) C.1 C.2.1 C.2.2.1 (C.2.2.2.1 _ kZ_constantLong_RX3_315_9223372036854775808_) dX3_greatestOfKey_0 ?_
  refine lv_lstore_n (lv' := [(2, _), (0, _), (1, _)]) C.1 C.2.1 dX3_greatestOfKey_3 rfl hl (by decide) rfl (fun ls hl => ?_)
  refine lv_iconst (v := 1) hx hb dX3_greatestOfKey_4 (by decide) ?_
  refine lv_istore (lv' := [(4, _), (2, _), (0, _), (1, _)]) C.1 C.2.1 dX3_greatestOfKey_5 hl (by decide) rfl (fun ls hl => ?_)
  have hl := lv_sub hl (l' := [(4, .int (nI (0 + 1))), (2, .long (-9223372036854775808)), (0, .ref (E.1 0)), (1, .ref (E.2.2.2.2.1 o))]) [0, 1, 2, 3] (by rw [show nI (0 + 1) = 1 from by decide +kernel]; rfl)
  refine kl_greatestOfKey C hml w ok ok.2.2.1 h1 h2 (Nat.le_of_ble_eq_true rfl) (Nat.le_of_ble_eq_true rfl) (Nat.zero_le _) (Nat.zero_le _) ?_ bg 0 (by omega) (-9223372036854775808) rfl ls (lv_sub hl [0, 1, 2, 3] rfl)
  intro v hI ls hl
  refine lv_lload_n hx hb dX3_greatestOfKey_64 rfl (lv_at hl 1 rfl) ?_
  exact W.lret (v := v) hx hb hr (fun t ht hW => ⟨_, rfl, hI, ht⟩) (fun _ h => by cases h) dX3_greatestOfKey_65
set_option maxHeartbeats 4000000 in
set_option maxRecDepth 100000 in
theorem kl_contains {p : Program} {l : Launch} {e : Env} {R : Room} {s : State} {m : MethodId} {args : Array Value} {below : List Frame} {meth : Method} {c : Code} {cells slots : Nat} {Q : State → Prop} {D : va_G} {cI cZ cN cO : ClassId} {A : Nat → Prop} {H0 : Heap} {E : CE} {n bg : Nat} {H : Heap} {locs : List Loc} (C : Cx p c cX3_contains s m args RX3 D (gTy cI cZ cN cO)) (hml : c.maxLocals = 4) {σ : CS} {o : Nat} (w : cWd D cI cN cO A H0 E n bg σ H locs) (ok : cOK n bg σ) (hb5 : bg ≤ 511) (h1 : 1 ≤ o) (h2 : o ≤ bg) (hRf : 1 ≤ R.frames) (hRl : 24 ≤ R.locals) (hRc : cells + 0 ≤ R.cells) (hRs : slots + 0 ≤ R.slots) (kk : (∀ q, 1 ≤ q → q ≤ bg → ¬ (cSees σ o q 2 ∧ σ.1 3 q 3 = σ.1 3 o 3)) → ∀ ls : Array Slot, lv_has ls 4 [(2, .int (nI (bg + 1))), (0, .ref ((E.1 0))), (1, .ref ((E.2.2.2.2.1 o)))] → W p l e R s m args below meth c H locs cells slots Q (F0 m 45 ls [])) (ke : ∀ (i : Nat), i < bg → (cSees σ o (i + 1) 2 ∧ σ.1 3 (i + 1) 3 = σ.1 3 o 3) → ∀ ls : Array Slot, lv_has ls 4 [(0, .ref ((E.1 0)))] → W p l e R s m args below meth c H locs cells slots Q (F0 m 37 ls [])) : ∀ (fu i : Nat), i + fu = bg → (∀ q, 1 ≤ q → q ≤ i → ¬ (cSees σ o q 2 ∧ σ.1 3 q 3 = σ.1 3 o 3)) → ∀ ls : Array Slot, lv_has ls 4 [(2, .int (nI (i + 1))), (0, .ref ((E.1 0))), (1, .ref ((E.2.2.2.2.1 o)))] → W p l e R s m args below meth c H locs cells slots Q (F0 m 2 ls []) := by
  intro fu
  induction fu with
  | zero =>
    intro i hik
    intro hI ls hl
    have hx := C.1
    have hb := C.2.1
    have hi : bg = i := by omega
    subst hi
    refine lv_iload_n hx hb dX3_contains_2 rfl (lv_at hl 0 rfl) ?_
    refine lv_aload_n hx hb dX3_contains_3 rfl (lv_at hl 1 rfl) ?_
    refine c_gX3_3 C w kF_X3_119 dX3_contains_4 ?_
    rw [ok.bg]
    refine lv_icmp_gt (tgt := 45) hx hb dX3_contains_7 (by decide) (fun c_7 => ?_) (fun c_7 => absurd (nI_lt (by omega) (by omega)) c_7)
    exact kk hI ls (lv_sub hl [0, 1, 2] rfl)
  | succ fu ih =>
    intro i hik
    intro hI ls hl
    have hx := C.1
    have hb := C.2.1
    have hi : i < bg := by omega
    refine lv_iload_n hx hb dX3_contains_2 rfl (lv_at hl 0 rfl) ?_
    refine lv_aload_n hx hb dX3_contains_3 rfl (lv_at hl 1 rfl) ?_
    refine c_gX3_3 C w kF_X3_119 dX3_contains_4 ?_
    rw [ok.bg]
    refine lv_icmp_gt (tgt := 45) hx hb dX3_contains_7 (by decide) (fun c_7 => absurd c_7 (nI_nlt (by omega) (by omega))) (fun c_7 => ?_)
    refine lv_aload_n hx hb dX3_contains_10 rfl (lv_at hl 1 rfl) ?_
    refine c_gX3_2 C w kF_X3_29 dX3_contains_11 ?_
    refine lv_iload_n hx hb dX3_contains_14 rfl (lv_at hl 0 rfl) ?_
    refine c_lOp (o := (i + 1)) C w (by omega) (by omega) ok.2.2.1 dX3_contains_15 ?_
    refine lv_astore_n (lv' := [(3, _), (2, _), (0, _), (1, _)]) C.1 C.2.1 dX3_contains_16 rfl hl (by decide) rfl (fun ls hl => ?_)
    refine lv_aload_n hx hb dX3_contains_17 rfl (lv_at hl 3 rfl) ?_
    refine lv_aload_n hx hb dX3_contains_18 rfl (lv_at hl 0 rfl) ?_
    refine lv_iconst (v := 2) hx hb dX3_contains_19 (by decide) ?_
    refine c_callp (As := [.ref ((E.2.2.2.2.1 (i + 1))), .int 2]) (rest := []) C (c_preX1 C w h1 h2) hml hl.1 (k_X1_sees l D cI cZ cN cO A E n bg _ o (i + 1) 2 ok h1 h2 (by omega) (by omega)) kM_X3_306 kI_X1_sees kS_X1_sees kN_X1 kD_X1_sees (show yX1_sees.cls = RX1 ∧ yX1_sees.cls ≠ "java/lang/invoke/MethodHandle" ∧ yX1_sees.cls ≠ "java/lang/invoke/VarHandle" ∧ (parseMethodDescriptor yX1_sees.desc).map (fun d => d.parameters.length) = some 2 from by decide +kernel) rfl rfl ⟨(by show 0 + 1 ≤ R.frames; omega), (by show 8 + (3 + 11) + 0 ≤ R.locals; omega)⟩ rfl (lv_room (Nat.le_of_ble_eq_true rfl)) dX3_contains_20 ⟨hRc, hRs⟩ (fun r_1 hr_1 => ?_)
    refine lv_if_eq (tgt := 39) hx hb dX3_contains_23 (by decide) (fun c_23 => ?_) (fun c_23 => ?_)
    · obtain ⟨x_2, ex_2⟩ : ∃ y : Int32, y = (nI (i + 1)) + 1 := ⟨_, rfl⟩
      refine lv_iinc (v := x_2) (lv' := [(2, _), (3, _), (0, _), (1, _)]) C.1 C.2.1 dX3_contains_39 hl (k := 1) rfl (by rw [ex_2]; rfl) (by decide) rfl (fun ls hl => ?_)
      refine lv_goto (tgt := 2) hx hb dX3_contains_42 (by decide) ?_
      have hq : ¬ (cSees σ o (i + 1) 2 ∧ σ.1 3 (i + 1) 3 = σ.1 3 o 3) := fun z => ite_eq0 hr_1 c_23 z.1
      have hx2 : x_2 = nI (i + 1 + 1) := by rw [ex_2]; exact nI_1 (i + 1)
      rw [hx2] at hl
      exact ih (i + 1) (by omega) (fun q h3 h4 => (Nat.lt_or_ge q (i + 1)).elim (fun h => hI q h3 (by omega)) (fun h => by rw [show q = i + 1 by omega]; exact hq)) ls (lv_sub hl [0, 2, 3] rfl)
    · refine lv_aload_n hx hb dX3_contains_26 rfl (lv_at hl 0 rfl) ?_
      refine c_gX1_3 C w (by omega) (by omega) kF_X3_310 dX3_contains_27 ?_
      refine lv_topi (fun t_3 et_3 => ?_)
      refine lv_aload_n hx hb dX3_contains_30 rfl (lv_at hl 3 rfl) ?_
      refine c_gX1_3 C w h1 h2 kF_X3_310 dX3_contains_31 ?_
      refine lv_topi (fun t_4 et_4 => ?_)
      refine lv_icmp_ne (tgt := 39) hx hb dX3_contains_34 (by decide) (fun c_34 => ?_) (fun c_34 => ?_)
      · obtain ⟨x_5, ex_5⟩ : ∃ y : Int32, y = (nI (i + 1)) + 1 := ⟨_, rfl⟩
        refine lv_iinc (v := x_5) (lv' := [(2, _), (3, _), (0, _), (1, _)]) C.1 C.2.1 dX3_contains_39 hl (k := 1) rfl (by rw [ex_5]; rfl) (by decide) rfl (fun ls hl => ?_)
        refine lv_goto (tgt := 2) hx hb dX3_contains_42 (by decide) ?_
        have hq : ¬ (cSees σ o (i + 1) 2 ∧ σ.1 3 (i + 1) 3 = σ.1 3 o 3) := fun z => c_34 (by rw [et_3, et_4]; exact z.2)
        have hx2 : x_5 = nI (i + 1 + 1) := by rw [ex_5]; exact nI_1 (i + 1)
        rw [hx2] at hl
        exact ih (i + 1) (by omega) (fun q h3 h4 => (Nat.lt_or_ge q (i + 1)).elim (fun h => hI q h3 (by omega)) (fun h => by rw [show q = i + 1 by omega]; exact hq)) ls (lv_sub hl [0, 2, 3] rfl)
      · exact ke i hi ⟨ite_ne0 hr_1 c_23, by rw [← et_3, ← et_4]; exact c_34⟩ ls (lv_sub hl [2] rfl)
set_option maxHeartbeats 4000000 in
set_option maxRecDepth 100000 in
theorem k_X3_contains (l : Launch) (D : va_G) (cI cZ cN cO : ClassId) (A : Nat → Prop) (E : CE) (n bg : Nat) (σ : CS) (o : Nat) (ok : cOK n bg σ) (h1 : 1 ≤ o) (h2 : o ≤ bg) : Met l yX3_contains (.code yX3_contains cX3_contains 4 (some .boolean) :: gw) ({ frames := 1, cells := 0, slots := 0, locals := 24 }) (va_Pc (.ref (E.1 0) :: [.ref ((E.2.2.2.2.1 o))]) (cH D cI cZ cN cO A E n bg σ)) (vp_Si (fun r => (r = 1 ∧ cHas bg σ o) ∨ (r = 0 ∧ ¬ cHas bg σ o))) 0 0 (fun _ => False) := by
  refine Met.ofW (cc := cX3_contains) (maxL := 4) (ret := (some .boolean)) (by decide) rfl ?_
  intro p e s m args below meth c s₁ B hml hv
  obtain ⟨rfl, hP, hK, hD⟩ := hv
  have hx := B.exec
  have hb := B.bytes
  have hr := B.returns
  have hts := atoms_spec (ws := (.code yX3_contains cX3_contains 4 (some .boolean) :: gw)) B.pre
  have hg : ∀ w ∈ gw, w.before _ s = true := fun w h => hts w (List.mem_cons_of_mem _ h)
  have hown : s.vm.findClass RX3 = some m.cls := findClass_of_methodNamed B.named
  have hlocks := B.notSynchronized
  have C : Cx p c cX3_contains s m _ RX3 D (gTy cI cZ cN cO) := ⟨hx, hb, hown, hg, hK⟩
  have w : cWd D cI cN cO A s.heap E n bg σ s.heap [] := ⟨hP, hD, va_S.rf⟩
  have hl := lv_entry ([.ref ((E.1 0)), .ref ((E.2.2.2.2.1 o))]) (n := 4) (Nat.le_of_ble_eq_true rfl)
  rw [lg_entry_eq]
  generalize (lg_sl ([.ref ((E.1 0)), .ref ((E.2.2.2.2.1 o))]) ++ List.replicate (4 - (lg_sl ([.ref ((E.1 0)), .ref ((E.2.2.2.2.1 o))])).length) Slot.unset).toArray = ls at hl ⊢
  have hl : lv_has ls 4 [(0, .ref ((E.1 0))), (1, .ref ((E.2.2.2.2.1 o)))] := hl
  refine lv_iconst (v := 1) hx hb dX3_contains_0 (by decide) ?_
  refine lv_istore_n (lv' := [(2, _), (0, _), (1, _)]) C.1 C.2.1 dX3_contains_1 rfl hl (by decide) rfl (fun ls hl => ?_)
  have hl := lv_sub hl (l' := [(2, .int (nI (0 + 1))), (0, .ref (E.1 0)), (1, .ref (E.2.2.2.2.1 o))]) [0, 1, 2] (by rw [show nI (0 + 1) = 1 from by decide +kernel]; rfl)
  refine kl_contains C hml w ok ok.2.2.1 h1 h2 (Nat.le_of_ble_eq_true rfl) (Nat.le_of_ble_eq_true rfl) (Nat.zero_le _) (Nat.zero_le _) ?_ ?_ bg 0 (by omega) (fun q h3 h4 => absurd h4 (by omega)) ls (lv_sub hl [0, 1, 2] rfl)
  · intro hI ls hl
    refine lv_iconst (v := 0) hx hb dX3_contains_45 (by decide) ?_
    exact W.zret (v := 0) (ty := .boolean) hx hb hr rfl (fun t ht hW => ⟨_, rfl, Or.inr ⟨rfl, fun ⟨q, z1, z2, z3⟩ => hI q z1 z2 z3⟩, ht⟩) (fun _ h => by cases h) dX3_contains_46
  · intro i hi hh ls hl
    refine lv_iconst (v := 1) hx hb dX3_contains_37 (by decide) ?_
    exact W.zret (v := 1) (ty := .boolean) hx hb hr rfl (fun t ht hW => ⟨_, rfl, Or.inl ⟨rfl, i + 1, by omega, by omega, hh⟩, ht⟩) (fun _ h => by cases h) dX3_contains_38
set_option maxHeartbeats 4000000 in
set_option maxRecDepth 100000 in
theorem kl_rpt {p : Program} {l : Launch} {e : Env} {R : Room} {s : State} {m : MethodId} {args : Array Value} {below : List Frame} {meth : Method} {c : Code} {cells slots : Nat} {Q : State → Prop} {D : va_G} {cI cZ cN cO : ClassId} {A : Nat → Prop} {H0 : Heap} {E : CE} {n bg : Nat} {H : Heap} {locs : List Loc} (C : Cx p c cX3_isRepeated s m args RX3 D (gTy cI cZ cN cO)) (hml : c.maxLocals = 5) {σ : CS} {o u : Nat} (w : cWd D cI cN cO A H0 E n bg σ H locs) (ok : cOK n bg σ) (hb5 : bg ≤ 511) (h1 : 1 ≤ o) (h2 : o ≤ bg) (g1 : 1 ≤ u) (g2 : u ≤ bg) (hRf : 1 ≤ R.frames) (hRl : 24 ≤ R.locals) (hRc : cells + 0 ≤ R.cells) (hRs : slots + 0 ≤ R.slots) (kk : (∀ q, 1 ≤ q → q ≤ (u - 1) → ¬ (cSees σ o q (σ.1 3 u 2) ∧ σ.1 3 q 3 = σ.1 3 u 3)) → ∀ ls : Array Slot, lv_has ls 5 [(3, .int (nI (u - 1 + 1))), (0, .ref ((E.1 0))), (1, .ref ((E.2.2.2.2.1 o))), (2, .ref ((E.2.2.2.2.1 u)))] → W p l e R s m args below meth c H locs cells slots Q (F0 m 51 ls [])) (ke : ∀ (i : Nat), i < u - 1 → (cSees σ o (i + 1) (σ.1 3 u 2) ∧ σ.1 3 (i + 1) 3 = σ.1 3 u 3) → ∀ ls : Array Slot, lv_has ls 5 [(0, .ref ((E.1 0)))] → W p l e R s m args below meth c H locs cells slots Q (F0 m 43 ls [])) : ∀ (fu i : Nat), i + fu = u - 1 → (∀ q, 1 ≤ q → q ≤ i → ¬ (cSees σ o q (σ.1 3 u 2) ∧ σ.1 3 q 3 = σ.1 3 u 3)) → ∀ ls : Array Slot, lv_has ls 5 [(3, .int (nI (i + 1))), (0, .ref ((E.1 0))), (1, .ref ((E.2.2.2.2.1 o))), (2, .ref ((E.2.2.2.2.1 u)))] → W p l e R s m args below meth c H locs cells slots Q (F0 m 2 ls []) := by
  intro fu
  induction fu with
  | zero =>
    intro i hik
    intro hI ls hl
    have hx := C.1
    have hb := C.2.1
    have hi : u - 1 = i := by omega
    subst hi
    refine lv_iload_n hx hb dX3_isRepeated_2 rfl (lv_at hl 0 rfl) ?_
    refine lv_aload_n hx hb dX3_isRepeated_3 rfl (lv_at hl 3 rfl) ?_
    refine c_gX1_0 C w g1 g2 kF_X3_327 dX3_isRepeated_4 ?_
    rw [(ok.op g1 g2).2]
    refine lv_icmp_ge (tgt := 51) hx hb dX3_isRepeated_7 (by decide) (fun c_7 => ?_) (fun c_7 => absurd (nI_le (by omega) (by omega)) c_7)
    exact kk hI ls (lv_sub hl [0, 1, 2, 3] rfl)
  | succ fu ih =>
    intro i hik
    intro hI ls hl
    have hx := C.1
    have hb := C.2.1
    have hi : i < u - 1 := by omega
    refine lv_iload_n hx hb dX3_isRepeated_2 rfl (lv_at hl 0 rfl) ?_
    refine lv_aload_n hx hb dX3_isRepeated_3 rfl (lv_at hl 3 rfl) ?_
    refine c_gX1_0 C w g1 g2 kF_X3_327 dX3_isRepeated_4 ?_
    rw [(ok.op g1 g2).2]
    refine lv_icmp_ge (tgt := 51) hx hb dX3_isRepeated_7 (by decide) (fun c_7 => absurd c_7 (nI_ge (by omega) (by omega))) (fun c_7 => ?_)
    refine lv_aload_n hx hb dX3_isRepeated_10 rfl (lv_at hl 1 rfl) ?_
    refine c_gX3_2 C w kF_X3_29 dX3_isRepeated_11 ?_
    refine lv_iload_n hx hb dX3_isRepeated_14 rfl (lv_at hl 0 rfl) ?_
    refine c_lOp (o := (i + 1)) C w (by omega) (by omega) ok.2.2.1 dX3_isRepeated_15 ?_
    refine lv_astore (lv' := [(4, _), (3, _), (0, _), (1, _), (2, _)]) C.1 C.2.1 dX3_isRepeated_16 hl (by decide) rfl (fun ls hl => ?_)
    refine lv_aload_n hx hb dX3_isRepeated_18 rfl (lv_at hl 3 rfl) ?_
    refine lv_aload hx hb dX3_isRepeated_19 (lv_at hl 0 rfl) ?_
    refine lv_aload_n hx hb dX3_isRepeated_21 rfl (lv_at hl 4 rfl) ?_
    refine c_gX1_2 C w g1 g2 kF_X3_287 dX3_isRepeated_22 ?_
    refine c_callp (As := [.ref ((E.2.2.2.2.1 (i + 1))), .int ((σ.1 3 u 2))]) (rest := []) C (c_preX1 C w h1 h2) hml hl.1 (k_X1_sees l D cI cZ cN cO A E n bg _ o (i + 1) _ ok h1 h2 (by omega) (by omega)) kM_X3_306 kI_X1_sees kS_X1_sees kN_X1 kD_X1_sees (show yX1_sees.cls = RX1 ∧ yX1_sees.cls ≠ "java/lang/invoke/MethodHandle" ∧ yX1_sees.cls ≠ "java/lang/invoke/VarHandle" ∧ (parseMethodDescriptor yX1_sees.desc).map (fun d => d.parameters.length) = some 2 from by decide +kernel) rfl rfl ⟨(by show 0 + 1 ≤ R.frames; omega), (by show 8 + (3 + 11) + 0 ≤ R.locals; omega)⟩ rfl (lv_room (Nat.le_of_ble_eq_true rfl)) dX3_isRepeated_25 ⟨hRc, hRs⟩ (fun r_1 hr_1 => ?_)
    refine lv_if_eq (tgt := 45) hx hb dX3_isRepeated_28 (by decide) (fun c_28 => ?_) (fun c_28 => ?_)
    · obtain ⟨x_2, ex_2⟩ : ∃ y : Int32, y = (nI (i + 1)) + 1 := ⟨_, rfl⟩
      refine lv_iinc (v := x_2) (lv' := [(3, _), (4, _), (0, _), (1, _), (2, _)]) C.1 C.2.1 dX3_isRepeated_45 hl (k := 1) rfl (by rw [ex_2]; rfl) (by decide) rfl (fun ls hl => ?_)
      refine lv_goto (tgt := 2) hx hb dX3_isRepeated_48 (by decide) ?_
      have hq : ¬ (cSees σ o (i + 1) (σ.1 3 u 2) ∧ σ.1 3 (i + 1) 3 = σ.1 3 u 3) := fun z => ite_eq0 hr_1 c_28 z.1
      have hx2 : x_2 = nI (i + 1 + 1) := by rw [ex_2]; exact nI_1 (i + 1)
      rw [hx2] at hl
      exact ih (i + 1) (by omega) (fun q h3 h4 => (Nat.lt_or_ge q (i + 1)).elim (fun h => hI q h3 (by omega)) (fun h => by rw [show q = i + 1 by omega]; exact hq)) ls (lv_sub hl [0, 2, 3, 4] rfl)
    · refine lv_aload hx hb dX3_isRepeated_31 (lv_at hl 0 rfl) ?_
      refine c_gX1_3 C w (by omega) (by omega) kF_X3_310 dX3_isRepeated_33 ?_
      refine lv_topi (fun t_3 et_3 => ?_)
      refine lv_aload_n hx hb dX3_isRepeated_36 rfl (lv_at hl 4 rfl) ?_
      refine c_gX1_3 C w g1 g2 kF_X3_310 dX3_isRepeated_37 ?_
      refine lv_topi (fun t_4 et_4 => ?_)
      refine lv_icmp_ne (tgt := 45) hx hb dX3_isRepeated_40 (by decide) (fun c_40 => ?_) (fun c_40 => ?_)
      · obtain ⟨x_5, ex_5⟩ : ∃ y : Int32, y = (nI (i + 1)) + 1 := ⟨_, rfl⟩
        refine lv_iinc (v := x_5) (lv' := [(3, _), (4, _), (0, _), (1, _), (2, _)]) C.1 C.2.1 dX3_isRepeated_45 hl (k := 1) rfl (by rw [ex_5]; rfl) (by decide) rfl (fun ls hl => ?_)
        refine lv_goto (tgt := 2) hx hb dX3_isRepeated_48 (by decide) ?_
        have hq : ¬ (cSees σ o (i + 1) (σ.1 3 u 2) ∧ σ.1 3 (i + 1) 3 = σ.1 3 u 3) := fun z => c_40 (by rw [et_3, et_4]; exact z.2)
        have hx2 : x_5 = nI (i + 1 + 1) := by rw [ex_5]; exact nI_1 (i + 1)
        rw [hx2] at hl
        exact ih (i + 1) (by omega) (fun q h3 h4 => (Nat.lt_or_ge q (i + 1)).elim (fun h => hI q h3 (by omega)) (fun h => by rw [show q = i + 1 by omega]; exact hq)) ls (lv_sub hl [0, 2, 3, 4] rfl)
      · exact ke i hi ⟨ite_ne0 hr_1 c_28, by rw [← et_3, ← et_4]; exact c_40⟩ ls (lv_sub hl [2] rfl)
set_option maxHeartbeats 4000000 in
set_option maxRecDepth 100000 in
theorem k_X3_isRepeated (l : Launch) (D : va_G) (cI cZ cN cO : ClassId) (A : Nat → Prop) (E : CE) (n bg : Nat) (σ : CS) (o u : Nat) (ok : cOK n bg σ) (h1 : 1 ≤ o) (h2 : o ≤ bg) (g1 : 1 ≤ u) (g2 : u ≤ bg) : Met l yX3_isRepeated (.code yX3_isRepeated cX3_isRepeated 5 (some .boolean) :: gw) ({ frames := 1, cells := 0, slots := 0, locals := 24 }) (va_Pc (.ref (E.1 0) :: [.ref ((E.2.2.2.2.1 o)), .ref ((E.2.2.2.2.1 u))]) (cH D cI cZ cN cO A E n bg σ)) (vp_Si (fun r => (r = 1 ∧ cRpt σ o u) ∨ (r = 0 ∧ ¬ cRpt σ o u))) 0 0 (fun _ => False) := by
  refine Met.ofW (cc := cX3_isRepeated) (maxL := 5) (ret := (some .boolean)) (by decide) rfl ?_
  intro p e s m args below meth c s₁ B hml hv
  obtain ⟨rfl, hP, hK, hD⟩ := hv
  have hx := B.exec
  have hb := B.bytes
  have hr := B.returns
  have hts := atoms_spec (ws := (.code yX3_isRepeated cX3_isRepeated 5 (some .boolean) :: gw)) B.pre
  have hg : ∀ w ∈ gw, w.before _ s = true := fun w h => hts w (List.mem_cons_of_mem _ h)
  have hown : s.vm.findClass RX3 = some m.cls := findClass_of_methodNamed B.named
  have hlocks := B.notSynchronized
  have C : Cx p c cX3_isRepeated s m _ RX3 D (gTy cI cZ cN cO) := ⟨hx, hb, hown, hg, hK⟩
  have w : cWd D cI cN cO A s.heap E n bg σ s.heap [] := ⟨hP, hD, va_S.rf⟩
  have hl := lv_entry ([.ref ((E.1 0)), .ref ((E.2.2.2.2.1 o)), .ref ((E.2.2.2.2.1 u))]) (n := 5) (Nat.le_of_ble_eq_true rfl)
  rw [lg_entry_eq]
  generalize (lg_sl ([.ref ((E.1 0)), .ref ((E.2.2.2.2.1 o)), .ref ((E.2.2.2.2.1 u))]) ++ List.replicate (5 - (lg_sl ([.ref ((E.1 0)), .ref ((E.2.2.2.2.1 o)), .ref ((E.2.2.2.2.1 u))])).length) Slot.unset).toArray = ls at hl ⊢
  have hl : lv_has ls 5 [(0, .ref ((E.1 0))), (1, .ref ((E.2.2.2.2.1 o))), (2, .ref ((E.2.2.2.2.1 u)))] := hl
  refine lv_iconst (v := 1) hx hb dX3_isRepeated_0 (by decide) ?_
  refine lv_istore_n (lv' := [(3, _), (0, _), (1, _), (2, _)]) C.1 C.2.1 dX3_isRepeated_1 rfl hl (by decide) rfl (fun ls hl => ?_)
  have hl := lv_sub hl (l' := [(3, .int (nI (0 + 1))), (0, .ref (E.1 0)), (1, .ref (E.2.2.2.2.1 o)), (2, .ref (E.2.2.2.2.1 u))]) [0, 1, 2, 3] (by rw [show nI (0 + 1) = 1 from by decide +kernel]; rfl)
  refine kl_rpt C hml w ok ok.2.2.1 h1 h2 g1 g2 (Nat.le_of_ble_eq_true rfl) (Nat.le_of_ble_eq_true rfl) (Nat.zero_le _) (Nat.zero_le _) ?_ ?_ (u - 1) 0 (by omega) (fun q h3 h4 => absurd h4 (by omega)) ls (lv_sub hl [0, 1, 2, 3] rfl)
  · intro hI ls hl
    refine lv_iconst (v := 0) hx hb dX3_isRepeated_51 (by decide) ?_
    exact W.zret (v := 0) (ty := .boolean) hx hb hr rfl (fun t ht hW => ⟨_, rfl, Or.inr ⟨rfl, fun ⟨q, z1, z2, z3⟩ => hI q z1 (by omega) z3⟩, ht⟩) (fun _ h => by cases h) dX3_isRepeated_52
  · intro i hi hh ls hl
    refine lv_iconst (v := 1) hx hb dX3_isRepeated_43 (by decide) ?_
    exact W.zret (v := 1) (ty := .boolean) hx hb hr rfl (fun t ht hW => ⟨_, rfl, Or.inl ⟨rfl, i + 1, by omega, by omega, hh⟩, ht⟩) (fun _ h => by cases h) dX3_isRepeated_44
set_option maxHeartbeats 4000000 in
set_option maxRecDepth 100000 in
theorem kl_diff {p : Program} {l : Launch} {e : Env} {R : Room} {s : State} {m : MethodId} {args : Array Value} {below : List Frame} {meth : Method} {c : Code} {cells slots : Nat} {Q : State → Prop} {D : va_G} {cI cZ cN cO : ClassId} {A : Nat → Prop} {H0 : Heap} {E : CE} {n bg : Nat} {H : Heap} {locs : List Loc} (C : Cx p c cX3_different s m args RX3 D (gTy cI cZ cN cO)) (hml : c.maxLocals = 6) {σ : CS} {o : Nat} {kd : Int32} (w : cWd D cI cN cO A H0 E n bg σ H locs) (ok : cOK n bg σ) (hb5 : bg ≤ 511) (h1 : 1 ≤ o) (h2 : o ≤ bg) (hRf : 2 ≤ R.frames) (hRl : 48 ≤ R.locals) (hRc : cells + 0 ≤ R.cells) (hRs : slots + 0 ≤ R.slots) (kk : ∀ (v : Int32), (v = cDf σ o kd bg) → ∀ ls : Array Slot, lv_has ls 6 [(4, .int (nI (bg + 1))), (3, .int v), (0, .ref ((E.1 0))), (1, .ref ((E.2.2.2.2.1 o))), (2, .int kd)] → W p l e R s m args below meth c H locs cells slots Q (F0 m 52 ls [])) : ∀ (fu i : Nat), i + fu = bg → ∀ (v : Int32), (v = cDf σ o kd i) → ∀ ls : Array Slot, lv_has ls 6 [(4, .int (nI (i + 1))), (3, .int v), (0, .ref ((E.1 0))), (1, .ref ((E.2.2.2.2.1 o))), (2, .int kd)] → W p l e R s m args below meth c H locs cells slots Q (F0 m 5 ls []) := by
  intro fu
  induction fu with
  | zero =>
    intro i hik
    intro v hI ls hl
    have hx := C.1
    have hb := C.2.1
    have hi : bg = i := by omega
    subst hi
    refine lv_iload hx hb dX3_different_5 (lv_at hl 0 rfl) ?_
    refine lv_aload_n hx hb dX3_different_7 rfl (lv_at hl 2 rfl) ?_
    refine c_gX3_3 C w kF_X3_119 dX3_different_8 ?_
    rw [ok.bg]
    refine lv_icmp_gt (tgt := 52) hx hb dX3_different_11 (by decide) (fun c_11 => ?_) (fun c_11 => absurd (nI_lt (by omega) (by omega)) c_11)
    exact kk v hI ls (lv_sub hl [0, 1, 2, 3, 4] rfl)
  | succ fu ih =>
    intro i hik
    intro v hI ls hl
    have hx := C.1
    have hb := C.2.1
    have hi : i < bg := by omega
    refine lv_iload hx hb dX3_different_5 (lv_at hl 0 rfl) ?_
    refine lv_aload_n hx hb dX3_different_7 rfl (lv_at hl 2 rfl) ?_
    refine c_gX3_3 C w kF_X3_119 dX3_different_8 ?_
    rw [ok.bg]
    refine lv_icmp_gt (tgt := 52) hx hb dX3_different_11 (by decide) (fun c_11 => absurd c_11 (nI_nlt (by omega) (by omega))) (fun c_11 => ?_)
    refine lv_aload_n hx hb dX3_different_14 rfl (lv_at hl 2 rfl) ?_
    refine c_gX3_2 C w kF_X3_29 dX3_different_15 ?_
    refine lv_iload hx hb dX3_different_18 (lv_at hl 0 rfl) ?_
    refine c_lOp (o := (i + 1)) C w (by omega) (by omega) ok.2.2.1 dX3_different_20 ?_
    refine lv_astore (lv' := [(5, _), (4, _), (3, _), (0, _), (1, _), (2, _)]) C.1 C.2.1 dX3_different_21 hl (by decide) rfl (fun ls hl => ?_)
    refine lv_aload_n hx hb dX3_different_23 rfl (lv_at hl 4 rfl) ?_
    refine lv_aload hx hb dX3_different_24 (lv_at hl 0 rfl) ?_
    refine lv_iload_n hx hb dX3_different_26 rfl (lv_at hl 5 rfl) ?_
    refine c_callp (As := [.ref ((E.2.2.2.2.1 (i + 1))), .int kd]) (rest := []) C (c_preX1 C w h1 h2) hml hl.1 (k_X1_sees l D cI cZ cN cO A E n bg _ o (i + 1) kd ok h1 h2 (by omega) (by omega)) kM_X3_306 kI_X1_sees kS_X1_sees kN_X1 kD_X1_sees (show yX1_sees.cls = RX1 ∧ yX1_sees.cls ≠ "java/lang/invoke/MethodHandle" ∧ yX1_sees.cls ≠ "java/lang/invoke/VarHandle" ∧ (parseMethodDescriptor yX1_sees.desc).map (fun d => d.parameters.length) = some 2 from by decide +kernel) rfl rfl ⟨(by show 0 + 1 ≤ R.frames; omega), (by show 8 + (3 + 11) + 0 ≤ R.locals; omega)⟩ rfl (lv_room (Nat.le_of_ble_eq_true rfl)) dX3_different_27 ⟨hRc, hRs⟩ (fun r_1 hr_1 => ?_)
    refine lv_if_eq (tgt := 46) hx hb dX3_different_30 (by decide) (fun c_30 => ?_) (fun c_30 => ?_)
    · obtain ⟨x_2, ex_2⟩ : ∃ y : Int32, y = (nI (i + 1)) + 1 := ⟨_, rfl⟩
      refine lv_iinc (v := x_2) (lv' := [(4, _), (5, _), (3, _), (0, _), (1, _), (2, _)]) C.1 C.2.1 dX3_different_46 hl (k := 1) rfl (by rw [ex_2]; rfl) (by decide) rfl (fun ls hl => ?_)
      refine lv_goto (tgt := 5) hx hb dX3_different_49 (by decide) ?_
      have hq : v = cDf σ o kd (i + 1) := by rw [hI]; exact (cif_neg (fun z => ite_eq0 hr_1 c_30 z.1)).symm
      have hx2 : x_2 = nI (i + 1 + 1) := by rw [ex_2]; exact nI_1 (i + 1)
      rw [hx2] at hl
      exact ih (i + 1) (by omega) v hq ls (lv_sub hl [0, 2, 3, 4, 5] rfl)
    · refine lv_aload_n hx hb dX3_different_33 rfl (lv_at hl 3 rfl) ?_
      refine lv_aload_n hx hb dX3_different_34 rfl (lv_at hl 4 rfl) ?_
      refine lv_aload hx hb dX3_different_35 (lv_at hl 0 rfl) ?_
      refine c_callp (As := [.ref ((E.2.2.2.2.1 o)), .ref ((E.2.2.2.2.1 (i + 1)))]) (rest := []) C (c_preX3 C w) hml hl.1 (k_X3_isRepeated l D cI cZ cN cO A E n bg _ o (i + 1) ok h1 h2 (by omega) (by omega)) kM_X3_323 kI_X3_isRepeated kS_X3_isRepeated kN_X3 kD_X3_isRepeated (show yX3_isRepeated.cls = RX3 ∧ yX3_isRepeated.cls ≠ "java/lang/invoke/MethodHandle" ∧ yX3_isRepeated.cls ≠ "java/lang/invoke/VarHandle" ∧ (parseMethodDescriptor yX3_isRepeated.desc).map (fun d => d.parameters.length) = some 2 from by decide +kernel) rfl rfl ⟨(by show 1 + 1 ≤ R.frames; omega), (by show 8 + (5 + 11) + 24 ≤ R.locals; omega)⟩ rfl (lv_room (Nat.le_of_ble_eq_true rfl)) dX3_different_37 ⟨hRc, hRs⟩ (fun r_3 hr_3 => ?_)
      refine lv_if_ne (tgt := 46) hx hb dX3_different_40 (by decide) (fun c_40 => ?_) (fun c_40 => ?_)
      · obtain ⟨x_4, ex_4⟩ : ∃ y : Int32, y = (nI (i + 1)) + 1 := ⟨_, rfl⟩
        refine lv_iinc (v := x_4) (lv' := [(4, _), (5, _), (3, _), (0, _), (1, _), (2, _)]) C.1 C.2.1 dX3_different_46 hl (k := 1) rfl (by rw [ex_4]; rfl) (by decide) rfl (fun ls hl => ?_)
        refine lv_goto (tgt := 5) hx hb dX3_different_49 (by decide) ?_
        have hq : v = cDf σ o kd (i + 1) := by rw [hI]; exact (cif_neg (fun z => hr_3.elim (fun y => z.2 y.2) (fun y => c_40 y.1))).symm
        have hx2 : x_4 = nI (i + 1 + 1) := by rw [ex_4]; exact nI_1 (i + 1)
        rw [hx2] at hl
        exact ih (i + 1) (by omega) v hq ls (lv_sub hl [0, 2, 3, 4, 5] rfl)
      · obtain ⟨x_5, ex_5⟩ : ∃ y : Int32, y = v + 1 := ⟨_, rfl⟩
        refine lv_iinc (v := x_5) (lv' := [(3, _), (5, _), (4, _), (0, _), (1, _), (2, _)]) C.1 C.2.1 dX3_different_43 hl (k := 2) rfl (by rw [ex_5]; rfl) (by decide) rfl (fun ls hl => ?_)
        obtain ⟨x_6, ex_6⟩ : ∃ y : Int32, y = (nI (i + 1)) + 1 := ⟨_, rfl⟩
        refine lv_iinc (v := x_6) (lv' := [(4, _), (3, _), (5, _), (0, _), (1, _), (2, _)]) C.1 C.2.1 dX3_different_46 hl (k := 2) rfl (by rw [ex_6]; rfl) (by decide) rfl (fun ls hl => ?_)
        refine lv_goto (tgt := 5) hx hb dX3_different_49 (by decide) ?_
        have hq : x_5 = cDf σ o kd (i + 1) := by rw [ex_5, hI]; exact (cif_pos ⟨ite_ne0 hr_1 c_30, hr_3.elim (fun y => absurd (y.1.symm.trans c_40) (by decide)) (fun y => y.2)⟩).symm
        have hx2 : x_6 = nI (i + 1 + 1) := by rw [ex_6]; exact nI_1 (i + 1)
        rw [hx2] at hl
        exact ih (i + 1) (by omega) x_5 hq ls (lv_sub hl [0, 1, 3, 4, 5] rfl)
set_option maxHeartbeats 4000000 in
set_option maxRecDepth 100000 in
theorem k_X3_different (l : Launch) (D : va_G) (cI cZ cN cO : ClassId) (A : Nat → Prop) (E : CE) (n bg : Nat) (σ : CS) (o : Nat) (kd : Int32) (ok : cOK n bg σ) (h1 : 1 ≤ o) (h2 : o ≤ bg) : Met l yX3_different (.code yX3_different cX3_different 6 (some .int) :: gw) ({ frames := 2, cells := 0, slots := 0, locals := 48 }) (va_Pc (.ref (E.1 0) :: [.ref ((E.2.2.2.2.1 o)), .int kd]) (cH D cI cZ cN cO A E n bg σ)) (vp_Si (fun r => r = cDf σ o kd bg)) 0 0 (fun _ => False) := by
  refine Met.ofW (cc := cX3_different) (maxL := 6) (ret := (some .int)) (by decide) rfl ?_
  intro p e s m args below meth c s₁ B hml hv
  obtain ⟨rfl, hP, hK, hD⟩ := hv
  have hx := B.exec
  have hb := B.bytes
  have hr := B.returns
  have hts := atoms_spec (ws := (.code yX3_different cX3_different 6 (some .int) :: gw)) B.pre
  have hg : ∀ w ∈ gw, w.before _ s = true := fun w h => hts w (List.mem_cons_of_mem _ h)
  have hown : s.vm.findClass RX3 = some m.cls := findClass_of_methodNamed B.named
  have hlocks := B.notSynchronized
  have C : Cx p c cX3_different s m _ RX3 D (gTy cI cZ cN cO) := ⟨hx, hb, hown, hg, hK⟩
  have w : cWd D cI cN cO A s.heap E n bg σ s.heap [] := ⟨hP, hD, va_S.rf⟩
  have hl := lv_entry ([.ref ((E.1 0)), .ref ((E.2.2.2.2.1 o)), .int kd]) (n := 6) (Nat.le_of_ble_eq_true rfl)
  rw [lg_entry_eq]
  generalize (lg_sl ([.ref ((E.1 0)), .ref ((E.2.2.2.2.1 o)), .int kd]) ++ List.replicate (6 - (lg_sl ([.ref ((E.1 0)), .ref ((E.2.2.2.2.1 o)), .int kd])).length) Slot.unset).toArray = ls at hl ⊢
  have hl : lv_has ls 6 [(0, .ref ((E.1 0))), (1, .ref ((E.2.2.2.2.1 o))), (2, .int kd)] := hl
  refine lv_iconst (v := 0) hx hb dX3_different_0 (by decide) ?_
  refine lv_istore_n (lv' := [(3, _), (0, _), (1, _), (2, _)]) C.1 C.2.1 dX3_different_1 rfl hl (by decide) rfl (fun ls hl => ?_)
  refine lv_iconst (v := 1) hx hb dX3_different_2 (by decide) ?_
  refine lv_istore (lv' := [(4, _), (3, _), (0, _), (1, _), (2, _)]) C.1 C.2.1 dX3_different_3 hl (by decide) rfl (fun ls hl => ?_)
  have hl := lv_sub hl (l' := [(4, .int (nI (0 + 1))), (3, .int 0), (0, .ref (E.1 0)), (1, .ref (E.2.2.2.2.1 o)), (2, .int kd)]) [0, 1, 2, 3, 4] (by rw [show nI (0 + 1) = 1 from by decide +kernel]; rfl)
  refine kl_diff C hml w ok ok.2.2.1 h1 h2 (Nat.le_of_ble_eq_true rfl) (Nat.le_of_ble_eq_true rfl) (Nat.zero_le _) (Nat.zero_le _) ?_ bg 0 (by omega) 0 rfl ls (lv_sub hl [0, 1, 2, 3, 4] rfl)
  intro v hI ls hl
  refine lv_iload_n hx hb dX3_different_52 rfl (lv_at hl 1 rfl) ?_
  exact W.iret hx hb hr (fun t ht hW => ⟨_, rfl, hI, ht⟩) (fun _ h => by cases h) dX3_different_53
noncomputable def cFold (bg : Nat) (σ : CS) (o : Nat) : Int64 := cif (σ.1 3 o 2 = 10) (cSum σ o bg) (cif (σ.1 3 o 2 = 11) (cGr σ o bg) (cif (σ.1 3 o 2 = 12) (cif (cHas bg σ o) 1 0) (cif (σ.1 3 o 2 = 13) (cDf σ o 2 bg).toInt64 (cif (σ.1 3 o 2 = 14) (cGk σ o bg) (cif (σ.1 3 o 2 = 15) (cDf σ o 3 bg).toInt64 0)))))
theorem gSw10 (x : Int32) : (x.toInt < 10 ∨ 15 < x.toInt) ∨ x = 10 ∨ x = 11 ∨ x = 12 ∨ x = 13 ∨ x = 14 ∨ x = 15 := by
  by_cases h : x.toInt < 10 ∨ 15 < x.toInt
  · exact Or.inl h
  · have q : x.toInt = 10 ∨ x.toInt = 11 ∨ x.toInt = 12 ∨ x.toInt = 13 ∨ x.toInt = 14 ∨ x.toInt = 15 := by omega
    right
    rcases q with q | q | q | q | q | q
    · exact Or.inl (Int32.toInt_inj.mp q)
    · exact Or.inr (Or.inl (Int32.toInt_inj.mp q))
    · exact Or.inr (Or.inr (Or.inl (Int32.toInt_inj.mp q)))
    · exact Or.inr (Or.inr (Or.inr (Or.inl (Int32.toInt_inj.mp q))))
    · exact Or.inr (Or.inr (Or.inr (Or.inr (Or.inl (Int32.toInt_inj.mp q)))))
    · exact Or.inr (Or.inr (Or.inr (Or.inr (Or.inr (Int32.toInt_inj.mp q)))))
set_option maxHeartbeats 4000000 in
set_option maxRecDepth 100000 in
theorem k_X3_fold (l : Launch) (D : va_G) (cI cZ cN cO : ClassId) (A : Nat → Prop) (E : CE) (n bg : Nat) (σ : CS) (o : Nat) (ok : cOK n bg σ) (h1 : 1 ≤ o) (h2 : o ≤ bg) : Met l yX3_fold (.code yX3_fold cX3_fold 2 (some .long) :: gw) ({ frames := 3, cells := 0, slots := 0, locals := 73 }) (va_Pc (.ref (E.1 0) :: [.ref ((E.2.2.2.2.1 o))]) (cH D cI cZ cN cO A E n bg σ)) (vp_Sl (fun r => r = cFold bg σ o)) 0 0 (fun _ => False) := by
  refine Met.ofW (cc := cX3_fold) (maxL := 2) (ret := (some .long)) (by decide) rfl ?_
  intro p e s m args below meth c s₁ B hml hv
  obtain ⟨rfl, hP, hK, hD⟩ := hv
  have hx := B.exec
  have hb := B.bytes
  have hr := B.returns
  have hts := atoms_spec (ws := (.code yX3_fold cX3_fold 2 (some .long) :: gw)) B.pre
  have hg : ∀ w ∈ gw, w.before _ s = true := fun w h => hts w (List.mem_cons_of_mem _ h)
  have hown : s.vm.findClass RX3 = some m.cls := findClass_of_methodNamed B.named
  have hlocks := B.notSynchronized
  have C : Cx p c cX3_fold s m _ RX3 D (gTy cI cZ cN cO) := ⟨hx, hb, hown, hg, hK⟩
  have w : cWd D cI cN cO A s.heap E n bg σ s.heap [] := ⟨hP, hD, va_S.rf⟩
  have hl := lv_entry ([.ref ((E.1 0)), .ref ((E.2.2.2.2.1 o))]) (n := 2) (Nat.le_of_ble_eq_true rfl)
  rw [lg_entry_eq]
  generalize (lg_sl ([.ref ((E.1 0)), .ref ((E.2.2.2.2.1 o))]) ++ List.replicate (2 - (lg_sl ([.ref ((E.1 0)), .ref ((E.2.2.2.2.1 o))])).length) Slot.unset).toArray = ls at hl ⊢
  have hl : lv_has ls 2 [(0, .ref ((E.1 0))), (1, .ref ((E.2.2.2.2.1 o)))] := hl
  refine lv_aload_n hx hb dX3_fold_0 rfl (lv_at hl 1 rfl) ?_
  refine c_gX1_2 C w h1 h2 kF_X3_287 dX3_fold_1 ?_
  rcases gSw10 (σ.1 3 o 2) with hsw | hkd | hkd | hkd | hkd | hkd | hkd
  · refine lv_tableOut (tgt := 92) hx hb dX3_fold_4 hsw (by decide) ?_
    refine lv_lconst (v := 0) hx hb dX3_fold_92 (by decide) ?_
    exact W.lret (v := 0) hx hb hr (fun t ht hW => ⟨_, rfl, (by have nk : ∀ z : Int32, ¬ (z.toInt < 10 ∨ 15 < z.toInt) → ¬ σ.1 3 o 2 = z := fun z hz e => hz (e ▸ hsw); unfold cFold; rw [cif_neg (nk 10 (by decide)), cif_neg (nk 11 (by decide)), cif_neg (nk 12 (by decide)), cif_neg (nk 13 (by decide)), cif_neg (nk 14 (by decide)), cif_neg (nk 15 (by decide))]), ht⟩) (fun _ h => by cases h) dX3_fold_93
  · rw [hkd]
    refine lv_tableIn (off := 40) (tgt := 44) hx hb dX3_fold_4 (by decide +kernel) (by decide +kernel) (by decide +kernel) (by decide) ?_
    refine lv_aload_n hx hb dX3_fold_44 rfl (lv_at hl 0 rfl) ?_
    refine lv_aload_n hx hb dX3_fold_45 rfl (lv_at hl 1 rfl) ?_
    refine c_calll (As := [.ref ((E.2.2.2.2.1 o))]) (rest := []) C (c_preX3 C w) hml hl.1 (k_X3_sum l D cI cZ cN cO A E n bg _ o ok h1 h2) kM_X3_290 kI_X3_sum kS_X3_sum kN_X3 kD_X3_sum (show yX3_sum.cls = RX3 ∧ yX3_sum.cls ≠ "java/lang/invoke/MethodHandle" ∧ yX3_sum.cls ≠ "java/lang/invoke/VarHandle" ∧ (parseMethodDescriptor yX3_sum.desc).map (fun d => d.parameters.length) = some 1 from by decide +kernel) rfl rfl ⟨Nat.le_of_ble_eq_true rfl, Nat.le_of_ble_eq_true rfl⟩ rfl (lv_room (Nat.le_of_ble_eq_true rfl)) dX3_fold_46 ⟨Nat.zero_le _, Nat.zero_le _⟩ (fun r_1 hr_1 => ?_)
    exact W.lret (v := r_1) hx hb hr (fun t ht hW => ⟨_, rfl, (by unfold cFold; rw [cif_pos hkd]; exact hr_1), ht⟩) (fun _ h => by cases h) dX3_fold_49
  · rw [hkd]
    refine lv_tableIn (off := 46) (tgt := 50) hx hb dX3_fold_4 (by decide +kernel) (by decide +kernel) (by decide +kernel) (by decide) ?_
    refine lv_aload_n hx hb dX3_fold_50 rfl (lv_at hl 0 rfl) ?_
    refine lv_aload_n hx hb dX3_fold_51 rfl (lv_at hl 1 rfl) ?_
    refine c_calll (As := [.ref ((E.2.2.2.2.1 o))]) (rest := []) C (c_preX3 C w) hml hl.1 (k_X3_greatest l D cI cZ cN cO A E n bg _ o ok h1 h2) kM_X3_293 kI_X3_greatest kS_X3_greatest kN_X3 kD_X3_greatest (show yX3_greatest.cls = RX3 ∧ yX3_greatest.cls ≠ "java/lang/invoke/MethodHandle" ∧ yX3_greatest.cls ≠ "java/lang/invoke/VarHandle" ∧ (parseMethodDescriptor yX3_greatest.desc).map (fun d => d.parameters.length) = some 1 from by decide +kernel) rfl rfl ⟨Nat.le_of_ble_eq_true rfl, Nat.le_of_ble_eq_true rfl⟩ rfl (lv_room (Nat.le_of_ble_eq_true rfl)) dX3_fold_52 ⟨Nat.zero_le _, Nat.zero_le _⟩ (fun r_2 hr_2 => ?_)
    exact W.lret (v := r_2) hx hb hr (fun t ht hW => ⟨_, rfl, (by unfold cFold; rw [cif_neg (show ¬ σ.1 3 o 2 = 10 by rw [hkd]; decide), cif_pos hkd]; exact hr_2), ht⟩) (fun _ h => by cases h) dX3_fold_55
  · rw [hkd]
    refine lv_tableIn (off := 52) (tgt := 56) hx hb dX3_fold_4 (by decide +kernel) (by decide +kernel) (by decide +kernel) (by decide) ?_
    refine lv_aload_n hx hb dX3_fold_56 rfl (lv_at hl 0 rfl) ?_
    refine lv_aload_n hx hb dX3_fold_57 rfl (lv_at hl 1 rfl) ?_
    refine c_callp (As := [.ref ((E.2.2.2.2.1 o))]) (rest := []) C (c_preX3 C w) hml hl.1 (k_X3_contains l D cI cZ cN cO A E n bg _ o ok h1 h2) kM_X3_296 kI_X3_contains kS_X3_contains kN_X3 kD_X3_contains (show yX3_contains.cls = RX3 ∧ yX3_contains.cls ≠ "java/lang/invoke/MethodHandle" ∧ yX3_contains.cls ≠ "java/lang/invoke/VarHandle" ∧ (parseMethodDescriptor yX3_contains.desc).map (fun d => d.parameters.length) = some 1 from by decide +kernel) rfl rfl ⟨Nat.le_of_ble_eq_true rfl, Nat.le_of_ble_eq_true rfl⟩ rfl (lv_room (Nat.le_of_ble_eq_true rfl)) dX3_fold_58 ⟨Nat.zero_le _, Nat.zero_le _⟩ (fun r_3 hr_3 => ?_)
    refine lv_if_eq (tgt := 68) hx hb dX3_fold_61 (by decide) (fun c_61 => ?_) (fun c_61 => ?_)
    · refine lv_lconst (v := 0) hx hb dX3_fold_68 (by decide) ?_
      exact W.lret (v := 0) hx hb hr (fun t ht hW => ⟨_, rfl, (by unfold cFold; rw [cif_neg (show ¬ σ.1 3 o 2 = 10 by rw [hkd]; decide), cif_neg (show ¬ σ.1 3 o 2 = 11 by rw [hkd]; decide), cif_pos hkd]; exact (cif_neg (hr_3.elim (fun z => absurd (z.1.symm.trans c_61) (by decide)) (fun z => z.2))).symm), ht⟩) (fun _ h => by cases h) dX3_fold_69
    · refine lv_lconst (v := 1) hx hb dX3_fold_64 (by decide) ?_
      refine lv_goto (tgt := 69) hx hb dX3_fold_65 (by decide) ?_
      exact W.lret (v := 1) hx hb hr (fun t ht hW => ⟨_, rfl, (by unfold cFold; rw [cif_neg (show ¬ σ.1 3 o 2 = 10 by rw [hkd]; decide), cif_neg (show ¬ σ.1 3 o 2 = 11 by rw [hkd]; decide), cif_pos hkd]; exact (cif_pos (hr_3.elim (fun z => z.2) (fun z => absurd z.1 c_61))).symm), ht⟩) (fun _ h => by cases h) dX3_fold_69
  · rw [hkd]
    refine lv_tableIn (off := 66) (tgt := 70) hx hb dX3_fold_4 (by decide +kernel) (by decide +kernel) (by decide +kernel) (by decide) ?_
    refine lv_aload_n hx hb dX3_fold_70 rfl (lv_at hl 0 rfl) ?_
    refine lv_aload_n hx hb dX3_fold_71 rfl (lv_at hl 1 rfl) ?_
    refine lv_iconst (v := 2) hx hb dX3_fold_72 (by decide) ?_
    refine c_callp (As := [.ref ((E.2.2.2.2.1 o)), .int 2]) (rest := []) C (c_preX3 C w) hml hl.1 (k_X3_different l D cI cZ cN cO A E n bg _ o 2 ok h1 h2) kM_X3_299 kI_X3_different kS_X3_different kN_X3 kD_X3_different (show yX3_different.cls = RX3 ∧ yX3_different.cls ≠ "java/lang/invoke/MethodHandle" ∧ yX3_different.cls ≠ "java/lang/invoke/VarHandle" ∧ (parseMethodDescriptor yX3_different.desc).map (fun d => d.parameters.length) = some 2 from by decide +kernel) rfl rfl ⟨Nat.le_of_ble_eq_true rfl, Nat.le_of_ble_eq_true rfl⟩ rfl (lv_room (Nat.le_of_ble_eq_true rfl)) dX3_fold_73 ⟨Nat.zero_le _, Nat.zero_le _⟩ (fun r_4 hr_4 => ?_)
    refine lv_i2l (v := r_4.toInt64) hx hb dX3_fold_76 rfl ?_
    exact W.lret (v := r_4.toInt64) hx hb hr (fun t ht hW => ⟨_, rfl, (by unfold cFold; rw [cif_neg (show ¬ σ.1 3 o 2 = 10 by rw [hkd]; decide), cif_neg (show ¬ σ.1 3 o 2 = 11 by rw [hkd]; decide), cif_neg (show ¬ σ.1 3 o 2 = 12 by rw [hkd]; decide), cif_pos hkd]; rw [hr_4]), ht⟩) (fun _ h => by cases h) dX3_fold_77
  · rw [hkd]
    refine lv_tableIn (off := 74) (tgt := 78) hx hb dX3_fold_4 (by decide +kernel) (by decide +kernel) (by decide +kernel) (by decide) ?_
    refine lv_aload_n hx hb dX3_fold_78 rfl (lv_at hl 0 rfl) ?_
    refine lv_aload_n hx hb dX3_fold_79 rfl (lv_at hl 1 rfl) ?_
    refine c_calll (As := [.ref ((E.2.2.2.2.1 o))]) (rest := []) C (c_preX3 C w) hml hl.1 (k_X3_greatestOfKey l D cI cZ cN cO A E n bg _ o ok h1 h2) kM_X3_303 kI_X3_greatestOfKey kS_X3_greatestOfKey kN_X3 kD_X3_greatestOfKey (show yX3_greatestOfKey.cls = RX3 ∧ yX3_greatestOfKey.cls ≠ "java/lang/invoke/MethodHandle" ∧ yX3_greatestOfKey.cls ≠ "java/lang/invoke/VarHandle" ∧ (parseMethodDescriptor yX3_greatestOfKey.desc).map (fun d => d.parameters.length) = some 1 from by decide +kernel) rfl rfl ⟨Nat.le_of_ble_eq_true rfl, Nat.le_of_ble_eq_true rfl⟩ rfl (lv_room (Nat.le_of_ble_eq_true rfl)) dX3_fold_80 ⟨Nat.zero_le _, Nat.zero_le _⟩ (fun r_6 hr_6 => ?_)
    exact W.lret (v := r_6) hx hb hr (fun t ht hW => ⟨_, rfl, (by unfold cFold; rw [cif_neg (show ¬ σ.1 3 o 2 = 10 by rw [hkd]; decide), cif_neg (show ¬ σ.1 3 o 2 = 11 by rw [hkd]; decide), cif_neg (show ¬ σ.1 3 o 2 = 12 by rw [hkd]; decide), cif_neg (show ¬ σ.1 3 o 2 = 13 by rw [hkd]; decide), cif_pos hkd]; exact hr_6), ht⟩) (fun _ h => by cases h) dX3_fold_83
  · rw [hkd]
    refine lv_tableIn (off := 80) (tgt := 84) hx hb dX3_fold_4 (by decide +kernel) (by decide +kernel) (by decide +kernel) (by decide) ?_
    refine lv_aload_n hx hb dX3_fold_84 rfl (lv_at hl 0 rfl) ?_
    refine lv_aload_n hx hb dX3_fold_85 rfl (lv_at hl 1 rfl) ?_
    refine lv_iconst (v := 3) hx hb dX3_fold_86 (by decide) ?_
    refine c_callp (As := [.ref ((E.2.2.2.2.1 o)), .int 3]) (rest := []) C (c_preX3 C w) hml hl.1 (k_X3_different l D cI cZ cN cO A E n bg _ o 3 ok h1 h2) kM_X3_299 kI_X3_different kS_X3_different kN_X3 kD_X3_different (show yX3_different.cls = RX3 ∧ yX3_different.cls ≠ "java/lang/invoke/MethodHandle" ∧ yX3_different.cls ≠ "java/lang/invoke/VarHandle" ∧ (parseMethodDescriptor yX3_different.desc).map (fun d => d.parameters.length) = some 2 from by decide +kernel) rfl rfl ⟨Nat.le_of_ble_eq_true rfl, Nat.le_of_ble_eq_true rfl⟩ rfl (lv_room (Nat.le_of_ble_eq_true rfl)) dX3_fold_87 ⟨Nat.zero_le _, Nat.zero_le _⟩ (fun r_7 hr_7 => ?_)
    refine lv_i2l (v := r_7.toInt64) hx hb dX3_fold_90 rfl ?_
    exact W.lret (v := r_7.toInt64) hx hb hr (fun t ht hW => ⟨_, rfl, (by unfold cFold; rw [cif_neg (show ¬ σ.1 3 o 2 = 10 by rw [hkd]; decide), cif_neg (show ¬ σ.1 3 o 2 = 11 by rw [hkd]; decide), cif_neg (show ¬ σ.1 3 o 2 = 12 by rw [hkd]; decide), cif_neg (show ¬ σ.1 3 o 2 = 13 by rw [hkd]; decide), cif_neg (show ¬ σ.1 3 o 2 = 14 by rw [hkd]; decide), cif_pos hkd]; rw [hr_7]), ht⟩) (fun _ h => by cases h) dX3_fold_91
