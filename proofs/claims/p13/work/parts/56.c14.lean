set_option maxHeartbeats 4000000 in
set_option maxRecDepth 100000 in
theorem k_told_yes (l : Launch) (D : va_G) (cI cZ cN cO : ClassId) (A : Nat → Prop) (E : CE) (n bg : Nat) (σ : CS) (o : Nat) (p1 : Int32) (ok : cOK n bg σ) (h1 : 1 ≤ o) (h2 : o ≤ bg) : Met l yX3_told (.code yX3_told cX3_told 4 (some .int) :: gw) ({ frames := 4, cells := 0, slots := 0, locals := 94 }) (va_Pc (.ref (E.1 0) :: [.int (nI o), .int p1]) (cH D cI cZ cN cO A E n bg σ)) (vp_Si (fun r => True)) 0 0 (fun _ => False) := by
  refine Met.ofW (cc := cX3_told) (maxL := 4) (ret := (some .int)) (by decide) rfl ?_
  intro p e s m args below meth c s₁ B hml hv
  obtain ⟨rfl, hP, hK, hD⟩ := hv
  have hx := B.exec
  have hb := B.bytes
  have hr := B.returns
  have hts := atoms_spec (ws := (.code yX3_told cX3_told 4 (some .int) :: gw)) B.pre
  have hg : ∀ w ∈ gw, w.before _ s = true := fun w h => hts w (List.mem_cons_of_mem _ h)
  have hown : s.vm.findClass RX3 = some m.cls := findClass_of_methodNamed B.named
  have hlocks := B.notSynchronized
  have C : Cx p c cX3_told s m _ RX3 D (gTy cI cZ cN cO) := ⟨hx, hb, hown, hg, hK⟩
  have w : cWd D cI cN cO A s.heap E n bg σ s.heap [] := ⟨hP, hD, va_S.rf⟩
  have hl := lv_entry ([.ref ((E.1 0)), .int (nI o), .int p1]) (n := 4) (Nat.le_of_ble_eq_true rfl)
  rw [lg_entry_eq]
  generalize (lg_sl ([.ref ((E.1 0)), .int (nI o), .int p1]) ++ List.replicate (4 - (lg_sl ([.ref ((E.1 0)), .int (nI o), .int p1])).length) Slot.unset).toArray = ls at hl ⊢
  have hl : lv_has ls 4 [(0, .ref ((E.1 0))), (1, .int (nI o)), (2, .int p1)] := hl
  refine lv_aload_n hx hb dX3_told_0 rfl (lv_at hl 0 rfl) ?_
  refine lv_iload_n hx hb dX3_told_1 rfl (lv_at hl 1 rfl) ?_
  refine c_callq (As := [.int (nI o)]) (rest := []) C (c_preX3 C w) hml hl.1 (k_find_yes l D cI cZ cN cO A E n bg _ o ok h1 h2) kM_X3_74 kI_X3_find kS_X3_find kN_X3 kD_X3_find (show yX3_find.cls = RX3 ∧ yX3_find.cls ≠ "java/lang/invoke/MethodHandle" ∧ yX3_find.cls ≠ "java/lang/invoke/VarHandle" ∧ (parseMethodDescriptor yX3_find.desc).map (fun d => d.parameters.length) = some 1 from by decide +kernel) rfl rfl ⟨Nat.le_of_ble_eq_true rfl, Nat.le_of_ble_eq_true rfl⟩ rfl (lv_room (Nat.le_of_ble_eq_true rfl)) dX3_told_2 ⟨Nat.zero_le _, Nat.zero_le _⟩ (fun r_1 hr_1 => ?_)
  subst hr_1
  dsimp only [va_rf]
  refine lv_astore_n (lv' := [(3, _), (0, _), (1, _), (2, _)]) C.1 C.2.1 dX3_told_5 rfl hl (by decide) rfl (fun ls hl => ?_)
  refine lv_aload_n hx hb dX3_told_6 rfl (lv_at hl 0 rfl) ?_
  refine lv_ifnonnull (tgt := 14) hx hb dX3_told_7 (by decide) ?_
  refine lv_aload_n hx hb dX3_told_14 rfl (lv_at hl 0 rfl) ?_
  refine lv_iload_n hx hb dX3_told_15 rfl (lv_at hl 3 rfl) ?_
  refine c_callp (As := [.int p1]) (rest := []) C (c_preX1 C w h1 h2) hml hl.1 (k_X1_tell l D cI cZ cN cO A E n bg _ o p1 ok h1 h2) kM_X3_78 kI_X1_tell kS_X1_tell kN_X1 kD_X1_tell (show yX1_tell.cls = RX1 ∧ yX1_tell.cls ≠ "java/lang/invoke/MethodHandle" ∧ yX1_tell.cls ≠ "java/lang/invoke/VarHandle" ∧ (parseMethodDescriptor yX1_tell.desc).map (fun d => d.parameters.length) = some 1 from by decide +kernel) rfl rfl ⟨Nat.le_of_ble_eq_true rfl, Nat.le_of_ble_eq_true rfl⟩ rfl (lv_room (Nat.le_of_ble_eq_true rfl)) dX3_told_16 ⟨Nat.zero_le _, Nat.zero_le _⟩ (fun r_2 hr_2 => ?_)
  exact W.iret hx hb hr (fun t ht hW => ⟨_, rfl, trivial, ht⟩) (fun _ h => by cases h) dX3_told_19
set_option maxHeartbeats 4000000 in
set_option maxRecDepth 100000 in
theorem k_told_no (l : Launch) (D : va_G) (cI cZ cN cO : ClassId) (A : Nat → Prop) (E : CE) (n bg : Nat) (σ : CS) (p0 p1 : Int32) (ok : cOK n bg σ) (hno : ¬ isO bg p0) : Met l yX3_told (.code yX3_told cX3_told 4 (some .int) :: gw) ({ frames := 4, cells := 0, slots := 0, locals := 94 }) (va_Pc (.ref (E.1 0) :: [.int p0, .int p1]) (cH D cI cZ cN cO A E n bg σ)) (vp_Si (fun r => r = -1)) 0 0 (fun _ => False) := by
  refine Met.ofW (cc := cX3_told) (maxL := 4) (ret := (some .int)) (by decide) rfl ?_
  intro p e s m args below meth c s₁ B hml hv
  obtain ⟨rfl, hP, hK, hD⟩ := hv
  have hx := B.exec
  have hb := B.bytes
  have hr := B.returns
  have hts := atoms_spec (ws := (.code yX3_told cX3_told 4 (some .int) :: gw)) B.pre
  have hg : ∀ w ∈ gw, w.before _ s = true := fun w h => hts w (List.mem_cons_of_mem _ h)
  have hown : s.vm.findClass RX3 = some m.cls := findClass_of_methodNamed B.named
  have hlocks := B.notSynchronized
  have C : Cx p c cX3_told s m _ RX3 D (gTy cI cZ cN cO) := ⟨hx, hb, hown, hg, hK⟩
  have w : cWd D cI cN cO A s.heap E n bg σ s.heap [] := ⟨hP, hD, va_S.rf⟩
  have hl := lv_entry ([.ref ((E.1 0)), .int p0, .int p1]) (n := 4) (Nat.le_of_ble_eq_true rfl)
  rw [lg_entry_eq]
  generalize (lg_sl ([.ref ((E.1 0)), .int p0, .int p1]) ++ List.replicate (4 - (lg_sl ([.ref ((E.1 0)), .int p0, .int p1])).length) Slot.unset).toArray = ls at hl ⊢
  have hl : lv_has ls 4 [(0, .ref ((E.1 0))), (1, .int p0), (2, .int p1)] := hl
  refine lv_aload_n hx hb dX3_told_0 rfl (lv_at hl 0 rfl) ?_
  refine lv_iload_n hx hb dX3_told_1 rfl (lv_at hl 1 rfl) ?_
  refine c_callq (As := [.int p0]) (rest := []) C (c_preX3 C w) hml hl.1 (k_find_no l D cI cZ cN cO A E n bg _ p0 ok hno) kM_X3_74 kI_X3_find kS_X3_find kN_X3 kD_X3_find (show yX3_find.cls = RX3 ∧ yX3_find.cls ≠ "java/lang/invoke/MethodHandle" ∧ yX3_find.cls ≠ "java/lang/invoke/VarHandle" ∧ (parseMethodDescriptor yX3_find.desc).map (fun d => d.parameters.length) = some 1 from by decide +kernel) rfl rfl ⟨Nat.le_of_ble_eq_true rfl, Nat.le_of_ble_eq_true rfl⟩ rfl (lv_room (Nat.le_of_ble_eq_true rfl)) dX3_told_2 ⟨Nat.zero_le _, Nat.zero_le _⟩ (fun r_1 hr_1 => ?_)
  subst hr_1
  dsimp only [va_rf]
  refine lv_astore_nN (lv' := [(3, _), (0, _), (1, _), (2, _)]) C.1 C.2.1 dX3_told_5 rfl hl (by decide) rfl (fun ls hl => ?_)
  refine lv_aload_nN hx hb dX3_told_6 rfl (lv_at hl 0 rfl) ?_
  refine lv_ifnonnullN hx hb dX3_told_7 ?_
  refine lv_iconst (v := (-1)) hx hb dX3_told_10 (by decide) ?_
  refine lv_goto (tgt := 19) hx hb dX3_told_11 (by decide) ?_
  exact W.iret hx hb hr (fun t ht hW => ⟨_, rfl, rfl, ht⟩) (fun _ h => by cases h) dX3_told_19
set_option maxHeartbeats 4000000 in
set_option maxRecDepth 100000 in
theorem k_answer_yes (l : Launch) (D : va_G) (cI cZ cN cO : ClassId) (A : Nat → Prop) (E : CE) (n bg : Nat) (σ : CS) (o : Nat) (ok : cOK n bg σ) (h1 : 1 ≤ o) (h2 : o ≤ bg) : Met l yX3_answer (.code yX3_answer cX3_answer 3 (some .long) :: gw) ({ frames := 4, cells := 0, slots := 0, locals := 94 }) (va_Pc (.ref (E.1 0) :: [.int (nI o)]) (cH D cI cZ cN cO A E n bg σ)) (vp_Sl (fun r => r = cif (σ.1 3 o 8 = -1) 0 (cFold bg σ o))) 0 0 (fun _ => False) := by
  refine Met.ofW (cc := cX3_answer) (maxL := 3) (ret := (some .long)) (by decide) rfl ?_
  intro p e s m args below meth c s₁ B hml hv
  obtain ⟨rfl, hP, hK, hD⟩ := hv
  have hx := B.exec
  have hb := B.bytes
  have hr := B.returns
  have hts := atoms_spec (ws := (.code yX3_answer cX3_answer 3 (some .long) :: gw)) B.pre
  have hg : ∀ w ∈ gw, w.before _ s = true := fun w h => hts w (List.mem_cons_of_mem _ h)
  have hown : s.vm.findClass RX3 = some m.cls := findClass_of_methodNamed B.named
  have hlocks := B.notSynchronized
  have C : Cx p c cX3_answer s m _ RX3 D (gTy cI cZ cN cO) := ⟨hx, hb, hown, hg, hK⟩
  have w : cWd D cI cN cO A s.heap E n bg σ s.heap [] := ⟨hP, hD, va_S.rf⟩
  have hl := lv_entry ([.ref ((E.1 0)), .int (nI o)]) (n := 3) (Nat.le_of_ble_eq_true rfl)
  rw [lg_entry_eq]
  generalize (lg_sl ([.ref ((E.1 0)), .int (nI o)]) ++ List.replicate (3 - (lg_sl ([.ref ((E.1 0)), .int (nI o)])).length) Slot.unset).toArray = ls at hl ⊢
  have hl : lv_has ls 3 [(0, .ref ((E.1 0))), (1, .int (nI o))] := hl
  refine lv_aload_n hx hb dX3_answer_0 rfl (lv_at hl 0 rfl) ?_
  refine lv_iload_n hx hb dX3_answer_1 rfl (lv_at hl 1 rfl) ?_
  refine c_callq (As := [.int (nI o)]) (rest := []) C (c_preX3 C w) hml hl.1 (k_find_yes l D cI cZ cN cO A E n bg _ o ok h1 h2) kM_X3_74 kI_X3_find kS_X3_find kN_X3 kD_X3_find (show yX3_find.cls = RX3 ∧ yX3_find.cls ≠ "java/lang/invoke/MethodHandle" ∧ yX3_find.cls ≠ "java/lang/invoke/VarHandle" ∧ (parseMethodDescriptor yX3_find.desc).map (fun d => d.parameters.length) = some 1 from by decide +kernel) rfl rfl ⟨Nat.le_of_ble_eq_true rfl, Nat.le_of_ble_eq_true rfl⟩ rfl (lv_room (Nat.le_of_ble_eq_true rfl)) dX3_answer_2 ⟨Nat.zero_le _, Nat.zero_le _⟩ (fun r_1 hr_1 => ?_)
  subst hr_1
  dsimp only [va_rf]
  refine lv_astore_n (lv' := [(2, _), (0, _), (1, _)]) C.1 C.2.1 dX3_answer_5 rfl hl (by decide) rfl (fun ls hl => ?_)
  refine lv_aload_n hx hb dX3_answer_6 rfl (lv_at hl 0 rfl) ?_
  refine lv_ifnull hx hb dX3_answer_7 ?_
  refine lv_aload_n hx hb dX3_answer_10 rfl (lv_at hl 0 rfl) ?_
  refine c_callp (As := []) (rest := []) C (c_preX1 C w h1 h2) hml hl.1 (k_X1_isDone l D cI cZ cN cO A E n bg _ o ok h1 h2) kM_X3_81 kI_X1_isDone kS_X1_isDone kN_X1 kD_X1_isDone (show yX1_isDone.cls = RX1 ∧ yX1_isDone.cls ≠ "java/lang/invoke/MethodHandle" ∧ yX1_isDone.cls ≠ "java/lang/invoke/VarHandle" ∧ (parseMethodDescriptor yX1_isDone.desc).map (fun d => d.parameters.length) = some 0 from by decide +kernel) rfl rfl ⟨Nat.le_of_ble_eq_true rfl, Nat.le_of_ble_eq_true rfl⟩ rfl (lv_room (Nat.le_of_ble_eq_true rfl)) dX3_answer_11 ⟨Nat.zero_le _, Nat.zero_le _⟩ (fun r_2 hr_2 => ?_)
  refine lv_if_ne (tgt := 21) hx hb dX3_answer_14 (by decide) (fun c_14 => ?_) (fun c_14 => ?_)
  · refine lv_aload_n hx hb dX3_answer_21 rfl (lv_at hl 1 rfl) ?_
    refine lv_aload_n hx hb dX3_answer_22 rfl (lv_at hl 0 rfl) ?_
    refine c_calll (As := [.ref ((E.2.2.2.2.1 o))]) (rest := []) C (c_preX3 C w) hml hl.1 (k_X3_fold l D cI cZ cN cO A E n bg _ o ok h1 h2) kM_X3_85 kI_X3_fold kS_X3_fold kN_X3 kD_X3_fold (show yX3_fold.cls = RX3 ∧ yX3_fold.cls ≠ "java/lang/invoke/MethodHandle" ∧ yX3_fold.cls ≠ "java/lang/invoke/VarHandle" ∧ (parseMethodDescriptor yX3_fold.desc).map (fun d => d.parameters.length) = some 1 from by decide +kernel) rfl rfl ⟨Nat.le_of_ble_eq_true rfl, Nat.le_of_ble_eq_true rfl⟩ rfl (lv_room (Nat.le_of_ble_eq_true rfl)) dX3_answer_23 ⟨Nat.zero_le _, Nat.zero_le _⟩ (fun r_3 hr_3 => ?_)
    exact W.lret (v := r_3) hx hb hr (fun t ht hW => ⟨_, rfl, (by rw [hr_3]; exact (cif_neg (fun z => by rw [if_pos z] at hr_2; exact c_14 hr_2)).symm), ht⟩) (fun _ h => by cases h) dX3_answer_26
  · refine lv_lconst (v := 0) hx hb dX3_answer_17 (by decide) ?_
    refine lv_goto (tgt := 26) hx hb dX3_answer_18 (by decide) ?_
    exact W.lret (v := 0) hx hb hr (fun t ht hW => ⟨_, rfl, (cif_pos (by by_cases z : σ.1 3 o 8 = -1; exact z; rw [if_neg z] at hr_2; exact absurd (hr_2.symm.trans c_14) (by decide))).symm, ht⟩) (fun _ h => by cases h) dX3_answer_26
set_option maxHeartbeats 4000000 in
set_option maxRecDepth 100000 in
theorem k_answer_no (l : Launch) (D : va_G) (cI cZ cN cO : ClassId) (A : Nat → Prop) (E : CE) (n bg : Nat) (σ : CS) (p0 : Int32) (ok : cOK n bg σ) (hno : ¬ isO bg p0) : Met l yX3_answer (.code yX3_answer cX3_answer 3 (some .long) :: gw) ({ frames := 4, cells := 0, slots := 0, locals := 94 }) (va_Pc (.ref (E.1 0) :: [.int p0]) (cH D cI cZ cN cO A E n bg σ)) (vp_Sl (fun r => r = 0)) 0 0 (fun _ => False) := by
  refine Met.ofW (cc := cX3_answer) (maxL := 3) (ret := (some .long)) (by decide) rfl ?_
  intro p e s m args below meth c s₁ B hml hv
  obtain ⟨rfl, hP, hK, hD⟩ := hv
  have hx := B.exec
  have hb := B.bytes
  have hr := B.returns
  have hts := atoms_spec (ws := (.code yX3_answer cX3_answer 3 (some .long) :: gw)) B.pre
  have hg : ∀ w ∈ gw, w.before _ s = true := fun w h => hts w (List.mem_cons_of_mem _ h)
  have hown : s.vm.findClass RX3 = some m.cls := findClass_of_methodNamed B.named
  have hlocks := B.notSynchronized
  have C : Cx p c cX3_answer s m _ RX3 D (gTy cI cZ cN cO) := ⟨hx, hb, hown, hg, hK⟩
  have w : cWd D cI cN cO A s.heap E n bg σ s.heap [] := ⟨hP, hD, va_S.rf⟩
  have hl := lv_entry ([.ref ((E.1 0)), .int p0]) (n := 3) (Nat.le_of_ble_eq_true rfl)
  rw [lg_entry_eq]
  generalize (lg_sl ([.ref ((E.1 0)), .int p0]) ++ List.replicate (3 - (lg_sl ([.ref ((E.1 0)), .int p0])).length) Slot.unset).toArray = ls at hl ⊢
  have hl : lv_has ls 3 [(0, .ref ((E.1 0))), (1, .int p0)] := hl
  refine lv_aload_n hx hb dX3_answer_0 rfl (lv_at hl 0 rfl) ?_
  refine lv_iload_n hx hb dX3_answer_1 rfl (lv_at hl 1 rfl) ?_
  refine c_callq (As := [.int p0]) (rest := []) C (c_preX3 C w) hml hl.1 (k_find_no l D cI cZ cN cO A E n bg _ p0 ok hno) kM_X3_74 kI_X3_find kS_X3_find kN_X3 kD_X3_find (show yX3_find.cls = RX3 ∧ yX3_find.cls ≠ "java/lang/invoke/MethodHandle" ∧ yX3_find.cls ≠ "java/lang/invoke/VarHandle" ∧ (parseMethodDescriptor yX3_find.desc).map (fun d => d.parameters.length) = some 1 from by decide +kernel) rfl rfl ⟨Nat.le_of_ble_eq_true rfl, Nat.le_of_ble_eq_true rfl⟩ rfl (lv_room (Nat.le_of_ble_eq_true rfl)) dX3_answer_2 ⟨Nat.zero_le _, Nat.zero_le _⟩ (fun r_1 hr_1 => ?_)
  subst hr_1
  dsimp only [va_rf]
  refine lv_astore_nN (lv' := [(2, _), (0, _), (1, _)]) C.1 C.2.1 dX3_answer_5 rfl hl (by decide) rfl (fun ls hl => ?_)
  refine lv_aload_nN hx hb dX3_answer_6 rfl (lv_at hl 0 rfl) ?_
  refine lv_ifnullN (tgt := 17) hx hb dX3_answer_7 (by decide) ?_
  refine lv_lconst (v := 0) hx hb dX3_answer_17 (by decide) ?_
  refine lv_goto (tgt := 26) hx hb dX3_answer_18 (by decide) ?_
  exact W.lret (v := 0) hx hb hr (fun t ht hW => ⟨_, rfl, rfl, ht⟩) (fun _ h => by cases h) dX3_answer_26
set_option maxHeartbeats 4000000 in
set_option maxRecDepth 100000 in
theorem k_view_yes (l : Launch) (D : va_G) (cI cZ cN cO : ClassId) (A : Nat → Prop) (E : CE) (n bg : Nat) (σ : CS) (o : Nat) (p1 : Int32) (ok : cOK n bg σ) (h1 : 1 ≤ o) (h2 : o ≤ bg) : Met l yX3_view (.code yX3_view cX3_view 4 (some .int) :: gw) ({ frames := 4, cells := 0, slots := 0, locals := 94 }) (va_Pc (.ref (E.1 0) :: [.int (nI o), .int p1]) (cH D cI cZ cN cO A E n bg σ)) (vp_Si (fun r => r = if ¬ σ.1 3 o 7 = 0 ∧ isN n p1 then σ.2.1 3 o 6 p1.toNatClampNeg else -1)) 0 0 (fun _ => False) := by
  refine Met.ofW (cc := cX3_view) (maxL := 4) (ret := (some .int)) (by decide) rfl ?_
  intro p e s m args below meth c s₁ B hml hv
  obtain ⟨rfl, hP, hK, hD⟩ := hv
  have hx := B.exec
  have hb := B.bytes
  have hr := B.returns
  have hts := atoms_spec (ws := (.code yX3_view cX3_view 4 (some .int) :: gw)) B.pre
  have hg : ∀ w ∈ gw, w.before _ s = true := fun w h => hts w (List.mem_cons_of_mem _ h)
  have hown : s.vm.findClass RX3 = some m.cls := findClass_of_methodNamed B.named
  have hlocks := B.notSynchronized
  have C : Cx p c cX3_view s m _ RX3 D (gTy cI cZ cN cO) := ⟨hx, hb, hown, hg, hK⟩
  have w : cWd D cI cN cO A s.heap E n bg σ s.heap [] := ⟨hP, hD, va_S.rf⟩
  have hl := lv_entry ([.ref ((E.1 0)), .int (nI o), .int p1]) (n := 4) (Nat.le_of_ble_eq_true rfl)
  rw [lg_entry_eq]
  generalize (lg_sl ([.ref ((E.1 0)), .int (nI o), .int p1]) ++ List.replicate (4 - (lg_sl ([.ref ((E.1 0)), .int (nI o), .int p1])).length) Slot.unset).toArray = ls at hl ⊢
  have hl : lv_has ls 4 [(0, .ref ((E.1 0))), (1, .int (nI o)), (2, .int p1)] := hl
  refine lv_aload_n hx hb dX3_view_0 rfl (lv_at hl 0 rfl) ?_
  refine lv_iload_n hx hb dX3_view_1 rfl (lv_at hl 1 rfl) ?_
  refine c_callq (As := [.int (nI o)]) (rest := []) C (c_preX3 C w) hml hl.1 (k_find_yes l D cI cZ cN cO A E n bg _ o ok h1 h2) kM_X3_74 kI_X3_find kS_X3_find kN_X3 kD_X3_find (show yX3_find.cls = RX3 ∧ yX3_find.cls ≠ "java/lang/invoke/MethodHandle" ∧ yX3_find.cls ≠ "java/lang/invoke/VarHandle" ∧ (parseMethodDescriptor yX3_find.desc).map (fun d => d.parameters.length) = some 1 from by decide +kernel) rfl rfl ⟨Nat.le_of_ble_eq_true rfl, Nat.le_of_ble_eq_true rfl⟩ rfl (lv_room (Nat.le_of_ble_eq_true rfl)) dX3_view_2 ⟨Nat.zero_le _, Nat.zero_le _⟩ (fun r_1 hr_1 => ?_)
  subst hr_1
  dsimp only [va_rf]
  refine lv_astore_n (lv' := [(3, _), (0, _), (1, _), (2, _)]) C.1 C.2.1 dX3_view_5 rfl hl (by decide) rfl (fun ls hl => ?_)
  refine lv_aload_n hx hb dX3_view_6 rfl (lv_at hl 0 rfl) ?_
  refine lv_ifnull hx hb dX3_view_7 ?_
  refine lv_aload_n hx hb dX3_view_10 rfl (lv_at hl 0 rfl) ?_
  refine c_gX1_7 C w h1 h2 kF_X3_89 dX3_view_11 ?_
  refine lv_if_eq (tgt := 25) hx hb dX3_view_14 (by decide) (fun c_14 => ?_) (fun c_14 => ?_)
  · refine lv_iconst (v := (-1)) hx hb dX3_view_25 (by decide) ?_
    refine lv_goto (tgt := 35) hx hb dX3_view_26 (by decide) ?_
    exact W.iret hx hb hr (fun t ht hW => ⟨_, rfl, (by rw [if_neg (fun z : ¬ σ.1 3 o 7 = 0 ∧ isN n p1 => z.1 c_14)]), ht⟩) (fun _ h => by cases h) dX3_view_35
  · refine lv_aload_n hx hb dX3_view_17 rfl (lv_at hl 1 rfl) ?_
    refine lv_iload_n hx hb dX3_view_18 rfl (lv_at hl 3 rfl) ?_
    refine c_callp (As := [.int p1]) (rest := []) C (c_preX3 C w) hml hl.1 (k_X3_isNode l D cI cZ cN cO A E n bg _ p1 ok ) kM_X3_33 kI_X3_isNode kS_X3_isNode kN_X3 kD_X3_isNode (show yX3_isNode.cls = RX3 ∧ yX3_isNode.cls ≠ "java/lang/invoke/MethodHandle" ∧ yX3_isNode.cls ≠ "java/lang/invoke/VarHandle" ∧ (parseMethodDescriptor yX3_isNode.desc).map (fun d => d.parameters.length) = some 1 from by decide +kernel) rfl rfl ⟨Nat.le_of_ble_eq_true rfl, Nat.le_of_ble_eq_true rfl⟩ rfl (lv_room (Nat.le_of_ble_eq_true rfl)) dX3_view_19 ⟨Nat.zero_le _, Nat.zero_le _⟩ (fun r_2 hr_2 => ?_)
    refine lv_if_ne (tgt := 29) hx hb dX3_view_22 (by decide) (fun c_22 => ?_) (fun c_22 => ?_)
    · refine lv_aload_n hx hb dX3_view_29 rfl (lv_at hl 0 rfl) ?_
      refine c_gX1_6 C w h1 h2 kF_X3_92 dX3_view_30 ?_
      refine lv_iload_n hx hb dX3_view_33 rfl (lv_at hl 3 rfl) ?_
      refine c_lO C w h1 h2 (isN_in ok.n (ite_ne0 hr_2 c_22)) dX3_view_34 ?_
      refine lv_topi (fun t_3 et_3 => ?_)
      subst et_3
      exact W.iret hx hb hr (fun t ht hW => ⟨_, rfl, (by rw [if_pos (show ¬ σ.1 3 o 7 = 0 ∧ isN n p1 from ⟨c_14, ite_ne0 hr_2 c_22⟩)]), ht⟩) (fun _ h => by cases h) dX3_view_35
    · refine lv_iconst (v := (-1)) hx hb dX3_view_25 (by decide) ?_
      refine lv_goto (tgt := 35) hx hb dX3_view_26 (by decide) ?_
      exact W.iret hx hb hr (fun t ht hW => ⟨_, rfl, (by rw [if_neg (fun z : ¬ σ.1 3 o 7 = 0 ∧ isN n p1 => ite_eq0 hr_2 c_22 z.2)]), ht⟩) (fun _ h => by cases h) dX3_view_35
set_option maxHeartbeats 4000000 in
set_option maxRecDepth 100000 in
theorem k_view_no (l : Launch) (D : va_G) (cI cZ cN cO : ClassId) (A : Nat → Prop) (E : CE) (n bg : Nat) (σ : CS) (p0 p1 : Int32) (ok : cOK n bg σ) (hno : ¬ isO bg p0) : Met l yX3_view (.code yX3_view cX3_view 4 (some .int) :: gw) ({ frames := 4, cells := 0, slots := 0, locals := 94 }) (va_Pc (.ref (E.1 0) :: [.int p0, .int p1]) (cH D cI cZ cN cO A E n bg σ)) (vp_Si (fun r => r = -1)) 0 0 (fun _ => False) := by
  refine Met.ofW (cc := cX3_view) (maxL := 4) (ret := (some .int)) (by decide) rfl ?_
  intro p e s m args below meth c s₁ B hml hv
  obtain ⟨rfl, hP, hK, hD⟩ := hv
  have hx := B.exec
  have hb := B.bytes
  have hr := B.returns
  have hts := atoms_spec (ws := (.code yX3_view cX3_view 4 (some .int) :: gw)) B.pre
  have hg : ∀ w ∈ gw, w.before _ s = true := fun w h => hts w (List.mem_cons_of_mem _ h)
  have hown : s.vm.findClass RX3 = some m.cls := findClass_of_methodNamed B.named
  have hlocks := B.notSynchronized
  have C : Cx p c cX3_view s m _ RX3 D (gTy cI cZ cN cO) := ⟨hx, hb, hown, hg, hK⟩
  have w : cWd D cI cN cO A s.heap E n bg σ s.heap [] := ⟨hP, hD, va_S.rf⟩
  have hl := lv_entry ([.ref ((E.1 0)), .int p0, .int p1]) (n := 4) (Nat.le_of_ble_eq_true rfl)
  rw [lg_entry_eq]
  generalize (lg_sl ([.ref ((E.1 0)), .int p0, .int p1]) ++ List.replicate (4 - (lg_sl ([.ref ((E.1 0)), .int p0, .int p1])).length) Slot.unset).toArray = ls at hl ⊢
  have hl : lv_has ls 4 [(0, .ref ((E.1 0))), (1, .int p0), (2, .int p1)] := hl
  refine lv_aload_n hx hb dX3_view_0 rfl (lv_at hl 0 rfl) ?_
  refine lv_iload_n hx hb dX3_view_1 rfl (lv_at hl 1 rfl) ?_
  refine c_callq (As := [.int p0]) (rest := []) C (c_preX3 C w) hml hl.1 (k_find_no l D cI cZ cN cO A E n bg _ p0 ok hno) kM_X3_74 kI_X3_find kS_X3_find kN_X3 kD_X3_find (show yX3_find.cls = RX3 ∧ yX3_find.cls ≠ "java/lang/invoke/MethodHandle" ∧ yX3_find.cls ≠ "java/lang/invoke/VarHandle" ∧ (parseMethodDescriptor yX3_find.desc).map (fun d => d.parameters.length) = some 1 from by decide +kernel) rfl rfl ⟨Nat.le_of_ble_eq_true rfl, Nat.le_of_ble_eq_true rfl⟩ rfl (lv_room (Nat.le_of_ble_eq_true rfl)) dX3_view_2 ⟨Nat.zero_le _, Nat.zero_le _⟩ (fun r_1 hr_1 => ?_)
  subst hr_1
  dsimp only [va_rf]
  refine lv_astore_nN (lv' := [(3, _), (0, _), (1, _), (2, _)]) C.1 C.2.1 dX3_view_5 rfl hl (by decide) rfl (fun ls hl => ?_)
  refine lv_aload_nN hx hb dX3_view_6 rfl (lv_at hl 0 rfl) ?_
  refine lv_ifnullN (tgt := 25) hx hb dX3_view_7 (by decide) ?_
  refine lv_iconst (v := (-1)) hx hb dX3_view_25 (by decide) ?_
  refine lv_goto (tgt := 35) hx hb dX3_view_26 (by decide) ?_
  exact W.iret hx hb hr (fun t ht hW => ⟨_, rfl, rfl, ht⟩) (fun _ h => by cases h) dX3_view_35
set_option maxHeartbeats 4000000 in
set_option maxRecDepth 100000 in
theorem k_node_yes (l : Launch) (D : va_G) (cI cZ cN cO : ClassId) (A : Nat → Prop) (E : CE) (n bg : Nat) (σ : CS) (k : Nat) (p1 : Int32) (ok : cOK n bg σ) (hk : k < n) : Met l yX3_node (.code yX3_node cX3_node 3 (some .int) :: gw) ({ frames := 1, cells := 0, slots := 0, locals := 21 }) (va_Pc (.ref (E.1 0) :: [.int (nI k), .int p1]) (cH D cI cZ cN cO A E n bg σ)) (vp_Si (fun r => r = if p1.toInt < 0 ∨ 5 < p1.toInt then -1 else if p1 = 0 then (if σ.1 2 k 6 = 0 then 0 else 1) else if p1 = 1 then σ.1 2 k 7 else if p1 = 2 then σ.1 2 k 8 else if p1 = 3 then nI (σ.2.2 k) else if p1 = 4 then σ.1 2 k 9 else σ.2.1 2 k 5 k)) 0 0 (fun _ => False) := by
  refine Met.ofW (cc := cX3_node) (maxL := 3) (ret := (some .int)) (by decide) rfl ?_
  intro p e s m args below meth c s₁ B hml hv
  obtain ⟨rfl, hP, hK, hD⟩ := hv
  have hx := B.exec
  have hb := B.bytes
  have hr := B.returns
  have hts := atoms_spec (ws := (.code yX3_node cX3_node 3 (some .int) :: gw)) B.pre
  have hg : ∀ w ∈ gw, w.before _ s = true := fun w h => hts w (List.mem_cons_of_mem _ h)
  have hown : s.vm.findClass RX3 = some m.cls := findClass_of_methodNamed B.named
  have hlocks := B.notSynchronized
  have C : Cx p c cX3_node s m _ RX3 D (gTy cI cZ cN cO) := ⟨hx, hb, hown, hg, hK⟩
  have w : cWd D cI cN cO A s.heap E n bg σ s.heap [] := ⟨hP, hD, va_S.rf⟩
  have hl := lv_entry ([.ref ((E.1 0)), .int (nI k), .int p1]) (n := 3) (Nat.le_of_ble_eq_true rfl)
  rw [lg_entry_eq]
  generalize (lg_sl ([.ref ((E.1 0)), .int (nI k), .int p1]) ++ List.replicate (3 - (lg_sl ([.ref ((E.1 0)), .int (nI k), .int p1])).length) Slot.unset).toArray = ls at hl ⊢
  have hl : lv_has ls 3 [(0, .ref ((E.1 0))), (1, .int (nI k)), (2, .int p1)] := hl
  refine lv_aload_n hx hb dX3_node_0 rfl (lv_at hl 0 rfl) ?_
  refine lv_iload_n hx hb dX3_node_1 rfl (lv_at hl 1 rfl) ?_
  refine c_callp (As := [.int (nI k)]) (rest := []) C (c_preX3 C w) hml hl.1 (k_X3_isNode l D cI cZ cN cO A E n bg _ (nI k) ok ) kM_X3_33 kI_X3_isNode kS_X3_isNode kN_X3 kD_X3_isNode (show yX3_isNode.cls = RX3 ∧ yX3_isNode.cls ≠ "java/lang/invoke/MethodHandle" ∧ yX3_isNode.cls ≠ "java/lang/invoke/VarHandle" ∧ (parseMethodDescriptor yX3_isNode.desc).map (fun d => d.parameters.length) = some 1 from by decide +kernel) rfl rfl ⟨Nat.le_of_ble_eq_true rfl, Nat.le_of_ble_eq_true rfl⟩ rfl (lv_room (Nat.le_of_ble_eq_true rfl)) dX3_node_2 ⟨Nat.zero_le _, Nat.zero_le _⟩ (fun r_1 hr_1 => ?_)
  refine lv_if_eq (tgt := 21) hx hb dX3_node_5 (by decide) (fun c_5 => absurd (show isN n (nI k) from isN_k hk ok) (ite_eq0 hr_1 c_5)) (fun c_5 => ?_)
  refine lv_aload_n hx hb dX3_node_8 rfl (lv_at hl 0 rfl) ?_
  refine c_gX3_0 C w kF_X3_11 dX3_node_9 ?_
  refine lv_iload_n hx hb dX3_node_12 rfl (lv_at hl 1 rfl) ?_
  refine c_lNA (k := k) C w hk ok.n dX3_node_13 ?_
  refine lv_iload_n hx hb dX3_node_14 rfl (lv_at hl 2 rfl) ?_
  refine c_callp (As := [.int p1]) (rest := []) C (c_preX0 C w hk) hml hl.1 (k_X0_tell l D cI cZ cN cO A E n bg _ k p1 ok hk) kM_X3_96 kI_X0_tell kS_X0_tell kN_X0 kD_X0_tell (show yX0_tell.cls = RX0 ∧ yX0_tell.cls ≠ "java/lang/invoke/MethodHandle" ∧ yX0_tell.cls ≠ "java/lang/invoke/VarHandle" ∧ (parseMethodDescriptor yX0_tell.desc).map (fun d => d.parameters.length) = some 1 from by decide +kernel) rfl rfl ⟨Nat.le_of_ble_eq_true rfl, Nat.le_of_ble_eq_true rfl⟩ rfl (lv_room (Nat.le_of_ble_eq_true rfl)) dX3_node_15 ⟨Nat.zero_le _, Nat.zero_le _⟩ (fun r_2 hr_2 => ?_)
  refine lv_goto (tgt := 22) hx hb dX3_node_18 (by decide) ?_
  exact W.iret hx hb hr (fun t ht hW => ⟨_, rfl, hr_2, ht⟩) (fun _ h => by cases h) dX3_node_22
set_option maxHeartbeats 4000000 in
set_option maxRecDepth 100000 in
theorem k_node_no (l : Launch) (D : va_G) (cI cZ cN cO : ClassId) (A : Nat → Prop) (E : CE) (n bg : Nat) (σ : CS) (p0 p1 : Int32) (ok : cOK n bg σ) (hno : ¬ isN n p0) : Met l yX3_node (.code yX3_node cX3_node 3 (some .int) :: gw) ({ frames := 1, cells := 0, slots := 0, locals := 21 }) (va_Pc (.ref (E.1 0) :: [.int p0, .int p1]) (cH D cI cZ cN cO A E n bg σ)) (vp_Si (fun r => r = -1)) 0 0 (fun _ => False) := by
  refine Met.ofW (cc := cX3_node) (maxL := 3) (ret := (some .int)) (by decide) rfl ?_
  intro p e s m args below meth c s₁ B hml hv
  obtain ⟨rfl, hP, hK, hD⟩ := hv
  have hx := B.exec
  have hb := B.bytes
  have hr := B.returns
  have hts := atoms_spec (ws := (.code yX3_node cX3_node 3 (some .int) :: gw)) B.pre
  have hg : ∀ w ∈ gw, w.before _ s = true := fun w h => hts w (List.mem_cons_of_mem _ h)
  have hown : s.vm.findClass RX3 = some m.cls := findClass_of_methodNamed B.named
  have hlocks := B.notSynchronized
  have C : Cx p c cX3_node s m _ RX3 D (gTy cI cZ cN cO) := ⟨hx, hb, hown, hg, hK⟩
  have w : cWd D cI cN cO A s.heap E n bg σ s.heap [] := ⟨hP, hD, va_S.rf⟩
  have hl := lv_entry ([.ref ((E.1 0)), .int p0, .int p1]) (n := 3) (Nat.le_of_ble_eq_true rfl)
  rw [lg_entry_eq]
  generalize (lg_sl ([.ref ((E.1 0)), .int p0, .int p1]) ++ List.replicate (3 - (lg_sl ([.ref ((E.1 0)), .int p0, .int p1])).length) Slot.unset).toArray = ls at hl ⊢
  have hl : lv_has ls 3 [(0, .ref ((E.1 0))), (1, .int p0), (2, .int p1)] := hl
  refine lv_aload_n hx hb dX3_node_0 rfl (lv_at hl 0 rfl) ?_
  refine lv_iload_n hx hb dX3_node_1 rfl (lv_at hl 1 rfl) ?_
  refine c_callp (As := [.int p0]) (rest := []) C (c_preX3 C w) hml hl.1 (k_X3_isNode l D cI cZ cN cO A E n bg _ p0 ok ) kM_X3_33 kI_X3_isNode kS_X3_isNode kN_X3 kD_X3_isNode (show yX3_isNode.cls = RX3 ∧ yX3_isNode.cls ≠ "java/lang/invoke/MethodHandle" ∧ yX3_isNode.cls ≠ "java/lang/invoke/VarHandle" ∧ (parseMethodDescriptor yX3_isNode.desc).map (fun d => d.parameters.length) = some 1 from by decide +kernel) rfl rfl ⟨Nat.le_of_ble_eq_true rfl, Nat.le_of_ble_eq_true rfl⟩ rfl (lv_room (Nat.le_of_ble_eq_true rfl)) dX3_node_2 ⟨Nat.zero_le _, Nat.zero_le _⟩ (fun r_1 hr_1 => ?_)
  refine lv_if_eq (tgt := 21) hx hb dX3_node_5 (by decide) (fun c_5 => ?_) (fun c_5 => absurd (ite_ne0 hr_1 c_5) hno)
  refine lv_iconst (v := (-1)) hx hb dX3_node_21 (by decide) ?_
  exact W.iret hx hb hr (fun t ht hW => ⟨_, rfl, rfl, ht⟩) (fun _ h => by cases h) dX3_node_22
set_option maxHeartbeats 4000000 in
set_option maxRecDepth 100000 in
theorem k_kept_yes (l : Launch) (D : va_G) (cI cZ cN cO : ClassId) (A : Nat → Prop) (E : CE) (n bg : Nat) (σ : CS) (k i : Nat) (ok : cOK n bg σ) (hk : k < n) (hi : i < n) : Met l yX3_kept (.code yX3_kept cX3_kept 3 (some .int) :: gw) ({ frames := 1, cells := 0, slots := 0, locals := 21 }) (va_Pc (.ref (E.1 0) :: [.int (nI k), .int (nI i)]) (cH D cI cZ cN cO A E n bg σ)) (vp_Si (fun r => r = σ.2.1 2 k 1 i)) 0 0 (fun _ => False) := by
  refine Met.ofW (cc := cX3_kept) (maxL := 3) (ret := (some .int)) (by decide) rfl ?_
  intro p e s m args below meth c s₁ B hml hv
  obtain ⟨rfl, hP, hK, hD⟩ := hv
  have hx := B.exec
  have hb := B.bytes
  have hr := B.returns
  have hts := atoms_spec (ws := (.code yX3_kept cX3_kept 3 (some .int) :: gw)) B.pre
  have hg : ∀ w ∈ gw, w.before _ s = true := fun w h => hts w (List.mem_cons_of_mem _ h)
  have hown : s.vm.findClass RX3 = some m.cls := findClass_of_methodNamed B.named
  have hlocks := B.notSynchronized
  have C : Cx p c cX3_kept s m _ RX3 D (gTy cI cZ cN cO) := ⟨hx, hb, hown, hg, hK⟩
  have w : cWd D cI cN cO A s.heap E n bg σ s.heap [] := ⟨hP, hD, va_S.rf⟩
  have hl := lv_entry ([.ref ((E.1 0)), .int (nI k), .int (nI i)]) (n := 3) (Nat.le_of_ble_eq_true rfl)
  rw [lg_entry_eq]
  generalize (lg_sl ([.ref ((E.1 0)), .int (nI k), .int (nI i)]) ++ List.replicate (3 - (lg_sl ([.ref ((E.1 0)), .int (nI k), .int (nI i)])).length) Slot.unset).toArray = ls at hl ⊢
  have hl : lv_has ls 3 [(0, .ref ((E.1 0))), (1, .int (nI k)), (2, .int (nI i))] := hl
  refine lv_aload_n hx hb dX3_kept_0 rfl (lv_at hl 0 rfl) ?_
  refine lv_iload_n hx hb dX3_kept_1 rfl (lv_at hl 1 rfl) ?_
  refine c_callp (As := [.int (nI k)]) (rest := []) C (c_preX3 C w) hml hl.1 (k_X3_isNode l D cI cZ cN cO A E n bg _ (nI k) ok ) kM_X3_33 kI_X3_isNode kS_X3_isNode kN_X3 kD_X3_isNode (show yX3_isNode.cls = RX3 ∧ yX3_isNode.cls ≠ "java/lang/invoke/MethodHandle" ∧ yX3_isNode.cls ≠ "java/lang/invoke/VarHandle" ∧ (parseMethodDescriptor yX3_isNode.desc).map (fun d => d.parameters.length) = some 1 from by decide +kernel) rfl rfl ⟨Nat.le_of_ble_eq_true rfl, Nat.le_of_ble_eq_true rfl⟩ rfl (lv_room (Nat.le_of_ble_eq_true rfl)) dX3_kept_2 ⟨Nat.zero_le _, Nat.zero_le _⟩ (fun r_1 hr_1 => ?_)
  refine lv_if_eq (tgt := 30) hx hb dX3_kept_5 (by decide) (fun c_5 => absurd (show isN n (nI k) from isN_k hk ok) (ite_eq0 hr_1 c_5)) (fun c_5 => ?_)
  refine lv_aload_n hx hb dX3_kept_8 rfl (lv_at hl 0 rfl) ?_
  refine lv_iload_n hx hb dX3_kept_9 rfl (lv_at hl 2 rfl) ?_
  refine c_callp (As := [.int (nI i)]) (rest := []) C (c_preX3 C w) hml hl.1 (k_X3_isNode l D cI cZ cN cO A E n bg _ (nI i) ok ) kM_X3_33 kI_X3_isNode kS_X3_isNode kN_X3 kD_X3_isNode (show yX3_isNode.cls = RX3 ∧ yX3_isNode.cls ≠ "java/lang/invoke/MethodHandle" ∧ yX3_isNode.cls ≠ "java/lang/invoke/VarHandle" ∧ (parseMethodDescriptor yX3_isNode.desc).map (fun d => d.parameters.length) = some 1 from by decide +kernel) rfl rfl ⟨Nat.le_of_ble_eq_true rfl, Nat.le_of_ble_eq_true rfl⟩ rfl (lv_room (Nat.le_of_ble_eq_true rfl)) dX3_kept_10 ⟨Nat.zero_le _, Nat.zero_le _⟩ (fun r_2 hr_2 => ?_)
  refine lv_if_eq (tgt := 30) hx hb dX3_kept_13 (by decide) (fun c_13 => absurd (show isN n (nI i) from isN_k hi ok) (ite_eq0 hr_2 c_13)) (fun c_13 => ?_)
  refine lv_aload_n hx hb dX3_kept_16 rfl (lv_at hl 0 rfl) ?_
  refine c_gX3_0 C w kF_X3_11 dX3_kept_17 ?_
  refine lv_iload_n hx hb dX3_kept_20 rfl (lv_at hl 1 rfl) ?_
  refine c_lNA (k := k) C w hk ok.n dX3_kept_21 ?_
  refine c_gX0_1 C w hk kF_X3_97 dX3_kept_22 ?_
  refine lv_iload_n hx hb dX3_kept_25 rfl (lv_at hl 2 rfl) ?_
  refine c_lN1 C w hk (vp_in_nI hi ok.n) dX3_kept_26 ?_
  refine lv_topi (fun t_3 et_3 => ?_)
  refine lv_goto (tgt := 31) hx hb dX3_kept_27 (by decide) ?_
  exact W.iret hx hb hr (fun t ht hW => ⟨_, rfl, (by rw [et_3, nI_clamp (by have := ok.n; omega)]), ht⟩) (fun _ h => by cases h) dX3_kept_31
set_option maxHeartbeats 4000000 in
set_option maxRecDepth 100000 in
theorem k_kept_no (l : Launch) (D : va_G) (cI cZ cN cO : ClassId) (A : Nat → Prop) (E : CE) (n bg : Nat) (σ : CS) (p0 p1 : Int32) (ok : cOK n bg σ) (hno : ¬ (isN n p0 ∧ isN n p1)) : Met l yX3_kept (.code yX3_kept cX3_kept 3 (some .int) :: gw) ({ frames := 1, cells := 0, slots := 0, locals := 21 }) (va_Pc (.ref (E.1 0) :: [.int p0, .int p1]) (cH D cI cZ cN cO A E n bg σ)) (vp_Si (fun r => r = -1)) 0 0 (fun _ => False) := by
  refine Met.ofW (cc := cX3_kept) (maxL := 3) (ret := (some .int)) (by decide) rfl ?_
  intro p e s m args below meth c s₁ B hml hv
  obtain ⟨rfl, hP, hK, hD⟩ := hv
  have hx := B.exec
  have hb := B.bytes
  have hr := B.returns
  have hts := atoms_spec (ws := (.code yX3_kept cX3_kept 3 (some .int) :: gw)) B.pre
  have hg : ∀ w ∈ gw, w.before _ s = true := fun w h => hts w (List.mem_cons_of_mem _ h)
  have hown : s.vm.findClass RX3 = some m.cls := findClass_of_methodNamed B.named
  have hlocks := B.notSynchronized
  have C : Cx p c cX3_kept s m _ RX3 D (gTy cI cZ cN cO) := ⟨hx, hb, hown, hg, hK⟩
  have w : cWd D cI cN cO A s.heap E n bg σ s.heap [] := ⟨hP, hD, va_S.rf⟩
  have hl := lv_entry ([.ref ((E.1 0)), .int p0, .int p1]) (n := 3) (Nat.le_of_ble_eq_true rfl)
  rw [lg_entry_eq]
  generalize (lg_sl ([.ref ((E.1 0)), .int p0, .int p1]) ++ List.replicate (3 - (lg_sl ([.ref ((E.1 0)), .int p0, .int p1])).length) Slot.unset).toArray = ls at hl ⊢
  have hl : lv_has ls 3 [(0, .ref ((E.1 0))), (1, .int p0), (2, .int p1)] := hl
  refine lv_aload_n hx hb dX3_kept_0 rfl (lv_at hl 0 rfl) ?_
  refine lv_iload_n hx hb dX3_kept_1 rfl (lv_at hl 1 rfl) ?_
  refine c_callp (As := [.int p0]) (rest := []) C (c_preX3 C w) hml hl.1 (k_X3_isNode l D cI cZ cN cO A E n bg _ p0 ok ) kM_X3_33 kI_X3_isNode kS_X3_isNode kN_X3 kD_X3_isNode (show yX3_isNode.cls = RX3 ∧ yX3_isNode.cls ≠ "java/lang/invoke/MethodHandle" ∧ yX3_isNode.cls ≠ "java/lang/invoke/VarHandle" ∧ (parseMethodDescriptor yX3_isNode.desc).map (fun d => d.parameters.length) = some 1 from by decide +kernel) rfl rfl ⟨Nat.le_of_ble_eq_true rfl, Nat.le_of_ble_eq_true rfl⟩ rfl (lv_room (Nat.le_of_ble_eq_true rfl)) dX3_kept_2 ⟨Nat.zero_le _, Nat.zero_le _⟩ (fun r_1 hr_1 => ?_)
  refine lv_if_eq (tgt := 30) hx hb dX3_kept_5 (by decide) (fun c_5 => ?_) (fun c_5 => ?_)
  · refine lv_iconst (v := (-1)) hx hb dX3_kept_30 (by decide) ?_
    exact W.iret hx hb hr (fun t ht hW => ⟨_, rfl, rfl, ht⟩) (fun _ h => by cases h) dX3_kept_31
  · refine lv_aload_n hx hb dX3_kept_8 rfl (lv_at hl 0 rfl) ?_
    refine lv_iload_n hx hb dX3_kept_9 rfl (lv_at hl 2 rfl) ?_
    refine c_callp (As := [.int p1]) (rest := []) C (c_preX3 C w) hml hl.1 (k_X3_isNode l D cI cZ cN cO A E n bg _ p1 ok ) kM_X3_33 kI_X3_isNode kS_X3_isNode kN_X3 kD_X3_isNode (show yX3_isNode.cls = RX3 ∧ yX3_isNode.cls ≠ "java/lang/invoke/MethodHandle" ∧ yX3_isNode.cls ≠ "java/lang/invoke/VarHandle" ∧ (parseMethodDescriptor yX3_isNode.desc).map (fun d => d.parameters.length) = some 1 from by decide +kernel) rfl rfl ⟨Nat.le_of_ble_eq_true rfl, Nat.le_of_ble_eq_true rfl⟩ rfl (lv_room (Nat.le_of_ble_eq_true rfl)) dX3_kept_10 ⟨Nat.zero_le _, Nat.zero_le _⟩ (fun r_2 hr_2 => ?_)
    refine lv_if_eq (tgt := 30) hx hb dX3_kept_13 (by decide) (fun c_13 => ?_) (fun c_13 => absurd ⟨ite_ne0 hr_1 c_5, ite_ne0 hr_2 c_13⟩ hno)
    refine lv_iconst (v := (-1)) hx hb dX3_kept_30 (by decide) ?_
    exact W.iret hx hb hr (fun t ht hW => ⟨_, rfl, rfl, ht⟩) (fun _ h => by cases h) dX3_kept_31
set_option maxHeartbeats 4000000 in
set_option maxRecDepth 100000 in
theorem k_message_yes (l : Launch) (D : va_G) (cI cZ cN cO : ClassId) (A : Nat → Prop) (E : CE) (n bg : Nat) (σ : CS) (jq : Nat) (p1 : Int32) (ok : cOK n bg σ) (ha : jq < lnN σ) : Met l yX3_message (.code yX3_message cX3_message 3 (some .int) :: gw) ({ frames := 2, cells := 0, slots := 0, locals := 44 }) (va_Pc (.ref (E.1 0) :: [.int (nI jq), .int p1]) (cH D cI cZ cN cO A E n bg σ)) (vp_Si (fun r => r = if p1.toInt < 0 ∨ 3 < p1.toInt then -1 else if p1 = 0 then σ.2.1 1 0 2 (slN σ jq) else if p1 = 1 then σ.2.1 1 0 3 (slN σ jq) else if p1 = 2 then σ.2.1 1 0 4 (slN σ jq) else σ.2.1 1 0 5 (slN σ jq))) 0 0 (fun _ => False) := by
  refine Met.ofW (cc := cX3_message) (maxL := 3) (ret := (some .int)) (by decide) rfl ?_
  intro p e s m args below meth c s₁ B hml hv
  obtain ⟨rfl, hP, hK, hD⟩ := hv
  have hx := B.exec
  have hb := B.bytes
  have hr := B.returns
  have hts := atoms_spec (ws := (.code yX3_message cX3_message 3 (some .int) :: gw)) B.pre
  have hg : ∀ w ∈ gw, w.before _ s = true := fun w h => hts w (List.mem_cons_of_mem _ h)
  have hown : s.vm.findClass RX3 = some m.cls := findClass_of_methodNamed B.named
  have hlocks := B.notSynchronized
  have C : Cx p c cX3_message s m _ RX3 D (gTy cI cZ cN cO) := ⟨hx, hb, hown, hg, hK⟩
  have w : cWd D cI cN cO A s.heap E n bg σ s.heap [] := ⟨hP, hD, va_S.rf⟩
  have hl := lv_entry ([.ref ((E.1 0)), .int (nI jq), .int p1]) (n := 3) (Nat.le_of_ble_eq_true rfl)
  rw [lg_entry_eq]
  generalize (lg_sl ([.ref ((E.1 0)), .int (nI jq), .int p1]) ++ List.replicate (3 - (lg_sl ([.ref ((E.1 0)), .int (nI jq), .int p1])).length) Slot.unset).toArray = ls at hl ⊢
  have hl : lv_has ls 3 [(0, .ref ((E.1 0))), (1, .int (nI jq)), (2, .int p1)] := hl
  refine lv_aload_n hx hb dX3_message_0 rfl (lv_at hl 0 rfl) ?_
  refine c_gX3_1 C w kF_X3_23 dX3_message_1 ?_
  refine lv_iload_n hx hb dX3_message_4 rfl (lv_at hl 1 rfl) ?_
  refine c_callp (As := [.int (nI jq)]) (rest := []) C (c_preX2 C w) hml hl.1 (k_X2_holds l D cI cZ cN cO A E n bg _ (nI jq) ok ) kM_X3_55 kI_X2_holds kS_X2_holds kN_X2 kD_X2_holds (show yX2_holds.cls = RX2 ∧ yX2_holds.cls ≠ "java/lang/invoke/MethodHandle" ∧ yX2_holds.cls ≠ "java/lang/invoke/VarHandle" ∧ (parseMethodDescriptor yX2_holds.desc).map (fun d => d.parameters.length) = some 1 from by decide +kernel) rfl rfl ⟨Nat.le_of_ble_eq_true rfl, Nat.le_of_ble_eq_true rfl⟩ rfl (lv_room (Nat.le_of_ble_eq_true rfl)) dX3_message_5 ⟨Nat.zero_le _, Nat.zero_le _⟩ (fun r_1 hr_1 => ?_)
  refine lv_if_eq (tgt := 23) hx hb dX3_message_8 (by decide) (fun c_8 => absurd (holds_k ok ha) (ite_eq0 hr_1 c_8)) (fun c_8 => ?_)
  refine lv_aload_n hx hb dX3_message_11 rfl (lv_at hl 0 rfl) ?_
  refine c_gX3_1 C w kF_X3_23 dX3_message_12 ?_
  refine lv_iload_n hx hb dX3_message_15 rfl (lv_at hl 1 rfl) ?_
  refine lv_iload_n hx hb dX3_message_16 rfl (lv_at hl 2 rfl) ?_
  refine c_callp (As := [.int (nI jq), .int p1]) (rest := []) C (c_preX2 C w) hml hl.1 (k_X2_tell l D cI cZ cN cO A E n bg _ jq p1 ok (by have := ok.lnn.2; omega)) kM_X3_100 kI_X2_tell kS_X2_tell kN_X2 kD_X2_tell (show yX2_tell.cls = RX2 ∧ yX2_tell.cls ≠ "java/lang/invoke/MethodHandle" ∧ yX2_tell.cls ≠ "java/lang/invoke/VarHandle" ∧ (parseMethodDescriptor yX2_tell.desc).map (fun d => d.parameters.length) = some 2 from by decide +kernel) rfl rfl ⟨Nat.le_of_ble_eq_true rfl, Nat.le_of_ble_eq_true rfl⟩ rfl (lv_room (Nat.le_of_ble_eq_true rfl)) dX3_message_17 ⟨Nat.zero_le _, Nat.zero_le _⟩ (fun r_2 hr_2 => ?_)
  refine lv_goto (tgt := 24) hx hb dX3_message_20 (by decide) ?_
  exact W.iret hx hb hr (fun t ht hW => ⟨_, rfl, hr_2, ht⟩) (fun _ h => by cases h) dX3_message_24
set_option maxHeartbeats 4000000 in
set_option maxRecDepth 100000 in
theorem k_message_no (l : Launch) (D : va_G) (cI cZ cN cO : ClassId) (A : Nat → Prop) (E : CE) (n bg : Nat) (σ : CS) (p0 p1 : Int32) (ok : cOK n bg σ) (hno : ¬ holds σ p0) : Met l yX3_message (.code yX3_message cX3_message 3 (some .int) :: gw) ({ frames := 2, cells := 0, slots := 0, locals := 44 }) (va_Pc (.ref (E.1 0) :: [.int p0, .int p1]) (cH D cI cZ cN cO A E n bg σ)) (vp_Si (fun r => r = -1)) 0 0 (fun _ => False) := by
  refine Met.ofW (cc := cX3_message) (maxL := 3) (ret := (some .int)) (by decide) rfl ?_
  intro p e s m args below meth c s₁ B hml hv
  obtain ⟨rfl, hP, hK, hD⟩ := hv
  have hx := B.exec
  have hb := B.bytes
  have hr := B.returns
  have hts := atoms_spec (ws := (.code yX3_message cX3_message 3 (some .int) :: gw)) B.pre
  have hg : ∀ w ∈ gw, w.before _ s = true := fun w h => hts w (List.mem_cons_of_mem _ h)
  have hown : s.vm.findClass RX3 = some m.cls := findClass_of_methodNamed B.named
  have hlocks := B.notSynchronized
  have C : Cx p c cX3_message s m _ RX3 D (gTy cI cZ cN cO) := ⟨hx, hb, hown, hg, hK⟩
  have w : cWd D cI cN cO A s.heap E n bg σ s.heap [] := ⟨hP, hD, va_S.rf⟩
  have hl := lv_entry ([.ref ((E.1 0)), .int p0, .int p1]) (n := 3) (Nat.le_of_ble_eq_true rfl)
  rw [lg_entry_eq]
  generalize (lg_sl ([.ref ((E.1 0)), .int p0, .int p1]) ++ List.replicate (3 - (lg_sl ([.ref ((E.1 0)), .int p0, .int p1])).length) Slot.unset).toArray = ls at hl ⊢
  have hl : lv_has ls 3 [(0, .ref ((E.1 0))), (1, .int p0), (2, .int p1)] := hl
  refine lv_aload_n hx hb dX3_message_0 rfl (lv_at hl 0 rfl) ?_
  refine c_gX3_1 C w kF_X3_23 dX3_message_1 ?_
  refine lv_iload_n hx hb dX3_message_4 rfl (lv_at hl 1 rfl) ?_
  refine c_callp (As := [.int p0]) (rest := []) C (c_preX2 C w) hml hl.1 (k_X2_holds l D cI cZ cN cO A E n bg _ p0 ok ) kM_X3_55 kI_X2_holds kS_X2_holds kN_X2 kD_X2_holds (show yX2_holds.cls = RX2 ∧ yX2_holds.cls ≠ "java/lang/invoke/MethodHandle" ∧ yX2_holds.cls ≠ "java/lang/invoke/VarHandle" ∧ (parseMethodDescriptor yX2_holds.desc).map (fun d => d.parameters.length) = some 1 from by decide +kernel) rfl rfl ⟨Nat.le_of_ble_eq_true rfl, Nat.le_of_ble_eq_true rfl⟩ rfl (lv_room (Nat.le_of_ble_eq_true rfl)) dX3_message_5 ⟨Nat.zero_le _, Nat.zero_le _⟩ (fun r_1 hr_1 => ?_)
  refine lv_if_eq (tgt := 23) hx hb dX3_message_8 (by decide) (fun c_8 => ?_) (fun c_8 => absurd (ite_ne0 hr_1 c_8) hno)
  refine lv_iconst (v := (-1)) hx hb dX3_message_23 (by decide) ?_
  exact W.iret hx hb hr (fun t ht hW => ⟨_, rfl, rfl, ht⟩) (fun _ h => by cases h) dX3_message_24
set_option maxHeartbeats 4000000 in
set_option maxRecDepth 100000 in
theorem k_vector_yes (l : Launch) (D : va_G) (cI cZ cN cO : ClassId) (A : Nat → Prop) (E : CE) (n bg : Nat) (σ : CS) (jq i : Nat) (ok : cOK n bg σ) (ha : jq < lnN σ) (hi : i < n) : Met l yX3_vector (.code yX3_vector cX3_vector 3 (some .int) :: gw) ({ frames := 2, cells := 0, slots := 0, locals := 44 }) (va_Pc (.ref (E.1 0) :: [.int (nI jq), .int (nI i)]) (cH D cI cZ cN cO A E n bg σ)) (vp_Si (fun r => r = if σ.2.1 1 0 2 (slN σ jq) = 1 ∨ σ.2.1 1 0 2 (slN σ jq) = 2 then σ.2.1 1 0 6 (slN σ jq * n + i) else -1)) 0 0 (fun _ => False) := by
  refine Met.ofW (cc := cX3_vector) (maxL := 3) (ret := (some .int)) (by decide) rfl ?_
  intro p e s m args below meth c s₁ B hml hv
  obtain ⟨rfl, hP, hK, hD⟩ := hv
  have hx := B.exec
  have hb := B.bytes
  have hr := B.returns
  have hts := atoms_spec (ws := (.code yX3_vector cX3_vector 3 (some .int) :: gw)) B.pre
  have hg : ∀ w ∈ gw, w.before _ s = true := fun w h => hts w (List.mem_cons_of_mem _ h)
  have hown : s.vm.findClass RX3 = some m.cls := findClass_of_methodNamed B.named
  have hlocks := B.notSynchronized
  have C : Cx p c cX3_vector s m _ RX3 D (gTy cI cZ cN cO) := ⟨hx, hb, hown, hg, hK⟩
  have w : cWd D cI cN cO A s.heap E n bg σ s.heap [] := ⟨hP, hD, va_S.rf⟩
  have hl := lv_entry ([.ref ((E.1 0)), .int (nI jq), .int (nI i)]) (n := 3) (Nat.le_of_ble_eq_true rfl)
  rw [lg_entry_eq]
  generalize (lg_sl ([.ref ((E.1 0)), .int (nI jq), .int (nI i)]) ++ List.replicate (3 - (lg_sl ([.ref ((E.1 0)), .int (nI jq), .int (nI i)])).length) Slot.unset).toArray = ls at hl ⊢
  have hl : lv_has ls 3 [(0, .ref ((E.1 0))), (1, .int (nI jq)), (2, .int (nI i))] := hl
  refine lv_aload_n hx hb dX3_vector_0 rfl (lv_at hl 0 rfl) ?_
  refine c_gX3_1 C w kF_X3_23 dX3_vector_1 ?_
  refine lv_iload_n hx hb dX3_vector_4 rfl (lv_at hl 1 rfl) ?_
  refine c_callp (As := [.int (nI jq)]) (rest := []) C (c_preX2 C w) hml hl.1 (k_X2_holds l D cI cZ cN cO A E n bg _ (nI jq) ok ) kM_X3_55 kI_X2_holds kS_X2_holds kN_X2 kD_X2_holds (show yX2_holds.cls = RX2 ∧ yX2_holds.cls ≠ "java/lang/invoke/MethodHandle" ∧ yX2_holds.cls ≠ "java/lang/invoke/VarHandle" ∧ (parseMethodDescriptor yX2_holds.desc).map (fun d => d.parameters.length) = some 1 from by decide +kernel) rfl rfl ⟨Nat.le_of_ble_eq_true rfl, Nat.le_of_ble_eq_true rfl⟩ rfl (lv_room (Nat.le_of_ble_eq_true rfl)) dX3_vector_5 ⟨Nat.zero_le _, Nat.zero_le _⟩ (fun r_1 hr_1 => ?_)
  refine lv_if_eq (tgt := 31) hx hb dX3_vector_8 (by decide) (fun c_8 => absurd (holds_k ok ha) (ite_eq0 hr_1 c_8)) (fun c_8 => ?_)
  refine lv_aload_n hx hb dX3_vector_11 rfl (lv_at hl 0 rfl) ?_
  refine lv_iload_n hx hb dX3_vector_12 rfl (lv_at hl 2 rfl) ?_
  refine c_callp (As := [.int (nI i)]) (rest := []) C (c_preX3 C w) hml hl.1 (k_X3_isNode l D cI cZ cN cO A E n bg _ (nI i) ok ) kM_X3_33 kI_X3_isNode kS_X3_isNode kN_X3 kD_X3_isNode (show yX3_isNode.cls = RX3 ∧ yX3_isNode.cls ≠ "java/lang/invoke/MethodHandle" ∧ yX3_isNode.cls ≠ "java/lang/invoke/VarHandle" ∧ (parseMethodDescriptor yX3_isNode.desc).map (fun d => d.parameters.length) = some 1 from by decide +kernel) rfl rfl ⟨Nat.le_of_ble_eq_true rfl, Nat.le_of_ble_eq_true rfl⟩ rfl (lv_room (Nat.le_of_ble_eq_true rfl)) dX3_vector_13 ⟨Nat.zero_le _, Nat.zero_le _⟩ (fun r_2 hr_2 => ?_)
  refine lv_if_eq (tgt := 31) hx hb dX3_vector_16 (by decide) (fun c_16 => absurd (show isN n (nI i) from isN_k hi ok) (ite_eq0 hr_2 c_16)) (fun c_16 => ?_)
  refine lv_aload_n hx hb dX3_vector_19 rfl (lv_at hl 0 rfl) ?_
  refine c_gX3_1 C w kF_X3_23 dX3_vector_20 ?_
  refine lv_iload_n hx hb dX3_vector_23 rfl (lv_at hl 1 rfl) ?_
  refine lv_iload_n hx hb dX3_vector_24 rfl (lv_at hl 2 rfl) ?_
  refine c_callp (As := [.int (nI jq), .int (nI i)]) (rest := []) C (c_preX2 C w) hml hl.1 (k_X2_numberOf l D cI cZ cN cO A E n bg _ jq i ok (by have := ok.lnn.2; omega) hi) kM_X3_103 kI_X2_numberOf kS_X2_numberOf kN_X2 kD_X2_numberOf (show yX2_numberOf.cls = RX2 ∧ yX2_numberOf.cls ≠ "java/lang/invoke/MethodHandle" ∧ yX2_numberOf.cls ≠ "java/lang/invoke/VarHandle" ∧ (parseMethodDescriptor yX2_numberOf.desc).map (fun d => d.parameters.length) = some 2 from by decide +kernel) rfl rfl ⟨Nat.le_of_ble_eq_true rfl, Nat.le_of_ble_eq_true rfl⟩ rfl (lv_room (Nat.le_of_ble_eq_true rfl)) dX3_vector_25 ⟨Nat.zero_le _, Nat.zero_le _⟩ (fun r_3 hr_3 => ?_)
  refine lv_goto (tgt := 32) hx hb dX3_vector_28 (by decide) ?_
  exact W.iret hx hb hr (fun t ht hW => ⟨_, rfl, hr_3, ht⟩) (fun _ h => by cases h) dX3_vector_32
set_option maxHeartbeats 4000000 in
set_option maxRecDepth 100000 in
theorem k_vector_no (l : Launch) (D : va_G) (cI cZ cN cO : ClassId) (A : Nat → Prop) (E : CE) (n bg : Nat) (σ : CS) (p0 p1 : Int32) (ok : cOK n bg σ) (hno : ¬ (holds σ p0 ∧ isN n p1)) : Met l yX3_vector (.code yX3_vector cX3_vector 3 (some .int) :: gw) ({ frames := 2, cells := 0, slots := 0, locals := 44 }) (va_Pc (.ref (E.1 0) :: [.int p0, .int p1]) (cH D cI cZ cN cO A E n bg σ)) (vp_Si (fun r => r = -1)) 0 0 (fun _ => False) := by
  refine Met.ofW (cc := cX3_vector) (maxL := 3) (ret := (some .int)) (by decide) rfl ?_
  intro p e s m args below meth c s₁ B hml hv
  obtain ⟨rfl, hP, hK, hD⟩ := hv
  have hx := B.exec
  have hb := B.bytes
  have hr := B.returns
  have hts := atoms_spec (ws := (.code yX3_vector cX3_vector 3 (some .int) :: gw)) B.pre
  have hg : ∀ w ∈ gw, w.before _ s = true := fun w h => hts w (List.mem_cons_of_mem _ h)
  have hown : s.vm.findClass RX3 = some m.cls := findClass_of_methodNamed B.named
  have hlocks := B.notSynchronized
  have C : Cx p c cX3_vector s m _ RX3 D (gTy cI cZ cN cO) := ⟨hx, hb, hown, hg, hK⟩
  have w : cWd D cI cN cO A s.heap E n bg σ s.heap [] := ⟨hP, hD, va_S.rf⟩
  have hl := lv_entry ([.ref ((E.1 0)), .int p0, .int p1]) (n := 3) (Nat.le_of_ble_eq_true rfl)
  rw [lg_entry_eq]
  generalize (lg_sl ([.ref ((E.1 0)), .int p0, .int p1]) ++ List.replicate (3 - (lg_sl ([.ref ((E.1 0)), .int p0, .int p1])).length) Slot.unset).toArray = ls at hl ⊢
  have hl : lv_has ls 3 [(0, .ref ((E.1 0))), (1, .int p0), (2, .int p1)] := hl
  refine lv_aload_n hx hb dX3_vector_0 rfl (lv_at hl 0 rfl) ?_
  refine c_gX3_1 C w kF_X3_23 dX3_vector_1 ?_
  refine lv_iload_n hx hb dX3_vector_4 rfl (lv_at hl 1 rfl) ?_
  refine c_callp (As := [.int p0]) (rest := []) C (c_preX2 C w) hml hl.1 (k_X2_holds l D cI cZ cN cO A E n bg _ p0 ok ) kM_X3_55 kI_X2_holds kS_X2_holds kN_X2 kD_X2_holds (show yX2_holds.cls = RX2 ∧ yX2_holds.cls ≠ "java/lang/invoke/MethodHandle" ∧ yX2_holds.cls ≠ "java/lang/invoke/VarHandle" ∧ (parseMethodDescriptor yX2_holds.desc).map (fun d => d.parameters.length) = some 1 from by decide +kernel) rfl rfl ⟨Nat.le_of_ble_eq_true rfl, Nat.le_of_ble_eq_true rfl⟩ rfl (lv_room (Nat.le_of_ble_eq_true rfl)) dX3_vector_5 ⟨Nat.zero_le _, Nat.zero_le _⟩ (fun r_1 hr_1 => ?_)
  refine lv_if_eq (tgt := 31) hx hb dX3_vector_8 (by decide) (fun c_8 => ?_) (fun c_8 => ?_)
  · refine lv_iconst (v := (-1)) hx hb dX3_vector_31 (by decide) ?_
    exact W.iret hx hb hr (fun t ht hW => ⟨_, rfl, rfl, ht⟩) (fun _ h => by cases h) dX3_vector_32
  · refine lv_aload_n hx hb dX3_vector_11 rfl (lv_at hl 0 rfl) ?_
    refine lv_iload_n hx hb dX3_vector_12 rfl (lv_at hl 2 rfl) ?_
    refine c_callp (As := [.int p1]) (rest := []) C (c_preX3 C w) hml hl.1 (k_X3_isNode l D cI cZ cN cO A E n bg _ p1 ok ) kM_X3_33 kI_X3_isNode kS_X3_isNode kN_X3 kD_X3_isNode (show yX3_isNode.cls = RX3 ∧ yX3_isNode.cls ≠ "java/lang/invoke/MethodHandle" ∧ yX3_isNode.cls ≠ "java/lang/invoke/VarHandle" ∧ (parseMethodDescriptor yX3_isNode.desc).map (fun d => d.parameters.length) = some 1 from by decide +kernel) rfl rfl ⟨Nat.le_of_ble_eq_true rfl, Nat.le_of_ble_eq_true rfl⟩ rfl (lv_room (Nat.le_of_ble_eq_true rfl)) dX3_vector_13 ⟨Nat.zero_le _, Nat.zero_le _⟩ (fun r_2 hr_2 => ?_)
    refine lv_if_eq (tgt := 31) hx hb dX3_vector_16 (by decide) (fun c_16 => ?_) (fun c_16 => absurd ⟨ite_ne0 hr_1 c_8, ite_ne0 hr_2 c_16⟩ hno)
    refine lv_iconst (v := (-1)) hx hb dX3_vector_31 (by decide) ?_
    exact W.iret hx hb hr (fun t ht hW => ⟨_, rfl, rfl, ht⟩) (fun _ h => by cases h) dX3_vector_32
set_option maxHeartbeats 4000000 in
set_option maxRecDepth 100000 in
theorem kl_up {p : Program} {l : Launch} {e : Env} {R : Room} {s : State} {m : MethodId} {args : Array Value} {below : List Frame} {meth : Method} {c : Code} {cells slots : Nat} {Q : State → Prop} {D : va_G} {cI cZ cN cO : ClassId} {A : Nat → Prop} {H0 : Heap} {E : CE} {n bg : Nat} {H : Heap} {locs : List Loc} (C : Cx p c cX3_nodesUp s m args RX3 D (gTy cI cZ cN cO)) (hml : c.maxLocals = 6) {σ : CS} (w : cWd D cI cN cO A H0 E n bg σ H locs) (ok : cOK n bg σ) (hn : n ≤ 31) (kk : ∀ (v : Int32), ∀ ls : Array Slot, lv_has ls 6 [(4, .int (nI n)), (3, .int (nI n)), (2, .ref ((E.1 1))), (1, .int v)] → W p l e R s m args below meth c H locs cells slots Q (F0 m 42 ls [])) : ∀ (fu i : Nat), i + fu = n → ∀ (v : Int32), ∀ ls : Array Slot, lv_has ls 6 [(4, .int (nI i)), (3, .int (nI n)), (2, .ref ((E.1 1))), (1, .int v)] → W p l e R s m args below meth c H locs cells slots Q (F0 m 13 ls []) := by
  intro fu
  induction fu with
  | zero =>
    intro i hik
    intro v ls hl
    have hx := C.1
    have hb := C.2.1
    have hi : n = i := by omega
    subst hi
    refine lv_iload hx hb dX3_nodesUp_13 (lv_at hl 0 rfl) ?_
    refine lv_iload_n hx hb dX3_nodesUp_15 rfl (lv_at hl 1 rfl) ?_
    refine lv_icmp_ge (tgt := 42) hx hb dX3_nodesUp_16 (by decide) (fun c_16 => ?_) (fun c_16 => absurd (Int32.le_refl _) c_16)
    exact kk v ls (lv_sub hl [0, 1, 2, 3] rfl)
  | succ fu ih =>
    intro i hik
    intro v ls hl
    have hx := C.1
    have hb := C.2.1
    have hi : i < n := by omega
    refine lv_iload hx hb dX3_nodesUp_13 (lv_at hl 0 rfl) ?_
    refine lv_iload_n hx hb dX3_nodesUp_15 rfl (lv_at hl 1 rfl) ?_
    refine lv_icmp_ge (tgt := 42) hx hb dX3_nodesUp_16 (by decide) (fun c_16 => absurd c_16 (nI_ge hi (by omega))) (fun c_16 => ?_)
    refine lv_aload_n hx hb dX3_nodesUp_19 rfl (lv_at hl 2 rfl) ?_
    refine lv_iload hx hb dX3_nodesUp_20 (lv_at hl 0 rfl) ?_
    refine c_lNA (k := i) C w hi ok.n dX3_nodesUp_22 ?_
    refine lv_astore (lv' := [(5, _), (4, _), (3, _), (2, _), (1, _)]) C.1 C.2.1 dX3_nodesUp_23 hl (by decide) rfl (fun ls hl => ?_)
    refine lv_aload hx hb dX3_nodesUp_25 (lv_at hl 0 rfl) ?_
    refine c_gX0_6 C w hi kF_X3_66 dX3_nodesUp_27 ?_
    refine lv_topi (fun t_1 et_1 => ?_)
    refine lv_if_eq (tgt := 36) hx hb dX3_nodesUp_30 (by decide) (fun c_30 => ?_) (fun c_30 => ?_)
    · obtain ⟨x_2, ex_2⟩ : ∃ y : Int32, y = (nI i) + 1 := ⟨_, rfl⟩
      refine lv_iinc (v := x_2) (lv' := [(4, _), (5, _), (3, _), (2, _), (1, _)]) C.1 C.2.1 dX3_nodesUp_36 hl (k := 1) rfl (by rw [ex_2]; rfl) (by decide) rfl (fun ls hl => ?_)
      refine lv_goto (tgt := 13) hx hb dX3_nodesUp_39 (by decide) ?_
      have hx2 : x_2 = nI (i + 1) := by rw [ex_2]; exact nI_1 i
      rw [hx2] at hl
      exact ih (i + 1) (by omega) v ls (lv_sub hl [0, 2, 3, 4] rfl)
    · obtain ⟨x_3, ex_3⟩ : ∃ y : Int32, y = v + 1 := ⟨_, rfl⟩
      refine lv_iinc (v := x_3) (lv' := [(1, _), (5, _), (4, _), (3, _), (2, _)]) C.1 C.2.1 dX3_nodesUp_33 hl (k := 4) rfl (by rw [ex_3]; rfl) (by decide) rfl (fun ls hl => ?_)
      obtain ⟨x_4, ex_4⟩ : ∃ y : Int32, y = (nI i) + 1 := ⟨_, rfl⟩
      refine lv_iinc (v := x_4) (lv' := [(4, _), (1, _), (5, _), (3, _), (2, _)]) C.1 C.2.1 dX3_nodesUp_36 hl (k := 2) rfl (by rw [ex_4]; rfl) (by decide) rfl (fun ls hl => ?_)
      refine lv_goto (tgt := 13) hx hb dX3_nodesUp_39 (by decide) ?_
      have hx2 : x_4 = nI (i + 1) := by rw [ex_4]; exact nI_1 i
      rw [hx2] at hl
      exact ih (i + 1) (by omega) x_3 ls (lv_sub hl [0, 3, 4, 1] rfl)
set_option maxHeartbeats 4000000 in
set_option maxRecDepth 100000 in
theorem k_X3_nodesUp (l : Launch) (D : va_G) (cI cZ cN cO : ClassId) (A : Nat → Prop) (E : CE) (n bg : Nat) (σ : CS)  (ok : cOK n bg σ)  : Met l yX3_nodesUp (.code yX3_nodesUp cX3_nodesUp 6 (some .int) :: gw) ({ frames := 0, cells := 0, slots := 0, locals := 0 }) (va_Pc (.ref (E.1 0) :: []) (cH D cI cZ cN cO A E n bg σ)) (vp_Si (fun r => True)) 0 0 (fun _ => False) := by
  refine Met.ofW (cc := cX3_nodesUp) (maxL := 6) (ret := (some .int)) (by decide) rfl ?_
  intro p e s m args below meth c s₁ B hml hv
  obtain ⟨rfl, hP, hK, hD⟩ := hv
  have hx := B.exec
  have hb := B.bytes
  have hr := B.returns
  have hts := atoms_spec (ws := (.code yX3_nodesUp cX3_nodesUp 6 (some .int) :: gw)) B.pre
  have hg : ∀ w ∈ gw, w.before _ s = true := fun w h => hts w (List.mem_cons_of_mem _ h)
  have hown : s.vm.findClass RX3 = some m.cls := findClass_of_methodNamed B.named
  have hlocks := B.notSynchronized
  have C : Cx p c cX3_nodesUp s m _ RX3 D (gTy cI cZ cN cO) := ⟨hx, hb, hown, hg, hK⟩
  have w : cWd D cI cN cO A s.heap E n bg σ s.heap [] := ⟨hP, hD, va_S.rf⟩
  have hl := lv_entry ([.ref ((E.1 0))]) (n := 6) (Nat.le_of_ble_eq_true rfl)
  rw [lg_entry_eq]
  generalize (lg_sl ([.ref ((E.1 0))]) ++ List.replicate (6 - (lg_sl ([.ref ((E.1 0))])).length) Slot.unset).toArray = ls at hl ⊢
  have hl : lv_has ls 6 [(0, .ref ((E.1 0)))] := hl
  refine lv_iconst (v := 0) hx hb dX3_nodesUp_0 (by decide) ?_
  refine lv_istore_n (lv' := [(1, _), (0, _)]) C.1 C.2.1 dX3_nodesUp_1 rfl hl (by decide) rfl (fun ls hl => ?_)
  refine lv_aload_n hx hb dX3_nodesUp_2 rfl (lv_at hl 1 rfl) ?_
  refine c_gX3_0 C w kF_X3_11 dX3_nodesUp_3 ?_
  refine lv_astore_n (lv' := [(2, _), (1, _), (0, _)]) C.1 C.2.1 dX3_nodesUp_6 rfl hl (by decide) rfl (fun ls hl => ?_)
  refine lv_aload_n hx hb dX3_nodesUp_7 rfl (lv_at hl 0 rfl) ?_
  refine c_nNA C w dX3_nodesUp_8 ?_
  refine lv_istore_n (lv' := [(3, _), (2, _), (1, _), (0, _)]) C.1 C.2.1 dX3_nodesUp_9 rfl hl (by decide) rfl (fun ls hl => ?_)
  refine lv_iconst (v := 0) hx hb dX3_nodesUp_10 (by decide) ?_
  refine lv_istore (lv' := [(4, _), (3, _), (2, _), (1, _), (0, _)]) C.1 C.2.1 dX3_nodesUp_11 hl (by decide) rfl (fun ls hl => ?_)
  have hl := lv_sub hl (l' := [(4, .int (nI 0)), (3, .int (nI n)), (2, .ref (E.1 1)), (1, .int 0)]) [0, 1, 2, 3] (by rw [nI_0]; rfl)
  refine kl_up C hml w ok ok.2.1 ?_ n 0 (by omega) 0 ls (lv_sub hl [0, 1, 2, 3] rfl)
  intro v ls hl
  refine lv_iload_n hx hb dX3_nodesUp_42 rfl (lv_at hl 3 rfl) ?_
  exact W.iret hx hb hr (fun t ht hW => ⟨_, rfl, trivial, ht⟩) (fun _ h => by cases h) dX3_nodesUp_43
set_option maxHeartbeats 4000000 in
set_option maxRecDepth 100000 in
theorem k_X3_count (l : Launch) (D : va_G) (cI cZ cN cO : ClassId) (A : Nat → Prop) (E : CE) (n bg : Nat) (σ : CS) (p1 : Int32) (ok : cOK n bg σ)  : Met l yX3_count (.code yX3_count cX3_count 2 (some .int) :: gw) ({ frames := 1, cells := 0, slots := 0, locals := 25 }) (va_Pc (.ref (E.1 0) :: [.int p1]) (cH D cI cZ cN cO A E n bg σ)) (vp_Si (fun r => True)) 0 0 (fun _ => False) := by
  refine Met.ofW (cc := cX3_count) (maxL := 2) (ret := (some .int)) (by decide) rfl ?_
  intro p e s m args below meth c s₁ B hml hv
  obtain ⟨rfl, hP, hK, hD⟩ := hv
  have hx := B.exec
  have hb := B.bytes
  have hr := B.returns
  have hts := atoms_spec (ws := (.code yX3_count cX3_count 2 (some .int) :: gw)) B.pre
  have hg : ∀ w ∈ gw, w.before _ s = true := fun w h => hts w (List.mem_cons_of_mem _ h)
  have hown : s.vm.findClass RX3 = some m.cls := findClass_of_methodNamed B.named
  have hlocks := B.notSynchronized
  have C : Cx p c cX3_count s m _ RX3 D (gTy cI cZ cN cO) := ⟨hx, hb, hown, hg, hK⟩
  have w : cWd D cI cN cO A s.heap E n bg σ s.heap [] := ⟨hP, hD, va_S.rf⟩
  have hl := lv_entry ([.ref ((E.1 0)), .int p1]) (n := 2) (Nat.le_of_ble_eq_true rfl)
  rw [lg_entry_eq]
  generalize (lg_sl ([.ref ((E.1 0)), .int p1]) ++ List.replicate (2 - (lg_sl ([.ref ((E.1 0)), .int p1])).length) Slot.unset).toArray = ls at hl ⊢
  have hl : lv_has ls 2 [(0, .ref ((E.1 0))), (1, .int p1)] := hl
  refine lv_iload_n hx hb dX3_count_0 rfl (lv_at hl 1 rfl) ?_
  rcases gSw p1 9 9 rfl (by decide) with hsw | ⟨j, hj, hjx⟩
  · refine lv_tableOut (tgt := 113) hx hb dX3_count_1 hsw (by decide) ?_
    refine lv_iconst (v := (-1)) hx hb dX3_count_113 (by decide) ?_
    exact W.iret hx hb hr (fun t ht hW => ⟨_, rfl, trivial, ht⟩) (fun _ h => by cases h) dX3_count_114
  · rcases (show j = 0 ∨ j = 1 ∨ j = 2 ∨ j = 3 ∨ j = 4 ∨ j = 5 ∨ j = 6 ∨ j = 7 ∨ j = 8 ∨ j = 9 by omega) with hj0 | hj0 | hj0 | hj0 | hj0 | hj0 | hj0 | hj0 | hj0 | hj0
    · rw [hj0] at hjx
      subst hjx
      refine lv_tableIn (off := 55) (tgt := 56) hx hb dX3_count_1 (by decide +kernel) (by decide +kernel) (by decide +kernel) (by decide) ?_
      refine lv_aload_n hx hb dX3_count_56 rfl (lv_at hl 0 rfl) ?_
      refine c_gX3_0 C w kF_X3_11 dX3_count_57 ?_
      refine c_nNA C w dX3_count_60 ?_
      exact W.iret hx hb hr (fun t ht hW => ⟨_, rfl, trivial, ht⟩) (fun _ h => by cases h) dX3_count_61
    · rw [hj0] at hjx
      subst hjx
      refine lv_tableIn (off := 61) (tgt := 62) hx hb dX3_count_1 (by decide +kernel) (by decide +kernel) (by decide +kernel) (by decide) ?_
      refine lv_aload_n hx hb dX3_count_62 rfl (lv_at hl 0 rfl) ?_
      refine c_callp (As := []) (rest := []) C (c_preX3 C w) hml hl.1 (k_X3_nodesUp l D cI cZ cN cO A E n bg _  ok ) kM_X3_106 kI_X3_nodesUp kS_X3_nodesUp kN_X3 kD_X3_nodesUp (show yX3_nodesUp.cls = RX3 ∧ yX3_nodesUp.cls ≠ "java/lang/invoke/MethodHandle" ∧ yX3_nodesUp.cls ≠ "java/lang/invoke/VarHandle" ∧ (parseMethodDescriptor yX3_nodesUp.desc).map (fun d => d.parameters.length) = some 0 from by decide +kernel) rfl rfl ⟨Nat.le_of_ble_eq_true rfl, Nat.le_of_ble_eq_true rfl⟩ rfl (lv_room (Nat.le_of_ble_eq_true rfl)) dX3_count_63 ⟨Nat.zero_le _, Nat.zero_le _⟩ (fun r_1 hr_1 => ?_)
      exact W.iret hx hb hr (fun t ht hW => ⟨_, rfl, trivial, ht⟩) (fun _ h => by cases h) dX3_count_66
    · rw [hj0] at hjx
      subst hjx
      refine lv_tableIn (off := 66) (tgt := 67) hx hb dX3_count_1 (by decide +kernel) (by decide +kernel) (by decide +kernel) (by decide) ?_
      refine lv_aload_n hx hb dX3_count_67 rfl (lv_at hl 0 rfl) ?_
      refine c_gX3_1 C w kF_X3_23 dX3_count_68 ?_
      refine c_gX2_8 C w kF_X3_110 dX3_count_71 ?_
      refine lv_topi (fun t_2 et_2 => ?_)
      exact W.iret hx hb hr (fun t ht hW => ⟨_, rfl, trivial, ht⟩) (fun _ h => by cases h) dX3_count_74
    · rw [hj0] at hjx
      subst hjx
      refine lv_tableIn (off := 74) (tgt := 75) hx hb dX3_count_1 (by decide +kernel) (by decide +kernel) (by decide +kernel) (by decide) ?_
      refine lv_aload_n hx hb dX3_count_75 rfl (lv_at hl 0 rfl) ?_
      refine c_gX3_1 C w kF_X3_23 dX3_count_76 ?_
      refine c_gX2_9 C w kF_X3_113 dX3_count_79 ?_
      refine lv_topi (fun t_3 et_3 => ?_)
      exact W.iret hx hb hr (fun t ht hW => ⟨_, rfl, trivial, ht⟩) (fun _ h => by cases h) dX3_count_82
    · rw [hj0] at hjx
      subst hjx
      refine lv_tableIn (off := 82) (tgt := 83) hx hb dX3_count_1 (by decide +kernel) (by decide +kernel) (by decide +kernel) (by decide) ?_
      refine lv_aload_n hx hb dX3_count_83 rfl (lv_at hl 0 rfl) ?_
      refine c_gX3_6 C w kF_X3_116 dX3_count_84 ?_
      refine lv_topi (fun t_4 et_4 => ?_)
      exact W.iret hx hb hr (fun t ht hW => ⟨_, rfl, trivial, ht⟩) (fun _ h => by cases h) dX3_count_87
    · rw [hj0] at hjx
      subst hjx
      refine lv_tableIn (off := 87) (tgt := 88) hx hb dX3_count_1 (by decide +kernel) (by decide +kernel) (by decide +kernel) (by decide) ?_
      refine lv_aload_n hx hb dX3_count_88 rfl (lv_at hl 0 rfl) ?_
      refine c_gX3_3 C w kF_X3_119 dX3_count_89 ?_
      refine lv_topi (fun t_5 et_5 => ?_)
      exact W.iret hx hb hr (fun t ht hW => ⟨_, rfl, trivial, ht⟩) (fun _ h => by cases h) dX3_count_92
    · rw [hj0] at hjx
      subst hjx
      refine lv_tableIn (off := 92) (tgt := 93) hx hb dX3_count_1 (by decide +kernel) (by decide +kernel) (by decide +kernel) (by decide) ?_
      refine lv_aload_n hx hb dX3_count_93 rfl (lv_at hl 0 rfl) ?_
      refine c_gX3_4 C w kF_X3_122 dX3_count_94 ?_
      refine lv_topi (fun t_6 et_6 => ?_)
      exact W.iret hx hb hr (fun t ht hW => ⟨_, rfl, trivial, ht⟩) (fun _ h => by cases h) dX3_count_97
    · rw [hj0] at hjx
      subst hjx
      refine lv_tableIn (off := 97) (tgt := 98) hx hb dX3_count_1 (by decide +kernel) (by decide +kernel) (by decide +kernel) (by decide) ?_
      refine lv_aload_n hx hb dX3_count_98 rfl (lv_at hl 0 rfl) ?_
      refine c_gX3_5 C w kF_X3_70 dX3_count_99 ?_
      refine lv_topi (fun t_7 et_7 => ?_)
      exact W.iret hx hb hr (fun t ht hW => ⟨_, rfl, trivial, ht⟩) (fun _ h => by cases h) dX3_count_102
    · rw [hj0] at hjx
      subst hjx
      refine lv_tableIn (off := 102) (tgt := 103) hx hb dX3_count_1 (by decide +kernel) (by decide +kernel) (by decide +kernel) (by decide) ?_
      refine lv_aload_n hx hb dX3_count_103 rfl (lv_at hl 0 rfl) ?_
      refine c_gX3_7 C w kF_X3_125 dX3_count_104 ?_
      refine lv_topi (fun t_8 et_8 => ?_)
      exact W.iret hx hb hr (fun t ht hW => ⟨_, rfl, trivial, ht⟩) (fun _ h => by cases h) dX3_count_107
    · rw [hj0] at hjx
      subst hjx
      refine lv_tableIn (off := 107) (tgt := 108) hx hb dX3_count_1 (by decide +kernel) (by decide +kernel) (by decide +kernel) (by decide) ?_
      refine lv_aload_n hx hb dX3_count_108 rfl (lv_at hl 0 rfl) ?_
      refine c_gX3_8 C w kF_X3_128 dX3_count_109 ?_
      refine lv_topi (fun t_9 et_9 => ?_)
      exact W.iret hx hb hr (fun t ht hW => ⟨_, rfl, trivial, ht⟩) (fun _ h => by cases h) dX3_count_112
