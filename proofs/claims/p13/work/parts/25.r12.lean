set_option maxHeartbeats 4000000 in
set_option maxRecDepth 100000 in
theorem q_update_no (l : Launch) (D : va_G) (cI cZ cN cO : ClassId) (A : Nat → Prop) (mm : Nat) (d : Nat → Nat) (n : Nat) (σ : RS) (k p1 p2 p3 : Int32) (ok : rOK n σ) (hno : ¬ isN n k) : Met l yX4_update (.code yX4_update cX4_update 5 (some .int) :: gw) ({ frames := 4, cells := 0, slots := 0, locals := 99 }) (va_Pc (.ref mm :: [.int k, .int p1, .int p2, .int p3]) (rH D cI cZ cN cO A mm d σ)) (va_Qi (fun (r : Int32) (_ : Unit) => r = 0) (fun _ t => rH D cI cZ cN cO A mm d (rI σ 1 1) t ∧ rOK n (rI σ 1 1)) A) 0 0 A := by
  refine Met.ofW (cc := cX4_update) (maxL := 5) (ret := (some .int)) (by decide) rfl ?_
  intro p e s m args below meth c s₁ B hml hv
  obtain ⟨rfl, hP, hK, hD⟩ := hv
  have hx := B.exec
  have hb := B.bytes
  have hr := B.returns
  have hts := atoms_spec (ws := (.code yX4_update cX4_update 5 (some .int) :: gw)) B.pre
  have hg : ∀ w ∈ gw, w.before _ s = true := fun w h => hts w (List.mem_cons_of_mem _ h)
  have hown : s.vm.findClass RX4 = some m.cls := findClass_of_methodNamed B.named
  have hlocks := B.notSynchronized
  have C : Cx p c cX4_update s m _ RX4 D (gTy cI cZ cN cO) := ⟨hx, hb, hown, hg, hK⟩
  have w : rWd D cI cZ A s.heap mm d σ s.heap [] := ⟨hP, hD, va_S.rf⟩
  have hl := lv_entry ([.ref mm, .int k, .int p1, .int p2, .int p3]) (n := 5) (Nat.le_of_ble_eq_true rfl)
  rw [lg_entry_eq]
  generalize (lg_sl ([.ref mm, .int k, .int p1, .int p2, .int p3]) ++ List.replicate (5 - (lg_sl ([.ref mm, .int k, .int p1, .int p2, .int p3])).length) Slot.unset).toArray = ls at hl ⊢
  have hl : lv_has ls 5 [(0, .ref mm), (1, .int k), (2, .int p1), (3, .int p2), (4, .int p3)] := hl
  refine lv_aload_n hx hb dX4_update_0 rfl (lv_at hl 0 rfl) ?_
  refine lv_aload_n hx hb dX4_update_1 rfl (lv_at hl 0 rfl) ?_
  refine lv_iload_n hx hb dX4_update_2 rfl (lv_at hl 1 rfl) ?_
  refine r_callp (As := [.int k]) (rest := [.ref mm]) C w hml hl.1 (q_isNode l D cI cZ cN cO A mm d n _ k ok ) kM_X4_143 kI_X4_isNode kS_X4_isNode kD_X4_isNode (show yX4_isNode.cls = RX4 ∧ yX4_isNode.cls ≠ "java/lang/invoke/MethodHandle" ∧ yX4_isNode.cls ≠ "java/lang/invoke/VarHandle" ∧ (parseMethodDescriptor yX4_isNode.desc).map (fun d => d.parameters.length) = some 1 from by decide +kernel) rfl rfl ⟨Nat.le_of_ble_eq_true rfl, Nat.le_of_ble_eq_true rfl⟩ rfl (lv_room (Nat.le_of_ble_eq_true rfl)) dX4_update_3 ⟨Nat.zero_le _, Nat.zero_le _⟩ (fun r_1 hr_1 => ?_)
  refine lv_if_ne (tgt := 13) hx hb dX4_update_6 (by decide) (fun c_6 => absurd (ite_ne0 hr_1 c_6) hno) (fun c_6 => ?_)
  refine lv_iconst (v := 1) hx hb dX4_update_9 (by decide) ?_
  refine lv_goto (tgt := 27) hx hb dX4_update_10 (by decide) ?_
  refine r_put_1 C w dX4_update_27 (fun H locs w => ?_)
  have ok : rOK n _ := rOK.put ok (k := 1) (v := 1) (by decide) (fun h => absurd h (by decide)) (fun h => absurd h (by decide))
  refine lv_aload_n hx hb dX4_update_30 rfl (lv_at hl 0 rfl) ?_
  refine r_get_1 C w dX4_update_31 ?_
  refine lv_topi (fun t_2 et_2 => ?_)
  refine lv_if_le (tgt := 41) hx hb dX4_update_34 (by decide) (fun c_34 => absurd (by rw [et_2] at c_34; exact c_34) (show ¬ ((1 : Int32) ≤ 0) by decide)) (fun c_34 => ?_)
  refine lv_iconst (v := 0) hx hb dX4_update_37 (by decide) ?_
  refine lv_goto (tgt := 50) hx hb dX4_update_38 (by decide) ?_
  subst et_2
  exact W.iret hx hb hr (fun t ht hW => ⟨⟨_, (), rfl, rfl, ⟨by rw [ht]; exact w.1, va_K.moved hW.alike hK, w.2.1⟩, ok⟩, w.2.2.F ht⟩) w.2.2.2.2 dX4_update_50
set_option maxHeartbeats 4000000 in
set_option maxRecDepth 100000 in
theorem q_update_bad (l : Launch) (D : va_G) (cI cZ cN cO : ClassId) (A : Nat → Prop) (mm : Nat) (d : Nat → Nat) (n : Nat) (σ : RS) (k p1 p2 p3 : Int32) (ok : rOK n σ) (hy : isN n k) (hbad : p1 < 0 ∨ ¬ p1 ≤ 3) : Met l yX4_update (.code yX4_update cX4_update 5 (some .int) :: gw) ({ frames := 4, cells := 0, slots := 0, locals := 99 }) (va_Pc (.ref mm :: [.int k, .int p1, .int p2, .int p3]) (rH D cI cZ cN cO A mm d σ)) (va_Qi (fun (r : Int32) (_ : Unit) => r = 0) (fun _ t => rH D cI cZ cN cO A mm d (rI σ 1 2) t ∧ rOK n (rI σ 1 2)) A) 0 0 A := by
  refine Met.ofW (cc := cX4_update) (maxL := 5) (ret := (some .int)) (by decide) rfl ?_
  intro p e s m args below meth c s₁ B hml hv
  obtain ⟨rfl, hP, hK, hD⟩ := hv
  have hx := B.exec
  have hb := B.bytes
  have hr := B.returns
  have hts := atoms_spec (ws := (.code yX4_update cX4_update 5 (some .int) :: gw)) B.pre
  have hg : ∀ w ∈ gw, w.before _ s = true := fun w h => hts w (List.mem_cons_of_mem _ h)
  have hown : s.vm.findClass RX4 = some m.cls := findClass_of_methodNamed B.named
  have hlocks := B.notSynchronized
  have C : Cx p c cX4_update s m _ RX4 D (gTy cI cZ cN cO) := ⟨hx, hb, hown, hg, hK⟩
  have w : rWd D cI cZ A s.heap mm d σ s.heap [] := ⟨hP, hD, va_S.rf⟩
  have hl := lv_entry ([.ref mm, .int k, .int p1, .int p2, .int p3]) (n := 5) (Nat.le_of_ble_eq_true rfl)
  rw [lg_entry_eq]
  generalize (lg_sl ([.ref mm, .int k, .int p1, .int p2, .int p3]) ++ List.replicate (5 - (lg_sl ([.ref mm, .int k, .int p1, .int p2, .int p3])).length) Slot.unset).toArray = ls at hl ⊢
  have hl : lv_has ls 5 [(0, .ref mm), (1, .int k), (2, .int p1), (3, .int p2), (4, .int p3)] := hl
  refine lv_aload_n hx hb dX4_update_0 rfl (lv_at hl 0 rfl) ?_
  refine lv_aload_n hx hb dX4_update_1 rfl (lv_at hl 0 rfl) ?_
  refine lv_iload_n hx hb dX4_update_2 rfl (lv_at hl 1 rfl) ?_
  refine r_callp (As := [.int k]) (rest := [.ref mm]) C w hml hl.1 (q_isNode l D cI cZ cN cO A mm d n _ k ok ) kM_X4_143 kI_X4_isNode kS_X4_isNode kD_X4_isNode (show yX4_isNode.cls = RX4 ∧ yX4_isNode.cls ≠ "java/lang/invoke/MethodHandle" ∧ yX4_isNode.cls ≠ "java/lang/invoke/VarHandle" ∧ (parseMethodDescriptor yX4_isNode.desc).map (fun d => d.parameters.length) = some 1 from by decide +kernel) rfl rfl ⟨Nat.le_of_ble_eq_true rfl, Nat.le_of_ble_eq_true rfl⟩ rfl (lv_room (Nat.le_of_ble_eq_true rfl)) dX4_update_3 ⟨Nat.zero_le _, Nat.zero_le _⟩ (fun r_1 hr_1 => ?_)
  refine lv_if_ne (tgt := 13) hx hb dX4_update_6 (by decide) (fun c_6 => ?_) (fun c_6 => absurd hy (ite_eq0 hr_1 c_6))
  refine lv_iload_n hx hb dX4_update_13 rfl (lv_at hl 2 rfl) ?_
  refine lv_if_lt (tgt := 22) hx hb dX4_update_14 (by decide) (fun c_14 => ?_) (fun c_14 => ?_)
  · refine lv_iconst (v := 2) hx hb dX4_update_22 (by decide) ?_
    refine lv_goto (tgt := 27) hx hb dX4_update_23 (by decide) ?_
    refine r_put_1 C w dX4_update_27 (fun H locs w => ?_)
    have ok : rOK n _ := rOK.put ok (k := 1) (v := 2) (by decide) (fun h => absurd h (by decide)) (fun h => absurd h (by decide))
    refine lv_aload_n hx hb dX4_update_30 rfl (lv_at hl 0 rfl) ?_
    refine r_get_1 C w dX4_update_31 ?_
    refine lv_topi (fun t_2 et_2 => ?_)
    refine lv_if_le (tgt := 41) hx hb dX4_update_34 (by decide) (fun c_34 => absurd (by rw [et_2] at c_34; exact c_34) (show ¬ ((2 : Int32) ≤ 0) by decide)) (fun c_34 => ?_)
    refine lv_iconst (v := 0) hx hb dX4_update_37 (by decide) ?_
    refine lv_goto (tgt := 50) hx hb dX4_update_38 (by decide) ?_
    subst et_2
    exact W.iret hx hb hr (fun t ht hW => ⟨⟨_, (), rfl, rfl, ⟨by rw [ht]; exact w.1, va_K.moved hW.alike hK, w.2.1⟩, ok⟩, w.2.2.F ht⟩) w.2.2.2.2 dX4_update_50
  · refine lv_iload_n hx hb dX4_update_17 rfl (lv_at hl 2 rfl) ?_
    refine lv_iconst (v := 3) hx hb dX4_update_18 (by decide) ?_
    refine lv_icmp_le (tgt := 26) hx hb dX4_update_19 (by decide) (fun c_19 => (hbad.elim (fun z => absurd z c_14) (fun z => absurd c_19 z))) (fun c_19 => ?_)
    refine lv_iconst (v := 2) hx hb dX4_update_22 (by decide) ?_
    refine lv_goto (tgt := 27) hx hb dX4_update_23 (by decide) ?_
    refine r_put_1 C w dX4_update_27 (fun H locs w => ?_)
    have ok : rOK n _ := rOK.put ok (k := 1) (v := 2) (by decide) (fun h => absurd h (by decide)) (fun h => absurd h (by decide))
    refine lv_aload_n hx hb dX4_update_30 rfl (lv_at hl 0 rfl) ?_
    refine r_get_1 C w dX4_update_31 ?_
    refine lv_topi (fun t_3 et_3 => ?_)
    refine lv_if_le (tgt := 41) hx hb dX4_update_34 (by decide) (fun c_34 => absurd (by rw [et_3] at c_34; exact c_34) (show ¬ ((2 : Int32) ≤ 0) by decide)) (fun c_34 => ?_)
    refine lv_iconst (v := 0) hx hb dX4_update_37 (by decide) ?_
    refine lv_goto (tgt := 50) hx hb dX4_update_38 (by decide) ?_
    subst et_3
    exact W.iret hx hb hr (fun t ht hW => ⟨⟨_, (), rfl, rfl, ⟨by rw [ht]; exact w.1, va_K.moved hW.alike hK, w.2.1⟩, ok⟩, w.2.2.F ht⟩) w.2.2.2.2 dX4_update_50
set_option maxHeartbeats 4000000 in
set_option maxRecDepth 100000 in
theorem q_update_ref (l : Launch) (D : va_G) (cI cZ cN cO : ClassId) (A : Nat → Prop) (mm : Nat) (d : Nat → Nat) (n : Nat) (σ : RS) (k p1 p2 p3 : Int32) (ok : rOK n σ) (hy : isN n k) (hok1 : ¬ p1 < 0) (hok2 : p1 ≤ 3) (hno : ¬ (σ.2 13 k.toNatClampNeg = 0 ∧ σ.2 14 k.toNatClampNeg = 0 ∧ ¬ σ.1 37 = 511 ∧ ¬ 2000 < σ.1 9 + nI n)) : Met l yX4_update (.code yX4_update cX4_update 5 (some .int) :: gw) ({ frames := 4, cells := 0, slots := 0, locals := 99 }) (va_Pc (.ref mm :: [.int k, .int p1, .int p2, .int p3]) (rH D cI cZ cN cO A mm d σ)) (va_Qi (fun (r : Int32) (_ : Unit) => r = -1) (fun _ t => rH D cI cZ cN cO A mm d (rI σ 1 0) t ∧ rOK n (rI σ 1 0)) A) 0 0 A := by
  refine Met.ofW (cc := cX4_update) (maxL := 5) (ret := (some .int)) (by decide) rfl ?_
  intro p e s m args below meth c s₁ B hml hv
  obtain ⟨rfl, hP, hK, hD⟩ := hv
  have hx := B.exec
  have hb := B.bytes
  have hr := B.returns
  have hts := atoms_spec (ws := (.code yX4_update cX4_update 5 (some .int) :: gw)) B.pre
  have hg : ∀ w ∈ gw, w.before _ s = true := fun w h => hts w (List.mem_cons_of_mem _ h)
  have hown : s.vm.findClass RX4 = some m.cls := findClass_of_methodNamed B.named
  have hlocks := B.notSynchronized
  have C : Cx p c cX4_update s m _ RX4 D (gTy cI cZ cN cO) := ⟨hx, hb, hown, hg, hK⟩
  have w : rWd D cI cZ A s.heap mm d σ s.heap [] := ⟨hP, hD, va_S.rf⟩
  have hl := lv_entry ([.ref mm, .int k, .int p1, .int p2, .int p3]) (n := 5) (Nat.le_of_ble_eq_true rfl)
  rw [lg_entry_eq]
  generalize (lg_sl ([.ref mm, .int k, .int p1, .int p2, .int p3]) ++ List.replicate (5 - (lg_sl ([.ref mm, .int k, .int p1, .int p2, .int p3])).length) Slot.unset).toArray = ls at hl ⊢
  have hl : lv_has ls 5 [(0, .ref mm), (1, .int k), (2, .int p1), (3, .int p2), (4, .int p3)] := hl
  refine lv_aload_n hx hb dX4_update_0 rfl (lv_at hl 0 rfl) ?_
  refine lv_aload_n hx hb dX4_update_1 rfl (lv_at hl 0 rfl) ?_
  refine lv_iload_n hx hb dX4_update_2 rfl (lv_at hl 1 rfl) ?_
  refine r_callp (As := [.int k]) (rest := [.ref mm]) C w hml hl.1 (q_isNode l D cI cZ cN cO A mm d n _ k ok ) kM_X4_143 kI_X4_isNode kS_X4_isNode kD_X4_isNode (show yX4_isNode.cls = RX4 ∧ yX4_isNode.cls ≠ "java/lang/invoke/MethodHandle" ∧ yX4_isNode.cls ≠ "java/lang/invoke/VarHandle" ∧ (parseMethodDescriptor yX4_isNode.desc).map (fun d => d.parameters.length) = some 1 from by decide +kernel) rfl rfl ⟨Nat.le_of_ble_eq_true rfl, Nat.le_of_ble_eq_true rfl⟩ rfl (lv_room (Nat.le_of_ble_eq_true rfl)) dX4_update_3 ⟨Nat.zero_le _, Nat.zero_le _⟩ (fun r_1 hr_1 => ?_)
  refine lv_if_ne (tgt := 13) hx hb dX4_update_6 (by decide) (fun c_6 => ?_) (fun c_6 => absurd hy (ite_eq0 hr_1 c_6))
  refine lv_iload_n hx hb dX4_update_13 rfl (lv_at hl 2 rfl) ?_
  refine lv_if_lt (tgt := 22) hx hb dX4_update_14 (by decide) (fun c_14 => absurd c_14 hok1) (fun c_14 => ?_)
  refine lv_iload_n hx hb dX4_update_17 rfl (lv_at hl 2 rfl) ?_
  refine lv_iconst (v := 3) hx hb dX4_update_18 (by decide) ?_
  refine lv_icmp_le (tgt := 26) hx hb dX4_update_19 (by decide) (fun c_19 => ?_) (fun c_19 => absurd hok2 c_19)
  refine lv_iconst (v := 0) hx hb dX4_update_26 (by decide) ?_
  refine r_put_1 C w dX4_update_27 (fun H locs w => ?_)
  have ok : rOK n _ := rOK.put ok (k := 1) (v := 0) (by decide) (fun h => absurd h (by decide)) (fun h => absurd h (by decide))
  refine lv_aload_n hx hb dX4_update_30 rfl (lv_at hl 0 rfl) ?_
  refine r_get_1 C w dX4_update_31 ?_
  refine lv_topi (fun t_2 et_2 => ?_)
  refine lv_if_le (tgt := 41) hx hb dX4_update_34 (by decide) (fun c_34 => ?_) (fun c_34 => absurd (show t_2 ≤ 0 from by rw [et_2]; exact (show (0 : Int32) ≤ 0 by decide)) c_34)
  refine lv_aload_n hx hb dX4_update_41 rfl (lv_at hl 0 rfl) ?_
  refine lv_iload_n hx hb dX4_update_42 rfl (lv_at hl 1 rfl) ?_
  refine lv_iload_n hx hb dX4_update_43 rfl (lv_at hl 2 rfl) ?_
  refine lv_iload_n hx hb dX4_update_44 rfl (lv_at hl 3 rfl) ?_
  refine lv_iload hx hb dX4_update_45 (lv_at hl 4 rfl) ?_
  refine r_calli (As := [.int k, .int p1, .int p2, .int p3]) (rest := []) C w hml hl.1 (q_begin_no l D cI cZ cN cO A mm d n _ k p1 p2 p3 ok (isN_in (by have := ok.2.1; omega) hy) hno) kM_X4_146 kI_X4_begin kS_X4_begin kD_X4_begin (show yX4_begin.cls = RX4 ∧ yX4_begin.cls ≠ "java/lang/invoke/MethodHandle" ∧ yX4_begin.cls ≠ "java/lang/invoke/VarHandle" ∧ (parseMethodDescriptor yX4_begin.desc).map (fun d => d.parameters.length) = some 4 from by decide +kernel) rfl rfl ⟨Nat.le_of_ble_eq_true rfl, Nat.le_of_ble_eq_true rfl⟩ rfl (lv_room (Nat.le_of_ble_eq_true rfl)) dX4_update_47 ⟨Nat.zero_le _, Nat.zero_le _⟩ (fun r_3 H locs hr_3 w ok => ?_)
  exact W.iret hx hb hr (fun t ht hW => ⟨⟨_, (), rfl, hr_3, ⟨by rw [ht]; exact w.1, va_K.moved hW.alike hK, w.2.1⟩, ok⟩, w.2.2.F ht⟩) w.2.2.2.2 dX4_update_50
set_option maxHeartbeats 4000000 in
set_option maxRecDepth 100000 in
theorem q_update_go (l : Launch) (D : va_G) (cI cZ cN cO : ClassId) (A : Nat → Prop) (mm : Nat) (d : Nat → Nat) (n : Nat) (σ : RS) (k p1 p2 p3 : Int32) (ok : rOK n σ) (hy : isN n k) (hok1 : ¬ p1 < 0) (hok2 : p1 ≤ 3) (hgo : σ.2 13 k.toNatClampNeg = 0 ∧ σ.2 14 k.toNatClampNeg = 0 ∧ ¬ σ.1 37 = 511 ∧ ¬ 2000 < σ.1 9 + nI n) (hrm : rRm σ n) : Met l yX4_update (.code yX4_update cX4_update 5 (some .int) :: gw) ({ frames := 4, cells := 0, slots := 0, locals := 99 }) (va_Pc (.ref mm :: [.int k, .int p1, .int p2, .int p3]) (rH D cI cZ cN cO A mm d σ)) (va_Qi (fun (r : Int32) (_ : Unit) => r = σ.1 37 + 1) (fun _ t => rH D cI cZ cN cO A mm d (rBeg n k p1 p2 p3 (rI σ 1 0)) t ∧ rOK n (rBeg n k p1 p2 p3 (rI σ 1 0))) A) 0 0 A := by
  refine Met.ofW (cc := cX4_update) (maxL := 5) (ret := (some .int)) (by decide) rfl ?_
  intro p e s m args below meth c s₁ B hml hv
  obtain ⟨rfl, hP, hK, hD⟩ := hv
  have hx := B.exec
  have hb := B.bytes
  have hr := B.returns
  have hts := atoms_spec (ws := (.code yX4_update cX4_update 5 (some .int) :: gw)) B.pre
  have hg : ∀ w ∈ gw, w.before _ s = true := fun w h => hts w (List.mem_cons_of_mem _ h)
  have hown : s.vm.findClass RX4 = some m.cls := findClass_of_methodNamed B.named
  have hlocks := B.notSynchronized
  have C : Cx p c cX4_update s m _ RX4 D (gTy cI cZ cN cO) := ⟨hx, hb, hown, hg, hK⟩
  have w : rWd D cI cZ A s.heap mm d σ s.heap [] := ⟨hP, hD, va_S.rf⟩
  have hl := lv_entry ([.ref mm, .int k, .int p1, .int p2, .int p3]) (n := 5) (Nat.le_of_ble_eq_true rfl)
  rw [lg_entry_eq]
  generalize (lg_sl ([.ref mm, .int k, .int p1, .int p2, .int p3]) ++ List.replicate (5 - (lg_sl ([.ref mm, .int k, .int p1, .int p2, .int p3])).length) Slot.unset).toArray = ls at hl ⊢
  have hl : lv_has ls 5 [(0, .ref mm), (1, .int k), (2, .int p1), (3, .int p2), (4, .int p3)] := hl
  refine lv_aload_n hx hb dX4_update_0 rfl (lv_at hl 0 rfl) ?_
  refine lv_aload_n hx hb dX4_update_1 rfl (lv_at hl 0 rfl) ?_
  refine lv_iload_n hx hb dX4_update_2 rfl (lv_at hl 1 rfl) ?_
  refine r_callp (As := [.int k]) (rest := [.ref mm]) C w hml hl.1 (q_isNode l D cI cZ cN cO A mm d n _ k ok ) kM_X4_143 kI_X4_isNode kS_X4_isNode kD_X4_isNode (show yX4_isNode.cls = RX4 ∧ yX4_isNode.cls ≠ "java/lang/invoke/MethodHandle" ∧ yX4_isNode.cls ≠ "java/lang/invoke/VarHandle" ∧ (parseMethodDescriptor yX4_isNode.desc).map (fun d => d.parameters.length) = some 1 from by decide +kernel) rfl rfl ⟨Nat.le_of_ble_eq_true rfl, Nat.le_of_ble_eq_true rfl⟩ rfl (lv_room (Nat.le_of_ble_eq_true rfl)) dX4_update_3 ⟨Nat.zero_le _, Nat.zero_le _⟩ (fun r_1 hr_1 => ?_)
  refine lv_if_ne (tgt := 13) hx hb dX4_update_6 (by decide) (fun c_6 => ?_) (fun c_6 => absurd hy (ite_eq0 hr_1 c_6))
  refine lv_iload_n hx hb dX4_update_13 rfl (lv_at hl 2 rfl) ?_
  refine lv_if_lt (tgt := 22) hx hb dX4_update_14 (by decide) (fun c_14 => absurd c_14 hok1) (fun c_14 => ?_)
  refine lv_iload_n hx hb dX4_update_17 rfl (lv_at hl 2 rfl) ?_
  refine lv_iconst (v := 3) hx hb dX4_update_18 (by decide) ?_
  refine lv_icmp_le (tgt := 26) hx hb dX4_update_19 (by decide) (fun c_19 => ?_) (fun c_19 => absurd hok2 c_19)
  refine lv_iconst (v := 0) hx hb dX4_update_26 (by decide) ?_
  refine r_put_1 C w dX4_update_27 (fun H locs w => ?_)
  have ok : rOK n _ := rOK.put ok (k := 1) (v := 0) (by decide) (fun h => absurd h (by decide)) (fun h => absurd h (by decide))
  refine lv_aload_n hx hb dX4_update_30 rfl (lv_at hl 0 rfl) ?_
  refine r_get_1 C w dX4_update_31 ?_
  refine lv_topi (fun t_2 et_2 => ?_)
  refine lv_if_le (tgt := 41) hx hb dX4_update_34 (by decide) (fun c_34 => ?_) (fun c_34 => absurd (show t_2 ≤ 0 from by rw [et_2]; exact (show (0 : Int32) ≤ 0 by decide)) c_34)
  refine lv_aload_n hx hb dX4_update_41 rfl (lv_at hl 0 rfl) ?_
  refine lv_iload_n hx hb dX4_update_42 rfl (lv_at hl 1 rfl) ?_
  refine lv_iload_n hx hb dX4_update_43 rfl (lv_at hl 2 rfl) ?_
  refine lv_iload_n hx hb dX4_update_44 rfl (lv_at hl 3 rfl) ?_
  refine lv_iload hx hb dX4_update_45 (lv_at hl 4 rfl) ?_
  refine r_calli (As := [.int k, .int p1, .int p2, .int p3]) (rest := []) C w hml hl.1 (q_begin_go l D cI cZ cN cO A mm d n _ k p1 p2 p3 ok (isN_in (by have := ok.2.1; omega) hy) hgo hrm) kM_X4_146 kI_X4_begin kS_X4_begin kD_X4_begin (show yX4_begin.cls = RX4 ∧ yX4_begin.cls ≠ "java/lang/invoke/MethodHandle" ∧ yX4_begin.cls ≠ "java/lang/invoke/VarHandle" ∧ (parseMethodDescriptor yX4_begin.desc).map (fun d => d.parameters.length) = some 4 from by decide +kernel) rfl rfl ⟨Nat.le_of_ble_eq_true rfl, Nat.le_of_ble_eq_true rfl⟩ rfl (lv_room (Nat.le_of_ble_eq_true rfl)) dX4_update_47 ⟨Nat.zero_le _, Nat.zero_le _⟩ (fun r_3 H locs hr_3 w ok => ?_)
  exact W.iret hx hb hr (fun t ht hW => ⟨⟨_, (), rfl, hr_3, ⟨by rw [ht]; exact w.1, va_K.moved hW.alike hK, w.2.1⟩, ok⟩, w.2.2.F ht⟩) w.2.2.2.2 dX4_update_50
set_option maxHeartbeats 4000000 in
set_option maxRecDepth 100000 in
theorem q_query_no (l : Launch) (D : va_G) (cI cZ cN cO : ClassId) (A : Nat → Prop) (mm : Nat) (d : Nat → Nat) (n : Nat) (σ : RS) (k p1 p2 : Int32) (ok : rOK n σ) (hno : ¬ isN n k) : Met l yX4_query (.code yX4_query cX4_query 4 (some .int) :: gw) ({ frames := 4, cells := 0, slots := 0, locals := 99 }) (va_Pc (.ref mm :: [.int k, .int p1, .int p2]) (rH D cI cZ cN cO A mm d σ)) (va_Qi (fun (r : Int32) (_ : Unit) => r = 0) (fun _ t => rH D cI cZ cN cO A mm d (rI σ 1 1) t ∧ rOK n (rI σ 1 1)) A) 0 0 A := by
  refine Met.ofW (cc := cX4_query) (maxL := 4) (ret := (some .int)) (by decide) rfl ?_
  intro p e s m args below meth c s₁ B hml hv
  obtain ⟨rfl, hP, hK, hD⟩ := hv
  have hx := B.exec
  have hb := B.bytes
  have hr := B.returns
  have hts := atoms_spec (ws := (.code yX4_query cX4_query 4 (some .int) :: gw)) B.pre
  have hg : ∀ w ∈ gw, w.before _ s = true := fun w h => hts w (List.mem_cons_of_mem _ h)
  have hown : s.vm.findClass RX4 = some m.cls := findClass_of_methodNamed B.named
  have hlocks := B.notSynchronized
  have C : Cx p c cX4_query s m _ RX4 D (gTy cI cZ cN cO) := ⟨hx, hb, hown, hg, hK⟩
  have w : rWd D cI cZ A s.heap mm d σ s.heap [] := ⟨hP, hD, va_S.rf⟩
  have hl := lv_entry ([.ref mm, .int k, .int p1, .int p2]) (n := 4) (Nat.le_of_ble_eq_true rfl)
  rw [lg_entry_eq]
  generalize (lg_sl ([.ref mm, .int k, .int p1, .int p2]) ++ List.replicate (4 - (lg_sl ([.ref mm, .int k, .int p1, .int p2])).length) Slot.unset).toArray = ls at hl ⊢
  have hl : lv_has ls 4 [(0, .ref mm), (1, .int k), (2, .int p1), (3, .int p2)] := hl
  refine lv_aload_n hx hb dX4_query_0 rfl (lv_at hl 0 rfl) ?_
  refine lv_aload_n hx hb dX4_query_1 rfl (lv_at hl 0 rfl) ?_
  refine lv_iload_n hx hb dX4_query_2 rfl (lv_at hl 1 rfl) ?_
  refine r_callp (As := [.int k]) (rest := [.ref mm]) C w hml hl.1 (q_isNode l D cI cZ cN cO A mm d n _ k ok ) kM_X4_143 kI_X4_isNode kS_X4_isNode kD_X4_isNode (show yX4_isNode.cls = RX4 ∧ yX4_isNode.cls ≠ "java/lang/invoke/MethodHandle" ∧ yX4_isNode.cls ≠ "java/lang/invoke/VarHandle" ∧ (parseMethodDescriptor yX4_isNode.desc).map (fun d => d.parameters.length) = some 1 from by decide +kernel) rfl rfl ⟨Nat.le_of_ble_eq_true rfl, Nat.le_of_ble_eq_true rfl⟩ rfl (lv_room (Nat.le_of_ble_eq_true rfl)) dX4_query_3 ⟨Nat.zero_le _, Nat.zero_le _⟩ (fun r_1 hr_1 => ?_)
  refine lv_if_ne (tgt := 13) hx hb dX4_query_6 (by decide) (fun c_6 => absurd (ite_ne0 hr_1 c_6) hno) (fun c_6 => ?_)
  refine lv_iconst (v := 1) hx hb dX4_query_9 (by decide) ?_
  refine lv_goto (tgt := 30) hx hb dX4_query_10 (by decide) ?_
  refine r_put_1 C w dX4_query_30 (fun H locs w => ?_)
  have ok : rOK n _ := rOK.put ok (k := 1) (v := 1) (by decide) (fun h => absurd h (by decide)) (fun h => absurd h (by decide))
  refine lv_aload_n hx hb dX4_query_33 rfl (lv_at hl 0 rfl) ?_
  refine r_get_1 C w dX4_query_34 ?_
  refine lv_topi (fun t_2 et_2 => ?_)
  refine lv_if_le (tgt := 44) hx hb dX4_query_37 (by decide) (fun c_37 => absurd (by rw [et_2] at c_37; exact c_37) (show ¬ ((1 : Int32) ≤ 0) by decide)) (fun c_37 => ?_)
  refine lv_iconst (v := 0) hx hb dX4_query_40 (by decide) ?_
  refine lv_goto (tgt := 52) hx hb dX4_query_41 (by decide) ?_
  subst et_2
  exact W.iret hx hb hr (fun t ht hW => ⟨⟨_, (), rfl, rfl, ⟨by rw [ht]; exact w.1, va_K.moved hW.alike hK, w.2.1⟩, ok⟩, w.2.2.F ht⟩) w.2.2.2.2 dX4_query_52
set_option maxHeartbeats 4000000 in
set_option maxRecDepth 100000 in
theorem q_query_bad (l : Launch) (D : va_G) (cI cZ cN cO : ClassId) (A : Nat → Prop) (mm : Nat) (d : Nat → Nat) (n : Nat) (σ : RS) (k p1 p2 : Int32) (ok : rOK n σ) (hy : isN n k) (hbad : p1 < 10 ∨ ¬ p1 ≤ 15) : Met l yX4_query (.code yX4_query cX4_query 4 (some .int) :: gw) ({ frames := 4, cells := 0, slots := 0, locals := 99 }) (va_Pc (.ref mm :: [.int k, .int p1, .int p2]) (rH D cI cZ cN cO A mm d σ)) (va_Qi (fun (r : Int32) (_ : Unit) => r = 0) (fun _ t => rH D cI cZ cN cO A mm d (rI σ 1 2) t ∧ rOK n (rI σ 1 2)) A) 0 0 A := by
  refine Met.ofW (cc := cX4_query) (maxL := 4) (ret := (some .int)) (by decide) rfl ?_
  intro p e s m args below meth c s₁ B hml hv
  obtain ⟨rfl, hP, hK, hD⟩ := hv
  have hx := B.exec
  have hb := B.bytes
  have hr := B.returns
  have hts := atoms_spec (ws := (.code yX4_query cX4_query 4 (some .int) :: gw)) B.pre
  have hg : ∀ w ∈ gw, w.before _ s = true := fun w h => hts w (List.mem_cons_of_mem _ h)
  have hown : s.vm.findClass RX4 = some m.cls := findClass_of_methodNamed B.named
  have hlocks := B.notSynchronized
  have C : Cx p c cX4_query s m _ RX4 D (gTy cI cZ cN cO) := ⟨hx, hb, hown, hg, hK⟩
  have w : rWd D cI cZ A s.heap mm d σ s.heap [] := ⟨hP, hD, va_S.rf⟩
  have hl := lv_entry ([.ref mm, .int k, .int p1, .int p2]) (n := 4) (Nat.le_of_ble_eq_true rfl)
  rw [lg_entry_eq]
  generalize (lg_sl ([.ref mm, .int k, .int p1, .int p2]) ++ List.replicate (4 - (lg_sl ([.ref mm, .int k, .int p1, .int p2])).length) Slot.unset).toArray = ls at hl ⊢
  have hl : lv_has ls 4 [(0, .ref mm), (1, .int k), (2, .int p1), (3, .int p2)] := hl
  refine lv_aload_n hx hb dX4_query_0 rfl (lv_at hl 0 rfl) ?_
  refine lv_aload_n hx hb dX4_query_1 rfl (lv_at hl 0 rfl) ?_
  refine lv_iload_n hx hb dX4_query_2 rfl (lv_at hl 1 rfl) ?_
  refine r_callp (As := [.int k]) (rest := [.ref mm]) C w hml hl.1 (q_isNode l D cI cZ cN cO A mm d n _ k ok ) kM_X4_143 kI_X4_isNode kS_X4_isNode kD_X4_isNode (show yX4_isNode.cls = RX4 ∧ yX4_isNode.cls ≠ "java/lang/invoke/MethodHandle" ∧ yX4_isNode.cls ≠ "java/lang/invoke/VarHandle" ∧ (parseMethodDescriptor yX4_isNode.desc).map (fun d => d.parameters.length) = some 1 from by decide +kernel) rfl rfl ⟨Nat.le_of_ble_eq_true rfl, Nat.le_of_ble_eq_true rfl⟩ rfl (lv_room (Nat.le_of_ble_eq_true rfl)) dX4_query_3 ⟨Nat.zero_le _, Nat.zero_le _⟩ (fun r_1 hr_1 => ?_)
  refine lv_if_ne (tgt := 13) hx hb dX4_query_6 (by decide) (fun c_6 => ?_) (fun c_6 => absurd hy (ite_eq0 hr_1 c_6))
  refine lv_iload_n hx hb dX4_query_13 rfl (lv_at hl 2 rfl) ?_
  refine lv_bipush (v := 10) hx hb dX4_query_14 (by decide) ?_
  refine lv_icmp_lt (tgt := 25) hx hb dX4_query_16 (by decide) (fun c_16 => ?_) (fun c_16 => ?_)
  · refine lv_iconst (v := 2) hx hb dX4_query_25 (by decide) ?_
    refine lv_goto (tgt := 30) hx hb dX4_query_26 (by decide) ?_
    refine r_put_1 C w dX4_query_30 (fun H locs w => ?_)
    have ok : rOK n _ := rOK.put ok (k := 1) (v := 2) (by decide) (fun h => absurd h (by decide)) (fun h => absurd h (by decide))
    refine lv_aload_n hx hb dX4_query_33 rfl (lv_at hl 0 rfl) ?_
    refine r_get_1 C w dX4_query_34 ?_
    refine lv_topi (fun t_2 et_2 => ?_)
    refine lv_if_le (tgt := 44) hx hb dX4_query_37 (by decide) (fun c_37 => absurd (by rw [et_2] at c_37; exact c_37) (show ¬ ((2 : Int32) ≤ 0) by decide)) (fun c_37 => ?_)
    refine lv_iconst (v := 0) hx hb dX4_query_40 (by decide) ?_
    refine lv_goto (tgt := 52) hx hb dX4_query_41 (by decide) ?_
    subst et_2
    exact W.iret hx hb hr (fun t ht hW => ⟨⟨_, (), rfl, rfl, ⟨by rw [ht]; exact w.1, va_K.moved hW.alike hK, w.2.1⟩, ok⟩, w.2.2.F ht⟩) w.2.2.2.2 dX4_query_52
  · refine lv_iload_n hx hb dX4_query_19 rfl (lv_at hl 2 rfl) ?_
    refine lv_bipush (v := 15) hx hb dX4_query_20 (by decide) ?_
    refine lv_icmp_le (tgt := 29) hx hb dX4_query_22 (by decide) (fun c_22 => (hbad.elim (fun z => absurd z c_16) (fun z => absurd c_22 z))) (fun c_22 => ?_)
    refine lv_iconst (v := 2) hx hb dX4_query_25 (by decide) ?_
    refine lv_goto (tgt := 30) hx hb dX4_query_26 (by decide) ?_
    refine r_put_1 C w dX4_query_30 (fun H locs w => ?_)
    have ok : rOK n _ := rOK.put ok (k := 1) (v := 2) (by decide) (fun h => absurd h (by decide)) (fun h => absurd h (by decide))
    refine lv_aload_n hx hb dX4_query_33 rfl (lv_at hl 0 rfl) ?_
    refine r_get_1 C w dX4_query_34 ?_
    refine lv_topi (fun t_3 et_3 => ?_)
    refine lv_if_le (tgt := 44) hx hb dX4_query_37 (by decide) (fun c_37 => absurd (by rw [et_3] at c_37; exact c_37) (show ¬ ((2 : Int32) ≤ 0) by decide)) (fun c_37 => ?_)
    refine lv_iconst (v := 0) hx hb dX4_query_40 (by decide) ?_
    refine lv_goto (tgt := 52) hx hb dX4_query_41 (by decide) ?_
    subst et_3
    exact W.iret hx hb hr (fun t ht hW => ⟨⟨_, (), rfl, rfl, ⟨by rw [ht]; exact w.1, va_K.moved hW.alike hK, w.2.1⟩, ok⟩, w.2.2.F ht⟩) w.2.2.2.2 dX4_query_52
set_option maxHeartbeats 4000000 in
set_option maxRecDepth 100000 in
theorem q_query_ref (l : Launch) (D : va_G) (cI cZ cN cO : ClassId) (A : Nat → Prop) (mm : Nat) (d : Nat → Nat) (n : Nat) (σ : RS) (k p1 p2 : Int32) (ok : rOK n σ) (hy : isN n k) (hok1 : ¬ p1 < 10) (hok2 : p1 ≤ 15) (hno : ¬ (σ.2 13 k.toNatClampNeg = 0 ∧ σ.2 14 k.toNatClampNeg = 0 ∧ ¬ σ.1 37 = 511 ∧ ¬ 2000 < σ.1 9 + nI n)) : Met l yX4_query (.code yX4_query cX4_query 4 (some .int) :: gw) ({ frames := 4, cells := 0, slots := 0, locals := 99 }) (va_Pc (.ref mm :: [.int k, .int p1, .int p2]) (rH D cI cZ cN cO A mm d σ)) (va_Qi (fun (r : Int32) (_ : Unit) => r = -1) (fun _ t => rH D cI cZ cN cO A mm d (rI σ 1 0) t ∧ rOK n (rI σ 1 0)) A) 0 0 A := by
  refine Met.ofW (cc := cX4_query) (maxL := 4) (ret := (some .int)) (by decide) rfl ?_
  intro p e s m args below meth c s₁ B hml hv
  obtain ⟨rfl, hP, hK, hD⟩ := hv
  have hx := B.exec
  have hb := B.bytes
  have hr := B.returns
  have hts := atoms_spec (ws := (.code yX4_query cX4_query 4 (some .int) :: gw)) B.pre
  have hg : ∀ w ∈ gw, w.before _ s = true := fun w h => hts w (List.mem_cons_of_mem _ h)
  have hown : s.vm.findClass RX4 = some m.cls := findClass_of_methodNamed B.named
  have hlocks := B.notSynchronized
  have C : Cx p c cX4_query s m _ RX4 D (gTy cI cZ cN cO) := ⟨hx, hb, hown, hg, hK⟩
  have w : rWd D cI cZ A s.heap mm d σ s.heap [] := ⟨hP, hD, va_S.rf⟩
  have hl := lv_entry ([.ref mm, .int k, .int p1, .int p2]) (n := 4) (Nat.le_of_ble_eq_true rfl)
  rw [lg_entry_eq]
  generalize (lg_sl ([.ref mm, .int k, .int p1, .int p2]) ++ List.replicate (4 - (lg_sl ([.ref mm, .int k, .int p1, .int p2])).length) Slot.unset).toArray = ls at hl ⊢
  have hl : lv_has ls 4 [(0, .ref mm), (1, .int k), (2, .int p1), (3, .int p2)] := hl
  refine lv_aload_n hx hb dX4_query_0 rfl (lv_at hl 0 rfl) ?_
  refine lv_aload_n hx hb dX4_query_1 rfl (lv_at hl 0 rfl) ?_
  refine lv_iload_n hx hb dX4_query_2 rfl (lv_at hl 1 rfl) ?_
  refine r_callp (As := [.int k]) (rest := [.ref mm]) C w hml hl.1 (q_isNode l D cI cZ cN cO A mm d n _ k ok ) kM_X4_143 kI_X4_isNode kS_X4_isNode kD_X4_isNode (show yX4_isNode.cls = RX4 ∧ yX4_isNode.cls ≠ "java/lang/invoke/MethodHandle" ∧ yX4_isNode.cls ≠ "java/lang/invoke/VarHandle" ∧ (parseMethodDescriptor yX4_isNode.desc).map (fun d => d.parameters.length) = some 1 from by decide +kernel) rfl rfl ⟨Nat.le_of_ble_eq_true rfl, Nat.le_of_ble_eq_true rfl⟩ rfl (lv_room (Nat.le_of_ble_eq_true rfl)) dX4_query_3 ⟨Nat.zero_le _, Nat.zero_le _⟩ (fun r_1 hr_1 => ?_)
  refine lv_if_ne (tgt := 13) hx hb dX4_query_6 (by decide) (fun c_6 => ?_) (fun c_6 => absurd hy (ite_eq0 hr_1 c_6))
  refine lv_iload_n hx hb dX4_query_13 rfl (lv_at hl 2 rfl) ?_
  refine lv_bipush (v := 10) hx hb dX4_query_14 (by decide) ?_
  refine lv_icmp_lt (tgt := 25) hx hb dX4_query_16 (by decide) (fun c_16 => absurd c_16 hok1) (fun c_16 => ?_)
  refine lv_iload_n hx hb dX4_query_19 rfl (lv_at hl 2 rfl) ?_
  refine lv_bipush (v := 15) hx hb dX4_query_20 (by decide) ?_
  refine lv_icmp_le (tgt := 29) hx hb dX4_query_22 (by decide) (fun c_22 => ?_) (fun c_22 => absurd hok2 c_22)
  refine lv_iconst (v := 0) hx hb dX4_query_29 (by decide) ?_
  refine r_put_1 C w dX4_query_30 (fun H locs w => ?_)
  have ok : rOK n _ := rOK.put ok (k := 1) (v := 0) (by decide) (fun h => absurd h (by decide)) (fun h => absurd h (by decide))
  refine lv_aload_n hx hb dX4_query_33 rfl (lv_at hl 0 rfl) ?_
  refine r_get_1 C w dX4_query_34 ?_
  refine lv_topi (fun t_2 et_2 => ?_)
  refine lv_if_le (tgt := 44) hx hb dX4_query_37 (by decide) (fun c_37 => ?_) (fun c_37 => absurd (show t_2 ≤ 0 from by rw [et_2]; exact (show (0 : Int32) ≤ 0 by decide)) c_37)
  refine lv_aload_n hx hb dX4_query_44 rfl (lv_at hl 0 rfl) ?_
  refine lv_iload_n hx hb dX4_query_45 rfl (lv_at hl 1 rfl) ?_
  refine lv_iload_n hx hb dX4_query_46 rfl (lv_at hl 2 rfl) ?_
  refine lv_iload_n hx hb dX4_query_47 rfl (lv_at hl 3 rfl) ?_
  refine lv_iconst (v := 0) hx hb dX4_query_48 (by decide) ?_
  refine r_calli (As := [.int k, .int p1, .int p2, .int 0]) (rest := []) C w hml hl.1 (q_begin_no l D cI cZ cN cO A mm d n _ k p1 p2 0 ok (isN_in (by have := ok.2.1; omega) hy) hno) kM_X4_146 kI_X4_begin kS_X4_begin kD_X4_begin (show yX4_begin.cls = RX4 ∧ yX4_begin.cls ≠ "java/lang/invoke/MethodHandle" ∧ yX4_begin.cls ≠ "java/lang/invoke/VarHandle" ∧ (parseMethodDescriptor yX4_begin.desc).map (fun d => d.parameters.length) = some 4 from by decide +kernel) rfl rfl ⟨Nat.le_of_ble_eq_true rfl, Nat.le_of_ble_eq_true rfl⟩ rfl (lv_room (Nat.le_of_ble_eq_true rfl)) dX4_query_49 ⟨Nat.zero_le _, Nat.zero_le _⟩ (fun r_3 H locs hr_3 w ok => ?_)
  exact W.iret hx hb hr (fun t ht hW => ⟨⟨_, (), rfl, hr_3, ⟨by rw [ht]; exact w.1, va_K.moved hW.alike hK, w.2.1⟩, ok⟩, w.2.2.F ht⟩) w.2.2.2.2 dX4_query_52
set_option maxHeartbeats 4000000 in
set_option maxRecDepth 100000 in
theorem q_query_go (l : Launch) (D : va_G) (cI cZ cN cO : ClassId) (A : Nat → Prop) (mm : Nat) (d : Nat → Nat) (n : Nat) (σ : RS) (k p1 p2 : Int32) (ok : rOK n σ) (hy : isN n k) (hok1 : ¬ p1 < 10) (hok2 : p1 ≤ 15) (hgo : σ.2 13 k.toNatClampNeg = 0 ∧ σ.2 14 k.toNatClampNeg = 0 ∧ ¬ σ.1 37 = 511 ∧ ¬ 2000 < σ.1 9 + nI n) (hrm : rRm σ n) : Met l yX4_query (.code yX4_query cX4_query 4 (some .int) :: gw) ({ frames := 4, cells := 0, slots := 0, locals := 99 }) (va_Pc (.ref mm :: [.int k, .int p1, .int p2]) (rH D cI cZ cN cO A mm d σ)) (va_Qi (fun (r : Int32) (_ : Unit) => r = σ.1 37 + 1) (fun _ t => rH D cI cZ cN cO A mm d (rBeg n k p1 p2 0 (rI σ 1 0)) t ∧ rOK n (rBeg n k p1 p2 0 (rI σ 1 0))) A) 0 0 A := by
  refine Met.ofW (cc := cX4_query) (maxL := 4) (ret := (some .int)) (by decide) rfl ?_
  intro p e s m args below meth c s₁ B hml hv
  obtain ⟨rfl, hP, hK, hD⟩ := hv
  have hx := B.exec
  have hb := B.bytes
  have hr := B.returns
  have hts := atoms_spec (ws := (.code yX4_query cX4_query 4 (some .int) :: gw)) B.pre
  have hg : ∀ w ∈ gw, w.before _ s = true := fun w h => hts w (List.mem_cons_of_mem _ h)
  have hown : s.vm.findClass RX4 = some m.cls := findClass_of_methodNamed B.named
  have hlocks := B.notSynchronized
  have C : Cx p c cX4_query s m _ RX4 D (gTy cI cZ cN cO) := ⟨hx, hb, hown, hg, hK⟩
  have w : rWd D cI cZ A s.heap mm d σ s.heap [] := ⟨hP, hD, va_S.rf⟩
  have hl := lv_entry ([.ref mm, .int k, .int p1, .int p2]) (n := 4) (Nat.le_of_ble_eq_true rfl)
  rw [lg_entry_eq]
  generalize (lg_sl ([.ref mm, .int k, .int p1, .int p2]) ++ List.replicate (4 - (lg_sl ([.ref mm, .int k, .int p1, .int p2])).length) Slot.unset).toArray = ls at hl ⊢
  have hl : lv_has ls 4 [(0, .ref mm), (1, .int k), (2, .int p1), (3, .int p2)] := hl
  refine lv_aload_n hx hb dX4_query_0 rfl (lv_at hl 0 rfl) ?_
  refine lv_aload_n hx hb dX4_query_1 rfl (lv_at hl 0 rfl) ?_
  refine lv_iload_n hx hb dX4_query_2 rfl (lv_at hl 1 rfl) ?_
  refine r_callp (As := [.int k]) (rest := [.ref mm]) C w hml hl.1 (q_isNode l D cI cZ cN cO A mm d n _ k ok ) kM_X4_143 kI_X4_isNode kS_X4_isNode kD_X4_isNode (show yX4_isNode.cls = RX4 ∧ yX4_isNode.cls ≠ "java/lang/invoke/MethodHandle" ∧ yX4_isNode.cls ≠ "java/lang/invoke/VarHandle" ∧ (parseMethodDescriptor yX4_isNode.desc).map (fun d => d.parameters.length) = some 1 from by decide +kernel) rfl rfl ⟨Nat.le_of_ble_eq_true rfl, Nat.le_of_ble_eq_true rfl⟩ rfl (lv_room (Nat.le_of_ble_eq_true rfl)) dX4_query_3 ⟨Nat.zero_le _, Nat.zero_le _⟩ (fun r_1 hr_1 => ?_)
  refine lv_if_ne (tgt := 13) hx hb dX4_query_6 (by decide) (fun c_6 => ?_) (fun c_6 => absurd hy (ite_eq0 hr_1 c_6))
  refine lv_iload_n hx hb dX4_query_13 rfl (lv_at hl 2 rfl) ?_
  refine lv_bipush (v := 10) hx hb dX4_query_14 (by decide) ?_
  refine lv_icmp_lt (tgt := 25) hx hb dX4_query_16 (by decide) (fun c_16 => absurd c_16 hok1) (fun c_16 => ?_)
  refine lv_iload_n hx hb dX4_query_19 rfl (lv_at hl 2 rfl) ?_
  refine lv_bipush (v := 15) hx hb dX4_query_20 (by decide) ?_
  refine lv_icmp_le (tgt := 29) hx hb dX4_query_22 (by decide) (fun c_22 => ?_) (fun c_22 => absurd hok2 c_22)
  refine lv_iconst (v := 0) hx hb dX4_query_29 (by decide) ?_
  refine r_put_1 C w dX4_query_30 (fun H locs w => ?_)
  have ok : rOK n _ := rOK.put ok (k := 1) (v := 0) (by decide) (fun h => absurd h (by decide)) (fun h => absurd h (by decide))
  refine lv_aload_n hx hb dX4_query_33 rfl (lv_at hl 0 rfl) ?_
  refine r_get_1 C w dX4_query_34 ?_
  refine lv_topi (fun t_2 et_2 => ?_)
  refine lv_if_le (tgt := 44) hx hb dX4_query_37 (by decide) (fun c_37 => ?_) (fun c_37 => absurd (show t_2 ≤ 0 from by rw [et_2]; exact (show (0 : Int32) ≤ 0 by decide)) c_37)
  refine lv_aload_n hx hb dX4_query_44 rfl (lv_at hl 0 rfl) ?_
  refine lv_iload_n hx hb dX4_query_45 rfl (lv_at hl 1 rfl) ?_
  refine lv_iload_n hx hb dX4_query_46 rfl (lv_at hl 2 rfl) ?_
  refine lv_iload_n hx hb dX4_query_47 rfl (lv_at hl 3 rfl) ?_
  refine lv_iconst (v := 0) hx hb dX4_query_48 (by decide) ?_
  refine r_calli (As := [.int k, .int p1, .int p2, .int 0]) (rest := []) C w hml hl.1 (q_begin_go l D cI cZ cN cO A mm d n _ k p1 p2 0 ok (isN_in (by have := ok.2.1; omega) hy) hgo hrm) kM_X4_146 kI_X4_begin kS_X4_begin kD_X4_begin (show yX4_begin.cls = RX4 ∧ yX4_begin.cls ≠ "java/lang/invoke/MethodHandle" ∧ yX4_begin.cls ≠ "java/lang/invoke/VarHandle" ∧ (parseMethodDescriptor yX4_begin.desc).map (fun d => d.parameters.length) = some 4 from by decide +kernel) rfl rfl ⟨Nat.le_of_ble_eq_true rfl, Nat.le_of_ble_eq_true rfl⟩ rfl (lv_room (Nat.le_of_ble_eq_true rfl)) dX4_query_49 ⟨Nat.zero_le _, Nat.zero_le _⟩ (fun r_3 H locs hr_3 w ok => ?_)
  exact W.iret hx hb hr (fun t ht hW => ⟨⟨_, (), rfl, hr_3, ⟨by rw [ht]; exact w.1, va_K.moved hW.alike hK, w.2.1⟩, ok⟩, w.2.2.F ht⟩) w.2.2.2.2 dX4_query_52
set_option maxHeartbeats 4000000 in
set_option maxRecDepth 100000 in
theorem q_deliver_no (l : Launch) (D : va_G) (cI cZ cN cO : ClassId) (A : Nat → Prop) (mm : Nat) (d : Nat → Nat) (n : Nat) (σ : RS) (i : Int32) (ok : rOK n σ) (hno : ¬ (¬ i < 0 ∧ i < σ.1 9)) : Met l yX4_deliver (.code yX4_deliver cX4_deliver 2 (some .int) :: gw) ({ frames := 6, cells := 0, slots := 0, locals := 146 }) (va_Pc (.ref mm :: [.int i]) (rH D cI cZ cN cO A mm d σ)) (va_Qi (fun (r : Int32) (_ : Unit) => r = 0) (fun _ t => rH D cI cZ cN cO A mm d (rI σ 1 1) t ∧ rOK n (rI σ 1 1)) A) 0 0 A := by
  refine Met.ofW (cc := cX4_deliver) (maxL := 2) (ret := (some .int)) (by decide) rfl ?_
  intro p e s m args below meth c s₁ B hml hv
  obtain ⟨rfl, hP, hK, hD⟩ := hv
  have hx := B.exec
  have hb := B.bytes
  have hr := B.returns
  have hts := atoms_spec (ws := (.code yX4_deliver cX4_deliver 2 (some .int) :: gw)) B.pre
  have hg : ∀ w ∈ gw, w.before _ s = true := fun w h => hts w (List.mem_cons_of_mem _ h)
  have hown : s.vm.findClass RX4 = some m.cls := findClass_of_methodNamed B.named
  have hlocks := B.notSynchronized
  have C : Cx p c cX4_deliver s m _ RX4 D (gTy cI cZ cN cO) := ⟨hx, hb, hown, hg, hK⟩
  have w : rWd D cI cZ A s.heap mm d σ s.heap [] := ⟨hP, hD, va_S.rf⟩
  have hl := lv_entry ([.ref mm, .int i]) (n := 2) (Nat.le_of_ble_eq_true rfl)
  rw [lg_entry_eq]
  generalize (lg_sl ([.ref mm, .int i]) ++ List.replicate (2 - (lg_sl ([.ref mm, .int i])).length) Slot.unset).toArray = ls at hl ⊢
  have hl : lv_has ls 2 [(0, .ref mm), (1, .int i)] := hl
  refine lv_aload_n hx hb dX4_deliver_0 rfl (lv_at hl 0 rfl) ?_
  refine lv_iload_n hx hb dX4_deliver_1 rfl (lv_at hl 1 rfl) ?_
  refine lv_if_lt (tgt := 13) hx hb dX4_deliver_2 (by decide) (fun c_2 => ?_) (fun c_2 => ?_)
  · refine lv_iconst (v := 1) hx hb dX4_deliver_13 (by decide) ?_
    refine lv_goto (tgt := 18) hx hb dX4_deliver_14 (by decide) ?_
    refine r_put_1 C w dX4_deliver_18 (fun H locs w => ?_)
    have ok : rOK n _ := rOK.put ok (k := 1) (v := 1) (by decide) (fun h => absurd h (by decide)) (fun h => absurd h (by decide))
    refine lv_aload_n hx hb dX4_deliver_21 rfl (lv_at hl 0 rfl) ?_
    refine r_get_1 C w dX4_deliver_22 ?_
    refine lv_topi (fun t_1 et_1 => ?_)
    refine lv_if_le (tgt := 32) hx hb dX4_deliver_25 (by decide) (fun c_25 => absurd (by rw [et_1] at c_25; exact c_25) (show ¬ ((1 : Int32) ≤ 0) by decide)) (fun c_25 => ?_)
    refine lv_iconst (v := 0) hx hb dX4_deliver_28 (by decide) ?_
    refine lv_goto (tgt := 37) hx hb dX4_deliver_29 (by decide) ?_
    subst et_1
    exact W.iret hx hb hr (fun t ht hW => ⟨⟨_, (), rfl, rfl, ⟨by rw [ht]; exact w.1, va_K.moved hW.alike hK, w.2.1⟩, ok⟩, w.2.2.F ht⟩) w.2.2.2.2 dX4_deliver_37
  · refine lv_iload_n hx hb dX4_deliver_5 rfl (lv_at hl 1 rfl) ?_
    refine lv_aload_n hx hb dX4_deliver_6 rfl (lv_at hl 0 rfl) ?_
    refine r_get_9 C w dX4_deliver_7 ?_
    refine lv_topi (fun t_2 et_2 => ?_)
    refine lv_icmp_lt (tgt := 17) hx hb dX4_deliver_10 (by decide) (fun c_10 => absurd (show i < σ.1 9 from by rw [← et_2]; exact c_10) (fun z => hno ⟨c_2, z⟩)) (fun c_10 => ?_)
    refine lv_iconst (v := 1) hx hb dX4_deliver_13 (by decide) ?_
    refine lv_goto (tgt := 18) hx hb dX4_deliver_14 (by decide) ?_
    refine r_put_1 C w dX4_deliver_18 (fun H locs w => ?_)
    have ok : rOK n _ := rOK.put ok (k := 1) (v := 1) (by decide) (fun h => absurd h (by decide)) (fun h => absurd h (by decide))
    refine lv_aload_n hx hb dX4_deliver_21 rfl (lv_at hl 0 rfl) ?_
    refine r_get_1 C w dX4_deliver_22 ?_
    refine lv_topi (fun t_3 et_3 => ?_)
    refine lv_if_le (tgt := 32) hx hb dX4_deliver_25 (by decide) (fun c_25 => absurd (by rw [et_3] at c_25; exact c_25) (show ¬ ((1 : Int32) ≤ 0) by decide)) (fun c_25 => ?_)
    refine lv_iconst (v := 0) hx hb dX4_deliver_28 (by decide) ?_
    refine lv_goto (tgt := 37) hx hb dX4_deliver_29 (by decide) ?_
    subst et_3 et_2
    exact W.iret hx hb hr (fun t ht hW => ⟨⟨_, (), rfl, rfl, ⟨by rw [ht]; exact w.1, va_K.moved hW.alike hK, w.2.1⟩, ok⟩, w.2.2.F ht⟩) w.2.2.2.2 dX4_deliver_37
set_option maxHeartbeats 4000000 in
set_option maxRecDepth 100000 in
theorem q_deliver_ref (l : Launch) (D : va_G) (cI cZ cN cO : ClassId) (A : Nat → Prop) (mm : Nat) (d : Nat → Nat) (n : Nat) (σ : RS) (a mn : Nat) (x : Int32) (ok : rOK n σ) (ha : a < mn) (hm : mn ≤ 2000) (hmn : σ.1 9 = nI mn) (hxr : σ.2 8 (nI a).toNatClampNeg = x) (hx1 : vp_in x 2001) (hno : ∀ r, rWant n x (rI σ 1 0) r → (2000 : Int32) < σ.1 9 + (r - 1)) : Met l yX4_deliver (.code yX4_deliver cX4_deliver 2 (some .int) :: gw) ({ frames := 6, cells := 0, slots := 0, locals := 146 }) (va_Pc (.ref mm :: [.int (nI a)]) (rH D cI cZ cN cO A mm d σ)) (va_Qi (fun (r : Int32) (_ : Unit) => r = -1) (fun _ t => rH D cI cZ cN cO A mm d (rI σ 1 0) t ∧ rOK n (rI σ 1 0)) A) 0 0 A := by
  refine Met.ofW (cc := cX4_deliver) (maxL := 2) (ret := (some .int)) (by decide) rfl ?_
  intro p e s m args below meth c s₁ B hml hv
  obtain ⟨rfl, hP, hK, hD⟩ := hv
  have hx := B.exec
  have hb := B.bytes
  have hr := B.returns
  have hts := atoms_spec (ws := (.code yX4_deliver cX4_deliver 2 (some .int) :: gw)) B.pre
  have hg : ∀ w ∈ gw, w.before _ s = true := fun w h => hts w (List.mem_cons_of_mem _ h)
  have hown : s.vm.findClass RX4 = some m.cls := findClass_of_methodNamed B.named
  have hlocks := B.notSynchronized
  have C : Cx p c cX4_deliver s m _ RX4 D (gTy cI cZ cN cO) := ⟨hx, hb, hown, hg, hK⟩
  have w : rWd D cI cZ A s.heap mm d σ s.heap [] := ⟨hP, hD, va_S.rf⟩
  have hl := lv_entry ([.ref mm, .int (nI a)]) (n := 2) (Nat.le_of_ble_eq_true rfl)
  rw [lg_entry_eq]
  generalize (lg_sl ([.ref mm, .int (nI a)]) ++ List.replicate (2 - (lg_sl ([.ref mm, .int (nI a)])).length) Slot.unset).toArray = ls at hl ⊢
  have hl : lv_has ls 2 [(0, .ref mm), (1, .int (nI a))] := hl
  refine lv_aload_n hx hb dX4_deliver_0 rfl (lv_at hl 0 rfl) ?_
  refine lv_iload_n hx hb dX4_deliver_1 rfl (lv_at hl 1 rfl) ?_
  refine lv_if_lt (tgt := 13) hx hb dX4_deliver_2 (by decide) (fun c_2 => absurd c_2 (nI_pos (by omega))) (fun c_2 => ?_)
  refine lv_iload_n hx hb dX4_deliver_5 rfl (lv_at hl 1 rfl) ?_
  refine lv_aload_n hx hb dX4_deliver_6 rfl (lv_at hl 0 rfl) ?_
  refine r_get_9 C w dX4_deliver_7 ?_
  refine lv_topi (fun t_1 et_1 => ?_)
  refine lv_icmp_lt (tgt := 17) hx hb dX4_deliver_10 (by decide) (fun c_10 => ?_) (fun c_10 => absurd (show nI a < t_1 from by rw [et_1, hmn]; exact nI_lt ha (by omega)) c_10)
  refine lv_iconst (v := 0) hx hb dX4_deliver_17 (by decide) ?_
  refine r_put_1 C w dX4_deliver_18 (fun H locs w => ?_)
  have ok : rOK n _ := rOK.put ok (k := 1) (v := 0) (by decide) (fun h => absurd h (by decide)) (fun h => absurd h (by decide))
  refine lv_aload_n hx hb dX4_deliver_21 rfl (lv_at hl 0 rfl) ?_
  refine r_get_1 C w dX4_deliver_22 ?_
  refine lv_topi (fun t_2 et_2 => ?_)
  refine lv_if_le (tgt := 32) hx hb dX4_deliver_25 (by decide) (fun c_25 => ?_) (fun c_25 => absurd (show t_2 ≤ 0 from by rw [et_2]; exact (show (0 : Int32) ≤ 0 by decide)) c_25)
  refine lv_aload_n hx hb dX4_deliver_32 rfl (lv_at hl 0 rfl) ?_
  refine lv_iload_n hx hb dX4_deliver_33 rfl (lv_at hl 1 rfl) ?_
  refine r_calli (As := [.int (nI a)]) (rest := []) C w hml hl.1 (q_come_no l D cI cZ cN cO A mm d n _ a mn x ok ha hm hmn hxr hx1 hno) kM_X4_195 kI_X4_come kS_X4_come kD_X4_come (show yX4_come.cls = RX4 ∧ yX4_come.cls ≠ "java/lang/invoke/MethodHandle" ∧ yX4_come.cls ≠ "java/lang/invoke/VarHandle" ∧ (parseMethodDescriptor yX4_come.desc).map (fun d => d.parameters.length) = some 1 from by decide +kernel) rfl rfl ⟨Nat.le_of_ble_eq_true rfl, Nat.le_of_ble_eq_true rfl⟩ rfl (lv_room (Nat.le_of_ble_eq_true rfl)) dX4_deliver_34 ⟨Nat.zero_le _, Nat.zero_le _⟩ (fun r_3 H locs hr_3 w ok => ?_)
  exact W.iret hx hb hr (fun t ht hW => ⟨⟨_, (), rfl, hr_3, ⟨by rw [ht]; exact w.1, va_K.moved hW.alike hK, w.2.1⟩, ok⟩, w.2.2.F ht⟩) w.2.2.2.2 dX4_deliver_37
set_option maxHeartbeats 4000000 in
set_option maxRecDepth 100000 in
theorem q_deliver_go (l : Launch) (D : va_G) (cI cZ cN cO : ClassId) (A : Nat → Prop) (mm : Nat) (d : Nat → Nat) (n : Nat) (σ : RS) (a mn : Nat) (x : Int32) (ok : rOK n σ) (ha : a < mn) (hm : mn ≤ 2000) (hmn : σ.1 9 = nI mn) (hxr : σ.2 8 (nI a).toNatClampNeg = x) (hx1 : vp_in x 2001) (hgo : ∀ r, rWant n x (rI σ 1 0) r → ¬ (2000 : Int32) < σ.1 9 + (r - 1)) (hok : rCOk n x (rOff a mn (rI σ 1 0))) : Met l yX4_deliver (.code yX4_deliver cX4_deliver 2 (some .int) :: gw) ({ frames := 6, cells := 0, slots := 0, locals := 146 }) (va_Pc (.ref mm :: [.int (nI a)]) (rH D cI cZ cN cO A mm d σ)) (va_Qi (fun (r : Int32) (_ : Unit) => r = (rCome n x (rOff a mn (rI σ 1 0))).2 2 x.toNatClampNeg) (fun _ t => rH D cI cZ cN cO A mm d (rCome n x (rOff a mn (rI σ 1 0))) t ∧ rOK n (rCome n x (rOff a mn (rI σ 1 0)))) A) 0 0 A := by
  refine Met.ofW (cc := cX4_deliver) (maxL := 2) (ret := (some .int)) (by decide) rfl ?_
  intro p e s m args below meth c s₁ B hml hv
  obtain ⟨rfl, hP, hK, hD⟩ := hv
  have hx := B.exec
  have hb := B.bytes
  have hr := B.returns
  have hts := atoms_spec (ws := (.code yX4_deliver cX4_deliver 2 (some .int) :: gw)) B.pre
  have hg : ∀ w ∈ gw, w.before _ s = true := fun w h => hts w (List.mem_cons_of_mem _ h)
  have hown : s.vm.findClass RX4 = some m.cls := findClass_of_methodNamed B.named
  have hlocks := B.notSynchronized
  have C : Cx p c cX4_deliver s m _ RX4 D (gTy cI cZ cN cO) := ⟨hx, hb, hown, hg, hK⟩
  have w : rWd D cI cZ A s.heap mm d σ s.heap [] := ⟨hP, hD, va_S.rf⟩
  have hl := lv_entry ([.ref mm, .int (nI a)]) (n := 2) (Nat.le_of_ble_eq_true rfl)
  rw [lg_entry_eq]
  generalize (lg_sl ([.ref mm, .int (nI a)]) ++ List.replicate (2 - (lg_sl ([.ref mm, .int (nI a)])).length) Slot.unset).toArray = ls at hl ⊢
  have hl : lv_has ls 2 [(0, .ref mm), (1, .int (nI a))] := hl
  refine lv_aload_n hx hb dX4_deliver_0 rfl (lv_at hl 0 rfl) ?_
  refine lv_iload_n hx hb dX4_deliver_1 rfl (lv_at hl 1 rfl) ?_
  refine lv_if_lt (tgt := 13) hx hb dX4_deliver_2 (by decide) (fun c_2 => absurd c_2 (nI_pos (by omega))) (fun c_2 => ?_)
  refine lv_iload_n hx hb dX4_deliver_5 rfl (lv_at hl 1 rfl) ?_
  refine lv_aload_n hx hb dX4_deliver_6 rfl (lv_at hl 0 rfl) ?_
  refine r_get_9 C w dX4_deliver_7 ?_
  refine lv_topi (fun t_1 et_1 => ?_)
  refine lv_icmp_lt (tgt := 17) hx hb dX4_deliver_10 (by decide) (fun c_10 => ?_) (fun c_10 => absurd (show nI a < t_1 from by rw [et_1, hmn]; exact nI_lt ha (by omega)) c_10)
  refine lv_iconst (v := 0) hx hb dX4_deliver_17 (by decide) ?_
  refine r_put_1 C w dX4_deliver_18 (fun H locs w => ?_)
  have ok : rOK n _ := rOK.put ok (k := 1) (v := 0) (by decide) (fun h => absurd h (by decide)) (fun h => absurd h (by decide))
  refine lv_aload_n hx hb dX4_deliver_21 rfl (lv_at hl 0 rfl) ?_
  refine r_get_1 C w dX4_deliver_22 ?_
  refine lv_topi (fun t_2 et_2 => ?_)
  refine lv_if_le (tgt := 32) hx hb dX4_deliver_25 (by decide) (fun c_25 => ?_) (fun c_25 => absurd (show t_2 ≤ 0 from by rw [et_2]; exact (show (0 : Int32) ≤ 0 by decide)) c_25)
  refine lv_aload_n hx hb dX4_deliver_32 rfl (lv_at hl 0 rfl) ?_
  refine lv_iload_n hx hb dX4_deliver_33 rfl (lv_at hl 1 rfl) ?_
  refine r_calli (As := [.int (nI a)]) (rest := []) C w hml hl.1 (q_come_go l D cI cZ cN cO A mm d n _ a mn x ok ha hm hmn hxr hx1 hgo hok) kM_X4_195 kI_X4_come kS_X4_come kD_X4_come (show yX4_come.cls = RX4 ∧ yX4_come.cls ≠ "java/lang/invoke/MethodHandle" ∧ yX4_come.cls ≠ "java/lang/invoke/VarHandle" ∧ (parseMethodDescriptor yX4_come.desc).map (fun d => d.parameters.length) = some 1 from by decide +kernel) rfl rfl ⟨Nat.le_of_ble_eq_true rfl, Nat.le_of_ble_eq_true rfl⟩ rfl (lv_room (Nat.le_of_ble_eq_true rfl)) dX4_deliver_34 ⟨Nat.zero_le _, Nat.zero_le _⟩ (fun r_3 H locs hr_3 w ok => ?_)
  exact W.iret hx hb hr (fun t ht hW => ⟨⟨_, (), rfl, hr_3, ⟨by rw [ht]; exact w.1, va_K.moved hW.alike hK, w.2.1⟩, ok⟩, w.2.2.F ht⟩) w.2.2.2.2 dX4_deliver_37
set_option maxHeartbeats 4000000 in
set_option maxRecDepth 100000 in
theorem q_crash_no (l : Launch) (D : va_G) (cI cZ cN cO : ClassId) (A : Nat → Prop) (mm : Nat) (d : Nat → Nat) (n : Nat) (σ : RS) (k : Int32) (ok : rOK n σ) (hno : ¬ isN n k) : Met l yX4_crash (.code yX4_crash cX4_crash 2 (some .boolean) :: gw) ({ frames := 1, cells := 0, slots := 0, locals := 21 }) (va_Pc (.ref mm :: [.int k]) (rH D cI cZ cN cO A mm d σ)) (va_Qi (fun (r : Int32) (_ : Unit) => r = 0) (fun _ t => rH D cI cZ cN cO A mm d (rI σ 1 1) t ∧ rOK n (rI σ 1 1)) A) 0 0 A := by
  refine Met.ofW (cc := cX4_crash) (maxL := 2) (ret := (some .boolean)) (by decide) rfl ?_
  intro p e s m args below meth c s₁ B hml hv
  obtain ⟨rfl, hP, hK, hD⟩ := hv
  have hx := B.exec
  have hb := B.bytes
  have hr := B.returns
  have hts := atoms_spec (ws := (.code yX4_crash cX4_crash 2 (some .boolean) :: gw)) B.pre
  have hg : ∀ w ∈ gw, w.before _ s = true := fun w h => hts w (List.mem_cons_of_mem _ h)
  have hown : s.vm.findClass RX4 = some m.cls := findClass_of_methodNamed B.named
  have hlocks := B.notSynchronized
  have C : Cx p c cX4_crash s m _ RX4 D (gTy cI cZ cN cO) := ⟨hx, hb, hown, hg, hK⟩
  have w : rWd D cI cZ A s.heap mm d σ s.heap [] := ⟨hP, hD, va_S.rf⟩
  have hl := lv_entry ([.ref mm, .int k]) (n := 2) (Nat.le_of_ble_eq_true rfl)
  rw [lg_entry_eq]
  generalize (lg_sl ([.ref mm, .int k]) ++ List.replicate (2 - (lg_sl ([.ref mm, .int k])).length) Slot.unset).toArray = ls at hl ⊢
  have hl : lv_has ls 2 [(0, .ref mm), (1, .int k)] := hl
  refine lv_aload_n hx hb dX4_crash_0 rfl (lv_at hl 0 rfl) ?_
  refine lv_aload_n hx hb dX4_crash_1 rfl (lv_at hl 0 rfl) ?_
  refine lv_iload_n hx hb dX4_crash_2 rfl (lv_at hl 1 rfl) ?_
  refine r_callp (As := [.int k]) (rest := [.ref mm]) C w hml hl.1 (q_isNode l D cI cZ cN cO A mm d n _ k ok ) kM_X4_143 kI_X4_isNode kS_X4_isNode kD_X4_isNode (show yX4_isNode.cls = RX4 ∧ yX4_isNode.cls ≠ "java/lang/invoke/MethodHandle" ∧ yX4_isNode.cls ≠ "java/lang/invoke/VarHandle" ∧ (parseMethodDescriptor yX4_isNode.desc).map (fun d => d.parameters.length) = some 1 from by decide +kernel) rfl rfl ⟨Nat.le_of_ble_eq_true rfl, Nat.le_of_ble_eq_true rfl⟩ rfl (lv_room (Nat.le_of_ble_eq_true rfl)) dX4_crash_3 ⟨Nat.zero_le _, Nat.zero_le _⟩ (fun r_1 hr_1 => ?_)
  refine lv_if_eq (tgt := 13) hx hb dX4_crash_6 (by decide) (fun c_6 => ?_) (fun c_6 => absurd (ite_ne0 hr_1 c_6) hno)
  refine lv_iconst (v := 1) hx hb dX4_crash_13 (by decide) ?_
  refine r_put_1 C w dX4_crash_14 (fun H locs w => ?_)
  have ok : rOK n _ := rOK.put ok (k := 1) (v := 1) (by decide) (fun h => absurd h (by decide)) (fun h => absurd h (by decide))
  refine lv_aload_n hx hb dX4_crash_17 rfl (lv_at hl 0 rfl) ?_
  refine r_get_1 C w dX4_crash_18 ?_
  refine lv_topi (fun t_2 et_2 => ?_)
  refine lv_if_gt (tgt := 33) hx hb dX4_crash_21 (by decide) (fun c_21 => ?_) (fun c_21 => absurd (show 0 < t_2 from by rw [et_2]; exact (show (0 : Int32) < 1 by decide)) c_21)
  refine lv_iconst (v := 0) hx hb dX4_crash_33 (by decide) ?_
  subst et_2
  exact W.zret (v := 0) (ty := .boolean) hx hb hr rfl (fun t ht hW => ⟨⟨_, (), rfl, rfl, ⟨by rw [ht]; exact w.1, va_K.moved hW.alike hK, w.2.1⟩, ok⟩, w.2.2.F ht⟩) w.2.2.2.2 dX4_crash_34
set_option maxHeartbeats 4000000 in
set_option maxRecDepth 100000 in
theorem q_crash_was (l : Launch) (D : va_G) (cI cZ cN cO : ClassId) (A : Nat → Prop) (mm : Nat) (d : Nat → Nat) (n : Nat) (σ : RS) (k : Int32) (ok : rOK n σ) (hy : isN n k) (hdn : ¬ σ.2 13 k.toNatClampNeg = 0) : Met l yX4_crash (.code yX4_crash cX4_crash 2 (some .boolean) :: gw) ({ frames := 1, cells := 0, slots := 0, locals := 21 }) (va_Pc (.ref mm :: [.int k]) (rH D cI cZ cN cO A mm d σ)) (va_Qi (fun (r : Int32) (_ : Unit) => r = 0) (fun _ t => rH D cI cZ cN cO A mm d (rI σ 1 0) t ∧ rOK n (rI σ 1 0)) A) 0 0 A := by
  refine Met.ofW (cc := cX4_crash) (maxL := 2) (ret := (some .boolean)) (by decide) rfl ?_
  intro p e s m args below meth c s₁ B hml hv
  obtain ⟨rfl, hP, hK, hD⟩ := hv
  have hx := B.exec
  have hb := B.bytes
  have hr := B.returns
  have hts := atoms_spec (ws := (.code yX4_crash cX4_crash 2 (some .boolean) :: gw)) B.pre
  have hg : ∀ w ∈ gw, w.before _ s = true := fun w h => hts w (List.mem_cons_of_mem _ h)
  have hown : s.vm.findClass RX4 = some m.cls := findClass_of_methodNamed B.named
  have hlocks := B.notSynchronized
  have C : Cx p c cX4_crash s m _ RX4 D (gTy cI cZ cN cO) := ⟨hx, hb, hown, hg, hK⟩
  have w : rWd D cI cZ A s.heap mm d σ s.heap [] := ⟨hP, hD, va_S.rf⟩
  have hl := lv_entry ([.ref mm, .int k]) (n := 2) (Nat.le_of_ble_eq_true rfl)
  rw [lg_entry_eq]
  generalize (lg_sl ([.ref mm, .int k]) ++ List.replicate (2 - (lg_sl ([.ref mm, .int k])).length) Slot.unset).toArray = ls at hl ⊢
  have hl : lv_has ls 2 [(0, .ref mm), (1, .int k)] := hl
  refine lv_aload_n hx hb dX4_crash_0 rfl (lv_at hl 0 rfl) ?_
  refine lv_aload_n hx hb dX4_crash_1 rfl (lv_at hl 0 rfl) ?_
  refine lv_iload_n hx hb dX4_crash_2 rfl (lv_at hl 1 rfl) ?_
  refine r_callp (As := [.int k]) (rest := [.ref mm]) C w hml hl.1 (q_isNode l D cI cZ cN cO A mm d n _ k ok ) kM_X4_143 kI_X4_isNode kS_X4_isNode kD_X4_isNode (show yX4_isNode.cls = RX4 ∧ yX4_isNode.cls ≠ "java/lang/invoke/MethodHandle" ∧ yX4_isNode.cls ≠ "java/lang/invoke/VarHandle" ∧ (parseMethodDescriptor yX4_isNode.desc).map (fun d => d.parameters.length) = some 1 from by decide +kernel) rfl rfl ⟨Nat.le_of_ble_eq_true rfl, Nat.le_of_ble_eq_true rfl⟩ rfl (lv_room (Nat.le_of_ble_eq_true rfl)) dX4_crash_3 ⟨Nat.zero_le _, Nat.zero_le _⟩ (fun r_1 hr_1 => ?_)
  refine lv_if_eq (tgt := 13) hx hb dX4_crash_6 (by decide) (fun c_6 => absurd hy (ite_eq0 hr_1 c_6)) (fun c_6 => ?_)
  refine lv_iconst (v := 0) hx hb dX4_crash_9 (by decide) ?_
  refine lv_goto (tgt := 14) hx hb dX4_crash_10 (by decide) ?_
  refine r_put_1 C w dX4_crash_14 (fun H locs w => ?_)
  have ok : rOK n _ := rOK.put ok (k := 1) (v := 0) (by decide) (fun h => absurd h (by decide)) (fun h => absurd h (by decide))
  refine lv_aload_n hx hb dX4_crash_17 rfl (lv_at hl 0 rfl) ?_
  refine r_get_1 C w dX4_crash_18 ?_
  refine lv_topi (fun t_2 et_2 => ?_)
  refine lv_if_gt (tgt := 33) hx hb dX4_crash_21 (by decide) (fun c_21 => absurd (by rw [et_2] at c_21; exact c_21) (show ¬ ((0 : Int32) < 0) by decide)) (fun c_21 => ?_)
  refine lv_aload_n hx hb dX4_crash_24 rfl (lv_at hl 0 rfl) ?_
  refine r_get_13 C w dX4_crash_25 ?_
  refine lv_iload_n hx hb dX4_crash_28 rfl (lv_at hl 1 rfl) ?_
  refine r_ld_13 C w (ok.n31 (isN_in (by have := ok.2.1; omega) hy)) dX4_crash_29 ?_
  refine lv_topi (fun t_3 et_3 => ?_)
  refine lv_if_eq (tgt := 35) hx hb dX4_crash_30 (by decide) (fun c_30 => absurd (show σ.2 13 k.toNatClampNeg = 0 from by rw [← c_30, et_3]; rfl) hdn) (fun c_30 => ?_)
  refine lv_iconst (v := 0) hx hb dX4_crash_33 (by decide) ?_
  subst et_3 et_2
  exact W.zret (v := 0) (ty := .boolean) hx hb hr rfl (fun t ht hW => ⟨⟨_, (), rfl, rfl, ⟨by rw [ht]; exact w.1, va_K.moved hW.alike hK, w.2.1⟩, ok⟩, w.2.2.F ht⟩) w.2.2.2.2 dX4_crash_34
set_option maxHeartbeats 4000000 in
set_option maxRecDepth 100000 in
theorem q_crash_go (l : Launch) (D : va_G) (cI cZ cN cO : ClassId) (A : Nat → Prop) (mm : Nat) (d : Nat → Nat) (n : Nat) (σ : RS) (k : Int32) (ok : rOK n σ) (hy : isN n k) (hdn : σ.2 13 k.toNatClampNeg = 0) : Met l yX4_crash (.code yX4_crash cX4_crash 2 (some .boolean) :: gw) ({ frames := 1, cells := 0, slots := 0, locals := 21 }) (va_Pc (.ref mm :: [.int k]) (rH D cI cZ cN cO A mm d σ)) (va_Qi (fun (r : Int32) (_ : Unit) => r = 1) (fun _ t => rH D cI cZ cN cO A mm d (rI (rA (rI σ 1 0) 13 k.toNatClampNeg 1) 12 (σ.1 12 + 1)) t ∧ rOK n (rI (rA (rI σ 1 0) 13 k.toNatClampNeg 1) 12 (σ.1 12 + 1))) A) 0 0 A := by
  refine Met.ofW (cc := cX4_crash) (maxL := 2) (ret := (some .boolean)) (by decide) rfl ?_
  intro p e s m args below meth c s₁ B hml hv
  obtain ⟨rfl, hP, hK, hD⟩ := hv
  have hx := B.exec
  have hb := B.bytes
  have hr := B.returns
  have hts := atoms_spec (ws := (.code yX4_crash cX4_crash 2 (some .boolean) :: gw)) B.pre
  have hg : ∀ w ∈ gw, w.before _ s = true := fun w h => hts w (List.mem_cons_of_mem _ h)
  have hown : s.vm.findClass RX4 = some m.cls := findClass_of_methodNamed B.named
  have hlocks := B.notSynchronized
  have C : Cx p c cX4_crash s m _ RX4 D (gTy cI cZ cN cO) := ⟨hx, hb, hown, hg, hK⟩
  have w : rWd D cI cZ A s.heap mm d σ s.heap [] := ⟨hP, hD, va_S.rf⟩
  have hl := lv_entry ([.ref mm, .int k]) (n := 2) (Nat.le_of_ble_eq_true rfl)
  rw [lg_entry_eq]
  generalize (lg_sl ([.ref mm, .int k]) ++ List.replicate (2 - (lg_sl ([.ref mm, .int k])).length) Slot.unset).toArray = ls at hl ⊢
  have hl : lv_has ls 2 [(0, .ref mm), (1, .int k)] := hl
  refine lv_aload_n hx hb dX4_crash_0 rfl (lv_at hl 0 rfl) ?_
  refine lv_aload_n hx hb dX4_crash_1 rfl (lv_at hl 0 rfl) ?_
  refine lv_iload_n hx hb dX4_crash_2 rfl (lv_at hl 1 rfl) ?_
  refine r_callp (As := [.int k]) (rest := [.ref mm]) C w hml hl.1 (q_isNode l D cI cZ cN cO A mm d n _ k ok ) kM_X4_143 kI_X4_isNode kS_X4_isNode kD_X4_isNode (show yX4_isNode.cls = RX4 ∧ yX4_isNode.cls ≠ "java/lang/invoke/MethodHandle" ∧ yX4_isNode.cls ≠ "java/lang/invoke/VarHandle" ∧ (parseMethodDescriptor yX4_isNode.desc).map (fun d => d.parameters.length) = some 1 from by decide +kernel) rfl rfl ⟨Nat.le_of_ble_eq_true rfl, Nat.le_of_ble_eq_true rfl⟩ rfl (lv_room (Nat.le_of_ble_eq_true rfl)) dX4_crash_3 ⟨Nat.zero_le _, Nat.zero_le _⟩ (fun r_1 hr_1 => ?_)
  refine lv_if_eq (tgt := 13) hx hb dX4_crash_6 (by decide) (fun c_6 => absurd hy (ite_eq0 hr_1 c_6)) (fun c_6 => ?_)
  refine lv_iconst (v := 0) hx hb dX4_crash_9 (by decide) ?_
  refine lv_goto (tgt := 14) hx hb dX4_crash_10 (by decide) ?_
  refine r_put_1 C w dX4_crash_14 (fun H locs w => ?_)
  have ok : rOK n _ := rOK.put ok (k := 1) (v := 0) (by decide) (fun h => absurd h (by decide)) (fun h => absurd h (by decide))
  refine lv_aload_n hx hb dX4_crash_17 rfl (lv_at hl 0 rfl) ?_
  refine r_get_1 C w dX4_crash_18 ?_
  refine lv_topi (fun t_2 et_2 => ?_)
  refine lv_if_gt (tgt := 33) hx hb dX4_crash_21 (by decide) (fun c_21 => absurd (by rw [et_2] at c_21; exact c_21) (show ¬ ((0 : Int32) < 0) by decide)) (fun c_21 => ?_)
  refine lv_aload_n hx hb dX4_crash_24 rfl (lv_at hl 0 rfl) ?_
  refine r_get_13 C w dX4_crash_25 ?_
  refine lv_iload_n hx hb dX4_crash_28 rfl (lv_at hl 1 rfl) ?_
  refine r_ld_13 C w (ok.n31 (isN_in (by have := ok.2.1; omega) hy)) dX4_crash_29 ?_
  refine lv_topi (fun t_3 et_3 => ?_)
  refine lv_if_eq (tgt := 35) hx hb dX4_crash_30 (by decide) (fun c_30 => ?_) (fun c_30 => absurd (show t_3 = 0 from by rw [et_3]; exact hdn) c_30)
  refine lv_aload_n hx hb dX4_crash_35 rfl (lv_at hl 0 rfl) ?_
  refine r_get_13 C w dX4_crash_36 ?_
  refine lv_iload_n hx hb dX4_crash_39 rfl (lv_at hl 1 rfl) ?_
  refine lv_iconst (v := 1) hx hb dX4_crash_40 (by decide) ?_
  refine r_st_13 (v := 1) C w rfl (ok.n31 (isN_in (by have := ok.2.1; omega) hy)) dX4_crash_41 (fun H locs w => ?_)
  have ok : rOK n _ := rOK.st ok (k := 13) (i := k.toNatClampNeg) (v := 1) (fun b hb => by cases hb)
  refine lv_aload_n hx hb dX4_crash_42 rfl (lv_at hl 0 rfl) ?_
  refine lv_dup hx hb dX4_crash_43 rfl ?_
  refine r_get_12 C w dX4_crash_44 ?_
  refine lv_topi (fun t_4 et_4 => ?_)
  refine lv_iconst (v := 1) hx hb dX4_crash_47 (by decide) ?_
  refine lv_iadd hx hb dX4_crash_48 ?_
  refine lv_topi (fun t_5 et_5 => ?_)
  refine r_put_12 C w dX4_crash_49 (fun H locs w => ?_)
  have ok : rOK n _ := rOK.put ok (k := 12) (v := t_5) (by decide) (fun h => absurd h (by decide)) (fun h => absurd h (by decide))
  refine lv_iconst (v := 1) hx hb dX4_crash_52 (by decide) ?_
  subst et_5 et_4 et_3 et_2
  exact W.zret (v := 1) (ty := .boolean) hx hb hr rfl (fun t ht hW => ⟨⟨_, (), rfl, rfl, ⟨by rw [ht]; exact w.1, va_K.moved hW.alike hK, w.2.1⟩, ok⟩, w.2.2.F ht⟩) w.2.2.2.2 dX4_crash_53
