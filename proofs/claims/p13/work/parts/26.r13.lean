theorem rOp_in {n : Nat} {σ : RS} (ok : rOK n σ) {x : Int32} (h1 : ¬ x < 1) (h2 : ¬ σ.1 37 < x) : vp_in x 512 := by
  have h3 := ok.2.2.2.2.1
  rw [vp_in_iff] at h3 ⊢
  have a1 : ¬ x.toInt < 1 := fun q => h1 (by rw [Int32.lt_iff_toInt_lt]; exact q)
  have a2 : ¬ (σ.1 37).toInt < x.toInt := fun q => h2 (by rw [Int32.lt_iff_toInt_lt]; exact q)
  omega
theorem rMn_in {n : Nat} {σ : RS} (ok : rOK n σ) {x : Int32} (h1 : ¬ x < 0) (h2 : ¬ σ.1 9 ≤ x) : vp_in x 2001 := by
  have h3 := ok.2.2.2.1
  rw [vp_in_iff] at h3 ⊢
  have a1 : ¬ x.toInt < 0 := fun q => h1 (by rw [Int32.lt_iff_toInt_lt, Int32.toInt_zero]; exact q)
  have a2 : ¬ (σ.1 9).toInt ≤ x.toInt := fun q => h2 (by rw [Int32.le_iff_toInt_le]; exact q)
  omega
def isOp (σ : RS) (x : Int32) : Prop := ¬ x < 1 ∧ ¬ σ.1 37 < x
abbrev isMs (σ : RS) (x : Int32) : Prop := ¬ x < 0 ∧ ¬ σ.1 9 ≤ x
set_option maxHeartbeats 4000000 in
set_option maxRecDepth 100000 in
theorem q_told (l : Launch) (D : va_G) (cI cZ cN cO : ClassId) (A : Nat → Prop) (mm : Nat) (d : Nat → Nat) (n : Nat) (σ : RS) (k p1 : Int32) (ok : rOK n σ)  : Met l yX4_told (.code yX4_told cX4_told 3 (some .int) :: gw) ({ frames := 1, cells := 0, slots := 0, locals := 21 }) (va_Pc (.ref mm :: [.int k, .int p1]) (rH D cI cZ cN cO A mm d σ)) (va_Qi (fun (r : Int32) (_ : Unit) => True) (fun _ t => rH D cI cZ cN cO A mm d (rI σ 1 0) t ∧ rOK n (rI σ 1 0)) A) 0 0 A := by
  refine Met.ofW (cc := cX4_told) (maxL := 3) (ret := (some .int)) (by decide) rfl ?_
  intro p e s m args below meth c s₁ B hml hv
  obtain ⟨rfl, hP, hK, hD⟩ := hv
  have hx := B.exec
  have hb := B.bytes
  have hr := B.returns
  have hts := atoms_spec (ws := (.code yX4_told cX4_told 3 (some .int) :: gw)) B.pre
  have hg : ∀ w ∈ gw, w.before _ s = true := fun w h => hts w (List.mem_cons_of_mem _ h)
  have hown : s.vm.findClass RX4 = some m.cls := findClass_of_methodNamed B.named
  have hlocks := B.notSynchronized
  have C : Cx p c cX4_told s m _ RX4 D (gTy cI cZ cN cO) := ⟨hx, hb, hown, hg, hK⟩
  have w : rWd D cI cZ A s.heap mm d σ s.heap [] := ⟨hP, hD, va_S.rf⟩
  have hl := lv_entry ([.ref mm, .int k, .int p1]) (n := 3) (Nat.le_of_ble_eq_true rfl)
  rw [lg_entry_eq]
  generalize (lg_sl ([.ref mm, .int k, .int p1]) ++ List.replicate (3 - (lg_sl ([.ref mm, .int k, .int p1])).length) Slot.unset).toArray = ls at hl ⊢
  have hl : lv_has ls 3 [(0, .ref mm), (1, .int k), (2, .int p1)] := hl
  refine lv_aload_n hx hb dX4_told_0 rfl (lv_at hl 0 rfl) ?_
  refine lv_iconst (v := 0) hx hb dX4_told_1 (by decide) ?_
  refine r_put_1 C w dX4_told_2 (fun H locs w => ?_)
  have ok : rOK n _ := rOK.put ok (k := 1) (v := 0) (by decide) (fun h => absurd h (by decide)) (fun h => absurd h (by decide))
  refine lv_aload_n hx hb dX4_told_5 rfl (lv_at hl 0 rfl) ?_
  refine lv_iload_n hx hb dX4_told_6 rfl (lv_at hl 1 rfl) ?_
  refine r_callp (As := [.int k]) (rest := []) C w hml hl.1 (q_isOperation l D cI cZ cN cO A mm d n _ k ok ) kM_X4_198 kI_X4_isOperation kS_X4_isOperation kD_X4_isOperation (show yX4_isOperation.cls = RX4 ∧ yX4_isOperation.cls ≠ "java/lang/invoke/MethodHandle" ∧ yX4_isOperation.cls ≠ "java/lang/invoke/VarHandle" ∧ (parseMethodDescriptor yX4_isOperation.desc).map (fun d => d.parameters.length) = some 1 from by decide +kernel) rfl rfl ⟨Nat.le_of_ble_eq_true rfl, Nat.le_of_ble_eq_true rfl⟩ rfl (lv_room (Nat.le_of_ble_eq_true rfl)) dX4_told_7 ⟨Nat.zero_le _, Nat.zero_le _⟩ (fun r_1 hr_1 => ?_)
  refine lv_if_ne (tgt := 15) hx hb dX4_told_10 (by decide) (fun c_10 => ?_) (fun c_10 => ?_)
  · refine lv_iload_n hx hb dX4_told_15 rfl (lv_at hl 2 rfl) ?_
    rcases gSw p1 9 9 rfl (by decide) with hsw | ⟨j, hj, hjx⟩
    · refine lv_tableOut (tgt := 151) hx hb dX4_told_16 hsw (by decide) ?_
      refine lv_iconst (v := (-1)) hx hb dX4_told_151 (by decide) ?_
      exact W.iret hx hb hr (fun t ht hW => ⟨⟨_, (), rfl, trivial, ⟨by rw [ht]; exact w.1, va_K.moved hW.alike hK, w.2.1⟩, ok⟩, w.2.2.F ht⟩) w.2.2.2.2 dX4_told_152
    · rcases (show j = 0 ∨ j = 1 ∨ j = 2 ∨ j = 3 ∨ j = 4 ∨ j = 5 ∨ j = 6 ∨ j = 7 ∨ j = 8 ∨ j = 9 by omega) with hj0 | hj0 | hj0 | hj0 | hj0 | hj0 | hj0 | hj0 | hj0 | hj0
      · rw [hj0] at hjx
        subst hjx
        refine lv_tableIn (off := 56) (tgt := 72) hx hb dX4_told_16 (by decide +kernel) (by decide +kernel) (by decide +kernel) (by decide) ?_
        refine lv_aload_n hx hb dX4_told_72 rfl (lv_at hl 0 rfl) ?_
        refine r_get_26 C w dX4_told_73 ?_
        refine lv_iload_n hx hb dX4_told_76 rfl (lv_at hl 1 rfl) ?_
        refine r_ld_26 C w (rOp_in ok (ite_ne0 hr_1 c_10).1 (ite_ne0 hr_1 c_10).2) dX4_told_77 ?_
        refine lv_topi (fun t_2 et_2 => ?_)
        exact W.iret hx hb hr (fun t ht hW => ⟨⟨_, (), rfl, trivial, ⟨by rw [ht]; exact w.1, va_K.moved hW.alike hK, w.2.1⟩, ok⟩, w.2.2.F ht⟩) w.2.2.2.2 dX4_told_78
      · rw [hj0] at hjx
        subst hjx
        refine lv_tableIn (off := 63) (tgt := 79) hx hb dX4_told_16 (by decide +kernel) (by decide +kernel) (by decide +kernel) (by decide) ?_
        refine lv_aload_n hx hb dX4_told_79 rfl (lv_at hl 0 rfl) ?_
        refine r_get_27 C w dX4_told_80 ?_
        refine lv_iload_n hx hb dX4_told_83 rfl (lv_at hl 1 rfl) ?_
        refine r_ld_27 C w (rOp_in ok (ite_ne0 hr_1 c_10).1 (ite_ne0 hr_1 c_10).2) dX4_told_84 ?_
        refine lv_topi (fun t_3 et_3 => ?_)
        exact W.iret hx hb hr (fun t ht hW => ⟨⟨_, (), rfl, trivial, ⟨by rw [ht]; exact w.1, va_K.moved hW.alike hK, w.2.1⟩, ok⟩, w.2.2.F ht⟩) w.2.2.2.2 dX4_told_85
      · rw [hj0] at hjx
        subst hjx
        refine lv_tableIn (off := 70) (tgt := 86) hx hb dX4_told_16 (by decide +kernel) (by decide +kernel) (by decide +kernel) (by decide) ?_
        refine lv_aload_n hx hb dX4_told_86 rfl (lv_at hl 0 rfl) ?_
        refine r_get_28 C w dX4_told_87 ?_
        refine lv_iload_n hx hb dX4_told_90 rfl (lv_at hl 1 rfl) ?_
        refine r_ld_28 C w (rOp_in ok (ite_ne0 hr_1 c_10).1 (ite_ne0 hr_1 c_10).2) dX4_told_91 ?_
        refine lv_topi (fun t_4 et_4 => ?_)
        exact W.iret hx hb hr (fun t ht hW => ⟨⟨_, (), rfl, trivial, ⟨by rw [ht]; exact w.1, va_K.moved hW.alike hK, w.2.1⟩, ok⟩, w.2.2.F ht⟩) w.2.2.2.2 dX4_told_92
      · rw [hj0] at hjx
        subst hjx
        refine lv_tableIn (off := 77) (tgt := 93) hx hb dX4_told_16 (by decide +kernel) (by decide +kernel) (by decide +kernel) (by decide) ?_
        refine lv_aload_n hx hb dX4_told_93 rfl (lv_at hl 0 rfl) ?_
        refine r_get_29 C w dX4_told_94 ?_
        refine lv_iload_n hx hb dX4_told_97 rfl (lv_at hl 1 rfl) ?_
        refine r_ld_29 C w (rOp_in ok (ite_ne0 hr_1 c_10).1 (ite_ne0 hr_1 c_10).2) dX4_told_98 ?_
        refine lv_topi (fun t_5 et_5 => ?_)
        exact W.iret hx hb hr (fun t ht hW => ⟨⟨_, (), rfl, trivial, ⟨by rw [ht]; exact w.1, va_K.moved hW.alike hK, w.2.1⟩, ok⟩, w.2.2.F ht⟩) w.2.2.2.2 dX4_told_99
      · rw [hj0] at hjx
        subst hjx
        refine lv_tableIn (off := 84) (tgt := 100) hx hb dX4_told_16 (by decide +kernel) (by decide +kernel) (by decide +kernel) (by decide) ?_
        refine lv_aload_n hx hb dX4_told_100 rfl (lv_at hl 0 rfl) ?_
        refine r_get_31 C w dX4_told_101 ?_
        refine lv_iload_n hx hb dX4_told_104 rfl (lv_at hl 1 rfl) ?_
        refine r_ld_31 C w (rOp_in ok (ite_ne0 hr_1 c_10).1 (ite_ne0 hr_1 c_10).2) dX4_told_105 ?_
        refine lv_topi (fun t_6 et_6 => ?_)
        refine lv_iconst (v := (-1)) hx hb dX4_told_106 (by decide) ?_
        refine lv_icmp_ne (tgt := 114) hx hb dX4_told_107 (by decide) (fun c_107 => ?_) (fun c_107 => ?_)
        · refine lv_iconst (v := 1) hx hb dX4_told_114 (by decide) ?_
          exact W.iret hx hb hr (fun t ht hW => ⟨⟨_, (), rfl, trivial, ⟨by rw [ht]; exact w.1, va_K.moved hW.alike hK, w.2.1⟩, ok⟩, w.2.2.F ht⟩) w.2.2.2.2 dX4_told_115
        · refine lv_iconst (v := 0) hx hb dX4_told_110 (by decide) ?_
          refine lv_goto (tgt := 115) hx hb dX4_told_111 (by decide) ?_
          exact W.iret hx hb hr (fun t ht hW => ⟨⟨_, (), rfl, trivial, ⟨by rw [ht]; exact w.1, va_K.moved hW.alike hK, w.2.1⟩, ok⟩, w.2.2.F ht⟩) w.2.2.2.2 dX4_told_115
      · rw [hj0] at hjx
        subst hjx
        refine lv_tableIn (off := 100) (tgt := 116) hx hb dX4_told_16 (by decide +kernel) (by decide +kernel) (by decide +kernel) (by decide) ?_
        refine lv_aload_n hx hb dX4_told_116 rfl (lv_at hl 0 rfl) ?_
        refine r_get_30 C w dX4_told_117 ?_
        refine lv_iload_n hx hb dX4_told_120 rfl (lv_at hl 1 rfl) ?_
        refine r_ld_30 C w (rOp_in ok (ite_ne0 hr_1 c_10).1 (ite_ne0 hr_1 c_10).2) dX4_told_121 ?_
        refine lv_topi (fun t_7 et_7 => ?_)
        exact W.iret hx hb hr (fun t ht hW => ⟨⟨_, (), rfl, trivial, ⟨by rw [ht]; exact w.1, va_K.moved hW.alike hK, w.2.1⟩, ok⟩, w.2.2.F ht⟩) w.2.2.2.2 dX4_told_122
      · rw [hj0] at hjx
        subst hjx
        refine lv_tableIn (off := 107) (tgt := 123) hx hb dX4_told_16 (by decide +kernel) (by decide +kernel) (by decide +kernel) (by decide) ?_
        refine lv_aload_n hx hb dX4_told_123 rfl (lv_at hl 0 rfl) ?_
        refine r_get_31 C w dX4_told_124 ?_
        refine lv_iload_n hx hb dX4_told_127 rfl (lv_at hl 1 rfl) ?_
        refine r_ld_31 C w (rOp_in ok (ite_ne0 hr_1 c_10).1 (ite_ne0 hr_1 c_10).2) dX4_told_128 ?_
        refine lv_topi (fun t_8 et_8 => ?_)
        exact W.iret hx hb hr (fun t ht hW => ⟨⟨_, (), rfl, trivial, ⟨by rw [ht]; exact w.1, va_K.moved hW.alike hK, w.2.1⟩, ok⟩, w.2.2.F ht⟩) w.2.2.2.2 dX4_told_129
      · rw [hj0] at hjx
        subst hjx
        refine lv_tableIn (off := 114) (tgt := 130) hx hb dX4_told_16 (by decide +kernel) (by decide +kernel) (by decide +kernel) (by decide) ?_
        refine lv_aload_n hx hb dX4_told_130 rfl (lv_at hl 0 rfl) ?_
        refine r_get_32 C w dX4_told_131 ?_
        refine lv_iload_n hx hb dX4_told_134 rfl (lv_at hl 1 rfl) ?_
        refine r_ld_32 C w (rOp_in ok (ite_ne0 hr_1 c_10).1 (ite_ne0 hr_1 c_10).2) dX4_told_135 ?_
        refine lv_topi (fun t_9 et_9 => ?_)
        exact W.iret hx hb hr (fun t ht hW => ⟨⟨_, (), rfl, trivial, ⟨by rw [ht]; exact w.1, va_K.moved hW.alike hK, w.2.1⟩, ok⟩, w.2.2.F ht⟩) w.2.2.2.2 dX4_told_136
      · rw [hj0] at hjx
        subst hjx
        refine lv_tableIn (off := 121) (tgt := 137) hx hb dX4_told_16 (by decide +kernel) (by decide +kernel) (by decide +kernel) (by decide) ?_
        refine lv_aload_n hx hb dX4_told_137 rfl (lv_at hl 0 rfl) ?_
        refine r_get_33 C w dX4_told_138 ?_
        refine lv_iload_n hx hb dX4_told_141 rfl (lv_at hl 1 rfl) ?_
        refine r_ld_33 C w (rOp_in ok (ite_ne0 hr_1 c_10).1 (ite_ne0 hr_1 c_10).2) dX4_told_142 ?_
        refine lv_topi (fun t_10 et_10 => ?_)
        exact W.iret hx hb hr (fun t ht hW => ⟨⟨_, (), rfl, trivial, ⟨by rw [ht]; exact w.1, va_K.moved hW.alike hK, w.2.1⟩, ok⟩, w.2.2.F ht⟩) w.2.2.2.2 dX4_told_143
      · rw [hj0] at hjx
        subst hjx
        refine lv_tableIn (off := 128) (tgt := 144) hx hb dX4_told_16 (by decide +kernel) (by decide +kernel) (by decide +kernel) (by decide) ?_
        refine lv_aload_n hx hb dX4_told_144 rfl (lv_at hl 0 rfl) ?_
        refine r_get_34 C w dX4_told_145 ?_
        refine lv_iload_n hx hb dX4_told_148 rfl (lv_at hl 1 rfl) ?_
        refine r_ld_34 C w (rOp_in ok (ite_ne0 hr_1 c_10).1 (ite_ne0 hr_1 c_10).2) dX4_told_149 ?_
        refine lv_topi (fun t_11 et_11 => ?_)
        exact W.iret hx hb hr (fun t ht hW => ⟨⟨_, (), rfl, trivial, ⟨by rw [ht]; exact w.1, va_K.moved hW.alike hK, w.2.1⟩, ok⟩, w.2.2.F ht⟩) w.2.2.2.2 dX4_told_150
  · refine lv_iconst (v := (-1)) hx hb dX4_told_13 (by decide) ?_
    exact W.iret hx hb hr (fun t ht hW => ⟨⟨_, (), rfl, trivial, ⟨by rw [ht]; exact w.1, va_K.moved hW.alike hK, w.2.1⟩, ok⟩, w.2.2.F ht⟩) w.2.2.2.2 dX4_told_14
set_option maxHeartbeats 4000000 in
set_option maxRecDepth 100000 in
theorem q_view (l : Launch) (D : va_G) (cI cZ cN cO : ClassId) (A : Nat → Prop) (mm : Nat) (d : Nat → Nat) (n : Nat) (σ : RS) (k p1 : Int32) (ok : rOK n σ)  : Met l yX4_view (.code yX4_view cX4_view 3 (some .int) :: gw) ({ frames := 1, cells := 0, slots := 0, locals := 21 }) (va_Pc (.ref mm :: [.int k, .int p1]) (rH D cI cZ cN cO A mm d σ)) (va_Qi (fun (r : Int32) (_ : Unit) => (isOp σ k ∧ ¬ σ.2 36 k.toNatClampNeg = 0 ∧ isN n p1 ∧ r = σ.2 35 ((31 : Int32) * k + p1).toNatClampNeg) ∨ (¬ (isOp σ k ∧ ¬ σ.2 36 k.toNatClampNeg = 0 ∧ isN n p1) ∧ r = -1)) (fun _ t => rH D cI cZ cN cO A mm d (rI σ 1 0) t ∧ rOK n (rI σ 1 0)) A) 0 0 A := by
  refine Met.ofW (cc := cX4_view) (maxL := 3) (ret := (some .int)) (by decide) rfl ?_
  intro p e s m args below meth c s₁ B hml hv
  obtain ⟨rfl, hP, hK, hD⟩ := hv
  have hx := B.exec
  have hb := B.bytes
  have hr := B.returns
  have hts := atoms_spec (ws := (.code yX4_view cX4_view 3 (some .int) :: gw)) B.pre
  have hg : ∀ w ∈ gw, w.before _ s = true := fun w h => hts w (List.mem_cons_of_mem _ h)
  have hown : s.vm.findClass RX4 = some m.cls := findClass_of_methodNamed B.named
  have hlocks := B.notSynchronized
  have C : Cx p c cX4_view s m _ RX4 D (gTy cI cZ cN cO) := ⟨hx, hb, hown, hg, hK⟩
  have w : rWd D cI cZ A s.heap mm d σ s.heap [] := ⟨hP, hD, va_S.rf⟩
  have hl := lv_entry ([.ref mm, .int k, .int p1]) (n := 3) (Nat.le_of_ble_eq_true rfl)
  rw [lg_entry_eq]
  generalize (lg_sl ([.ref mm, .int k, .int p1]) ++ List.replicate (3 - (lg_sl ([.ref mm, .int k, .int p1])).length) Slot.unset).toArray = ls at hl ⊢
  have hl : lv_has ls 3 [(0, .ref mm), (1, .int k), (2, .int p1)] := hl
  refine lv_aload_n hx hb dX4_view_0 rfl (lv_at hl 0 rfl) ?_
  refine lv_iconst (v := 0) hx hb dX4_view_1 (by decide) ?_
  refine r_put_1 C w dX4_view_2 (fun H locs w => ?_)
  have ok : rOK n _ := rOK.put ok (k := 1) (v := 0) (by decide) (fun h => absurd h (by decide)) (fun h => absurd h (by decide))
  refine lv_aload_n hx hb dX4_view_5 rfl (lv_at hl 0 rfl) ?_
  refine lv_iload_n hx hb dX4_view_6 rfl (lv_at hl 1 rfl) ?_
  refine r_callp (As := [.int k]) (rest := []) C w hml hl.1 (q_isOperation l D cI cZ cN cO A mm d n _ k ok ) kM_X4_198 kI_X4_isOperation kS_X4_isOperation kD_X4_isOperation (show yX4_isOperation.cls = RX4 ∧ yX4_isOperation.cls ≠ "java/lang/invoke/MethodHandle" ∧ yX4_isOperation.cls ≠ "java/lang/invoke/VarHandle" ∧ (parseMethodDescriptor yX4_isOperation.desc).map (fun d => d.parameters.length) = some 1 from by decide +kernel) rfl rfl ⟨Nat.le_of_ble_eq_true rfl, Nat.le_of_ble_eq_true rfl⟩ rfl (lv_room (Nat.le_of_ble_eq_true rfl)) dX4_view_7 ⟨Nat.zero_le _, Nat.zero_le _⟩ (fun r_1 hr_1 => ?_)
  refine lv_if_eq (tgt := 44) hx hb dX4_view_10 (by decide) (fun c_10 => ?_) (fun c_10 => ?_)
  · refine lv_iconst (v := (-1)) hx hb dX4_view_44 (by decide) ?_
    exact W.iret hx hb hr (fun t ht hW => ⟨⟨_, (), rfl, (by first | (have q1 := ite_ne0 hr_1 c_10; have q2 := ite_ne0 hr_3 c_27; exact Or.inl ⟨q1, c_19, q2, rfl⟩) | (have q1 := ite_eq0 hr_1 c_10; exact Or.inr ⟨fun h => q1 h.1, rfl⟩) | exact Or.inr ⟨fun h => h.2.1 c_19, rfl⟩ | (have q1 := ite_eq0 hr_3 c_27; exact Or.inr ⟨fun h => q1 h.2.2, rfl⟩)), ⟨by rw [ht]; exact w.1, va_K.moved hW.alike hK, w.2.1⟩, ok⟩, w.2.2.F ht⟩) w.2.2.2.2 dX4_view_45
  · refine lv_aload_n hx hb dX4_view_13 rfl (lv_at hl 0 rfl) ?_
    refine r_get_36 C w dX4_view_14 ?_
    refine lv_iload_n hx hb dX4_view_17 rfl (lv_at hl 1 rfl) ?_
    refine r_ld_36 C w (rOp_in ok (ite_ne0 hr_1 c_10).1 (ite_ne0 hr_1 c_10).2) dX4_view_18 ?_
    refine lv_topi (fun t_2 et_2 => ?_)
    refine lv_if_eq (tgt := 44) hx hb dX4_view_19 (by decide) (fun c_19 => ?_) (fun c_19 => ?_)
    · refine lv_iconst (v := (-1)) hx hb dX4_view_44 (by decide) ?_
      subst et_2
      exact W.iret hx hb hr (fun t ht hW => ⟨⟨_, (), rfl, (by first | (have q1 := ite_ne0 hr_1 c_10; have q2 := ite_ne0 hr_3 c_27; exact Or.inl ⟨q1, c_19, q2, rfl⟩) | (have q1 := ite_eq0 hr_1 c_10; exact Or.inr ⟨fun h => q1 h.1, rfl⟩) | exact Or.inr ⟨fun h => h.2.1 c_19, rfl⟩ | (have q1 := ite_eq0 hr_3 c_27; exact Or.inr ⟨fun h => q1 h.2.2, rfl⟩)), ⟨by rw [ht]; exact w.1, va_K.moved hW.alike hK, w.2.1⟩, ok⟩, w.2.2.F ht⟩) w.2.2.2.2 dX4_view_45
    · refine lv_aload_n hx hb dX4_view_22 rfl (lv_at hl 0 rfl) ?_
      refine lv_iload_n hx hb dX4_view_23 rfl (lv_at hl 2 rfl) ?_
      refine r_callp (As := [.int p1]) (rest := []) C w hml hl.1 (q_isNode l D cI cZ cN cO A mm d n _ p1 ok ) kM_X4_143 kI_X4_isNode kS_X4_isNode kD_X4_isNode (show yX4_isNode.cls = RX4 ∧ yX4_isNode.cls ≠ "java/lang/invoke/MethodHandle" ∧ yX4_isNode.cls ≠ "java/lang/invoke/VarHandle" ∧ (parseMethodDescriptor yX4_isNode.desc).map (fun d => d.parameters.length) = some 1 from by decide +kernel) rfl rfl ⟨Nat.le_of_ble_eq_true rfl, Nat.le_of_ble_eq_true rfl⟩ rfl (lv_room (Nat.le_of_ble_eq_true rfl)) dX4_view_24 ⟨Nat.zero_le _, Nat.zero_le _⟩ (fun r_3 hr_3 => ?_)
      refine lv_if_eq (tgt := 44) hx hb dX4_view_27 (by decide) (fun c_27 => ?_) (fun c_27 => ?_)
      · refine lv_iconst (v := (-1)) hx hb dX4_view_44 (by decide) ?_
        subst et_2
        exact W.iret hx hb hr (fun t ht hW => ⟨⟨_, (), rfl, (by first | (have q1 := ite_ne0 hr_1 c_10; have q2 := ite_ne0 hr_3 c_27; exact Or.inl ⟨q1, c_19, q2, rfl⟩) | (have q1 := ite_eq0 hr_1 c_10; exact Or.inr ⟨fun h => q1 h.1, rfl⟩) | exact Or.inr ⟨fun h => h.2.1 c_19, rfl⟩ | (have q1 := ite_eq0 hr_3 c_27; exact Or.inr ⟨fun h => q1 h.2.2, rfl⟩)), ⟨by rw [ht]; exact w.1, va_K.moved hW.alike hK, w.2.1⟩, ok⟩, w.2.2.F ht⟩) w.2.2.2.2 dX4_view_45
      · refine lv_aload_n hx hb dX4_view_30 rfl (lv_at hl 0 rfl) ?_
        refine r_get_35 C w dX4_view_31 ?_
        refine lv_bipush (v := 31) hx hb dX4_view_34 (by decide) ?_
        refine lv_iload_n hx hb dX4_view_36 rfl (lv_at hl 1 rfl) ?_
        refine lv_imul hx hb dX4_view_37 ?_
        refine lv_topi (fun t_4 et_4 => ?_)
        refine lv_iload_n hx hb dX4_view_38 rfl (lv_at hl 2 rfl) ?_
        refine lv_iadd hx hb dX4_view_39 ?_
        refine lv_topi (fun t_5 et_5 => ?_)
        refine r_ld_35 C w (by rw [et_5, et_4]; exact gIx (c := 31) (N := 512) rfl (by decide) (rOp_in ok (ite_ne0 hr_1 c_10).1 (ite_ne0 hr_1 c_10).2) (ok.n31 (isN_in (by have := ok.2.1; omega) (ite_ne0 hr_3 c_27)))) dX4_view_40 ?_
        refine lv_topi (fun t_6 et_6 => ?_)
        refine lv_goto (tgt := 45) hx hb dX4_view_41 (by decide) ?_
        subst et_6 et_5 et_4 et_2
        exact W.iret hx hb hr (fun t ht hW => ⟨⟨_, (), rfl, (by first | (have q1 := ite_ne0 hr_1 c_10; have q2 := ite_ne0 hr_3 c_27; exact Or.inl ⟨q1, c_19, q2, rfl⟩) | (have q1 := ite_eq0 hr_1 c_10; exact Or.inr ⟨fun h => q1 h.1, rfl⟩) | exact Or.inr ⟨fun h => h.2.1 c_19, rfl⟩ | (have q1 := ite_eq0 hr_3 c_27; exact Or.inr ⟨fun h => q1 h.2.2, rfl⟩)), ⟨by rw [ht]; exact w.1, va_K.moved hW.alike hK, w.2.1⟩, ok⟩, w.2.2.F ht⟩) w.2.2.2.2 dX4_view_45
set_option maxHeartbeats 4000000 in
set_option maxRecDepth 100000 in
theorem q_node (l : Launch) (D : va_G) (cI cZ cN cO : ClassId) (A : Nat → Prop) (mm : Nat) (d : Nat → Nat) (n : Nat) (σ : RS) (k p1 : Int32) (ok : rOK n σ)  : Met l yX4_node (.code yX4_node cX4_node 3 (some .int) :: gw) ({ frames := 1, cells := 0, slots := 0, locals := 21 }) (va_Pc (.ref mm :: [.int k, .int p1]) (rH D cI cZ cN cO A mm d σ)) (va_Qi (fun (r : Int32) (_ : Unit) => r = if ¬ isN n k then -1 else if p1.toInt < 0 ∨ 5 < p1.toInt then -1 else if p1 = 0 then (if σ.2 13 k.toNatClampNeg = 0 then 1 else 0) else if p1 = 1 then σ.2 14 k.toNatClampNeg else if p1 = 2 then σ.2 15 k.toNatClampNeg else if p1 = 3 then σ.2 16 k.toNatClampNeg else if p1 = 4 then (if σ.2 14 k.toNatClampNeg = 0 then 0 else σ.2 17 k.toNatClampNeg) else σ.2 19 k.toNatClampNeg) (fun _ t => rH D cI cZ cN cO A mm d (rI σ 1 0) t ∧ rOK n (rI σ 1 0)) A) 0 0 A := by
  refine Met.ofW (cc := cX4_node) (maxL := 3) (ret := (some .int)) (by decide) rfl ?_
  intro p e s m args below meth c s₁ B hml hv
  obtain ⟨rfl, hP, hK, hD⟩ := hv
  have hx := B.exec
  have hb := B.bytes
  have hr := B.returns
  have hts := atoms_spec (ws := (.code yX4_node cX4_node 3 (some .int) :: gw)) B.pre
  have hg : ∀ w ∈ gw, w.before _ s = true := fun w h => hts w (List.mem_cons_of_mem _ h)
  have hown : s.vm.findClass RX4 = some m.cls := findClass_of_methodNamed B.named
  have hlocks := B.notSynchronized
  have C : Cx p c cX4_node s m _ RX4 D (gTy cI cZ cN cO) := ⟨hx, hb, hown, hg, hK⟩
  have w : rWd D cI cZ A s.heap mm d σ s.heap [] := ⟨hP, hD, va_S.rf⟩
  have hl := lv_entry ([.ref mm, .int k, .int p1]) (n := 3) (Nat.le_of_ble_eq_true rfl)
  rw [lg_entry_eq]
  generalize (lg_sl ([.ref mm, .int k, .int p1]) ++ List.replicate (3 - (lg_sl ([.ref mm, .int k, .int p1])).length) Slot.unset).toArray = ls at hl ⊢
  have hl : lv_has ls 3 [(0, .ref mm), (1, .int k), (2, .int p1)] := hl
  refine lv_aload_n hx hb dX4_node_0 rfl (lv_at hl 0 rfl) ?_
  refine lv_iconst (v := 0) hx hb dX4_node_1 (by decide) ?_
  refine r_put_1 C w dX4_node_2 (fun H locs w => ?_)
  have ok : rOK n _ := rOK.put ok (k := 1) (v := 0) (by decide) (fun h => absurd h (by decide)) (fun h => absurd h (by decide))
  refine lv_aload_n hx hb dX4_node_5 rfl (lv_at hl 0 rfl) ?_
  refine lv_iload_n hx hb dX4_node_6 rfl (lv_at hl 1 rfl) ?_
  refine r_callp (As := [.int k]) (rest := []) C w hml hl.1 (q_isNode l D cI cZ cN cO A mm d n _ k ok ) kM_X4_143 kI_X4_isNode kS_X4_isNode kD_X4_isNode (show yX4_isNode.cls = RX4 ∧ yX4_isNode.cls ≠ "java/lang/invoke/MethodHandle" ∧ yX4_isNode.cls ≠ "java/lang/invoke/VarHandle" ∧ (parseMethodDescriptor yX4_isNode.desc).map (fun d => d.parameters.length) = some 1 from by decide +kernel) rfl rfl ⟨Nat.le_of_ble_eq_true rfl, Nat.le_of_ble_eq_true rfl⟩ rfl (lv_room (Nat.le_of_ble_eq_true rfl)) dX4_node_7 ⟨Nat.zero_le _, Nat.zero_le _⟩ (fun r_1 hr_1 => ?_)
  refine lv_if_ne (tgt := 15) hx hb dX4_node_10 (by decide) (fun c_10 => ?_) (fun c_10 => ?_)
  · refine lv_iload_n hx hb dX4_node_15 rfl (lv_at hl 2 rfl) ?_
    rcases gSw p1 5 5 rfl (by decide) with hsw | ⟨j, hj, hjx⟩
    · refine lv_tableOut (tgt := 119) hx hb dX4_node_16 hsw (by decide) ?_
      refine lv_iconst (v := (-1)) hx hb dX4_node_119 (by decide) ?_
      exact W.iret hx hb hr (fun t ht hW => ⟨⟨_, (), rfl, (by first | (rw [if_pos (ite_eq0 hr_1 c_10)]) | (rw [if_neg (fun z => z (ite_ne0 hr_1 c_10)), if_pos hsw]) | (rw [if_neg (fun z => z (ite_ne0 hr_1 c_10)), if_neg (by decide +kernel)]; first | (rw [if_pos (by decide +kernel)]; first | exact (if_pos (by assumption)).symm | exact (if_neg (by assumption)).symm | rfl) | (rw [if_neg (by decide +kernel), if_pos (by decide +kernel)]; rfl) | (rw [if_neg (by decide +kernel), if_neg (by decide +kernel), if_pos (by decide +kernel)]; rfl) | (rw [if_neg (by decide +kernel), if_neg (by decide +kernel), if_neg (by decide +kernel), if_pos (by decide +kernel)]; rfl) | (rw [if_neg (by decide +kernel), if_neg (by decide +kernel), if_neg (by decide +kernel), if_neg (by decide +kernel), if_pos (by decide +kernel)]; first | exact (if_pos (by assumption)).symm | exact (if_neg (by assumption)).symm) | (rw [if_neg (by decide +kernel), if_neg (by decide +kernel), if_neg (by decide +kernel), if_neg (by decide +kernel), if_neg (by decide +kernel)]; rfl))), ⟨by rw [ht]; exact w.1, va_K.moved hW.alike hK, w.2.1⟩, ok⟩, w.2.2.F ht⟩) w.2.2.2.2 dX4_node_120
    · rcases (show j = 0 ∨ j = 1 ∨ j = 2 ∨ j = 3 ∨ j = 4 ∨ j = 5 by omega) with hj0 | hj0 | hj0 | hj0 | hj0 | hj0
      · rw [hj0] at hjx
        subst hjx
        refine lv_tableIn (off := 40) (tgt := 56) hx hb dX4_node_16 (by decide +kernel) (by decide +kernel) (by decide +kernel) (by decide) ?_
        refine lv_aload_n hx hb dX4_node_56 rfl (lv_at hl 0 rfl) ?_
        refine r_get_13 C w dX4_node_57 ?_
        refine lv_iload_n hx hb dX4_node_60 rfl (lv_at hl 1 rfl) ?_
        refine r_ld_13 C w (ok.n31 (isN_in (by have := ok.2.1; omega) (ite_ne0 hr_1 c_10))) dX4_node_61 ?_
        refine lv_topi (fun t_2 et_2 => ?_)
        refine lv_if_eq (tgt := 69) hx hb dX4_node_62 (by decide) (fun c_62 => ?_) (fun c_62 => ?_)
        · refine lv_iconst (v := 1) hx hb dX4_node_69 (by decide) ?_
          subst et_2
          exact W.iret hx hb hr (fun t ht hW => ⟨⟨_, (), rfl, (by first | (rw [if_pos (ite_eq0 hr_1 c_10)]) | (rw [if_neg (fun z => z (ite_ne0 hr_1 c_10)), if_pos hsw]) | (rw [if_neg (fun z => z (ite_ne0 hr_1 c_10)), if_neg (by decide +kernel)]; first | (rw [if_pos (by decide +kernel)]; first | exact (if_pos (by assumption)).symm | exact (if_neg (by assumption)).symm | rfl) | (rw [if_neg (by decide +kernel), if_pos (by decide +kernel)]; rfl) | (rw [if_neg (by decide +kernel), if_neg (by decide +kernel), if_pos (by decide +kernel)]; rfl) | (rw [if_neg (by decide +kernel), if_neg (by decide +kernel), if_neg (by decide +kernel), if_pos (by decide +kernel)]; rfl) | (rw [if_neg (by decide +kernel), if_neg (by decide +kernel), if_neg (by decide +kernel), if_neg (by decide +kernel), if_pos (by decide +kernel)]; first | exact (if_pos (by assumption)).symm | exact (if_neg (by assumption)).symm) | (rw [if_neg (by decide +kernel), if_neg (by decide +kernel), if_neg (by decide +kernel), if_neg (by decide +kernel), if_neg (by decide +kernel)]; rfl))), ⟨by rw [ht]; exact w.1, va_K.moved hW.alike hK, w.2.1⟩, ok⟩, w.2.2.F ht⟩) w.2.2.2.2 dX4_node_70
        · refine lv_iconst (v := 0) hx hb dX4_node_65 (by decide) ?_
          refine lv_goto (tgt := 70) hx hb dX4_node_66 (by decide) ?_
          subst et_2
          exact W.iret hx hb hr (fun t ht hW => ⟨⟨_, (), rfl, (by first | (rw [if_pos (ite_eq0 hr_1 c_10)]) | (rw [if_neg (fun z => z (ite_ne0 hr_1 c_10)), if_pos hsw]) | (rw [if_neg (fun z => z (ite_ne0 hr_1 c_10)), if_neg (by decide +kernel)]; first | (rw [if_pos (by decide +kernel)]; first | exact (if_pos (by assumption)).symm | exact (if_neg (by assumption)).symm | rfl) | (rw [if_neg (by decide +kernel), if_pos (by decide +kernel)]; rfl) | (rw [if_neg (by decide +kernel), if_neg (by decide +kernel), if_pos (by decide +kernel)]; rfl) | (rw [if_neg (by decide +kernel), if_neg (by decide +kernel), if_neg (by decide +kernel), if_pos (by decide +kernel)]; rfl) | (rw [if_neg (by decide +kernel), if_neg (by decide +kernel), if_neg (by decide +kernel), if_neg (by decide +kernel), if_pos (by decide +kernel)]; first | exact (if_pos (by assumption)).symm | exact (if_neg (by assumption)).symm) | (rw [if_neg (by decide +kernel), if_neg (by decide +kernel), if_neg (by decide +kernel), if_neg (by decide +kernel), if_neg (by decide +kernel)]; rfl))), ⟨by rw [ht]; exact w.1, va_K.moved hW.alike hK, w.2.1⟩, ok⟩, w.2.2.F ht⟩) w.2.2.2.2 dX4_node_70
      · rw [hj0] at hjx
        subst hjx
        refine lv_tableIn (off := 55) (tgt := 71) hx hb dX4_node_16 (by decide +kernel) (by decide +kernel) (by decide +kernel) (by decide) ?_
        refine lv_aload_n hx hb dX4_node_71 rfl (lv_at hl 0 rfl) ?_
        refine r_get_14 C w dX4_node_72 ?_
        refine lv_iload_n hx hb dX4_node_75 rfl (lv_at hl 1 rfl) ?_
        refine r_ld_14 C w (ok.n31 (isN_in (by have := ok.2.1; omega) (ite_ne0 hr_1 c_10))) dX4_node_76 ?_
        refine lv_topi (fun t_3 et_3 => ?_)
        subst et_3
        exact W.iret hx hb hr (fun t ht hW => ⟨⟨_, (), rfl, (by first | (rw [if_pos (ite_eq0 hr_1 c_10)]) | (rw [if_neg (fun z => z (ite_ne0 hr_1 c_10)), if_pos hsw]) | (rw [if_neg (fun z => z (ite_ne0 hr_1 c_10)), if_neg (by decide +kernel)]; first | (rw [if_pos (by decide +kernel)]; first | exact (if_pos (by assumption)).symm | exact (if_neg (by assumption)).symm | rfl) | (rw [if_neg (by decide +kernel), if_pos (by decide +kernel)]; rfl) | (rw [if_neg (by decide +kernel), if_neg (by decide +kernel), if_pos (by decide +kernel)]; rfl) | (rw [if_neg (by decide +kernel), if_neg (by decide +kernel), if_neg (by decide +kernel), if_pos (by decide +kernel)]; rfl) | (rw [if_neg (by decide +kernel), if_neg (by decide +kernel), if_neg (by decide +kernel), if_neg (by decide +kernel), if_pos (by decide +kernel)]; first | exact (if_pos (by assumption)).symm | exact (if_neg (by assumption)).symm) | (rw [if_neg (by decide +kernel), if_neg (by decide +kernel), if_neg (by decide +kernel), if_neg (by decide +kernel), if_neg (by decide +kernel)]; rfl))), ⟨by rw [ht]; exact w.1, va_K.moved hW.alike hK, w.2.1⟩, ok⟩, w.2.2.F ht⟩) w.2.2.2.2 dX4_node_77
      · rw [hj0] at hjx
        subst hjx
        refine lv_tableIn (off := 62) (tgt := 78) hx hb dX4_node_16 (by decide +kernel) (by decide +kernel) (by decide +kernel) (by decide) ?_
        refine lv_aload_n hx hb dX4_node_78 rfl (lv_at hl 0 rfl) ?_
        refine r_get_15 C w dX4_node_79 ?_
        refine lv_iload_n hx hb dX4_node_82 rfl (lv_at hl 1 rfl) ?_
        refine r_ld_15 C w (ok.n31 (isN_in (by have := ok.2.1; omega) (ite_ne0 hr_1 c_10))) dX4_node_83 ?_
        refine lv_topi (fun t_4 et_4 => ?_)
        subst et_4
        exact W.iret hx hb hr (fun t ht hW => ⟨⟨_, (), rfl, (by first | (rw [if_pos (ite_eq0 hr_1 c_10)]) | (rw [if_neg (fun z => z (ite_ne0 hr_1 c_10)), if_pos hsw]) | (rw [if_neg (fun z => z (ite_ne0 hr_1 c_10)), if_neg (by decide +kernel)]; first | (rw [if_pos (by decide +kernel)]; first | exact (if_pos (by assumption)).symm | exact (if_neg (by assumption)).symm | rfl) | (rw [if_neg (by decide +kernel), if_pos (by decide +kernel)]; rfl) | (rw [if_neg (by decide +kernel), if_neg (by decide +kernel), if_pos (by decide +kernel)]; rfl) | (rw [if_neg (by decide +kernel), if_neg (by decide +kernel), if_neg (by decide +kernel), if_pos (by decide +kernel)]; rfl) | (rw [if_neg (by decide +kernel), if_neg (by decide +kernel), if_neg (by decide +kernel), if_neg (by decide +kernel), if_pos (by decide +kernel)]; first | exact (if_pos (by assumption)).symm | exact (if_neg (by assumption)).symm) | (rw [if_neg (by decide +kernel), if_neg (by decide +kernel), if_neg (by decide +kernel), if_neg (by decide +kernel), if_neg (by decide +kernel)]; rfl))), ⟨by rw [ht]; exact w.1, va_K.moved hW.alike hK, w.2.1⟩, ok⟩, w.2.2.F ht⟩) w.2.2.2.2 dX4_node_84
      · rw [hj0] at hjx
        subst hjx
        refine lv_tableIn (off := 69) (tgt := 85) hx hb dX4_node_16 (by decide +kernel) (by decide +kernel) (by decide +kernel) (by decide) ?_
        refine lv_aload_n hx hb dX4_node_85 rfl (lv_at hl 0 rfl) ?_
        refine r_get_16 C w dX4_node_86 ?_
        refine lv_iload_n hx hb dX4_node_89 rfl (lv_at hl 1 rfl) ?_
        refine r_ld_16 C w (ok.n31 (isN_in (by have := ok.2.1; omega) (ite_ne0 hr_1 c_10))) dX4_node_90 ?_
        refine lv_topi (fun t_5 et_5 => ?_)
        subst et_5
        exact W.iret hx hb hr (fun t ht hW => ⟨⟨_, (), rfl, (by first | (rw [if_pos (ite_eq0 hr_1 c_10)]) | (rw [if_neg (fun z => z (ite_ne0 hr_1 c_10)), if_pos hsw]) | (rw [if_neg (fun z => z (ite_ne0 hr_1 c_10)), if_neg (by decide +kernel)]; first | (rw [if_pos (by decide +kernel)]; first | exact (if_pos (by assumption)).symm | exact (if_neg (by assumption)).symm | rfl) | (rw [if_neg (by decide +kernel), if_pos (by decide +kernel)]; rfl) | (rw [if_neg (by decide +kernel), if_neg (by decide +kernel), if_pos (by decide +kernel)]; rfl) | (rw [if_neg (by decide +kernel), if_neg (by decide +kernel), if_neg (by decide +kernel), if_pos (by decide +kernel)]; rfl) | (rw [if_neg (by decide +kernel), if_neg (by decide +kernel), if_neg (by decide +kernel), if_neg (by decide +kernel), if_pos (by decide +kernel)]; first | exact (if_pos (by assumption)).symm | exact (if_neg (by assumption)).symm) | (rw [if_neg (by decide +kernel), if_neg (by decide +kernel), if_neg (by decide +kernel), if_neg (by decide +kernel), if_neg (by decide +kernel)]; rfl))), ⟨by rw [ht]; exact w.1, va_K.moved hW.alike hK, w.2.1⟩, ok⟩, w.2.2.F ht⟩) w.2.2.2.2 dX4_node_91
      · rw [hj0] at hjx
        subst hjx
        refine lv_tableIn (off := 76) (tgt := 92) hx hb dX4_node_16 (by decide +kernel) (by decide +kernel) (by decide +kernel) (by decide) ?_
        refine lv_aload_n hx hb dX4_node_92 rfl (lv_at hl 0 rfl) ?_
        refine r_get_14 C w dX4_node_93 ?_
        refine lv_iload_n hx hb dX4_node_96 rfl (lv_at hl 1 rfl) ?_
        refine r_ld_14 C w (ok.n31 (isN_in (by have := ok.2.1; omega) (ite_ne0 hr_1 c_10))) dX4_node_97 ?_
        refine lv_topi (fun t_6 et_6 => ?_)
        refine lv_if_ne (tgt := 105) hx hb dX4_node_98 (by decide) (fun c_98 => ?_) (fun c_98 => ?_)
        · refine lv_aload_n hx hb dX4_node_105 rfl (lv_at hl 0 rfl) ?_
          refine r_get_17 C w dX4_node_106 ?_
          refine lv_iload_n hx hb dX4_node_109 rfl (lv_at hl 1 rfl) ?_
          refine r_ld_17 C w (ok.n31 (isN_in (by have := ok.2.1; omega) (ite_ne0 hr_1 c_10))) dX4_node_110 ?_
          refine lv_topi (fun t_7 et_7 => ?_)
          subst et_7 et_6
          exact W.iret hx hb hr (fun t ht hW => ⟨⟨_, (), rfl, (by first | (rw [if_pos (ite_eq0 hr_1 c_10)]) | (rw [if_neg (fun z => z (ite_ne0 hr_1 c_10)), if_pos hsw]) | (rw [if_neg (fun z => z (ite_ne0 hr_1 c_10)), if_neg (by decide +kernel)]; first | (rw [if_pos (by decide +kernel)]; first | exact (if_pos (by assumption)).symm | exact (if_neg (by assumption)).symm | rfl) | (rw [if_neg (by decide +kernel), if_pos (by decide +kernel)]; rfl) | (rw [if_neg (by decide +kernel), if_neg (by decide +kernel), if_pos (by decide +kernel)]; rfl) | (rw [if_neg (by decide +kernel), if_neg (by decide +kernel), if_neg (by decide +kernel), if_pos (by decide +kernel)]; rfl) | (rw [if_neg (by decide +kernel), if_neg (by decide +kernel), if_neg (by decide +kernel), if_neg (by decide +kernel), if_pos (by decide +kernel)]; first | exact (if_pos (by assumption)).symm | exact (if_neg (by assumption)).symm) | (rw [if_neg (by decide +kernel), if_neg (by decide +kernel), if_neg (by decide +kernel), if_neg (by decide +kernel), if_neg (by decide +kernel)]; rfl))), ⟨by rw [ht]; exact w.1, va_K.moved hW.alike hK, w.2.1⟩, ok⟩, w.2.2.F ht⟩) w.2.2.2.2 dX4_node_111
        · refine lv_iconst (v := 0) hx hb dX4_node_101 (by decide) ?_
          refine lv_goto (tgt := 111) hx hb dX4_node_102 (by decide) ?_
          subst et_6
          exact W.iret hx hb hr (fun t ht hW => ⟨⟨_, (), rfl, (by first | (rw [if_pos (ite_eq0 hr_1 c_10)]) | (rw [if_neg (fun z => z (ite_ne0 hr_1 c_10)), if_pos hsw]) | (rw [if_neg (fun z => z (ite_ne0 hr_1 c_10)), if_neg (by decide +kernel)]; first | (rw [if_pos (by decide +kernel)]; first | exact (if_pos (by assumption)).symm | exact (if_neg (by assumption)).symm | rfl) | (rw [if_neg (by decide +kernel), if_pos (by decide +kernel)]; rfl) | (rw [if_neg (by decide +kernel), if_neg (by decide +kernel), if_pos (by decide +kernel)]; rfl) | (rw [if_neg (by decide +kernel), if_neg (by decide +kernel), if_neg (by decide +kernel), if_pos (by decide +kernel)]; rfl) | (rw [if_neg (by decide +kernel), if_neg (by decide +kernel), if_neg (by decide +kernel), if_neg (by decide +kernel), if_pos (by decide +kernel)]; first | exact (if_pos (by assumption)).symm | exact (if_neg (by assumption)).symm) | (rw [if_neg (by decide +kernel), if_neg (by decide +kernel), if_neg (by decide +kernel), if_neg (by decide +kernel), if_neg (by decide +kernel)]; rfl))), ⟨by rw [ht]; exact w.1, va_K.moved hW.alike hK, w.2.1⟩, ok⟩, w.2.2.F ht⟩) w.2.2.2.2 dX4_node_111
      · rw [hj0] at hjx
        subst hjx
        refine lv_tableIn (off := 96) (tgt := 112) hx hb dX4_node_16 (by decide +kernel) (by decide +kernel) (by decide +kernel) (by decide) ?_
        refine lv_aload_n hx hb dX4_node_112 rfl (lv_at hl 0 rfl) ?_
        refine r_get_19 C w dX4_node_113 ?_
        refine lv_iload_n hx hb dX4_node_116 rfl (lv_at hl 1 rfl) ?_
        refine r_ld_19 C w (ok.n31 (isN_in (by have := ok.2.1; omega) (ite_ne0 hr_1 c_10))) dX4_node_117 ?_
        refine lv_topi (fun t_8 et_8 => ?_)
        subst et_8
        exact W.iret hx hb hr (fun t ht hW => ⟨⟨_, (), rfl, (by first | (rw [if_pos (ite_eq0 hr_1 c_10)]) | (rw [if_neg (fun z => z (ite_ne0 hr_1 c_10)), if_pos hsw]) | (rw [if_neg (fun z => z (ite_ne0 hr_1 c_10)), if_neg (by decide +kernel)]; first | (rw [if_pos (by decide +kernel)]; first | exact (if_pos (by assumption)).symm | exact (if_neg (by assumption)).symm | rfl) | (rw [if_neg (by decide +kernel), if_pos (by decide +kernel)]; rfl) | (rw [if_neg (by decide +kernel), if_neg (by decide +kernel), if_pos (by decide +kernel)]; rfl) | (rw [if_neg (by decide +kernel), if_neg (by decide +kernel), if_neg (by decide +kernel), if_pos (by decide +kernel)]; rfl) | (rw [if_neg (by decide +kernel), if_neg (by decide +kernel), if_neg (by decide +kernel), if_neg (by decide +kernel), if_pos (by decide +kernel)]; first | exact (if_pos (by assumption)).symm | exact (if_neg (by assumption)).symm) | (rw [if_neg (by decide +kernel), if_neg (by decide +kernel), if_neg (by decide +kernel), if_neg (by decide +kernel), if_neg (by decide +kernel)]; rfl))), ⟨by rw [ht]; exact w.1, va_K.moved hW.alike hK, w.2.1⟩, ok⟩, w.2.2.F ht⟩) w.2.2.2.2 dX4_node_118
  · refine lv_iconst (v := (-1)) hx hb dX4_node_13 (by decide) ?_
    exact W.iret hx hb hr (fun t ht hW => ⟨⟨_, (), rfl, (by first | (rw [if_pos (ite_eq0 hr_1 c_10)]) | (rw [if_neg (fun z => z (ite_ne0 hr_1 c_10)), if_pos hsw]) | (rw [if_neg (fun z => z (ite_ne0 hr_1 c_10)), if_neg (by decide +kernel)]; first | (rw [if_pos (by decide +kernel)]; first | exact (if_pos (by assumption)).symm | exact (if_neg (by assumption)).symm | rfl) | (rw [if_neg (by decide +kernel), if_pos (by decide +kernel)]; rfl) | (rw [if_neg (by decide +kernel), if_neg (by decide +kernel), if_pos (by decide +kernel)]; rfl) | (rw [if_neg (by decide +kernel), if_neg (by decide +kernel), if_neg (by decide +kernel), if_pos (by decide +kernel)]; rfl) | (rw [if_neg (by decide +kernel), if_neg (by decide +kernel), if_neg (by decide +kernel), if_neg (by decide +kernel), if_pos (by decide +kernel)]; first | exact (if_pos (by assumption)).symm | exact (if_neg (by assumption)).symm) | (rw [if_neg (by decide +kernel), if_neg (by decide +kernel), if_neg (by decide +kernel), if_neg (by decide +kernel), if_neg (by decide +kernel)]; rfl))), ⟨by rw [ht]; exact w.1, va_K.moved hW.alike hK, w.2.1⟩, ok⟩, w.2.2.F ht⟩) w.2.2.2.2 dX4_node_14
set_option maxHeartbeats 4000000 in
set_option maxRecDepth 100000 in
theorem q_kept (l : Launch) (D : va_G) (cI cZ cN cO : ClassId) (A : Nat → Prop) (mm : Nat) (d : Nat → Nat) (n : Nat) (σ : RS) (k p1 : Int32) (ok : rOK n σ)  : Met l yX4_kept (.code yX4_kept cX4_kept 3 (some .int) :: gw) ({ frames := 1, cells := 0, slots := 0, locals := 21 }) (va_Pc (.ref mm :: [.int k, .int p1]) (rH D cI cZ cN cO A mm d σ)) (va_Qi (fun (r : Int32) (_ : Unit) => r = if isN n k ∧ isN n p1 then σ.2 18 ((31 : Int32) * k + p1).toNatClampNeg else -1) (fun _ t => rH D cI cZ cN cO A mm d (rI σ 1 0) t ∧ rOK n (rI σ 1 0)) A) 0 0 A := by
  refine Met.ofW (cc := cX4_kept) (maxL := 3) (ret := (some .int)) (by decide) rfl ?_
  intro p e s m args below meth c s₁ B hml hv
  obtain ⟨rfl, hP, hK, hD⟩ := hv
  have hx := B.exec
  have hb := B.bytes
  have hr := B.returns
  have hts := atoms_spec (ws := (.code yX4_kept cX4_kept 3 (some .int) :: gw)) B.pre
  have hg : ∀ w ∈ gw, w.before _ s = true := fun w h => hts w (List.mem_cons_of_mem _ h)
  have hown : s.vm.findClass RX4 = some m.cls := findClass_of_methodNamed B.named
  have hlocks := B.notSynchronized
  have C : Cx p c cX4_kept s m _ RX4 D (gTy cI cZ cN cO) := ⟨hx, hb, hown, hg, hK⟩
  have w : rWd D cI cZ A s.heap mm d σ s.heap [] := ⟨hP, hD, va_S.rf⟩
  have hl := lv_entry ([.ref mm, .int k, .int p1]) (n := 3) (Nat.le_of_ble_eq_true rfl)
  rw [lg_entry_eq]
  generalize (lg_sl ([.ref mm, .int k, .int p1]) ++ List.replicate (3 - (lg_sl ([.ref mm, .int k, .int p1])).length) Slot.unset).toArray = ls at hl ⊢
  have hl : lv_has ls 3 [(0, .ref mm), (1, .int k), (2, .int p1)] := hl
  refine lv_aload_n hx hb dX4_kept_0 rfl (lv_at hl 0 rfl) ?_
  refine lv_iconst (v := 0) hx hb dX4_kept_1 (by decide) ?_
  refine r_put_1 C w dX4_kept_2 (fun H locs w => ?_)
  have ok : rOK n _ := rOK.put ok (k := 1) (v := 0) (by decide) (fun h => absurd h (by decide)) (fun h => absurd h (by decide))
  refine lv_aload_n hx hb dX4_kept_5 rfl (lv_at hl 0 rfl) ?_
  refine lv_iload_n hx hb dX4_kept_6 rfl (lv_at hl 1 rfl) ?_
  refine r_callp (As := [.int k]) (rest := []) C w hml hl.1 (q_isNode l D cI cZ cN cO A mm d n _ k ok ) kM_X4_143 kI_X4_isNode kS_X4_isNode kD_X4_isNode (show yX4_isNode.cls = RX4 ∧ yX4_isNode.cls ≠ "java/lang/invoke/MethodHandle" ∧ yX4_isNode.cls ≠ "java/lang/invoke/VarHandle" ∧ (parseMethodDescriptor yX4_isNode.desc).map (fun d => d.parameters.length) = some 1 from by decide +kernel) rfl rfl ⟨Nat.le_of_ble_eq_true rfl, Nat.le_of_ble_eq_true rfl⟩ rfl (lv_room (Nat.le_of_ble_eq_true rfl)) dX4_kept_7 ⟨Nat.zero_le _, Nat.zero_le _⟩ (fun r_1 hr_1 => ?_)
  refine lv_if_eq (tgt := 35) hx hb dX4_kept_10 (by decide) (fun c_10 => ?_) (fun c_10 => ?_)
  · refine lv_iconst (v := (-1)) hx hb dX4_kept_35 (by decide) ?_
    exact W.iret hx hb hr (fun t ht hW => ⟨⟨_, (), rfl, (by first | (rw [if_neg (fun h => ite_eq0 hr_1 c_10 h.1)]) | (rw [if_neg (fun h => ite_eq0 (by assumption) c_18 h.2)]) | (rw [if_pos ⟨ite_ne0 hr_1 c_10, ite_ne0 (by assumption) c_18⟩]; rfl)), ⟨by rw [ht]; exact w.1, va_K.moved hW.alike hK, w.2.1⟩, ok⟩, w.2.2.F ht⟩) w.2.2.2.2 dX4_kept_36
  · refine lv_aload_n hx hb dX4_kept_13 rfl (lv_at hl 0 rfl) ?_
    refine lv_iload_n hx hb dX4_kept_14 rfl (lv_at hl 2 rfl) ?_
    refine r_callp (As := [.int p1]) (rest := []) C w hml hl.1 (q_isNode l D cI cZ cN cO A mm d n _ p1 ok ) kM_X4_143 kI_X4_isNode kS_X4_isNode kD_X4_isNode (show yX4_isNode.cls = RX4 ∧ yX4_isNode.cls ≠ "java/lang/invoke/MethodHandle" ∧ yX4_isNode.cls ≠ "java/lang/invoke/VarHandle" ∧ (parseMethodDescriptor yX4_isNode.desc).map (fun d => d.parameters.length) = some 1 from by decide +kernel) rfl rfl ⟨Nat.le_of_ble_eq_true rfl, Nat.le_of_ble_eq_true rfl⟩ rfl (lv_room (Nat.le_of_ble_eq_true rfl)) dX4_kept_15 ⟨Nat.zero_le _, Nat.zero_le _⟩ (fun r_2 hr_2 => ?_)
    refine lv_if_eq (tgt := 35) hx hb dX4_kept_18 (by decide) (fun c_18 => ?_) (fun c_18 => ?_)
    · refine lv_iconst (v := (-1)) hx hb dX4_kept_35 (by decide) ?_
      exact W.iret hx hb hr (fun t ht hW => ⟨⟨_, (), rfl, (by first | (rw [if_neg (fun h => ite_eq0 hr_1 c_10 h.1)]) | (rw [if_neg (fun h => ite_eq0 (by assumption) c_18 h.2)]) | (rw [if_pos ⟨ite_ne0 hr_1 c_10, ite_ne0 (by assumption) c_18⟩]; rfl)), ⟨by rw [ht]; exact w.1, va_K.moved hW.alike hK, w.2.1⟩, ok⟩, w.2.2.F ht⟩) w.2.2.2.2 dX4_kept_36
    · refine lv_aload_n hx hb dX4_kept_21 rfl (lv_at hl 0 rfl) ?_
      refine r_get_18 C w dX4_kept_22 ?_
      refine lv_bipush (v := 31) hx hb dX4_kept_25 (by decide) ?_
      refine lv_iload_n hx hb dX4_kept_27 rfl (lv_at hl 1 rfl) ?_
      refine lv_imul hx hb dX4_kept_28 ?_
      refine lv_topi (fun t_3 et_3 => ?_)
      refine lv_iload_n hx hb dX4_kept_29 rfl (lv_at hl 2 rfl) ?_
      refine lv_iadd hx hb dX4_kept_30 ?_
      refine lv_topi (fun t_4 et_4 => ?_)
      refine r_ld_18 C w (by rw [et_4, et_3]; exact gIx (c := 31) (N := 31) rfl (by decide) (ok.n31 (isN_in (by have := ok.2.1; omega) (ite_ne0 hr_1 c_10))) (ok.n31 (isN_in (by have := ok.2.1; omega) (ite_ne0 hr_2 c_18)))) dX4_kept_31 ?_
      refine lv_topi (fun t_5 et_5 => ?_)
      refine lv_goto (tgt := 36) hx hb dX4_kept_32 (by decide) ?_
      subst et_5 et_4 et_3
      exact W.iret hx hb hr (fun t ht hW => ⟨⟨_, (), rfl, (by first | (rw [if_neg (fun h => ite_eq0 hr_1 c_10 h.1)]) | (rw [if_neg (fun h => ite_eq0 (by assumption) c_18 h.2)]) | (rw [if_pos ⟨ite_ne0 hr_1 c_10, ite_ne0 (by assumption) c_18⟩]; rfl)), ⟨by rw [ht]; exact w.1, va_K.moved hW.alike hK, w.2.1⟩, ok⟩, w.2.2.F ht⟩) w.2.2.2.2 dX4_kept_36
set_option maxHeartbeats 4000000 in
set_option maxRecDepth 100000 in
theorem q_message (l : Launch) (D : va_G) (cI cZ cN cO : ClassId) (A : Nat → Prop) (mm : Nat) (d : Nat → Nat) (n : Nat) (σ : RS) (k p1 : Int32) (ok : rOK n σ)  : Met l yX4_message (.code yX4_message cX4_message 4 (some .int) :: gw) ({ frames := 1, cells := 0, slots := 0, locals := 21 }) (va_Pc (.ref mm :: [.int k, .int p1]) (rH D cI cZ cN cO A mm d σ)) (va_Qi (fun (r : Int32) (_ : Unit) => r = if isMs σ k then (if p1 = 0 then σ.2 2 (σ.2 8 k.toNatClampNeg).toNatClampNeg else if p1 = 1 then σ.2 3 (σ.2 8 k.toNatClampNeg).toNatClampNeg else if p1 = 2 then σ.2 4 (σ.2 8 k.toNatClampNeg).toNatClampNeg else if p1 = 3 then σ.2 5 (σ.2 8 k.toNatClampNeg).toNatClampNeg else -1) else -1) (fun _ t => rH D cI cZ cN cO A mm d (rI σ 1 0) t ∧ rOK n (rI σ 1 0)) A) 0 0 A := by
  refine Met.ofW (cc := cX4_message) (maxL := 4) (ret := (some .int)) (by decide) rfl ?_
  intro p e s m args below meth c s₁ B hml hv
  obtain ⟨rfl, hP, hK, hD⟩ := hv
  have hx := B.exec
  have hb := B.bytes
  have hr := B.returns
  have hts := atoms_spec (ws := (.code yX4_message cX4_message 4 (some .int) :: gw)) B.pre
  have hg : ∀ w ∈ gw, w.before _ s = true := fun w h => hts w (List.mem_cons_of_mem _ h)
  have hown : s.vm.findClass RX4 = some m.cls := findClass_of_methodNamed B.named
  have hlocks := B.notSynchronized
  have C : Cx p c cX4_message s m _ RX4 D (gTy cI cZ cN cO) := ⟨hx, hb, hown, hg, hK⟩
  have w : rWd D cI cZ A s.heap mm d σ s.heap [] := ⟨hP, hD, va_S.rf⟩
  have hl := lv_entry ([.ref mm, .int k, .int p1]) (n := 4) (Nat.le_of_ble_eq_true rfl)
  rw [lg_entry_eq]
  generalize (lg_sl ([.ref mm, .int k, .int p1]) ++ List.replicate (4 - (lg_sl ([.ref mm, .int k, .int p1])).length) Slot.unset).toArray = ls at hl ⊢
  have hl : lv_has ls 4 [(0, .ref mm), (1, .int k), (2, .int p1)] := hl
  refine lv_aload_n hx hb dX4_message_0 rfl (lv_at hl 0 rfl) ?_
  refine lv_iconst (v := 0) hx hb dX4_message_1 (by decide) ?_
  refine r_put_1 C w dX4_message_2 (fun H locs w => ?_)
  have ok : rOK n _ := rOK.put ok (k := 1) (v := 0) (by decide) (fun h => absurd h (by decide)) (fun h => absurd h (by decide))
  refine lv_iload_n hx hb dX4_message_5 rfl (lv_at hl 1 rfl) ?_
  refine lv_if_lt (tgt := 17) hx hb dX4_message_6 (by decide) (fun c_6 => ?_) (fun c_6 => ?_)
  · refine lv_iconst (v := (-1)) hx hb dX4_message_17 (by decide) ?_
    exact W.iret hx hb hr (fun t ht hW => ⟨⟨_, (), rfl, (by rw [if_neg (fun h : isMs σ k => h.1 c_6)]), ⟨by rw [ht]; exact w.1, va_K.moved hW.alike hK, w.2.1⟩, ok⟩, w.2.2.F ht⟩) w.2.2.2.2 dX4_message_18
  · refine lv_iload_n hx hb dX4_message_9 rfl (lv_at hl 1 rfl) ?_
    refine lv_aload_n hx hb dX4_message_10 rfl (lv_at hl 0 rfl) ?_
    refine r_get_9 C w dX4_message_11 ?_
    refine lv_topi (fun t_1 et_1 => ?_)
    refine lv_icmp_lt (tgt := 19) hx hb dX4_message_14 (by decide) (fun c_14 => ?_) (fun c_14 => ?_)
    · refine lv_aload_n hx hb dX4_message_19 rfl (lv_at hl 0 rfl) ?_
      refine r_get_8 C w dX4_message_20 ?_
      refine lv_iload_n hx hb dX4_message_23 rfl (lv_at hl 1 rfl) ?_
      have hMs : isMs σ k := ⟨c_6, fun z => absurd (show t_1 ≤ k from by rw [et_1]; exact z) (Int32.not_le.mpr c_14)⟩
      refine r_ld_8 C w (rMn_in ok hMs.1 hMs.2) dX4_message_24 ?_
      refine lv_topi (fun t_2 et_2 => ?_)
      have hsl : vp_in t_2 2001 := by rw [et_2]; exact ok.at 8 rfl _
      refine lv_istore_n (lv' := [(3, _), (0, _), (1, _), (2, _)]) C.1 C.2.1 dX4_message_25 rfl hl (by decide) rfl (fun ls hl => ?_)
      refine lv_iload_n hx hb dX4_message_26 rfl (lv_at hl 3 rfl) ?_
      refine lv_if_ne (tgt := 39) hx hb dX4_message_27 (by decide) (fun c_27 => ?_) (fun c_27 => ?_)
      · refine lv_iload_n hx hb dX4_message_39 rfl (lv_at hl 3 rfl) ?_
        refine lv_iconst (v := 1) hx hb dX4_message_40 (by decide) ?_
        refine lv_icmp_ne (tgt := 53) hx hb dX4_message_41 (by decide) (fun c_41 => ?_) (fun c_41 => ?_)
        · refine lv_iload_n hx hb dX4_message_53 rfl (lv_at hl 3 rfl) ?_
          refine lv_iconst (v := 2) hx hb dX4_message_54 (by decide) ?_
          refine lv_icmp_ne (tgt := 67) hx hb dX4_message_55 (by decide) (fun c_55 => ?_) (fun c_55 => ?_)
          · refine lv_iload_n hx hb dX4_message_67 rfl (lv_at hl 3 rfl) ?_
            refine lv_iconst (v := 3) hx hb dX4_message_68 (by decide) ?_
            refine lv_icmp_ne (tgt := 81) hx hb dX4_message_69 (by decide) (fun c_69 => ?_) (fun c_69 => ?_)
            · refine lv_iconst (v := (-1)) hx hb dX4_message_81 (by decide) ?_
              subst et_2 et_1
              exact W.iret hx hb hr (fun t ht hW => ⟨⟨_, (), rfl, (by rw [if_pos hMs, if_neg c_27, if_neg c_41, if_neg c_55, if_neg c_69]; try rfl), ⟨by rw [ht]; exact w.1, va_K.moved hW.alike hK, w.2.1⟩, ok⟩, w.2.2.F ht⟩) w.2.2.2.2 dX4_message_82
            · refine lv_aload_n hx hb dX4_message_72 rfl (lv_at hl 1 rfl) ?_
              refine r_get_5 C w dX4_message_73 ?_
              refine lv_iload_n hx hb dX4_message_76 rfl (lv_at hl 0 rfl) ?_
              refine r_ld_5 C w hsl dX4_message_77 ?_
              refine lv_topi (fun t_3 et_3 => ?_)
              refine lv_goto (tgt := 82) hx hb dX4_message_78 (by decide) ?_
              subst et_3 et_2 et_1
              exact W.iret hx hb hr (fun t ht hW => ⟨⟨_, (), rfl, (by rw [if_pos hMs, if_neg c_27, if_neg c_41, if_neg c_55, if_pos c_69]; try rfl), ⟨by rw [ht]; exact w.1, va_K.moved hW.alike hK, w.2.1⟩, ok⟩, w.2.2.F ht⟩) w.2.2.2.2 dX4_message_82
          · refine lv_aload_n hx hb dX4_message_58 rfl (lv_at hl 1 rfl) ?_
            refine r_get_4 C w dX4_message_59 ?_
            refine lv_iload_n hx hb dX4_message_62 rfl (lv_at hl 0 rfl) ?_
            refine r_ld_4 C w hsl dX4_message_63 ?_
            refine lv_topi (fun t_4 et_4 => ?_)
            refine lv_goto (tgt := 82) hx hb dX4_message_64 (by decide) ?_
            subst et_4 et_2 et_1
            exact W.iret hx hb hr (fun t ht hW => ⟨⟨_, (), rfl, (by rw [if_pos hMs, if_neg c_27, if_neg c_41, if_pos c_55]; try rfl), ⟨by rw [ht]; exact w.1, va_K.moved hW.alike hK, w.2.1⟩, ok⟩, w.2.2.F ht⟩) w.2.2.2.2 dX4_message_82
        · refine lv_aload_n hx hb dX4_message_44 rfl (lv_at hl 1 rfl) ?_
          refine r_get_3 C w dX4_message_45 ?_
          refine lv_iload_n hx hb dX4_message_48 rfl (lv_at hl 0 rfl) ?_
          refine r_ld_3 C w hsl dX4_message_49 ?_
          refine lv_topi (fun t_5 et_5 => ?_)
          refine lv_goto (tgt := 82) hx hb dX4_message_50 (by decide) ?_
          subst et_5 et_2 et_1
          exact W.iret hx hb hr (fun t ht hW => ⟨⟨_, (), rfl, (by rw [if_pos hMs, if_neg c_27, if_pos c_41]; try rfl), ⟨by rw [ht]; exact w.1, va_K.moved hW.alike hK, w.2.1⟩, ok⟩, w.2.2.F ht⟩) w.2.2.2.2 dX4_message_82
      · refine lv_aload_n hx hb dX4_message_30 rfl (lv_at hl 1 rfl) ?_
        refine r_get_2 C w dX4_message_31 ?_
        refine lv_iload_n hx hb dX4_message_34 rfl (lv_at hl 0 rfl) ?_
        refine r_ld_2 C w hsl dX4_message_35 ?_
        refine lv_topi (fun t_6 et_6 => ?_)
        refine lv_goto (tgt := 82) hx hb dX4_message_36 (by decide) ?_
        subst et_6 et_2 et_1
        exact W.iret hx hb hr (fun t ht hW => ⟨⟨_, (), rfl, (by rw [if_pos hMs, if_pos c_27]; try rfl), ⟨by rw [ht]; exact w.1, va_K.moved hW.alike hK, w.2.1⟩, ok⟩, w.2.2.F ht⟩) w.2.2.2.2 dX4_message_82
    · refine lv_iconst (v := (-1)) hx hb dX4_message_17 (by decide) ?_
      subst et_1
      exact W.iret hx hb hr (fun t ht hW => ⟨⟨_, (), rfl, (by rw [if_neg (fun h : isMs σ k => h.2 (Int32.not_lt.mp c_14))]), ⟨by rw [ht]; exact w.1, va_K.moved hW.alike hK, w.2.1⟩, ok⟩, w.2.2.F ht⟩) w.2.2.2.2 dX4_message_18
set_option maxHeartbeats 4000000 in
set_option maxRecDepth 100000 in
theorem q_vector (l : Launch) (D : va_G) (cI cZ cN cO : ClassId) (A : Nat → Prop) (mm : Nat) (d : Nat → Nat) (n : Nat) (σ : RS) (k p1 : Int32) (ok : rOK n σ)  : Met l yX4_vector (.code yX4_vector cX4_vector 4 (some .int) :: gw) ({ frames := 1, cells := 0, slots := 0, locals := 21 }) (va_Pc (.ref mm :: [.int k, .int p1]) (rH D cI cZ cN cO A mm d σ)) (va_Qi (fun (r : Int32) (_ : Unit) => r = if isMs σ k ∧ isN n p1 then (if σ.2 2 (σ.2 8 k.toNatClampNeg).toNatClampNeg = 1 ∨ σ.2 2 (σ.2 8 k.toNatClampNeg).toNatClampNeg = 2 then σ.2 6 ((31 : Int32) * σ.2 8 k.toNatClampNeg + p1).toNatClampNeg else -1) else -1) (fun _ t => rH D cI cZ cN cO A mm d (rI σ 1 0) t ∧ rOK n (rI σ 1 0)) A) 0 0 A := by
  refine Met.ofW (cc := cX4_vector) (maxL := 4) (ret := (some .int)) (by decide) rfl ?_
  intro p e s m args below meth c s₁ B hml hv
  obtain ⟨rfl, hP, hK, hD⟩ := hv
  have hx := B.exec
  have hb := B.bytes
  have hr := B.returns
  have hts := atoms_spec (ws := (.code yX4_vector cX4_vector 4 (some .int) :: gw)) B.pre
  have hg : ∀ w ∈ gw, w.before _ s = true := fun w h => hts w (List.mem_cons_of_mem _ h)
  have hown : s.vm.findClass RX4 = some m.cls := findClass_of_methodNamed B.named
  have hlocks := B.notSynchronized
  have C : Cx p c cX4_vector s m _ RX4 D (gTy cI cZ cN cO) := ⟨hx, hb, hown, hg, hK⟩
  have w : rWd D cI cZ A s.heap mm d σ s.heap [] := ⟨hP, hD, va_S.rf⟩
  have hl := lv_entry ([.ref mm, .int k, .int p1]) (n := 4) (Nat.le_of_ble_eq_true rfl)
  rw [lg_entry_eq]
  generalize (lg_sl ([.ref mm, .int k, .int p1]) ++ List.replicate (4 - (lg_sl ([.ref mm, .int k, .int p1])).length) Slot.unset).toArray = ls at hl ⊢
  have hl : lv_has ls 4 [(0, .ref mm), (1, .int k), (2, .int p1)] := hl
  refine lv_aload_n hx hb dX4_vector_0 rfl (lv_at hl 0 rfl) ?_
  refine lv_iconst (v := 0) hx hb dX4_vector_1 (by decide) ?_
  refine r_put_1 C w dX4_vector_2 (fun H locs w => ?_)
  have ok : rOK n _ := rOK.put ok (k := 1) (v := 0) (by decide) (fun h => absurd h (by decide)) (fun h => absurd h (by decide))
  refine lv_iload_n hx hb dX4_vector_5 rfl (lv_at hl 1 rfl) ?_
  refine lv_if_lt (tgt := 25) hx hb dX4_vector_6 (by decide) (fun c_6 => ?_) (fun c_6 => ?_)
  · refine lv_iconst (v := (-1)) hx hb dX4_vector_25 (by decide) ?_
    exact W.iret hx hb hr (fun t ht hW => ⟨⟨_, (), rfl, (by rw [if_neg (fun h : isMs σ k ∧ isN n p1 => h.1.1 c_6)]), ⟨by rw [ht]; exact w.1, va_K.moved hW.alike hK, w.2.1⟩, ok⟩, w.2.2.F ht⟩) w.2.2.2.2 dX4_vector_26
  · refine lv_iload_n hx hb dX4_vector_9 rfl (lv_at hl 1 rfl) ?_
    refine lv_aload_n hx hb dX4_vector_10 rfl (lv_at hl 0 rfl) ?_
    refine r_get_9 C w dX4_vector_11 ?_
    refine lv_topi (fun t_1 et_1 => ?_)
    refine lv_icmp_ge (tgt := 25) hx hb dX4_vector_14 (by decide) (fun c_14 => ?_) (fun c_14 => ?_)
    · refine lv_iconst (v := (-1)) hx hb dX4_vector_25 (by decide) ?_
      subst et_1
      exact W.iret hx hb hr (fun t ht hW => ⟨⟨_, (), rfl, (by rw [if_neg (fun h : isMs σ k ∧ isN n p1 => h.1.2 c_14)]), ⟨by rw [ht]; exact w.1, va_K.moved hW.alike hK, w.2.1⟩, ok⟩, w.2.2.F ht⟩) w.2.2.2.2 dX4_vector_26
    · refine lv_aload_n hx hb dX4_vector_17 rfl (lv_at hl 0 rfl) ?_
      refine lv_iload_n hx hb dX4_vector_18 rfl (lv_at hl 2 rfl) ?_
      refine r_callp (As := [.int p1]) (rest := []) C w hml hl.1 (q_isNode l D cI cZ cN cO A mm d n _ p1 ok ) kM_X4_143 kI_X4_isNode kS_X4_isNode kD_X4_isNode (show yX4_isNode.cls = RX4 ∧ yX4_isNode.cls ≠ "java/lang/invoke/MethodHandle" ∧ yX4_isNode.cls ≠ "java/lang/invoke/VarHandle" ∧ (parseMethodDescriptor yX4_isNode.desc).map (fun d => d.parameters.length) = some 1 from by decide +kernel) rfl rfl ⟨Nat.le_of_ble_eq_true rfl, Nat.le_of_ble_eq_true rfl⟩ rfl (lv_room (Nat.le_of_ble_eq_true rfl)) dX4_vector_19 ⟨Nat.zero_le _, Nat.zero_le _⟩ (fun r_2 hr_2 => ?_)
      refine lv_if_ne (tgt := 27) hx hb dX4_vector_22 (by decide) (fun c_22 => ?_) (fun c_22 => ?_)
      · refine lv_aload_n hx hb dX4_vector_27 rfl (lv_at hl 0 rfl) ?_
        refine r_get_8 C w dX4_vector_28 ?_
        refine lv_iload_n hx hb dX4_vector_31 rfl (lv_at hl 1 rfl) ?_
        have hMs : isMs σ k := ⟨c_6, fun z => absurd (show t_1 ≤ k from by rw [et_1]; exact z) c_14⟩
        refine r_ld_8 C w (rMn_in ok hMs.1 hMs.2) dX4_vector_32 ?_
        refine lv_topi (fun t_3 et_3 => ?_)
        have hsl : vp_in t_3 2001 := by rw [et_3]; exact ok.at 8 rfl _
        refine lv_istore_n (lv' := [(3, _), (0, _), (1, _), (2, _)]) C.1 C.2.1 dX4_vector_33 rfl hl (by decide) rfl (fun ls hl => ?_)
        refine lv_aload_n hx hb dX4_vector_34 rfl (lv_at hl 1 rfl) ?_
        refine r_get_2 C w dX4_vector_35 ?_
        refine lv_iload_n hx hb dX4_vector_38 rfl (lv_at hl 0 rfl) ?_
        refine r_ld_2 C w hsl dX4_vector_39 ?_
        refine lv_topi (fun t_4 et_4 => ?_)
        refine lv_iconst (v := 1) hx hb dX4_vector_40 (by decide) ?_
        refine lv_icmp_eq (tgt := 54) hx hb dX4_vector_41 (by decide) (fun c_41 => ?_) (fun c_41 => ?_)
        · refine lv_aload_n hx hb dX4_vector_54 rfl (lv_at hl 1 rfl) ?_
          refine r_get_6 C w dX4_vector_55 ?_
          refine lv_bipush (v := 31) hx hb dX4_vector_58 (by decide) ?_
          refine lv_iload_n hx hb dX4_vector_60 rfl (lv_at hl 0 rfl) ?_
          refine lv_imul hx hb dX4_vector_61 ?_
          refine lv_topi (fun t_5 et_5 => ?_)
          refine lv_iload_n hx hb dX4_vector_62 rfl (lv_at hl 3 rfl) ?_
          refine lv_iadd hx hb dX4_vector_63 ?_
          refine lv_topi (fun t_6 et_6 => ?_)
          refine r_ld_6 C w (by rw [et_6, et_5]; exact gIx (c := 31) (N := 2001) rfl (by decide) hsl (ok.n31 (isN_in (by have := ok.2.1; omega) (ite_ne0 hr_2 c_22)))) dX4_vector_64 ?_
          refine lv_topi (fun t_7 et_7 => ?_)
          refine lv_goto (tgt := 69) hx hb dX4_vector_65 (by decide) ?_
          subst et_7 et_6 et_5 et_4 et_3 et_1
          exact W.iret hx hb hr (fun t ht hW => ⟨⟨_, (), rfl, (by have q := ite_ne0 hr_2 c_22; rw [if_pos (show isMs σ k ∧ isN n p1 from ⟨hMs, q⟩), if_pos (show σ.2 2 (σ.2 8 k.toNatClampNeg).toNatClampNeg = 1 ∨ σ.2 2 (σ.2 8 k.toNatClampNeg).toNatClampNeg = 2 from Or.inl c_41)]; try rfl), ⟨by rw [ht]; exact w.1, va_K.moved hW.alike hK, w.2.1⟩, ok⟩, w.2.2.F ht⟩) w.2.2.2.2 dX4_vector_69
        · refine lv_aload_n hx hb dX4_vector_44 rfl (lv_at hl 1 rfl) ?_
          refine r_get_2 C w dX4_vector_45 ?_
          refine lv_iload_n hx hb dX4_vector_48 rfl (lv_at hl 0 rfl) ?_
          refine r_ld_2 C w hsl dX4_vector_49 ?_
          refine lv_topi (fun t_8 et_8 => ?_)
          refine lv_iconst (v := 2) hx hb dX4_vector_50 (by decide) ?_
          refine lv_icmp_ne (tgt := 68) hx hb dX4_vector_51 (by decide) (fun c_51 => ?_) (fun c_51 => ?_)
          · refine lv_iconst (v := (-1)) hx hb dX4_vector_68 (by decide) ?_
            subst et_8 et_4 et_3 et_1
            exact W.iret hx hb hr (fun t ht hW => ⟨⟨_, (), rfl, (by have q := ite_ne0 hr_2 c_22; rw [if_pos (show isMs σ k ∧ isN n p1 from ⟨hMs, q⟩), if_neg (show ¬ (σ.2 2 (σ.2 8 k.toNatClampNeg).toNatClampNeg = 1 ∨ σ.2 2 (σ.2 8 k.toNatClampNeg).toNatClampNeg = 2) from fun h => h.elim c_41 c_51)]; try rfl), ⟨by rw [ht]; exact w.1, va_K.moved hW.alike hK, w.2.1⟩, ok⟩, w.2.2.F ht⟩) w.2.2.2.2 dX4_vector_69
          · refine lv_aload_n hx hb dX4_vector_54 rfl (lv_at hl 1 rfl) ?_
            refine r_get_6 C w dX4_vector_55 ?_
            refine lv_bipush (v := 31) hx hb dX4_vector_58 (by decide) ?_
            refine lv_iload_n hx hb dX4_vector_60 rfl (lv_at hl 0 rfl) ?_
            refine lv_imul hx hb dX4_vector_61 ?_
            refine lv_topi (fun t_9 et_9 => ?_)
            refine lv_iload_n hx hb dX4_vector_62 rfl (lv_at hl 3 rfl) ?_
            refine lv_iadd hx hb dX4_vector_63 ?_
            refine lv_topi (fun t_10 et_10 => ?_)
            refine r_ld_6 C w (by rw [et_10, et_9]; exact gIx (c := 31) (N := 2001) rfl (by decide) hsl (ok.n31 (isN_in (by have := ok.2.1; omega) (ite_ne0 hr_2 c_22)))) dX4_vector_64 ?_
            refine lv_topi (fun t_11 et_11 => ?_)
            refine lv_goto (tgt := 69) hx hb dX4_vector_65 (by decide) ?_
            subst et_11 et_10 et_9 et_8 et_4 et_3 et_1
            exact W.iret hx hb hr (fun t ht hW => ⟨⟨_, (), rfl, (by have q := ite_ne0 hr_2 c_22; rw [if_pos (show isMs σ k ∧ isN n p1 from ⟨hMs, q⟩), if_pos (show σ.2 2 (σ.2 8 k.toNatClampNeg).toNatClampNeg = 1 ∨ σ.2 2 (σ.2 8 k.toNatClampNeg).toNatClampNeg = 2 from Or.inr c_51)]; try rfl), ⟨by rw [ht]; exact w.1, va_K.moved hW.alike hK, w.2.1⟩, ok⟩, w.2.2.F ht⟩) w.2.2.2.2 dX4_vector_69
      · refine lv_iconst (v := (-1)) hx hb dX4_vector_25 (by decide) ?_
        subst et_1
        exact W.iret hx hb hr (fun t ht hW => ⟨⟨_, (), rfl, (by have q := ite_eq0 hr_2 c_22; rw [if_neg (fun h : isMs σ k ∧ isN n p1 => q h.2)]), ⟨by rw [ht]; exact w.1, va_K.moved hW.alike hK, w.2.1⟩, ok⟩, w.2.2.F ht⟩) w.2.2.2.2 dX4_vector_26
