/-- how many MESSAGES are wanted as slot x comes -/
def rWant (n : Nat) (x : Int32) (σ : RS) (r : Int32) : Prop :=
  (¬ σ.2 13 (σ.2 4 x.toNatClampNeg).toNatClampNeg = 0 ∧ r = 0) ∨
  (σ.2 13 (σ.2 4 x.toNatClampNeg).toNatClampNeg = 0 ∧ (σ.2 2 x.toNatClampNeg = 0 ∨ σ.2 2 x.toNatClampNeg = 2) ∧ r = 1) ∨
  (σ.2 13 (σ.2 4 x.toNatClampNeg).toNatClampNeg = 0 ∧ ¬ σ.2 2 x.toNatClampNeg = 0 ∧ ¬ σ.2 2 x.toNatClampNeg = 2 ∧ (¬ rCnt x σ ∨ (2 : Int32) * (σ.2 17 (σ.2 4 x.toNatClampNeg).toNatClampNeg + 1) ≤ nI n ∨ σ.2 14 (σ.2 4 x.toNatClampNeg).toNatClampNeg = 3) ∧ r = 0) ∨
  (σ.2 13 (σ.2 4 x.toNatClampNeg).toNatClampNeg = 0 ∧ ¬ σ.2 2 x.toNatClampNeg = 0 ∧ ¬ σ.2 2 x.toNatClampNeg = 2 ∧ rCnt x σ ∧ ¬ (2 : Int32) * (σ.2 17 (σ.2 4 x.toNatClampNeg).toNatClampNeg + 1) ≤ nI n ∧ ¬ σ.2 14 (σ.2 4 x.toNatClampNeg).toNatClampNeg = 3 ∧
    (((σ.2 14 (σ.2 4 x.toNatClampNeg).toNatClampNeg = 2 ∧ rSeen n (σ.2 4 x.toNatClampNeg) σ ∧ ¬ σ.2 27 (σ.2 16 (σ.2 4 x.toNatClampNeg).toNatClampNeg).toNatClampNeg < 10) ∧ r = 0) ∨
     (¬ (σ.2 14 (σ.2 4 x.toNatClampNeg).toNatClampNeg = 2 ∧ rSeen n (σ.2 4 x.toNatClampNeg) σ ∧ ¬ σ.2 27 (σ.2 16 (σ.2 4 x.toNatClampNeg).toNatClampNeg).toNatClampNeg < 10) ∧ r = nI n)))
set_option maxHeartbeats 4000000 in
set_option maxRecDepth 100000 in
theorem q_wanted (l : Launch) (D : va_G) (cI cZ cN cO : ClassId) (A : Nat → Prop) (mm : Nat) (d : Nat → Nat) (n : Nat) (σ : RS) (x : Int32) (ok : rOK n σ) (hx1 : vp_in x 2001) : Met l yX4_wanted (.code yX4_wanted cX4_wanted 3 (some .int) :: gw) ({ frames := 2, cells := 0, slots := 0, locals := 44 }) (va_Pc (.ref mm :: [.int x]) (rH D cI cZ cN cO A mm d σ)) (vp_Si (fun r => rWant n x σ r)) 0 0 (fun _ => False) := by
  refine Met.ofW (cc := cX4_wanted) (maxL := 3) (ret := (some .int)) (by decide) rfl ?_
  intro p e s m args below meth c s₁ B hml hv
  obtain ⟨rfl, hP, hK, hD⟩ := hv
  have hx := B.exec
  have hb := B.bytes
  have hr := B.returns
  have hts := atoms_spec (ws := (.code yX4_wanted cX4_wanted 3 (some .int) :: gw)) B.pre
  have hg : ∀ w ∈ gw, w.before _ s = true := fun w h => hts w (List.mem_cons_of_mem _ h)
  have hown : s.vm.findClass RX4 = some m.cls := findClass_of_methodNamed B.named
  have hlocks := B.notSynchronized
  have C : Cx p c cX4_wanted s m _ RX4 D (gTy cI cZ cN cO) := ⟨hx, hb, hown, hg, hK⟩
  have w : rWd D cI cZ A s.heap mm d σ s.heap [] := ⟨hP, hD, va_S.rf⟩
  have hl := lv_entry ([.ref mm, .int x]) (n := 3) (Nat.le_of_ble_eq_true rfl)
  rw [lg_entry_eq]
  generalize (lg_sl ([.ref mm, .int x]) ++ List.replicate (3 - (lg_sl ([.ref mm, .int x])).length) Slot.unset).toArray = ls at hl ⊢
  have hl : lv_has ls 3 [(0, .ref mm), (1, .int x)] := hl
  refine lv_aload_n hx hb dX4_wanted_0 rfl (lv_at hl 0 rfl) ?_
  refine r_get_4 C w dX4_wanted_1 ?_
  refine lv_iload_n hx hb dX4_wanted_4 rfl (lv_at hl 1 rfl) ?_
  refine r_ld_4 C w hx1 dX4_wanted_5 ?_
  refine lv_topi (fun t_1 et_1 => ?_)
  refine lv_istore_n (lv' := [(2, _), (0, _), (1, _)]) C.1 C.2.1 dX4_wanted_6 rfl hl (by decide) rfl (fun ls hl => ?_)
  refine lv_aload_n hx hb dX4_wanted_7 rfl (lv_at hl 1 rfl) ?_
  refine r_get_13 C w dX4_wanted_8 ?_
  refine lv_iload_n hx hb dX4_wanted_11 rfl (lv_at hl 0 rfl) ?_
  refine r_ld_13 C w (ok.n31 (show vp_in t_1 n from by rw [et_1]; exact ok.at 4 rfl _)) dX4_wanted_12 ?_
  refine lv_topi (fun t_2 et_2 => ?_)
  refine lv_if_eq (tgt := 18) hx hb dX4_wanted_13 (by decide) (fun c_13 => ?_) (fun c_13 => ?_)
  · refine lv_aload_n hx hb dX4_wanted_18 rfl (lv_at hl 1 rfl) ?_
    refine r_get_2 C w dX4_wanted_19 ?_
    refine lv_iload_n hx hb dX4_wanted_22 rfl (lv_at hl 2 rfl) ?_
    refine r_ld_2 C w hx1 dX4_wanted_23 ?_
    refine lv_topi (fun t_3 et_3 => ?_)
    refine lv_if_eq (tgt := 37) hx hb dX4_wanted_24 (by decide) (fun c_24 => ?_) (fun c_24 => ?_)
    · refine lv_iconst (v := 1) hx hb dX4_wanted_37 (by decide) ?_
      subst et_3 et_2 et_1
      exact W.iret hx hb hr (fun t ht hW => ⟨_, rfl, (by unfold rWant; simp_all), ht⟩) (fun _ h => by cases h) dX4_wanted_38
    · refine lv_aload_n hx hb dX4_wanted_27 rfl (lv_at hl 1 rfl) ?_
      refine r_get_2 C w dX4_wanted_28 ?_
      refine lv_iload_n hx hb dX4_wanted_31 rfl (lv_at hl 2 rfl) ?_
      refine r_ld_2 C w hx1 dX4_wanted_32 ?_
      refine lv_topi (fun t_4 et_4 => ?_)
      refine lv_iconst (v := 2) hx hb dX4_wanted_33 (by decide) ?_
      refine lv_icmp_ne (tgt := 39) hx hb dX4_wanted_34 (by decide) (fun c_34 => ?_) (fun c_34 => ?_)
      · refine lv_aload_n hx hb dX4_wanted_39 rfl (lv_at hl 1 rfl) ?_
        refine lv_iload_n hx hb dX4_wanted_40 rfl (lv_at hl 2 rfl) ?_
        refine r_callp (As := [.int x]) (rest := []) C w hml hl.1 (q_counts l D cI cZ cN cO A mm d n _ x ok hx1) kM_X4_171 kI_X4_counts kS_X4_counts kD_X4_counts (show yX4_counts.cls = RX4 ∧ yX4_counts.cls ≠ "java/lang/invoke/MethodHandle" ∧ yX4_counts.cls ≠ "java/lang/invoke/VarHandle" ∧ (parseMethodDescriptor yX4_counts.desc).map (fun d => d.parameters.length) = some 1 from by decide +kernel) rfl rfl ⟨Nat.le_of_ble_eq_true rfl, Nat.le_of_ble_eq_true rfl⟩ rfl (lv_room (Nat.le_of_ble_eq_true rfl)) dX4_wanted_41 ⟨Nat.zero_le _, Nat.zero_le _⟩ (fun r_5 hr_5 => ?_)
        rcases hr_5 with ⟨er_5, hr_5⟩ | ⟨er_5, hr_5⟩
        · subst er_5
          refine lv_if_eq (tgt := 74) hx hb dX4_wanted_44 (by decide) (fun z => absurd z (by decide)) (fun _ => ?_)
          refine lv_iconst (v := 2) hx hb dX4_wanted_47 (by decide) ?_
          refine lv_aload_n hx hb dX4_wanted_48 rfl (lv_at hl 1 rfl) ?_
          refine r_get_17 C w dX4_wanted_49 ?_
          refine lv_iload_n hx hb dX4_wanted_52 rfl (lv_at hl 0 rfl) ?_
          refine r_ld_17 C w (ok.n31 (show vp_in t_1 n from by rw [et_1]; exact ok.at 4 rfl _)) dX4_wanted_53 ?_
          refine lv_topi (fun t_6 et_6 => ?_)
          refine lv_iconst (v := 1) hx hb dX4_wanted_54 (by decide) ?_
          refine lv_iadd hx hb dX4_wanted_55 ?_
          refine lv_topi (fun t_7 et_7 => ?_)
          refine lv_imul hx hb dX4_wanted_56 ?_
          refine lv_topi (fun t_8 et_8 => ?_)
          refine lv_aload_n hx hb dX4_wanted_57 rfl (lv_at hl 1 rfl) ?_
          refine r_get_0 C w dX4_wanted_58 ?_
          rw [ok.nn]
          refine lv_icmp_le (tgt := 74) hx hb dX4_wanted_61 (by decide) (fun c_61 => ?_) (fun c_61 => ?_)
          · refine lv_iconst (v := 0) hx hb dX4_wanted_74 (by decide) ?_
            subst et_8 et_7 et_6 et_4 et_3 et_2 et_1
            exact W.iret hx hb hr (fun t ht hW => ⟨_, rfl, (by unfold rWant; simp_all), ht⟩) (fun _ h => by cases h) dX4_wanted_75
          · refine lv_aload_n hx hb dX4_wanted_64 rfl (lv_at hl 1 rfl) ?_
            refine r_get_14 C w dX4_wanted_65 ?_
            refine lv_iload_n hx hb dX4_wanted_68 rfl (lv_at hl 0 rfl) ?_
            refine r_ld_14 C w (ok.n31 (show vp_in t_1 n from by rw [et_1]; exact ok.at 4 rfl _)) dX4_wanted_69 ?_
            refine lv_topi (fun t_9 et_9 => ?_)
            refine lv_iconst (v := 3) hx hb dX4_wanted_70 (by decide) ?_
            refine lv_icmp_ne (tgt := 76) hx hb dX4_wanted_71 (by decide) (fun c_71 => ?_) (fun c_71 => ?_)
            · refine lv_aload_n hx hb dX4_wanted_76 rfl (lv_at hl 1 rfl) ?_
              refine r_get_14 C w dX4_wanted_77 ?_
              refine lv_iload_n hx hb dX4_wanted_80 rfl (lv_at hl 0 rfl) ?_
              refine r_ld_14 C w (ok.n31 (show vp_in t_1 n from by rw [et_1]; exact ok.at 4 rfl _)) dX4_wanted_81 ?_
              refine lv_topi (fun t_10 et_10 => ?_)
              refine lv_iconst (v := 2) hx hb dX4_wanted_82 (by decide) ?_
              refine lv_icmp_ne (tgt := 111) hx hb dX4_wanted_83 (by decide) (fun c_83 => ?_) (fun c_83 => ?_)
              · refine lv_aload_n hx hb dX4_wanted_111 rfl (lv_at hl 1 rfl) ?_
                refine r_get_0 C w dX4_wanted_112 ?_
                rw [ok.nn]
                subst et_10 et_9 et_8 et_7 et_6 et_4 et_3 et_2 et_1
                exact W.iret hx hb hr (fun t ht hW => ⟨_, rfl, (by unfold rWant; simp_all), ht⟩) (fun _ h => by cases h) dX4_wanted_115
              · refine lv_aload_n hx hb dX4_wanted_86 rfl (lv_at hl 1 rfl) ?_
                refine lv_iload_n hx hb dX4_wanted_87 rfl (lv_at hl 0 rfl) ?_
                refine r_callp (As := [.int t_1]) (rest := []) C w hml hl.1 (q_isSeen l D cI cZ cN cO A mm d n _ t_1 ok (show vp_in t_1 n from by rw [et_1]; exact ok.at 4 rfl _)) kM_X4_165 kI_X4_isSeen kS_X4_isSeen kD_X4_isSeen (show yX4_isSeen.cls = RX4 ∧ yX4_isSeen.cls ≠ "java/lang/invoke/MethodHandle" ∧ yX4_isSeen.cls ≠ "java/lang/invoke/VarHandle" ∧ (parseMethodDescriptor yX4_isSeen.desc).map (fun d => d.parameters.length) = some 1 from by decide +kernel) rfl rfl ⟨Nat.le_of_ble_eq_true rfl, Nat.le_of_ble_eq_true rfl⟩ rfl (lv_room (Nat.le_of_ble_eq_true rfl)) dX4_wanted_88 ⟨Nat.zero_le _, Nat.zero_le _⟩ (fun r_11 hr_11 => ?_)
                rcases hr_11 with ⟨er_11, hr_11⟩ | ⟨er_11, hr_11⟩
                · subst er_11
                  refine lv_if_eq (tgt := 111) hx hb dX4_wanted_91 (by decide) (fun z => absurd z (by decide)) (fun _ => ?_)
                  refine lv_aload_n hx hb dX4_wanted_94 rfl (lv_at hl 1 rfl) ?_
                  refine lv_aload_n hx hb dX4_wanted_95 rfl (lv_at hl 1 rfl) ?_
                  refine r_get_16 C w dX4_wanted_96 ?_
                  refine lv_iload_n hx hb dX4_wanted_99 rfl (lv_at hl 0 rfl) ?_
                  refine r_ld_16 C w (ok.n31 (show vp_in t_1 n from by rw [et_1]; exact ok.at 4 rfl _)) dX4_wanted_100 ?_
                  refine lv_topi (fun t_12 et_12 => ?_)
                  refine r_callp (As := [.int t_12]) (rest := []) C w hml hl.1 (q_isQuery l D cI cZ cN cO A mm d n _ t_12 ok (show vp_in t_12 512 from by rw [et_12]; exact ok.at 16 rfl _)) kM_X4_159 kI_X4_isQuery kS_X4_isQuery kD_X4_isQuery (show yX4_isQuery.cls = RX4 ∧ yX4_isQuery.cls ≠ "java/lang/invoke/MethodHandle" ∧ yX4_isQuery.cls ≠ "java/lang/invoke/VarHandle" ∧ (parseMethodDescriptor yX4_isQuery.desc).map (fun d => d.parameters.length) = some 1 from by decide +kernel) rfl rfl ⟨Nat.le_of_ble_eq_true rfl, Nat.le_of_ble_eq_true rfl⟩ rfl (lv_room (Nat.le_of_ble_eq_true rfl)) dX4_wanted_101 ⟨Nat.zero_le _, Nat.zero_le _⟩ (fun r_13 hr_13 => ?_)
                  refine lv_if_eq (tgt := 111) hx hb dX4_wanted_104 (by decide) (fun c_104 => ?_) (fun c_104 => ?_)
                  · refine lv_aload_n hx hb dX4_wanted_111 rfl (lv_at hl 1 rfl) ?_
                    refine r_get_0 C w dX4_wanted_112 ?_
                    rw [ok.nn]
                    subst et_12 et_10 et_9 et_8 et_7 et_6 et_4 et_3 et_2 et_1
                    exact W.iret hx hb hr (fun t ht hW => ⟨_, rfl, (by unfold rWant; simp_all), ht⟩) (fun _ h => by cases h) dX4_wanted_115
                  · refine lv_iconst (v := 0) hx hb dX4_wanted_107 (by decide) ?_
                    refine lv_goto (tgt := 115) hx hb dX4_wanted_108 (by decide) ?_
                    subst et_12 et_10 et_9 et_8 et_7 et_6 et_4 et_3 et_2 et_1
                    exact W.iret hx hb hr (fun t ht hW => ⟨_, rfl, (by unfold rWant; simp_all), ht⟩) (fun _ h => by cases h) dX4_wanted_115
                · subst er_11
                  refine lv_if_eq (tgt := 111) hx hb dX4_wanted_91 (by decide) (fun _ => ?_) (fun z => absurd (by decide) z)
                  refine lv_aload_n hx hb dX4_wanted_111 rfl (lv_at hl 1 rfl) ?_
                  refine r_get_0 C w dX4_wanted_112 ?_
                  rw [ok.nn]
                  subst et_10 et_9 et_8 et_7 et_6 et_4 et_3 et_2 et_1
                  exact W.iret hx hb hr (fun t ht hW => ⟨_, rfl, (by unfold rWant; simp_all), ht⟩) (fun _ h => by cases h) dX4_wanted_115
            · refine lv_iconst (v := 0) hx hb dX4_wanted_74 (by decide) ?_
              subst et_9 et_8 et_7 et_6 et_4 et_3 et_2 et_1
              exact W.iret hx hb hr (fun t ht hW => ⟨_, rfl, (by unfold rWant; simp_all), ht⟩) (fun _ h => by cases h) dX4_wanted_75
        · subst er_5
          refine lv_if_eq (tgt := 74) hx hb dX4_wanted_44 (by decide) (fun _ => ?_) (fun z => absurd (by decide) z)
          refine lv_iconst (v := 0) hx hb dX4_wanted_74 (by decide) ?_
          subst et_4 et_3 et_2 et_1
          exact W.iret hx hb hr (fun t ht hW => ⟨_, rfl, (by unfold rWant; simp_all), ht⟩) (fun _ h => by cases h) dX4_wanted_75
      · refine lv_iconst (v := 1) hx hb dX4_wanted_37 (by decide) ?_
        subst et_4 et_3 et_2 et_1
        exact W.iret hx hb hr (fun t ht hW => ⟨_, rfl, (by unfold rWant; simp_all), ht⟩) (fun _ h => by cases h) dX4_wanted_38
  · refine lv_iconst (v := 0) hx hb dX4_wanted_16 (by decide) ?_
    subst et_2 et_1
    exact W.iret hx hb hr (fun t ht hW => ⟨_, rfl, (by unfold rWant; simp_all), ht⟩) (fun _ h => by cases h) dX4_wanted_17
