def cH0 (k : Nat) (σ : CS) : CS := cI_ σ 2 k 9 (σ.1 2 k 9 + 1)
noncomputable def cH1 (n k j : Nat) (σ : CS) : CS := cif ((cH0 k σ).1 2 k 7 = 1) (cRaise n k 2 j (cH0 k σ)) (cH0 k σ)
noncomputable def cHr2 (n bg k t : Nat) (σ : CS) : CS := cif (2 * σ.1 2 k 9 ≤ nI n) σ (cif (σ.1 2 k 7 = 1) (cToV n k 2 2 2 σ) (cif (σ.1 2 k 7 = 2) (cECo n bg k t σ) (cEndOp k t σ)))
noncomputable def cHear (n bg k j t : Nat) (σ : CS) : CS := cHr2 n bg k t (cH1 n k j σ)
def cHOk (n bg k t : Nat) (σ : CS) : Prop := (¬ 2 * σ.1 2 k 9 ≤ nI n → σ.1 2 k 7 = 1 → lnN σ + n ≤ 2000) ∧ (¬ 2 * σ.1 2 k 9 ≤ nI n → σ.1 2 k 7 = 2 → (¬ (3 < σ.1 3 t 2 ∧ ¬ σ.1 3 t 9 = 0 ∧ (cSame n k σ ∨ cAny n k σ)) → lnN σ + n ≤ 2000) ∧ (¬ σ.1 3 t 9 = 0 → ¬ cSame n k σ → cLdOk n bg k (cCo t σ)))
theorem cH1_ph {n k j : Nat} {σ : CS} : (cH1 n k j σ).1 = (cH0 k σ).1 := by
  unfold cH1
  by_cases h : (cH0 k σ).1 2 k 7 = 1
  · rw [cif_pos h]; rfl
  · rw [cif_neg h]
theorem cH1_tk {n k j : Nat} {σ : CS} : (cH1 n k j σ).2.2 = σ.2.2 := by
  unfold cH1
  by_cases h : (cH0 k σ).1 2 k 7 = 1
  · rw [cif_pos h]; rfl
  · rw [cif_neg h]; rfl
set_option maxHeartbeats 4000000 in
set_option maxRecDepth 100000 in
theorem k_hearC (l : Launch) (D : va_G) (cI cZ cN cO : ClassId) (A : Nat → Prop) (E : CE) (n bg : Nat) (σ : CS) (k j tt : Nat) (ok : cOK n bg σ) (hk : k < n) (hj : j < 2000) (htk : σ.2.2 k = tt) (h1 : 1 ≤ tt) (h2 : tt ≤ bg) (hph : (cH0 k σ).1 2 k 7 = 1) (hok : cHOk n bg k tt (cH1 n k j σ)) : Met l yX3_hear (.code yX3_hear cX3_hear 4 none :: gw) ({ frames := 5, cells := 0, slots := 0, locals := 138 }) (va_Pc (.ref (E.1 0) :: [.ref ((E.2.2.1 k)), .int (nI j)]) (cH D cI cZ cN cO A E n bg σ)) (va_Qv (fun _ : Unit => True) (fun _ t => cH D cI cZ cN cO A E n bg (cHear n bg k j tt σ) t ∧ cOK n bg (cHear n bg k j tt σ)) A) 0 0 A := by
  refine Met.ofW (cc := cX3_hear) (maxL := 4) (ret := none) (by decide) rfl ?_
  intro p e s m args below meth c s₁ B hml hv
  obtain ⟨rfl, hP, hK, hD⟩ := hv
  have hx := B.exec
  have hb := B.bytes
  have hr := B.returns
  have hts := atoms_spec (ws := (.code yX3_hear cX3_hear 4 none :: gw)) B.pre
  have hg : ∀ w ∈ gw, w.before _ s = true := fun w h => hts w (List.mem_cons_of_mem _ h)
  have hown : s.vm.findClass RX3 = some m.cls := findClass_of_methodNamed B.named
  have hlocks := B.notSynchronized
  have C : Cx p c cX3_hear s m _ RX3 D (gTy cI cZ cN cO) := ⟨hx, hb, hown, hg, hK⟩
  have w : cWd D cI cN cO A s.heap E n bg σ s.heap [] := ⟨hP, hD, va_S.rf⟩
  have hl := lv_entry ([.ref ((E.1 0)), .ref ((E.2.2.1 k)), .int (nI j)]) (n := 4) (Nat.le_of_ble_eq_true rfl)
  rw [lg_entry_eq]
  generalize (lg_sl ([.ref ((E.1 0)), .ref ((E.2.2.1 k)), .int (nI j)]) ++ List.replicate (4 - (lg_sl ([.ref ((E.1 0)), .ref ((E.2.2.1 k)), .int (nI j)])).length) Slot.unset).toArray = ls at hl ⊢
  have hl : lv_has ls 4 [(0, .ref ((E.1 0))), (1, .ref ((E.2.2.1 k))), (2, .int (nI j))] := hl
  refine lv_aload_n hx hb dX3_hear_0 rfl (lv_at hl 1 rfl) ?_
  refine lv_dup hx hb dX3_hear_1 rfl ?_
  refine c_gX0_9 C w hk kF_X3_198 dX3_hear_2 ?_
  refine lv_topi (fun t_1 et_1 => ?_)
  refine lv_iconst (v := 1) hx hb dX3_hear_5 (by decide) ?_
  refine lv_iadd hx hb dX3_hear_6 ?_
  refine lv_topi (fun t_2 et_2 => ?_)
  refine c_pX0_9 (v := t_2) C w hk kF_X3_198 dX3_hear_7 (fun H locs w => ?_)
  have ok : cOK n bg _ := cOK.put ok (kd := 2) (ix := k) (f := 9) (v := t_2) rfl
  subst et_2 et_1
  have w : cWd D cI cN cO A s.heap E n bg (cH0 k σ) H locs := w
  have ok : cOK n bg (cH0 k σ) := ok
  refine lv_aload_n hx hb dX3_hear_10 rfl (lv_at hl 1 rfl) ?_
  refine c_gX0_7 C w hk kF_X3_208 dX3_hear_11 ?_
  refine lv_iconst (v := 1) hx hb dX3_hear_14 (by decide) ?_
  refine lv_icmp_ne (tgt := 30) hx hb dX3_hear_15 (by decide) (fun c_15 => absurd hph c_15) (fun c_15 => ?_)
  refine lv_aload_n hx hb dX3_hear_18 rfl (lv_at hl 0 rfl) ?_
  refine c_gX3_1 C w kF_X3_23 dX3_hear_19 ?_
  refine lv_aload_n hx hb dX3_hear_22 rfl (lv_at hl 1 rfl) ?_
  refine c_gX0_2 C w hk kF_X3_224 dX3_hear_23 ?_
  refine lv_iload_n hx hb dX3_hear_26 rfl (lv_at hl 2 rfl) ?_
  refine c_callv (As := [.ref ((E.2.2.2.1 k 2)), .int (nI j)]) (rest := []) C (c_preX2 C w) w.2.2 hml hl.1 (k_raise2 l D cI cZ cN cO A E n bg _ k j ok hk hj) kM_X3_186 kI_X2_raise kS_X2_raise kN_X2 kD_X2_raise (show yX2_raise.cls = RX2 ∧ yX2_raise.cls ≠ "java/lang/invoke/MethodHandle" ∧ yX2_raise.cls ≠ "java/lang/invoke/VarHandle" ∧ (parseMethodDescriptor yX2_raise.desc).map (fun d => d.parameters.length) = some 2 from by decide +kernel) rfl rfl ⟨Nat.le_of_ble_eq_true rfl, Nat.le_of_ble_eq_true rfl⟩ rfl (lv_room (Nat.le_of_ble_eq_true rfl)) dX3_hear_27 ⟨Nat.zero_le _, Nat.zero_le _⟩ (fun H locs w ok => ?_)
  obtain ⟨σ1, hs1⟩ : ∃ z, z = cH1 n k j σ := ⟨_, rfl⟩
  have e1 : cH1 n k j σ = cRaise n k 2 j (cH0 k σ) := cif_pos hph
  have w : cWd D cI cN cO A s.heap E n bg σ1 H locs := by rw [hs1, e1]; exact w
  have ok : cOK n bg σ1 := by rw [hs1, e1]; exact ok
  rw [← hs1] at hok
  have htk1 : σ1.2.2 k = tt := by rw [hs1, cH1_tk]; exact htk
  have hph1 : σ1.1 2 k 7 = (cH0 k σ).1 2 k 7 := by rw [hs1, cH1_ph]
  refine lv_aload_n hx hb dX3_hear_30 rfl (lv_at hl 1 rfl) ?_
  refine c_gT1 (t := tt) C w hk htk1 h1 kF_X3_139 dX3_hear_31 ?_
  refine lv_astore_n (lv' := [(3, _), (0, _), (1, _), (2, _)]) C.1 C.2.1 dX3_hear_34 rfl hl (by decide) rfl (fun ls hl => ?_)
  refine lv_aload_n hx hb dX3_hear_35 rfl (lv_at hl 0 rfl) ?_
  refine lv_ifnull hx hb dX3_hear_36 ?_
  refine lv_aload_n hx hb dX3_hear_39 rfl (lv_at hl 2 rfl) ?_
  refine lv_aload_n hx hb dX3_hear_40 rfl (lv_at hl 2 rfl) ?_
  refine c_gX0_9 C w hk kF_X3_198 dX3_hear_41 ?_
  refine c_callp (As := [.int ((σ1.1 2 k 9))]) (rest := []) C (c_preX0 C w hk) hml hl.1 (k_X0_isMajority l D cI cZ cN cO A E n bg _ k (σ1.1 2 k 9) ok hk) kM_X3_201 kI_X0_isMajority kS_X0_isMajority kN_X0 kD_X0_isMajority (show yX0_isMajority.cls = RX0 ∧ yX0_isMajority.cls ≠ "java/lang/invoke/MethodHandle" ∧ yX0_isMajority.cls ≠ "java/lang/invoke/VarHandle" ∧ (parseMethodDescriptor yX0_isMajority.desc).map (fun d => d.parameters.length) = some 1 from by decide +kernel) rfl rfl ⟨Nat.le_of_ble_eq_true rfl, Nat.le_of_ble_eq_true rfl⟩ rfl (lv_room (Nat.le_of_ble_eq_true rfl)) dX3_hear_44 ⟨Nat.zero_le _, Nat.zero_le _⟩ (fun r_3 hr_3 => ?_)
  refine lv_if_ne (tgt := 51) hx hb dX3_hear_47 (by decide) (fun c_47 => ?_) (fun c_47 => ?_)
  · refine lv_aload_n hx hb dX3_hear_51 rfl (lv_at hl 2 rfl) ?_
    refine c_gX0_7 C w hk kF_X3_208 dX3_hear_52 ?_
    refine lv_iconst (v := 1) hx hb dX3_hear_55 (by decide) ?_
    refine lv_icmp_ne (tgt := 73) hx hb dX3_hear_56 (by decide) (fun c_56 => ?_) (fun c_56 => ?_)
    · refine lv_aload_n hx hb dX3_hear_73 rfl (lv_at hl 2 rfl) ?_
      refine c_gX0_7 C w hk kF_X3_208 dX3_hear_74 ?_
      refine lv_iconst (v := 2) hx hb dX3_hear_77 (by decide) ?_
      refine lv_icmp_ne (tgt := 90) hx hb dX3_hear_78 (by decide) (fun c_78 => ?_) (fun c_78 => ?_)
      · refine lv_aload_n hx hb dX3_hear_90 rfl (lv_at hl 1 rfl) ?_
        refine lv_aload_n hx hb dX3_hear_91 rfl (lv_at hl 2 rfl) ?_
        refine lv_aload_n hx hb dX3_hear_92 rfl (lv_at hl 0 rfl) ?_
        refine c_callv (As := [.ref ((E.2.2.1 k)), .ref ((E.2.2.2.2.1 tt))]) (rest := []) C (c_preX3 C w) w.2.2 hml hl.1 (k_X3_endOperation l D cI cZ cN cO A E n bg _ k tt ok hk h1 h2) kM_X3_235 kI_X3_endOperation kS_X3_endOperation kN_X3 kD_X3_endOperation (show yX3_endOperation.cls = RX3 ∧ yX3_endOperation.cls ≠ "java/lang/invoke/MethodHandle" ∧ yX3_endOperation.cls ≠ "java/lang/invoke/VarHandle" ∧ (parseMethodDescriptor yX3_endOperation.desc).map (fun d => d.parameters.length) = some 2 from by decide +kernel) rfl rfl ⟨Nat.le_of_ble_eq_true rfl, Nat.le_of_ble_eq_true rfl⟩ rfl (lv_room (Nat.le_of_ble_eq_true rfl)) dX3_hear_93 ⟨Nat.zero_le _, Nat.zero_le _⟩ (fun H locs w ok => ?_)
        have hle : ¬ 2 * σ1.1 2 k 9 ≤ nI n := fun z => by rw [if_pos z] at hr_3; exact c_47 hr_3
        have e2 : cHear n bg k j tt σ = cEndOp k tt σ1 := by unfold cHear cHr2; rw [← hs1, cif_neg hle, cif_neg c_56, cif_neg c_78]
        rw [← e2] at w ok
        exact W.vret hx hb hr (fun t ht hW => ⟨⟨(), rfl, trivial, ⟨by rw [ht]; exact w.1, va_K.moved hW.alike hK, w.2.1⟩, ok⟩, w.2.2.F ht⟩) w.2.2.2.2 dX3_hear_96
      · refine lv_aload_n hx hb dX3_hear_81 rfl (lv_at hl 1 rfl) ?_
        refine lv_aload_n hx hb dX3_hear_82 rfl (lv_at hl 2 rfl) ?_
        refine lv_aload_n hx hb dX3_hear_83 rfl (lv_at hl 0 rfl) ?_
        refine c_callv (As := [.ref ((E.2.2.1 k)), .ref ((E.2.2.2.2.1 tt))]) (rest := []) C (c_preX3 C w) w.2.2 hml hl.1 (k_eco l D cI cZ cN cO A E n bg _ k tt ok hk h1 h2 (hok.2 (fun z => by rw [if_pos z] at hr_3; exact c_47 hr_3) c_78).1 (hok.2 (fun z => by rw [if_pos z] at hr_3; exact c_47 hr_3) c_78).2) kM_X3_231 kI_X3_endCollect kS_X3_endCollect kN_X3 kD_X3_endCollect (show yX3_endCollect.cls = RX3 ∧ yX3_endCollect.cls ≠ "java/lang/invoke/MethodHandle" ∧ yX3_endCollect.cls ≠ "java/lang/invoke/VarHandle" ∧ (parseMethodDescriptor yX3_endCollect.desc).map (fun d => d.parameters.length) = some 2 from by decide +kernel) rfl rfl ⟨Nat.le_of_ble_eq_true rfl, Nat.le_of_ble_eq_true rfl⟩ rfl (lv_room (Nat.le_of_ble_eq_true rfl)) dX3_hear_84 ⟨Nat.zero_le _, Nat.zero_le _⟩ (fun H locs w ok => ?_)
        refine lv_goto (tgt := 96) hx hb dX3_hear_87 (by decide) ?_
        have hle : ¬ 2 * σ1.1 2 k 9 ≤ nI n := fun z => by rw [if_pos z] at hr_3; exact c_47 hr_3
        have e2 : cHear n bg k j tt σ = cECo n bg k tt σ1 := by unfold cHear cHr2; rw [← hs1, cif_neg hle, cif_neg c_56, cif_pos c_78]
        rw [← e2] at w ok
        exact W.vret hx hb hr (fun t ht hW => ⟨⟨(), rfl, trivial, ⟨by rw [ht]; exact w.1, va_K.moved hW.alike hK, w.2.1⟩, ok⟩, w.2.2.F ht⟩) w.2.2.2.2 dX3_hear_96
    · refine lv_aload_n hx hb dX3_hear_59 rfl (lv_at hl 1 rfl) ?_
      refine lv_aload_n hx hb dX3_hear_60 rfl (lv_at hl 2 rfl) ?_
      refine lv_iconst (v := 2) hx hb dX3_hear_61 (by decide) ?_
      refine lv_iconst (v := 2) hx hb dX3_hear_62 (by decide) ?_
      refine lv_aload_n hx hb dX3_hear_63 rfl (lv_at hl 2 rfl) ?_
      refine c_gX0_2 C w hk kF_X3_224 dX3_hear_64 ?_
      refine c_callv (As := [.ref ((E.2.2.1 k)), .int 2, .int 2, .ref ((E.2.2.2.1 k 2))]) (rest := []) C (c_preX3 C w) w.2.2 hml hl.1 (k_toV2 l D cI cZ cN cO A E n bg _ k 2 2 ok hk (hok.1 (fun z => by rw [if_pos z] at hr_3; exact c_47 hr_3) c_56)) kM_X3_227 kI_X3_sendToAll kS_X3_sendToAll kN_X3 kD_X3_sendToAll (show yX3_sendToAll.cls = RX3 ∧ yX3_sendToAll.cls ≠ "java/lang/invoke/MethodHandle" ∧ yX3_sendToAll.cls ≠ "java/lang/invoke/VarHandle" ∧ (parseMethodDescriptor yX3_sendToAll.desc).map (fun d => d.parameters.length) = some 4 from by decide +kernel) rfl rfl ⟨Nat.le_of_ble_eq_true rfl, Nat.le_of_ble_eq_true rfl⟩ rfl (lv_room (Nat.le_of_ble_eq_true rfl)) dX3_hear_67 ⟨Nat.zero_le _, Nat.zero_le _⟩ (fun H locs w ok => ?_)
      refine lv_goto (tgt := 96) hx hb dX3_hear_70 (by decide) ?_
      have hle : ¬ 2 * σ1.1 2 k 9 ≤ nI n := fun z => by rw [if_pos z] at hr_3; exact c_47 hr_3
      have e2 : cHear n bg k j tt σ = cToV n k 2 2 2 σ1 := by unfold cHear cHr2; rw [← hs1, cif_neg hle, cif_pos c_56]
      rw [← e2] at w ok
      exact W.vret hx hb hr (fun t ht hW => ⟨⟨(), rfl, trivial, ⟨by rw [ht]; exact w.1, va_K.moved hW.alike hK, w.2.1⟩, ok⟩, w.2.2.F ht⟩) w.2.2.2.2 dX3_hear_96
  · have hle : 2 * σ1.1 2 k 9 ≤ nI n := by by_cases z : 2 * σ1.1 2 k 9 ≤ nI n; exact z; rw [if_neg z] at hr_3; exact absurd (hr_3.symm.trans c_47) (by decide)
    have e2 : cHear n bg k j tt σ = σ1 := by unfold cHear cHr2; rw [← hs1, cif_pos hle]
    rw [← e2] at w ok
    exact W.vret hx hb hr (fun t ht hW => ⟨⟨(), rfl, trivial, ⟨by rw [ht]; exact w.1, va_K.moved hW.alike hK, w.2.1⟩, ok⟩, w.2.2.F ht⟩) w.2.2.2.2 dX3_hear_50
set_option maxHeartbeats 4000000 in
set_option maxRecDepth 100000 in
theorem k_hearS (l : Launch) (D : va_G) (cI cZ cN cO : ClassId) (A : Nat → Prop) (E : CE) (n bg : Nat) (σ : CS) (k j tt : Nat) (ok : cOK n bg σ) (hk : k < n) (hj : j < 2000) (htk : σ.2.2 k = tt) (h1 : 1 ≤ tt) (h2 : tt ≤ bg) (hph : ¬ (cH0 k σ).1 2 k 7 = 1) (hok : cHOk n bg k tt (cH1 n k j σ)) : Met l yX3_hear (.code yX3_hear cX3_hear 4 none :: gw) ({ frames := 5, cells := 0, slots := 0, locals := 138 }) (va_Pc (.ref (E.1 0) :: [.ref ((E.2.2.1 k)), .int (nI j)]) (cH D cI cZ cN cO A E n bg σ)) (va_Qv (fun _ : Unit => True) (fun _ t => cH D cI cZ cN cO A E n bg (cHear n bg k j tt σ) t ∧ cOK n bg (cHear n bg k j tt σ)) A) 0 0 A := by
  refine Met.ofW (cc := cX3_hear) (maxL := 4) (ret := none) (by decide) rfl ?_
  intro p e s m args below meth c s₁ B hml hv
  obtain ⟨rfl, hP, hK, hD⟩ := hv
  have hx := B.exec
  have hb := B.bytes
  have hr := B.returns
  have hts := atoms_spec (ws := (.code yX3_hear cX3_hear 4 none :: gw)) B.pre
  have hg : ∀ w ∈ gw, w.before _ s = true := fun w h => hts w (List.mem_cons_of_mem _ h)
  have hown : s.vm.findClass RX3 = some m.cls := findClass_of_methodNamed B.named
  have hlocks := B.notSynchronized
  have C : Cx p c cX3_hear s m _ RX3 D (gTy cI cZ cN cO) := ⟨hx, hb, hown, hg, hK⟩
  have w : cWd D cI cN cO A s.heap E n bg σ s.heap [] := ⟨hP, hD, va_S.rf⟩
  have hl := lv_entry ([.ref ((E.1 0)), .ref ((E.2.2.1 k)), .int (nI j)]) (n := 4) (Nat.le_of_ble_eq_true rfl)
  rw [lg_entry_eq]
  generalize (lg_sl ([.ref ((E.1 0)), .ref ((E.2.2.1 k)), .int (nI j)]) ++ List.replicate (4 - (lg_sl ([.ref ((E.1 0)), .ref ((E.2.2.1 k)), .int (nI j)])).length) Slot.unset).toArray = ls at hl ⊢
  have hl : lv_has ls 4 [(0, .ref ((E.1 0))), (1, .ref ((E.2.2.1 k))), (2, .int (nI j))] := hl
  refine lv_aload_n hx hb dX3_hear_0 rfl (lv_at hl 1 rfl) ?_
  refine lv_dup hx hb dX3_hear_1 rfl ?_
  refine c_gX0_9 C w hk kF_X3_198 dX3_hear_2 ?_
  refine lv_topi (fun t_1 et_1 => ?_)
  refine lv_iconst (v := 1) hx hb dX3_hear_5 (by decide) ?_
  refine lv_iadd hx hb dX3_hear_6 ?_
  refine lv_topi (fun t_2 et_2 => ?_)
  refine c_pX0_9 (v := t_2) C w hk kF_X3_198 dX3_hear_7 (fun H locs w => ?_)
  have ok : cOK n bg _ := cOK.put ok (kd := 2) (ix := k) (f := 9) (v := t_2) rfl
  subst et_2 et_1
  have w : cWd D cI cN cO A s.heap E n bg (cH0 k σ) H locs := w
  have ok : cOK n bg (cH0 k σ) := ok
  refine lv_aload_n hx hb dX3_hear_10 rfl (lv_at hl 1 rfl) ?_
  refine c_gX0_7 C w hk kF_X3_208 dX3_hear_11 ?_
  refine lv_iconst (v := 1) hx hb dX3_hear_14 (by decide) ?_
  refine lv_icmp_ne (tgt := 30) hx hb dX3_hear_15 (by decide) (fun c_15 => ?_) (fun c_15 => absurd c_15 hph)
  obtain ⟨σ1, hs1⟩ : ∃ z, z = cH1 n k j σ := ⟨_, rfl⟩
  have e1 : cH1 n k j σ = cH0 k σ := cif_neg hph
  have w : cWd D cI cN cO A s.heap E n bg σ1 H locs := by rw [hs1, e1]; exact w
  have ok : cOK n bg σ1 := by rw [hs1, e1]; exact ok
  rw [← hs1] at hok
  have htk1 : σ1.2.2 k = tt := by rw [hs1, cH1_tk]; exact htk
  have hph1 : σ1.1 2 k 7 = (cH0 k σ).1 2 k 7 := by rw [hs1, cH1_ph]
  refine lv_aload_n hx hb dX3_hear_30 rfl (lv_at hl 1 rfl) ?_
  refine c_gT1 (t := tt) C w hk htk1 h1 kF_X3_139 dX3_hear_31 ?_
  refine lv_astore_n (lv' := [(3, _), (0, _), (1, _), (2, _)]) C.1 C.2.1 dX3_hear_34 rfl hl (by decide) rfl (fun ls hl => ?_)
  refine lv_aload_n hx hb dX3_hear_35 rfl (lv_at hl 0 rfl) ?_
  refine lv_ifnull hx hb dX3_hear_36 ?_
  refine lv_aload_n hx hb dX3_hear_39 rfl (lv_at hl 2 rfl) ?_
  refine lv_aload_n hx hb dX3_hear_40 rfl (lv_at hl 2 rfl) ?_
  refine c_gX0_9 C w hk kF_X3_198 dX3_hear_41 ?_
  refine c_callp (As := [.int ((σ1.1 2 k 9))]) (rest := []) C (c_preX0 C w hk) hml hl.1 (k_X0_isMajority l D cI cZ cN cO A E n bg _ k (σ1.1 2 k 9) ok hk) kM_X3_201 kI_X0_isMajority kS_X0_isMajority kN_X0 kD_X0_isMajority (show yX0_isMajority.cls = RX0 ∧ yX0_isMajority.cls ≠ "java/lang/invoke/MethodHandle" ∧ yX0_isMajority.cls ≠ "java/lang/invoke/VarHandle" ∧ (parseMethodDescriptor yX0_isMajority.desc).map (fun d => d.parameters.length) = some 1 from by decide +kernel) rfl rfl ⟨Nat.le_of_ble_eq_true rfl, Nat.le_of_ble_eq_true rfl⟩ rfl (lv_room (Nat.le_of_ble_eq_true rfl)) dX3_hear_44 ⟨Nat.zero_le _, Nat.zero_le _⟩ (fun r_3 hr_3 => ?_)
  refine lv_if_ne (tgt := 51) hx hb dX3_hear_47 (by decide) (fun c_47 => ?_) (fun c_47 => ?_)
  · refine lv_aload_n hx hb dX3_hear_51 rfl (lv_at hl 2 rfl) ?_
    refine c_gX0_7 C w hk kF_X3_208 dX3_hear_52 ?_
    refine lv_iconst (v := 1) hx hb dX3_hear_55 (by decide) ?_
    refine lv_icmp_ne (tgt := 73) hx hb dX3_hear_56 (by decide) (fun c_56 => ?_) (fun c_56 => ?_)
    · refine lv_aload_n hx hb dX3_hear_73 rfl (lv_at hl 2 rfl) ?_
      refine c_gX0_7 C w hk kF_X3_208 dX3_hear_74 ?_
      refine lv_iconst (v := 2) hx hb dX3_hear_77 (by decide) ?_
      refine lv_icmp_ne (tgt := 90) hx hb dX3_hear_78 (by decide) (fun c_78 => ?_) (fun c_78 => ?_)
      · refine lv_aload_n hx hb dX3_hear_90 rfl (lv_at hl 1 rfl) ?_
        refine lv_aload_n hx hb dX3_hear_91 rfl (lv_at hl 2 rfl) ?_
        refine lv_aload_n hx hb dX3_hear_92 rfl (lv_at hl 0 rfl) ?_
        refine c_callv (As := [.ref ((E.2.2.1 k)), .ref ((E.2.2.2.2.1 tt))]) (rest := []) C (c_preX3 C w) w.2.2 hml hl.1 (k_X3_endOperation l D cI cZ cN cO A E n bg _ k tt ok hk h1 h2) kM_X3_235 kI_X3_endOperation kS_X3_endOperation kN_X3 kD_X3_endOperation (show yX3_endOperation.cls = RX3 ∧ yX3_endOperation.cls ≠ "java/lang/invoke/MethodHandle" ∧ yX3_endOperation.cls ≠ "java/lang/invoke/VarHandle" ∧ (parseMethodDescriptor yX3_endOperation.desc).map (fun d => d.parameters.length) = some 2 from by decide +kernel) rfl rfl ⟨Nat.le_of_ble_eq_true rfl, Nat.le_of_ble_eq_true rfl⟩ rfl (lv_room (Nat.le_of_ble_eq_true rfl)) dX3_hear_93 ⟨Nat.zero_le _, Nat.zero_le _⟩ (fun H locs w ok => ?_)
        have hle : ¬ 2 * σ1.1 2 k 9 ≤ nI n := fun z => by rw [if_pos z] at hr_3; exact c_47 hr_3
        have e2 : cHear n bg k j tt σ = cEndOp k tt σ1 := by unfold cHear cHr2; rw [← hs1, cif_neg hle, cif_neg c_56, cif_neg c_78]
        rw [← e2] at w ok
        exact W.vret hx hb hr (fun t ht hW => ⟨⟨(), rfl, trivial, ⟨by rw [ht]; exact w.1, va_K.moved hW.alike hK, w.2.1⟩, ok⟩, w.2.2.F ht⟩) w.2.2.2.2 dX3_hear_96
      · refine lv_aload_n hx hb dX3_hear_81 rfl (lv_at hl 1 rfl) ?_
        refine lv_aload_n hx hb dX3_hear_82 rfl (lv_at hl 2 rfl) ?_
        refine lv_aload_n hx hb dX3_hear_83 rfl (lv_at hl 0 rfl) ?_
        refine c_callv (As := [.ref ((E.2.2.1 k)), .ref ((E.2.2.2.2.1 tt))]) (rest := []) C (c_preX3 C w) w.2.2 hml hl.1 (k_eco l D cI cZ cN cO A E n bg _ k tt ok hk h1 h2 (hok.2 (fun z => by rw [if_pos z] at hr_3; exact c_47 hr_3) c_78).1 (hok.2 (fun z => by rw [if_pos z] at hr_3; exact c_47 hr_3) c_78).2) kM_X3_231 kI_X3_endCollect kS_X3_endCollect kN_X3 kD_X3_endCollect (show yX3_endCollect.cls = RX3 ∧ yX3_endCollect.cls ≠ "java/lang/invoke/MethodHandle" ∧ yX3_endCollect.cls ≠ "java/lang/invoke/VarHandle" ∧ (parseMethodDescriptor yX3_endCollect.desc).map (fun d => d.parameters.length) = some 2 from by decide +kernel) rfl rfl ⟨Nat.le_of_ble_eq_true rfl, Nat.le_of_ble_eq_true rfl⟩ rfl (lv_room (Nat.le_of_ble_eq_true rfl)) dX3_hear_84 ⟨Nat.zero_le _, Nat.zero_le _⟩ (fun H locs w ok => ?_)
        refine lv_goto (tgt := 96) hx hb dX3_hear_87 (by decide) ?_
        have hle : ¬ 2 * σ1.1 2 k 9 ≤ nI n := fun z => by rw [if_pos z] at hr_3; exact c_47 hr_3
        have e2 : cHear n bg k j tt σ = cECo n bg k tt σ1 := by unfold cHear cHr2; rw [← hs1, cif_neg hle, cif_neg c_56, cif_pos c_78]
        rw [← e2] at w ok
        exact W.vret hx hb hr (fun t ht hW => ⟨⟨(), rfl, trivial, ⟨by rw [ht]; exact w.1, va_K.moved hW.alike hK, w.2.1⟩, ok⟩, w.2.2.F ht⟩) w.2.2.2.2 dX3_hear_96
    · refine lv_aload_n hx hb dX3_hear_59 rfl (lv_at hl 1 rfl) ?_
      refine lv_aload_n hx hb dX3_hear_60 rfl (lv_at hl 2 rfl) ?_
      refine lv_iconst (v := 2) hx hb dX3_hear_61 (by decide) ?_
      refine lv_iconst (v := 2) hx hb dX3_hear_62 (by decide) ?_
      refine lv_aload_n hx hb dX3_hear_63 rfl (lv_at hl 2 rfl) ?_
      refine c_gX0_2 C w hk kF_X3_224 dX3_hear_64 ?_
      refine c_callv (As := [.ref ((E.2.2.1 k)), .int 2, .int 2, .ref ((E.2.2.2.1 k 2))]) (rest := []) C (c_preX3 C w) w.2.2 hml hl.1 (k_toV2 l D cI cZ cN cO A E n bg _ k 2 2 ok hk (hok.1 (fun z => by rw [if_pos z] at hr_3; exact c_47 hr_3) c_56)) kM_X3_227 kI_X3_sendToAll kS_X3_sendToAll kN_X3 kD_X3_sendToAll (show yX3_sendToAll.cls = RX3 ∧ yX3_sendToAll.cls ≠ "java/lang/invoke/MethodHandle" ∧ yX3_sendToAll.cls ≠ "java/lang/invoke/VarHandle" ∧ (parseMethodDescriptor yX3_sendToAll.desc).map (fun d => d.parameters.length) = some 4 from by decide +kernel) rfl rfl ⟨Nat.le_of_ble_eq_true rfl, Nat.le_of_ble_eq_true rfl⟩ rfl (lv_room (Nat.le_of_ble_eq_true rfl)) dX3_hear_67 ⟨Nat.zero_le _, Nat.zero_le _⟩ (fun H locs w ok => ?_)
      refine lv_goto (tgt := 96) hx hb dX3_hear_70 (by decide) ?_
      have hle : ¬ 2 * σ1.1 2 k 9 ≤ nI n := fun z => by rw [if_pos z] at hr_3; exact c_47 hr_3
      have e2 : cHear n bg k j tt σ = cToV n k 2 2 2 σ1 := by unfold cHear cHr2; rw [← hs1, cif_neg hle, cif_pos c_56]
      rw [← e2] at w ok
      exact W.vret hx hb hr (fun t ht hW => ⟨⟨(), rfl, trivial, ⟨by rw [ht]; exact w.1, va_K.moved hW.alike hK, w.2.1⟩, ok⟩, w.2.2.F ht⟩) w.2.2.2.2 dX3_hear_96
  · have hle : 2 * σ1.1 2 k 9 ≤ nI n := by by_cases z : 2 * σ1.1 2 k 9 ≤ nI n; exact z; rw [if_neg z] at hr_3; exact absurd (hr_3.symm.trans c_47) (by decide)
    have e2 : cHear n bg k j tt σ = σ1 := by unfold cHear cHr2; rw [← hs1, cif_pos hle]
    rw [← e2] at w ok
    exact W.vret hx hb hr (fun t ht hW => ⟨⟨(), rfl, trivial, ⟨by rw [ht]; exact w.1, va_K.moved hW.alike hK, w.2.1⟩, ok⟩, w.2.2.F ht⟩) w.2.2.2.2 dX3_hear_50
set_option maxHeartbeats 4000000 in
set_option maxRecDepth 100000 in
theorem k_hear (l : Launch) (D : va_G) (cI cZ cN cO : ClassId) (A : Nat → Prop) (E : CE) (n bg : Nat) (σ : CS) (k j tt : Nat) (ok : cOK n bg σ) (hk : k < n) (hj : j < 2000) (htk : σ.2.2 k = tt) (h1 : 1 ≤ tt) (h2 : tt ≤ bg) (hok : cHOk n bg k tt (cH1 n k j σ)) : Met l yX3_hear (.code yX3_hear cX3_hear 4 none :: gw) ({ frames := 5, cells := 0, slots := 0, locals := 138 }) (va_Pc (.ref (E.1 0) :: [.ref (E.2.2.1 k), .int (nI j)]) (cH D cI cZ cN cO A E n bg σ)) (va_Qv (fun _ : Unit => True) (fun _ t => cH D cI cZ cN cO A E n bg (cHear n bg k j tt σ) t ∧ cOK n bg (cHear n bg k j tt σ)) A) 0 0 A := by
  by_cases hph : (cH0 k σ).1 2 k 7 = 1
  · exact k_hearC l D cI cZ cN cO A E n bg σ k j tt ok hk hj htk h1 h2 hph hok
  · exact k_hearS l D cI cZ cN cO A E n bg σ k j tt ok hk hj htk h1 h2 hph hok
/-- how many MESSAGES are sent as the one in slot j comes to NODE k -/
noncomputable def cLeads (n k j : Nat) (σ : CS) : Int32 := cif (σ.1 2 k 6 = 0) 0 (cif (σ.2.1 1 0 2 j = 0 ∨ σ.2.1 1 0 2 j = 2) 1 (cif (cWait k σ (σ.2.1 1 0 2 j) (σ.2.1 1 0 5 j) ∧ ¬ 2 * (σ.1 2 k 9 + 1) ≤ nI n) (cif (cEnd n k (σ.2.2 k) σ) 0 (nI n)) 0))
def cLOk (n bg k j : Nat) (σ : CS) : Prop := cWait k σ (σ.2.1 1 0 2 j) (σ.2.1 1 0 5 j) → 1 ≤ σ.2.2 k ∧ (σ.1 2 k 7 = 2 → ¬ σ.1 3 (σ.2.2 k) 9 ≤ 0 → cLdOk n bg k σ)
set_option maxHeartbeats 4000000 in
set_option maxRecDepth 100000 in
theorem k_X3_leadsTo (l : Launch) (D : va_G) (cI cZ cN cO : ClassId) (A : Nat → Prop) (E : CE) (n bg : Nat) (σ : CS) (k j : Nat) (ok : cOK n bg σ) (hk : k < n) (hj : j < 2000) (hok : cLOk n bg k j σ) : Met l yX3_leadsTo (.code yX3_leadsTo cX3_leadsTo 4 (some .int) :: gw) ({ frames := 3, cells := 0, slots := 0, locals := 67 }) (va_Pc (.ref (E.1 0) :: [.ref ((E.2.2.1 k)), .int (nI j)]) (cH D cI cZ cN cO A E n bg σ)) (vp_Si (fun r => r = cLeads n k j σ)) 0 0 (fun _ => False) := by
  refine Met.ofW (cc := cX3_leadsTo) (maxL := 4) (ret := (some .int)) (by decide) rfl ?_
  intro p e s m args below meth c s₁ B hml hv
  obtain ⟨rfl, hP, hK, hD⟩ := hv
  have hx := B.exec
  have hb := B.bytes
  have hr := B.returns
  have hts := atoms_spec (ws := (.code yX3_leadsTo cX3_leadsTo 4 (some .int) :: gw)) B.pre
  have hg : ∀ w ∈ gw, w.before _ s = true := fun w h => hts w (List.mem_cons_of_mem _ h)
  have hown : s.vm.findClass RX3 = some m.cls := findClass_of_methodNamed B.named
  have hlocks := B.notSynchronized
  have C : Cx p c cX3_leadsTo s m _ RX3 D (gTy cI cZ cN cO) := ⟨hx, hb, hown, hg, hK⟩
  have w : cWd D cI cN cO A s.heap E n bg σ s.heap [] := ⟨hP, hD, va_S.rf⟩
  have hl := lv_entry ([.ref ((E.1 0)), .ref ((E.2.2.1 k)), .int (nI j)]) (n := 4) (Nat.le_of_ble_eq_true rfl)
  rw [lg_entry_eq]
  generalize (lg_sl ([.ref ((E.1 0)), .ref ((E.2.2.1 k)), .int (nI j)]) ++ List.replicate (4 - (lg_sl ([.ref ((E.1 0)), .ref ((E.2.2.1 k)), .int (nI j)])).length) Slot.unset).toArray = ls at hl ⊢
  have hl : lv_has ls 4 [(0, .ref ((E.1 0))), (1, .ref ((E.2.2.1 k))), (2, .int (nI j))] := hl
  refine lv_aload_n hx hb dX3_leadsTo_0 rfl (lv_at hl 1 rfl) ?_
  refine c_gX0_6 C w hk kF_X3_66 dX3_leadsTo_1 ?_
  refine lv_topi (fun t_1 et_1 => ?_)
  refine lv_if_ne (tgt := 9) hx hb dX3_leadsTo_4 (by decide) (fun c_4 => ?_) (fun c_4 => ?_)
  · refine lv_aload_n hx hb dX3_leadsTo_9 rfl (lv_at hl 0 rfl) ?_
    refine c_gX3_1 C w kF_X3_23 dX3_leadsTo_10 ?_
    refine c_gX2_2 C w kF_X3_160 dX3_leadsTo_13 ?_
    refine lv_iload_n hx hb dX3_leadsTo_16 rfl (lv_at hl 2 rfl) ?_
    refine c_lR2 C w (vp_in_nI hj (by decide)) dX3_leadsTo_17 ?_
    rw [nI_clamp (show j < 2 ^ 31 by omega)]
    refine lv_istore_n (lv' := [(3, _), (0, _), (1, _), (2, _)]) C.1 C.2.1 dX3_leadsTo_18 rfl hl (by decide) rfl (fun ls hl => ?_)
    refine lv_iload_n hx hb dX3_leadsTo_19 rfl (lv_at hl 0 rfl) ?_
    refine lv_if_eq (tgt := 28) hx hb dX3_leadsTo_20 (by decide) (fun c_20 => ?_) (fun c_20 => ?_)
    · refine lv_iconst (v := 1) hx hb dX3_leadsTo_28 (by decide) ?_
      subst et_1
      try rw [nI_clamp (show j < 2 ^ 31 by omega)] at c_20
      try rw [nI_clamp (show j < 2 ^ 31 by omega)] at c_25
      exact W.iret hx hb hr (fun t ht hW => ⟨_, rfl, (by unfold cLeads; rw [cif_neg c_4, cif_pos (Or.inl c_20)]), ht⟩) (fun _ h => by cases h) dX3_leadsTo_29
    · refine lv_iload_n hx hb dX3_leadsTo_23 rfl (lv_at hl 0 rfl) ?_
      refine lv_iconst (v := 2) hx hb dX3_leadsTo_24 (by decide) ?_
      refine lv_icmp_ne (tgt := 30) hx hb dX3_leadsTo_25 (by decide) (fun c_25 => ?_) (fun c_25 => ?_)
      · refine lv_aload_n hx hb dX3_leadsTo_30 rfl (lv_at hl 2 rfl) ?_
        refine lv_iload_n hx hb dX3_leadsTo_31 rfl (lv_at hl 0 rfl) ?_
        refine lv_aload_n hx hb dX3_leadsTo_32 rfl (lv_at hl 1 rfl) ?_
        refine c_gX3_1 C w kF_X3_23 dX3_leadsTo_33 ?_
        refine c_gX2_5 C w kF_X3_179 dX3_leadsTo_36 ?_
        refine lv_iload_n hx hb dX3_leadsTo_39 rfl (lv_at hl 3 rfl) ?_
        refine c_lR5 C w (vp_in_nI hj (by decide)) dX3_leadsTo_40 ?_
        rw [nI_clamp (show j < 2 ^ 31 by omega)]
        subst et_1
        refine c_callp (As := [.int ((σ.2.1 1 0 2 j)), .int ((σ.2.1 1 0 5 j))]) (rest := []) C (c_preX0 C w hk) hml hl.1 (k_X0_waitsFor l D cI cZ cN cO A E n bg _ k _ _ ok hk) kM_X3_190 kI_X0_waitsFor kS_X0_waitsFor kN_X0 kD_X0_waitsFor (show yX0_waitsFor.cls = RX0 ∧ yX0_waitsFor.cls ≠ "java/lang/invoke/MethodHandle" ∧ yX0_waitsFor.cls ≠ "java/lang/invoke/VarHandle" ∧ (parseMethodDescriptor yX0_waitsFor.desc).map (fun d => d.parameters.length) = some 2 from by decide +kernel) rfl rfl ⟨Nat.le_of_ble_eq_true rfl, Nat.le_of_ble_eq_true rfl⟩ rfl (lv_room (Nat.le_of_ble_eq_true rfl)) dX3_leadsTo_41 ⟨Nat.zero_le _, Nat.zero_le _⟩ (fun r_2 hr_2 => ?_)
        refine lv_if_eq (tgt := 60) hx hb dX3_leadsTo_44 (by decide) (fun c_44 => ?_) (fun c_44 => ?_)
        · refine lv_iconst (v := 0) hx hb dX3_leadsTo_60 (by decide) ?_
          try rw [nI_clamp (show j < 2 ^ 31 by omega)] at c_20
          try rw [nI_clamp (show j < 2 ^ 31 by omega)] at c_25
          exact W.iret hx hb hr (fun t ht hW => ⟨_, rfl, (by have hw : ¬ cWait k σ (σ.2.1 1 0 2 j) (σ.2.1 1 0 5 j) := hr_2.elim (fun z => absurd (z.1.symm.trans c_44) (by decide)) (fun z => z.2); unfold cLeads; rw [cif_neg c_4, cif_neg (fun z => z.elim c_20 c_25), cif_neg (fun z => hw z.1)]), ht⟩) (fun _ h => by cases h) dX3_leadsTo_61
        · refine lv_aload_n hx hb dX3_leadsTo_47 rfl (lv_at hl 2 rfl) ?_
          refine lv_aload_n hx hb dX3_leadsTo_48 rfl (lv_at hl 2 rfl) ?_
          refine c_gX0_9 C w hk kF_X3_198 dX3_leadsTo_49 ?_
          refine lv_iconst (v := 1) hx hb dX3_leadsTo_52 (by decide) ?_
          refine lv_iadd hx hb dX3_leadsTo_53 ?_
          refine c_callp (As := [.int ((σ.1 2 k 9 + 1))]) (rest := []) C (c_preX0 C w hk) hml hl.1 (k_X0_isMajority l D cI cZ cN cO A E n bg _ k _ ok hk) kM_X3_201 kI_X0_isMajority kS_X0_isMajority kN_X0 kD_X0_isMajority (show yX0_isMajority.cls = RX0 ∧ yX0_isMajority.cls ≠ "java/lang/invoke/MethodHandle" ∧ yX0_isMajority.cls ≠ "java/lang/invoke/VarHandle" ∧ (parseMethodDescriptor yX0_isMajority.desc).map (fun d => d.parameters.length) = some 1 from by decide +kernel) rfl rfl ⟨Nat.le_of_ble_eq_true rfl, Nat.le_of_ble_eq_true rfl⟩ rfl (lv_room (Nat.le_of_ble_eq_true rfl)) dX3_leadsTo_54 ⟨Nat.zero_le _, Nat.zero_le _⟩ (fun r_3 hr_3 => ?_)
          refine lv_if_ne (tgt := 62) hx hb dX3_leadsTo_57 (by decide) (fun c_57 => ?_) (fun c_57 => ?_)
          · refine lv_aload_n hx hb dX3_leadsTo_62 rfl (lv_at hl 1 rfl) ?_
            refine lv_aload_n hx hb dX3_leadsTo_63 rfl (lv_at hl 2 rfl) ?_
            have hwt : cWait k σ (σ.2.1 1 0 2 j) (σ.2.1 1 0 5 j) := hr_2.elim (fun z => z.2) (fun z => absurd z.1 c_44)
            have ht1 := (hok hwt).1
            refine c_callp (As := [.ref ((E.2.2.1 k))]) (rest := []) C (c_preX3 C w) hml hl.1 (k_X3_endsOperation l D cI cZ cN cO A E n bg _ k (σ.2.2 k) ok hk rfl ht1 (ok.tk k) (fun z1 z3 zc => (hok hwt).2 (hwt.2.elim (fun y => absurd y.2 z1) (fun y => y.2.elim (fun h => h) (fun h => absurd h z3))) zc)) kM_X3_204 kI_X3_endsOperation kS_X3_endsOperation kN_X3 kD_X3_endsOperation (show yX3_endsOperation.cls = RX3 ∧ yX3_endsOperation.cls ≠ "java/lang/invoke/MethodHandle" ∧ yX3_endsOperation.cls ≠ "java/lang/invoke/VarHandle" ∧ (parseMethodDescriptor yX3_endsOperation.desc).map (fun d => d.parameters.length) = some 1 from by decide +kernel) rfl rfl ⟨Nat.le_of_ble_eq_true rfl, Nat.le_of_ble_eq_true rfl⟩ rfl (lv_room (Nat.le_of_ble_eq_true rfl)) dX3_leadsTo_64 ⟨Nat.zero_le _, Nat.zero_le _⟩ (fun r_4 hr_4 => ?_)
            refine lv_if_eq (tgt := 74) hx hb dX3_leadsTo_67 (by decide) (fun c_67 => ?_) (fun c_67 => ?_)
            · refine lv_aload_n hx hb dX3_leadsTo_74 rfl (lv_at hl 1 rfl) ?_
              refine c_gX3_0 C w kF_X3_11 dX3_leadsTo_75 ?_
              refine c_nNA C w dX3_leadsTo_78 ?_
              try rw [nI_clamp (show j < 2 ^ 31 by omega)] at c_20
              try rw [nI_clamp (show j < 2 ^ 31 by omega)] at c_25
              have hm : ¬ 2 * (σ.1 2 k 9 + 1) ≤ nI n := fun z => by rw [if_pos z] at hr_3; exact c_57 hr_3
              exact W.iret hx hb hr (fun t ht hW => ⟨_, rfl, (by unfold cLeads; rw [cif_neg c_4, cif_neg (fun z => z.elim c_20 c_25), cif_pos ⟨hwt, hm⟩, cif_neg (hr_4.elim (fun z => absurd (z.1.symm.trans c_67) (by decide)) (fun z => z.2))]), ht⟩) (fun _ h => by cases h) dX3_leadsTo_79
            · refine lv_iconst (v := 0) hx hb dX3_leadsTo_70 (by decide) ?_
              refine lv_goto (tgt := 79) hx hb dX3_leadsTo_71 (by decide) ?_
              try rw [nI_clamp (show j < 2 ^ 31 by omega)] at c_20
              try rw [nI_clamp (show j < 2 ^ 31 by omega)] at c_25
              have hm : ¬ 2 * (σ.1 2 k 9 + 1) ≤ nI n := fun z => by rw [if_pos z] at hr_3; exact c_57 hr_3
              exact W.iret hx hb hr (fun t ht hW => ⟨_, rfl, (by unfold cLeads; rw [cif_neg c_4, cif_neg (fun z => z.elim c_20 c_25), cif_pos ⟨hwt, hm⟩, cif_pos (hr_4.elim (fun z => z.2) (fun z => absurd z.1 c_67))]), ht⟩) (fun _ h => by cases h) dX3_leadsTo_79
          · refine lv_iconst (v := 0) hx hb dX3_leadsTo_60 (by decide) ?_
            try rw [nI_clamp (show j < 2 ^ 31 by omega)] at c_20
            try rw [nI_clamp (show j < 2 ^ 31 by omega)] at c_25
            have hm : 2 * (σ.1 2 k 9 + 1) ≤ nI n := by by_cases z : 2 * (σ.1 2 k 9 + 1) ≤ nI n; exact z; rw [if_neg z] at hr_3; exact absurd (hr_3.symm.trans c_57) (by decide)
            exact W.iret hx hb hr (fun t ht hW => ⟨_, rfl, (by unfold cLeads; rw [cif_neg c_4, cif_neg (fun z => z.elim c_20 c_25), cif_neg (fun z => z.2 hm)]), ht⟩) (fun _ h => by cases h) dX3_leadsTo_61
      · refine lv_iconst (v := 1) hx hb dX3_leadsTo_28 (by decide) ?_
        subst et_1
        try rw [nI_clamp (show j < 2 ^ 31 by omega)] at c_20
        try rw [nI_clamp (show j < 2 ^ 31 by omega)] at c_25
        exact W.iret hx hb hr (fun t ht hW => ⟨_, rfl, (by unfold cLeads; rw [cif_neg c_4, cif_pos (Or.inr c_25)]), ht⟩) (fun _ h => by cases h) dX3_leadsTo_29
  · refine lv_iconst (v := 0) hx hb dX3_leadsTo_7 (by decide) ?_
    subst et_1
    try rw [nI_clamp (show j < 2 ^ 31 by omega)] at c_20
    try rw [nI_clamp (show j < 2 ^ 31 by omega)] at c_25
    exact W.iret hx hb hr (fun t ht hW => ⟨_, rfl, (cif_pos c_4).symm, ht⟩) (fun _ h => by cases h) dX3_leadsTo_8
