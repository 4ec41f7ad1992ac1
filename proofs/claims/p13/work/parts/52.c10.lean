def cOff (a : Nat) (σ : CS) : CS := cI_ (cI_ (cTake a σ) 0 0 6 (σ.1 0 0 6 + 1)) 0 0 5 (σ.1 0 0 5 + 1)
noncomputable def cMid (n bg k j : Nat) (σ : CS) : CS := cif (σ.1 2 k 6 = 0) σ (cif (σ.2.1 1 0 2 j = 0) (cSendV n k 1 σ 1 (nI k) (σ.2.1 1 0 3 j) (σ.2.1 1 0 5 j)) (cif (σ.2.1 1 0 2 j = 2) (cSend0 (cRaise n k 1 j σ) 3 (nI k) (σ.2.1 1 0 3 j) (σ.2.1 1 0 5 j)) (cif (cWait k σ (σ.2.1 1 0 2 j) (σ.2.1 1 0 5 j)) (cHear n bg k j (σ.2.2 k) σ) σ)))
theorem cOff_ln {n bg : Nat} {σ : CS} (ok : cOK n bg σ) {a : Nat} (ha : a < lnN σ) : lnN (cOff a σ) = lnN σ - 1 := by
  show (σ.1 1 0 8 - 1).toNatClampNeg = _
  have h := ok.lnn
  rw [h.1, nI_m1 (by omega), nI_clamp (by omega)]
set_option maxHeartbeats 4000000 in
set_option maxRecDepth 100000 in
theorem k_come_no (l : Launch) (D : va_G) (cI cZ cN cO : ClassId) (A : Nat → Prop) (E : CE) (n bg : Nat) (σ : CS) (a j k : Nat) (ok : cOK n bg σ) (ha : a < lnN σ) (hsa : slN σ a = j) (hkr : σ.2.1 1 0 4 j = nI k) (hk : k < n) (hlo : cLOk n bg k j σ) (hro : 2000 < σ.1 1 0 8 + (cLeads n k j σ - 1)) : Met l yX3_come (.code yX3_come cX3_come 5 (some .int) :: gw) ({ frames := 6, cells := 0, slots := 0, locals := 161 }) (va_Pc (.ref (E.1 0) :: [.int (nI a)]) (cH D cI cZ cN cO A E n bg σ)) (va_Qi (fun (r : Int32) (_ : Unit) => r = -1) (fun _ t => cH D cI cZ cN cO A E n bg (σ) t ∧ cOK n bg (σ)) A) 0 0 A := by
  refine Met.ofW (cc := cX3_come) (maxL := 5) (ret := (some .int)) (by decide) rfl ?_
  intro p e s m args below meth c s₁ B hml hv
  obtain ⟨rfl, hP, hK, hD⟩ := hv
  have hx := B.exec
  have hb := B.bytes
  have hr := B.returns
  have hts := atoms_spec (ws := (.code yX3_come cX3_come 5 (some .int) :: gw)) B.pre
  have hg : ∀ w ∈ gw, w.before _ s = true := fun w h => hts w (List.mem_cons_of_mem _ h)
  have hown : s.vm.findClass RX3 = some m.cls := findClass_of_methodNamed B.named
  have hlocks := B.notSynchronized
  have C : Cx p c cX3_come s m _ RX3 D (gTy cI cZ cN cO) := ⟨hx, hb, hown, hg, hK⟩
  have w : cWd D cI cN cO A s.heap E n bg σ s.heap [] := ⟨hP, hD, va_S.rf⟩
  have hl := lv_entry ([.ref ((E.1 0)), .int (nI a)]) (n := 5) (Nat.le_of_ble_eq_true rfl)
  rw [lg_entry_eq]
  generalize (lg_sl ([.ref ((E.1 0)), .int (nI a)]) ++ List.replicate (5 - (lg_sl ([.ref ((E.1 0)), .int (nI a)])).length) Slot.unset).toArray = ls at hl ⊢
  have hl : lv_has ls 5 [(0, .ref ((E.1 0))), (1, .int (nI a))] := hl
  have hj : j < 2000 := by rw [← hsa]; exact (ok.sln a).2
  have ok0 := ok
  refine lv_aload_n hx hb dX3_come_0 rfl (lv_at hl 0 rfl) ?_
  refine c_gX3_1 C w kF_X3_23 dX3_come_1 ?_
  refine lv_iload_n hx hb dX3_come_4 rfl (lv_at hl 1 rfl) ?_
  refine c_callp (As := [.int (nI a)]) (rest := []) C (c_preX2 C w) hml hl.1 (k_X2_slotOf l D cI cZ cN cO A E n bg _ a ok (by have := ok.lnn.2; omega)) kM_X3_157 kI_X2_slotOf kS_X2_slotOf kN_X2 kD_X2_slotOf (show yX2_slotOf.cls = RX2 ∧ yX2_slotOf.cls ≠ "java/lang/invoke/MethodHandle" ∧ yX2_slotOf.cls ≠ "java/lang/invoke/VarHandle" ∧ (parseMethodDescriptor yX2_slotOf.desc).map (fun d => d.parameters.length) = some 1 from by decide +kernel) rfl rfl ⟨Nat.le_of_ble_eq_true rfl, Nat.le_of_ble_eq_true rfl⟩ rfl (lv_room (Nat.le_of_ble_eq_true rfl)) dX3_come_5 ⟨Nat.zero_le _, Nat.zero_le _⟩ (fun r_1 hr_1 => ?_)
  rw [hr_1, hsa]
  refine lv_istore_n (lv' := [(2, _), (0, _), (1, _)]) C.1 C.2.1 dX3_come_8 rfl hl (by decide) rfl (fun ls hl => ?_)
  refine lv_aload_n hx hb dX3_come_9 rfl (lv_at hl 1 rfl) ?_
  refine c_gX3_1 C w kF_X3_23 dX3_come_10 ?_
  refine c_gX2_2 C w kF_X3_160 dX3_come_13 ?_
  refine lv_iload_n hx hb dX3_come_16 rfl (lv_at hl 0 rfl) ?_
  refine c_lR2 C w (vp_in_nI hj (by decide)) dX3_come_17 ?_
  rw [nI_clamp (show j < 2 ^ 31 by omega)]
  refine lv_istore_n (lv' := [(3, _), (2, _), (0, _), (1, _)]) C.1 C.2.1 dX3_come_18 rfl hl (by decide) rfl (fun ls hl => ?_)
  refine lv_aload_n hx hb dX3_come_19 rfl (lv_at hl 2 rfl) ?_
  refine c_gX3_0 C w kF_X3_11 dX3_come_20 ?_
  refine lv_aload_n hx hb dX3_come_23 rfl (lv_at hl 2 rfl) ?_
  refine c_gX3_1 C w kF_X3_23 dX3_come_24 ?_
  refine c_gX2_4 C w kF_X3_163 dX3_come_27 ?_
  refine lv_iload_n hx hb dX3_come_30 rfl (lv_at hl 1 rfl) ?_
  refine c_lR4 C w (vp_in_nI hj (by decide)) dX3_come_31 ?_
  rw [nI_clamp (show j < 2 ^ 31 by omega)]
  rw [hkr]
  refine c_lNA (k := k) C w hk ok.n dX3_come_32 ?_
  refine lv_astore (lv' := [(4, _), (3, _), (2, _), (0, _), (1, _)]) C.1 C.2.1 dX3_come_33 hl (by decide) rfl (fun ls hl => ?_)
  refine lv_aload_n hx hb dX3_come_35 rfl (lv_at hl 3 rfl) ?_
  refine c_gX3_1 C w kF_X3_23 dX3_come_36 ?_
  refine lv_aload_n hx hb dX3_come_39 rfl (lv_at hl 3 rfl) ?_
  refine lv_aload hx hb dX3_come_40 (lv_at hl 0 rfl) ?_
  refine lv_iload_n hx hb dX3_come_42 rfl (lv_at hl 2 rfl) ?_
  refine c_callp (As := [.ref ((E.2.2.1 k)), .int (nI j)]) (rest := [.ref ((E.1 2))]) C (c_preX3 C w) hml hl.1 (k_X3_leadsTo l D cI cZ cN cO A E n bg _ k j ok hk hj hlo) kM_X3_166 kI_X3_leadsTo kS_X3_leadsTo kN_X3 kD_X3_leadsTo (show yX3_leadsTo.cls = RX3 ∧ yX3_leadsTo.cls ≠ "java/lang/invoke/MethodHandle" ∧ yX3_leadsTo.cls ≠ "java/lang/invoke/VarHandle" ∧ (parseMethodDescriptor yX3_leadsTo.desc).map (fun d => d.parameters.length) = some 2 from by decide +kernel) rfl rfl ⟨Nat.le_of_ble_eq_true rfl, Nat.le_of_ble_eq_true rfl⟩ rfl (lv_room (Nat.le_of_ble_eq_true rfl)) dX3_come_43 ⟨Nat.zero_le _, Nat.zero_le _⟩ (fun r_2 hr_2 => ?_)
  subst hr_2
  refine lv_iconst (v := 1) hx hb dX3_come_46 (by decide) ?_
  refine lv_isub hx hb dX3_come_47 ?_
  refine c_callp (As := [.int ((cLeads n k j σ - 1))]) (rest := []) C (c_preX2 C w) hml hl.1 (k_X2_hasRoom l D cI cZ cN cO A E n bg _ _ ok ) kM_X3_143 kI_X2_hasRoom kS_X2_hasRoom kN_X2 kD_X2_hasRoom (show yX2_hasRoom.cls = RX2 ∧ yX2_hasRoom.cls ≠ "java/lang/invoke/MethodHandle" ∧ yX2_hasRoom.cls ≠ "java/lang/invoke/VarHandle" ∧ (parseMethodDescriptor yX2_hasRoom.desc).map (fun d => d.parameters.length) = some 1 from by decide +kernel) rfl rfl ⟨Nat.le_of_ble_eq_true rfl, Nat.le_of_ble_eq_true rfl⟩ rfl (lv_room (Nat.le_of_ble_eq_true rfl)) dX3_come_48 ⟨Nat.zero_le _, Nat.zero_le _⟩ (fun r_3 hr_3 => ?_)
  rw [if_pos hro] at hr_3
  subst hr_3
  refine lv_if_ne (tgt := 56) hx hb dX3_come_51 (by decide) (fun c_51 => absurd rfl c_51) (fun c_51 => ?_)
  refine lv_iconst (v := (-1)) hx hb dX3_come_54 (by decide) ?_
  exact W.iret hx hb hr (fun t ht hW => ⟨⟨_, (), rfl, rfl, ⟨by rw [ht]; exact w.1, va_K.moved hW.alike hK, w.2.1⟩, ok⟩, w.2.2.F ht⟩) w.2.2.2.2 dX3_come_55
set_option maxHeartbeats 4000000 in
set_option maxRecDepth 100000 in
theorem k_come_go (l : Launch) (D : va_G) (cI cZ cN cO : ClassId) (A : Nat → Prop) (E : CE) (n bg : Nat) (σ : CS) (a j k : Nat) (ok : cOK n bg σ) (ha : a < lnN σ) (hsa : slN σ a = j) (hkr : σ.2.1 1 0 4 j = nI k) (hk : k < n) (hlo : cLOk n bg k j σ) (hro : ¬ 2000 < σ.1 1 0 8 + (cLeads n k j σ - 1)) (hho : ¬ (cOff a σ).1 2 k 6 = 0 → ¬ (cOff a σ).2.1 1 0 2 j = 0 → ¬ (cOff a σ).2.1 1 0 2 j = 2 → cWait k (cOff a σ) ((cOff a σ).2.1 1 0 2 j) ((cOff a σ).2.1 1 0 5 j) → 1 ≤ (cOff a σ).2.2 k ∧ cHOk n bg k ((cOff a σ).2.2 k) (cH1 n k j (cOff a σ))) : Met l yX3_come (.code yX3_come cX3_come 5 (some .int) :: gw) ({ frames := 6, cells := 0, slots := 0, locals := 161 }) (va_Pc (.ref (E.1 0) :: [.int (nI a)]) (cH D cI cZ cN cO A E n bg σ)) (va_Qi (fun (r : Int32) (_ : Unit) => r = σ.2.1 1 0 2 j) (fun _ t => cH D cI cZ cN cO A E n bg (cMid n bg k j (cOff a σ)) t ∧ cOK n bg (cMid n bg k j (cOff a σ))) A) 0 0 A := by
  refine Met.ofW (cc := cX3_come) (maxL := 5) (ret := (some .int)) (by decide) rfl ?_
  intro p e s m args below meth c s₁ B hml hv
  obtain ⟨rfl, hP, hK, hD⟩ := hv
  have hx := B.exec
  have hb := B.bytes
  have hr := B.returns
  have hts := atoms_spec (ws := (.code yX3_come cX3_come 5 (some .int) :: gw)) B.pre
  have hg : ∀ w ∈ gw, w.before _ s = true := fun w h => hts w (List.mem_cons_of_mem _ h)
  have hown : s.vm.findClass RX3 = some m.cls := findClass_of_methodNamed B.named
  have hlocks := B.notSynchronized
  have C : Cx p c cX3_come s m _ RX3 D (gTy cI cZ cN cO) := ⟨hx, hb, hown, hg, hK⟩
  have w : cWd D cI cN cO A s.heap E n bg σ s.heap [] := ⟨hP, hD, va_S.rf⟩
  have hl := lv_entry ([.ref ((E.1 0)), .int (nI a)]) (n := 5) (Nat.le_of_ble_eq_true rfl)
  rw [lg_entry_eq]
  generalize (lg_sl ([.ref ((E.1 0)), .int (nI a)]) ++ List.replicate (5 - (lg_sl ([.ref ((E.1 0)), .int (nI a)])).length) Slot.unset).toArray = ls at hl ⊢
  have hl : lv_has ls 5 [(0, .ref ((E.1 0))), (1, .int (nI a))] := hl
  have hj : j < 2000 := by rw [← hsa]; exact (ok.sln a).2
  have ok0 := ok
  refine lv_aload_n hx hb dX3_come_0 rfl (lv_at hl 0 rfl) ?_
  refine c_gX3_1 C w kF_X3_23 dX3_come_1 ?_
  refine lv_iload_n hx hb dX3_come_4 rfl (lv_at hl 1 rfl) ?_
  refine c_callp (As := [.int (nI a)]) (rest := []) C (c_preX2 C w) hml hl.1 (k_X2_slotOf l D cI cZ cN cO A E n bg _ a ok (by have := ok.lnn.2; omega)) kM_X3_157 kI_X2_slotOf kS_X2_slotOf kN_X2 kD_X2_slotOf (show yX2_slotOf.cls = RX2 ∧ yX2_slotOf.cls ≠ "java/lang/invoke/MethodHandle" ∧ yX2_slotOf.cls ≠ "java/lang/invoke/VarHandle" ∧ (parseMethodDescriptor yX2_slotOf.desc).map (fun d => d.parameters.length) = some 1 from by decide +kernel) rfl rfl ⟨Nat.le_of_ble_eq_true rfl, Nat.le_of_ble_eq_true rfl⟩ rfl (lv_room (Nat.le_of_ble_eq_true rfl)) dX3_come_5 ⟨Nat.zero_le _, Nat.zero_le _⟩ (fun r_1 hr_1 => ?_)
  rw [hr_1, hsa]
  refine lv_istore_n (lv' := [(2, _), (0, _), (1, _)]) C.1 C.2.1 dX3_come_8 rfl hl (by decide) rfl (fun ls hl => ?_)
  refine lv_aload_n hx hb dX3_come_9 rfl (lv_at hl 1 rfl) ?_
  refine c_gX3_1 C w kF_X3_23 dX3_come_10 ?_
  refine c_gX2_2 C w kF_X3_160 dX3_come_13 ?_
  refine lv_iload_n hx hb dX3_come_16 rfl (lv_at hl 0 rfl) ?_
  refine c_lR2 C w (vp_in_nI hj (by decide)) dX3_come_17 ?_
  rw [nI_clamp (show j < 2 ^ 31 by omega)]
  refine lv_istore_n (lv' := [(3, _), (2, _), (0, _), (1, _)]) C.1 C.2.1 dX3_come_18 rfl hl (by decide) rfl (fun ls hl => ?_)
  refine lv_aload_n hx hb dX3_come_19 rfl (lv_at hl 2 rfl) ?_
  refine c_gX3_0 C w kF_X3_11 dX3_come_20 ?_
  refine lv_aload_n hx hb dX3_come_23 rfl (lv_at hl 2 rfl) ?_
  refine c_gX3_1 C w kF_X3_23 dX3_come_24 ?_
  refine c_gX2_4 C w kF_X3_163 dX3_come_27 ?_
  refine lv_iload_n hx hb dX3_come_30 rfl (lv_at hl 1 rfl) ?_
  refine c_lR4 C w (vp_in_nI hj (by decide)) dX3_come_31 ?_
  rw [nI_clamp (show j < 2 ^ 31 by omega)]
  rw [hkr]
  refine c_lNA (k := k) C w hk ok.n dX3_come_32 ?_
  refine lv_astore (lv' := [(4, _), (3, _), (2, _), (0, _), (1, _)]) C.1 C.2.1 dX3_come_33 hl (by decide) rfl (fun ls hl => ?_)
  refine lv_aload_n hx hb dX3_come_35 rfl (lv_at hl 3 rfl) ?_
  refine c_gX3_1 C w kF_X3_23 dX3_come_36 ?_
  refine lv_aload_n hx hb dX3_come_39 rfl (lv_at hl 3 rfl) ?_
  refine lv_aload hx hb dX3_come_40 (lv_at hl 0 rfl) ?_
  refine lv_iload_n hx hb dX3_come_42 rfl (lv_at hl 2 rfl) ?_
  refine c_callp (As := [.ref ((E.2.2.1 k)), .int (nI j)]) (rest := [.ref ((E.1 2))]) C (c_preX3 C w) hml hl.1 (k_X3_leadsTo l D cI cZ cN cO A E n bg _ k j ok hk hj hlo) kM_X3_166 kI_X3_leadsTo kS_X3_leadsTo kN_X3 kD_X3_leadsTo (show yX3_leadsTo.cls = RX3 ∧ yX3_leadsTo.cls ≠ "java/lang/invoke/MethodHandle" ∧ yX3_leadsTo.cls ≠ "java/lang/invoke/VarHandle" ∧ (parseMethodDescriptor yX3_leadsTo.desc).map (fun d => d.parameters.length) = some 2 from by decide +kernel) rfl rfl ⟨Nat.le_of_ble_eq_true rfl, Nat.le_of_ble_eq_true rfl⟩ rfl (lv_room (Nat.le_of_ble_eq_true rfl)) dX3_come_43 ⟨Nat.zero_le _, Nat.zero_le _⟩ (fun r_2 hr_2 => ?_)
  subst hr_2
  refine lv_iconst (v := 1) hx hb dX3_come_46 (by decide) ?_
  refine lv_isub hx hb dX3_come_47 ?_
  refine c_callp (As := [.int ((cLeads n k j σ - 1))]) (rest := []) C (c_preX2 C w) hml hl.1 (k_X2_hasRoom l D cI cZ cN cO A E n bg _ _ ok ) kM_X3_143 kI_X2_hasRoom kS_X2_hasRoom kN_X2 kD_X2_hasRoom (show yX2_hasRoom.cls = RX2 ∧ yX2_hasRoom.cls ≠ "java/lang/invoke/MethodHandle" ∧ yX2_hasRoom.cls ≠ "java/lang/invoke/VarHandle" ∧ (parseMethodDescriptor yX2_hasRoom.desc).map (fun d => d.parameters.length) = some 1 from by decide +kernel) rfl rfl ⟨Nat.le_of_ble_eq_true rfl, Nat.le_of_ble_eq_true rfl⟩ rfl (lv_room (Nat.le_of_ble_eq_true rfl)) dX3_come_48 ⟨Nat.zero_le _, Nat.zero_le _⟩ (fun r_3 hr_3 => ?_)
  rw [if_neg hro] at hr_3
  subst hr_3
  refine lv_if_ne (tgt := 56) hx hb dX3_come_51 (by decide) (fun c_51 => ?_) (fun c_51 => absurd c_51 (by decide))
  refine lv_aload_n hx hb dX3_come_56 rfl (lv_at hl 3 rfl) ?_
  refine c_gX3_1 C w kF_X3_23 dX3_come_57 ?_
  refine lv_iload_n hx hb dX3_come_60 rfl (lv_at hl 4 rfl) ?_
  refine c_callv (As := [.int (nI a)]) (rest := []) C (c_preX2 C w) w.2.2 hml hl.1 (k_X2_take l D cI cZ cN cO A E n bg _ a ok ha) kM_X3_170 kI_X2_take kS_X2_take kN_X2 kD_X2_take (show yX2_take.cls = RX2 ∧ yX2_take.cls ≠ "java/lang/invoke/MethodHandle" ∧ yX2_take.cls ≠ "java/lang/invoke/VarHandle" ∧ (parseMethodDescriptor yX2_take.desc).map (fun d => d.parameters.length) = some 1 from by decide +kernel) rfl rfl ⟨Nat.le_of_ble_eq_true rfl, Nat.le_of_ble_eq_true rfl⟩ rfl (lv_room (Nat.le_of_ble_eq_true rfl)) dX3_come_61 ⟨Nat.zero_le _, Nat.zero_le _⟩ (fun H locs w ok => ?_)
  refine lv_aload_n hx hb dX3_come_64 rfl (lv_at hl 3 rfl) ?_
  refine lv_dup hx hb dX3_come_65 rfl ?_
  refine c_gX3_6 C w kF_X3_116 dX3_come_66 ?_
  refine lv_topi (fun t_4 et_4 => ?_)
  refine lv_iconst (v := 1) hx hb dX3_come_69 (by decide) ?_
  refine lv_iadd hx hb dX3_come_70 ?_
  refine lv_topi (fun t_5 et_5 => ?_)
  refine c_pX3_6 (v := t_5) C w kF_X3_116 dX3_come_71 (fun H locs w => ?_)
  have ok : cOK n bg _ := cOK.put ok (kd := 0) (ix := 0) (f := 6) (v := t_5) rfl
  refine lv_aload_n hx hb dX3_come_74 rfl (lv_at hl 3 rfl) ?_
  refine lv_dup hx hb dX3_come_75 rfl ?_
  refine c_gX3_5 C w kF_X3_70 dX3_come_76 ?_
  refine lv_topi (fun t_6 et_6 => ?_)
  refine lv_iconst (v := 1) hx hb dX3_come_79 (by decide) ?_
  refine lv_iadd hx hb dX3_come_80 ?_
  refine lv_topi (fun t_7 et_7 => ?_)
  refine c_pX3_5 (v := t_7) C w kF_X3_70 dX3_come_81 (fun H locs w => ?_)
  have ok : cOK n bg _ := cOK.put ok (kd := 0) (ix := 0) (f := 5) (v := t_7) rfl
  subst et_7 et_6 et_5 et_4
  obtain ⟨σ2, hs2⟩ : ∃ z, z = cOff a σ := ⟨_, rfl⟩
  have w : cWd D cI cN cO A s.heap E n bg σ2 H locs := by rw [hs2]; exact w
  have ok : cOK n bg σ2 := by rw [hs2]; exact ok
  have ekd : σ.2.1 1 0 2 j = σ2.2.1 1 0 2 j := by rw [hs2]; rfl
  have hln : lnN σ2 < 2000 := by rw [hs2, cOff_ln ok0 ha]; have := ok0.lnn.2; omega
  rw [← hs2] at hho
  rw [ekd] at hl
  refine lv_aload hx hb dX3_come_84 (lv_at hl 0 rfl) ?_
  refine c_gX0_6 C w hk kF_X3_66 dX3_come_86 ?_
  refine lv_if_ne (tgt := 94) hx hb dX3_come_89 (by decide) (fun c_89 => ?_) (fun c_89 => ?_)
  · refine lv_iload_n hx hb dX3_come_94 rfl (lv_at hl 1 rfl) ?_
    refine lv_if_ne (tgt := 137) hx hb dX3_come_95 (by decide) (fun c_95 => ?_) (fun c_95 => ?_)
    · refine lv_iload_n hx hb dX3_come_137 rfl (lv_at hl 1 rfl) ?_
      refine lv_iconst (v := 2) hx hb dX3_come_138 (by decide) ?_
      refine lv_icmp_ne (tgt := 190) hx hb dX3_come_139 (by decide) (fun c_139 => ?_) (fun c_139 => ?_)
      · refine lv_aload hx hb dX3_come_190 (lv_at hl 0 rfl) ?_
        refine lv_iload_n hx hb dX3_come_192 rfl (lv_at hl 1 rfl) ?_
        refine lv_aload_n hx hb dX3_come_193 rfl (lv_at hl 3 rfl) ?_
        refine c_gX3_1 C w kF_X3_23 dX3_come_194 ?_
        refine c_gX2_5 C w kF_X3_179 dX3_come_197 ?_
        refine lv_iload_n hx hb dX3_come_200 rfl (lv_at hl 2 rfl) ?_
        refine c_lR5 C w (vp_in_nI hj (by decide)) dX3_come_201 ?_
        rw [nI_clamp (show j < 2 ^ 31 by omega)]
        refine c_callp (As := [.int ((σ2.2.1 1 0 2 j)), .int ((σ2.2.1 1 0 5 j))]) (rest := []) C (c_preX0 C w hk) hml hl.1 (k_X0_waitsFor l D cI cZ cN cO A E n bg _ k _ _ ok hk) kM_X3_190 kI_X0_waitsFor kS_X0_waitsFor kN_X0 kD_X0_waitsFor (show yX0_waitsFor.cls = RX0 ∧ yX0_waitsFor.cls ≠ "java/lang/invoke/MethodHandle" ∧ yX0_waitsFor.cls ≠ "java/lang/invoke/VarHandle" ∧ (parseMethodDescriptor yX0_waitsFor.desc).map (fun d => d.parameters.length) = some 2 from by decide +kernel) rfl rfl ⟨Nat.le_of_ble_eq_true rfl, Nat.le_of_ble_eq_true rfl⟩ rfl (lv_room (Nat.le_of_ble_eq_true rfl)) dX3_come_202 ⟨Nat.zero_le _, Nat.zero_le _⟩ (fun r_8 hr_8 => ?_)
        refine lv_if_eq (tgt := 215) hx hb dX3_come_205 (by decide) (fun c_205 => ?_) (fun c_205 => ?_)
        · refine lv_iload_n hx hb dX3_come_215 rfl (lv_at hl 1 rfl) ?_
          have e2 : cMid n bg k j (cOff a σ) = σ2 := by rw [← hs2]; unfold cMid; rw [cif_neg c_89, cif_neg c_95, cif_neg c_139, cif_neg (hr_8.elim (fun z => absurd (z.1.symm.trans c_205) (by decide)) (fun z => z.2))]
          rw [← e2] at w ok
          exact W.iret hx hb hr (fun t ht hW => ⟨⟨_, (), rfl, ekd.symm, ⟨by rw [ht]; exact w.1, va_K.moved hW.alike hK, w.2.1⟩, ok⟩, w.2.2.F ht⟩) w.2.2.2.2 dX3_come_216
        · refine lv_aload_n hx hb dX3_come_208 rfl (lv_at hl 3 rfl) ?_
          refine lv_aload hx hb dX3_come_209 (lv_at hl 0 rfl) ?_
          refine lv_iload_n hx hb dX3_come_211 rfl (lv_at hl 2 rfl) ?_
          have hwt : cWait k σ2 (σ2.2.1 1 0 2 j) (σ2.2.1 1 0 5 j) := hr_8.elim (fun z => z.2) (fun z => absurd z.1 c_205)
          have hh := hho c_89 c_95 c_139 hwt
          refine c_callv (As := [.ref ((E.2.2.1 k)), .int (nI j)]) (rest := []) C (c_preX3 C w) w.2.2 hml hl.1 (k_hear l D cI cZ cN cO A E n bg _ k j (σ2.2.2 k) ok hk hj rfl hh.1 (ok.tk k) hh.2) kM_X3_194 kI_X3_hear kS_X3_hear kN_X3 kD_X3_hear (show yX3_hear.cls = RX3 ∧ yX3_hear.cls ≠ "java/lang/invoke/MethodHandle" ∧ yX3_hear.cls ≠ "java/lang/invoke/VarHandle" ∧ (parseMethodDescriptor yX3_hear.desc).map (fun d => d.parameters.length) = some 2 from by decide +kernel) rfl rfl ⟨Nat.le_of_ble_eq_true rfl, Nat.le_of_ble_eq_true rfl⟩ rfl (lv_room (Nat.le_of_ble_eq_true rfl)) dX3_come_212 ⟨Nat.zero_le _, Nat.zero_le _⟩ (fun H locs w ok => ?_)
          refine lv_iload_n hx hb dX3_come_215 rfl (lv_at hl 1 rfl) ?_
          have e2 : cMid n bg k j (cOff a σ) = cHear n bg k j (σ2.2.2 k) σ2 := by rw [← hs2]; unfold cMid; rw [cif_neg c_89, cif_neg c_95, cif_neg c_139, cif_pos hwt]
          rw [← e2] at w ok
          exact W.iret hx hb hr (fun t ht hW => ⟨⟨_, (), rfl, ekd.symm, ⟨by rw [ht]; exact w.1, va_K.moved hW.alike hK, w.2.1⟩, ok⟩, w.2.2.F ht⟩) w.2.2.2.2 dX3_come_216
      · refine lv_aload_n hx hb dX3_come_142 rfl (lv_at hl 3 rfl) ?_
        refine c_gX3_1 C w kF_X3_23 dX3_come_143 ?_
        refine lv_aload hx hb dX3_come_146 (lv_at hl 0 rfl) ?_
        refine c_gX0_1 C w hk kF_X3_97 dX3_come_148 ?_
        refine lv_iload_n hx hb dX3_come_151 rfl (lv_at hl 2 rfl) ?_
        refine c_callv (As := [.ref ((E.2.2.2.1 k 1)), .int (nI j)]) (rest := []) C (c_preX2 C w) w.2.2 hml hl.1 (k_raise1 l D cI cZ cN cO A E n bg _ k j ok hk hj) kM_X3_186 kI_X2_raise kS_X2_raise kN_X2 kD_X2_raise (show yX2_raise.cls = RX2 ∧ yX2_raise.cls ≠ "java/lang/invoke/MethodHandle" ∧ yX2_raise.cls ≠ "java/lang/invoke/VarHandle" ∧ (parseMethodDescriptor yX2_raise.desc).map (fun d => d.parameters.length) = some 2 from by decide +kernel) rfl rfl ⟨Nat.le_of_ble_eq_true rfl, Nat.le_of_ble_eq_true rfl⟩ rfl (lv_room (Nat.le_of_ble_eq_true rfl)) dX3_come_152 ⟨Nat.zero_le _, Nat.zero_le _⟩ (fun H locs w ok => ?_)
        refine lv_aload_n hx hb dX3_come_155 rfl (lv_at hl 3 rfl) ?_
        refine c_gX3_1 C w kF_X3_23 dX3_come_156 ?_
        refine lv_iconst (v := 3) hx hb dX3_come_159 (by decide) ?_
        refine lv_aload hx hb dX3_come_160 (lv_at hl 0 rfl) ?_
        refine c_gX0_0 C w hk kF_X3_173 dX3_come_162 ?_
        rw [ok.ix hk]
        refine lv_aload_n hx hb dX3_come_165 rfl (lv_at hl 3 rfl) ?_
        refine c_gX3_1 C w kF_X3_23 dX3_come_166 ?_
        refine c_gX2_3 C w kF_X3_176 dX3_come_169 ?_
        refine lv_iload_n hx hb dX3_come_172 rfl (lv_at hl 2 rfl) ?_
        refine c_lR3 C w (vp_in_nI hj (by decide)) dX3_come_173 ?_
        rw [nI_clamp (show j < 2 ^ 31 by omega)]
        refine lv_aload_n hx hb dX3_come_174 rfl (lv_at hl 3 rfl) ?_
        refine c_gX3_1 C w kF_X3_23 dX3_come_175 ?_
        refine c_gX2_5 C w kF_X3_179 dX3_come_178 ?_
        refine lv_iload_n hx hb dX3_come_181 rfl (lv_at hl 2 rfl) ?_
        refine c_lR5 C w (vp_in_nI hj (by decide)) dX3_come_182 ?_
        rw [nI_clamp (show j < 2 ^ 31 by omega)]
        refine lv_null hx hb dX3_come_183 ?_
        refine c_callv (As := [.int 3, .int (nI k), .int ((σ2.2.1 1 0 3 j)), .int ((σ2.2.1 1 0 5 j)), .null]) (rest := []) C (c_preX2 C w) w.2.2 hml hl.1 (k_send0 l D cI cZ cN cO A E n bg _ 3 (nI k) _ _ ok hln (vp_in_nI hk ok.n) (ok.snd _)) kM_X3_182 kI_X2_send kS_X2_send kN_X2 kD_X2_send (show yX2_send.cls = RX2 ∧ yX2_send.cls ≠ "java/lang/invoke/MethodHandle" ∧ yX2_send.cls ≠ "java/lang/invoke/VarHandle" ∧ (parseMethodDescriptor yX2_send.desc).map (fun d => d.parameters.length) = some 5 from by decide +kernel) rfl rfl ⟨Nat.le_of_ble_eq_true rfl, Nat.le_of_ble_eq_true rfl⟩ rfl (lv_room (Nat.le_of_ble_eq_true rfl)) dX3_come_184 ⟨Nat.zero_le _, Nat.zero_le _⟩ (fun H locs w ok => ?_)
        refine lv_goto (tgt := 215) hx hb dX3_come_187 (by decide) ?_
        refine lv_iload_n hx hb dX3_come_215 rfl (lv_at hl 1 rfl) ?_
        have e2 : cMid n bg k j (cOff a σ) = cSend0 (cRaise n k 1 j σ2) 3 (nI k) (σ2.2.1 1 0 3 j) (σ2.2.1 1 0 5 j) := by rw [← hs2]; unfold cMid; rw [cif_neg c_89, cif_neg c_95, cif_pos c_139]
        rw [← e2] at w ok
        exact W.iret hx hb hr (fun t ht hW => ⟨⟨_, (), rfl, ekd.symm, ⟨by rw [ht]; exact w.1, va_K.moved hW.alike hK, w.2.1⟩, ok⟩, w.2.2.F ht⟩) w.2.2.2.2 dX3_come_216
    · refine lv_aload_n hx hb dX3_come_98 rfl (lv_at hl 3 rfl) ?_
      refine c_gX3_1 C w kF_X3_23 dX3_come_99 ?_
      refine lv_iconst (v := 1) hx hb dX3_come_102 (by decide) ?_
      refine lv_aload hx hb dX3_come_103 (lv_at hl 0 rfl) ?_
      refine c_gX0_0 C w hk kF_X3_173 dX3_come_105 ?_
      rw [ok.ix hk]
      refine lv_aload_n hx hb dX3_come_108 rfl (lv_at hl 3 rfl) ?_
      refine c_gX3_1 C w kF_X3_23 dX3_come_109 ?_
      refine c_gX2_3 C w kF_X3_176 dX3_come_112 ?_
      refine lv_iload_n hx hb dX3_come_115 rfl (lv_at hl 2 rfl) ?_
      refine c_lR3 C w (vp_in_nI hj (by decide)) dX3_come_116 ?_
      rw [nI_clamp (show j < 2 ^ 31 by omega)]
      refine lv_aload_n hx hb dX3_come_117 rfl (lv_at hl 3 rfl) ?_
      refine c_gX3_1 C w kF_X3_23 dX3_come_118 ?_
      refine c_gX2_5 C w kF_X3_179 dX3_come_121 ?_
      refine lv_iload_n hx hb dX3_come_124 rfl (lv_at hl 2 rfl) ?_
      refine c_lR5 C w (vp_in_nI hj (by decide)) dX3_come_125 ?_
      rw [nI_clamp (show j < 2 ^ 31 by omega)]
      refine lv_aload hx hb dX3_come_126 (lv_at hl 0 rfl) ?_
      refine c_gX0_1 C w hk kF_X3_97 dX3_come_128 ?_
      refine c_callv (As := [.int 1, .int (nI k), .int ((σ2.2.1 1 0 3 j)), .int ((σ2.2.1 1 0 5 j)), .ref ((E.2.2.2.1 k 1))]) (rest := []) C (c_preX2 C w) w.2.2 hml hl.1 (k_sendV l D cI cZ cN cO A E n bg _ 1 (nI k) _ _ k 1 ok hln (vp_in_nI hk ok.n) (ok.snd _) hk (by decide)) kM_X3_182 kI_X2_send kS_X2_send kN_X2 kD_X2_send (show yX2_send.cls = RX2 ∧ yX2_send.cls ≠ "java/lang/invoke/MethodHandle" ∧ yX2_send.cls ≠ "java/lang/invoke/VarHandle" ∧ (parseMethodDescriptor yX2_send.desc).map (fun d => d.parameters.length) = some 5 from by decide +kernel) rfl rfl ⟨Nat.le_of_ble_eq_true rfl, Nat.le_of_ble_eq_true rfl⟩ rfl (lv_room (Nat.le_of_ble_eq_true rfl)) dX3_come_131 ⟨Nat.zero_le _, Nat.zero_le _⟩ (fun H locs w ok => ?_)
      refine lv_goto (tgt := 215) hx hb dX3_come_134 (by decide) ?_
      refine lv_iload_n hx hb dX3_come_215 rfl (lv_at hl 1 rfl) ?_
      have e2 : cMid n bg k j (cOff a σ) = cSendV n k 1 σ2 1 (nI k) (σ2.2.1 1 0 3 j) (σ2.2.1 1 0 5 j) := by rw [← hs2]; unfold cMid; rw [cif_neg c_89, cif_pos c_95]
      rw [← e2] at w ok
      exact W.iret hx hb hr (fun t ht hW => ⟨⟨_, (), rfl, ekd.symm, ⟨by rw [ht]; exact w.1, va_K.moved hW.alike hK, w.2.1⟩, ok⟩, w.2.2.F ht⟩) w.2.2.2.2 dX3_come_216
  · refine lv_iload_n hx hb dX3_come_92 rfl (lv_at hl 1 rfl) ?_
    have e2 : cMid n bg k j (cOff a σ) = σ2 := by rw [← hs2]; unfold cMid; rw [cif_pos c_89]
    rw [← e2] at w ok
    exact W.iret hx hb hr (fun t ht hW => ⟨⟨_, (), rfl, ekd.symm, ⟨by rw [ht]; exact w.1, va_K.moved hW.alike hK, w.2.1⟩, ok⟩, w.2.2.F ht⟩) w.2.2.2.2 dX3_come_93
