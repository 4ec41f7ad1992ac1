set_option maxHeartbeats 4000000 in
set_option maxRecDepth 100000 in
/-- a fresh NODE tells -/
theorem c_X0_tell (l : Launch) (dC : Nat → ClassId) (dI : Nat → Nat → Nat) (cI cZ cN cO : ClassId) (nd a1 a2 a3 a4 a5 n : Nat) (ix w1 : Int32) (hix : vp_in ix n) : Met l yX0_tell (.code yX0_tell cX0_tell 2 (some .int) :: gw) ({ frames := 0, cells := 0, slots := 0, locals := 0 }) (va_Pc [.ref nd, .int w1] (fun U => va_P (dC, dI) vwCl [(nd, .inr (0, [.int ix, .ref a1, .ref a2, .ref a3, .ref a4, .ref a5, .int 1, .int 0, .int 0, .int 0, .null])), (a5, .inl (cI, n, .inl ((fun _ => 0))))] U.heap ∧ va_K (dC, dI) vwCl (gTy cI cZ cN cO) U)) (vp_Si (fun r => r = fNode w1)) 0 0 (fun _ => False) := by
  refine Met.ofW (cc := cX0_tell) (maxL := 2) (ret := (some .int)) (by decide) rfl ?_
  intro p e s m args below meth c s₁ B hml hv
  obtain ⟨rfl, hP, hK⟩ := hv
  have hx := B.exec
  have hb := B.bytes
  have hr := B.returns
  have hts := atoms_spec (ws := (.code yX0_tell cX0_tell 2 (some .int) :: gw)) B.pre
  have hg : ∀ w ∈ gw, w.before _ s = true := fun w h => hts w (List.mem_cons_of_mem _ h)
  have hown : s.vm.findClass RX0 = some m.cls := findClass_of_methodNamed B.named
  have hlocks := B.notSynchronized
  have hl := lv_entry ([.ref nd, .int w1]) (n := 2) (Nat.le_of_ble_eq_true rfl)
  rw [lg_entry_eq]
  generalize (lg_sl ([.ref nd, .int w1]) ++ List.replicate (2 - (lg_sl ([.ref nd, .int w1])).length) Slot.unset).toArray = ls at hl ⊢
  have hl : lv_has ls 2 [(0, .ref nd), (1, .int w1)] := hl
  refine lv_iload_n hx hb dX0_tell_0 rfl (lv_at hl 1 rfl) ?_
  rcases gSw w1 5 5 rfl (by decide) with hsw | ⟨j, hj, hjx⟩
  · refine lv_tableOut (tgt := 97) hx hb dX0_tell_1 hsw (by decide) ?_
    refine lv_iconst (v := (-1)) hx hb dX0_tell_97 (by decide) ?_
    exact W.iret (v := (-1)) hx hb hr (fun t ht hW => ⟨_, rfl, (by first | exact (if_pos hsw).symm | decide +kernel | (rw [et_1]; decide +kernel)), ht⟩) (fun _ h => by cases h) dX0_tell_98
  · rcases (show j = 0 ∨ j = 1 ∨ j = 2 ∨ j = 3 ∨ j = 4 ∨ j = 5 by omega) with hj0 | hj0 | hj0 | hj0 | hj0 | hj0
    · rw [hj0] at hjx
      subst hjx
      refine lv_tableIn (off := 39) (tgt := 40) hx hb dX0_tell_1 (by decide +kernel) (by decide +kernel) (by decide +kernel) (by decide) ?_
      refine lv_aload_n hx hb dX0_tell_40 rfl (lv_at hl 0 rfl) ?_
      refine va_get (D := (dC, dI)) (ci := 0) (v := .int 1) (C := RX0) (T := TX0) (N := 11) hx hb hg inX0 hown hK hP 0 rfl rfl 6 (by decide) (hg _ kF_X0_9) (fun _ h9 => h9) rfl dX0_tell_41 ?_
      refine lv_if_eq (tgt := 51) hx hb dX0_tell_44 (by decide) (fun c_44 => absurd c_44 (by decide)) (fun c_44 => ?_)
      refine lv_iconst (v := 1) hx hb dX0_tell_47 (by decide) ?_
      refine lv_goto (tgt := 52) hx hb dX0_tell_48 (by decide) ?_
      exact W.iret (v := 1) hx hb hr (fun t ht hW => ⟨_, rfl, (by first | exact (if_pos hsw).symm | decide +kernel | (rw [et_1]; decide +kernel)), ht⟩) (fun _ h => by cases h) dX0_tell_52
    · rw [hj0] at hjx
      subst hjx
      refine lv_tableIn (off := 52) (tgt := 53) hx hb dX0_tell_1 (by decide +kernel) (by decide +kernel) (by decide +kernel) (by decide) ?_
      refine lv_aload_n hx hb dX0_tell_53 rfl (lv_at hl 0 rfl) ?_
      refine va_get (D := (dC, dI)) (ci := 0) (v := .int 0) (C := RX0) (T := TX0) (N := 11) hx hb hg inX0 hown hK hP 0 rfl rfl 7 (by decide) (hg _ kF_X0_15) (fun _ h9 => h9) rfl dX0_tell_54 ?_
      exact W.iret (v := 0) hx hb hr (fun t ht hW => ⟨_, rfl, (by first | exact (if_pos hsw).symm | decide +kernel | (rw [et_1]; decide +kernel)), ht⟩) (fun _ h => by cases h) dX0_tell_57
    · rw [hj0] at hjx
      subst hjx
      refine lv_tableIn (off := 57) (tgt := 58) hx hb dX0_tell_1 (by decide +kernel) (by decide +kernel) (by decide +kernel) (by decide) ?_
      refine lv_aload_n hx hb dX0_tell_58 rfl (lv_at hl 0 rfl) ?_
      refine va_get (D := (dC, dI)) (ci := 0) (v := .int 0) (C := RX0) (T := TX0) (N := 11) hx hb hg inX0 hown hK hP 0 rfl rfl 8 (by decide) (hg _ kF_X0_42) (fun _ h9 => h9) rfl dX0_tell_59 ?_
      exact W.iret (v := 0) hx hb hr (fun t ht hW => ⟨_, rfl, (by first | exact (if_pos hsw).symm | decide +kernel | (rw [et_1]; decide +kernel)), ht⟩) (fun _ h => by cases h) dX0_tell_62
    · rw [hj0] at hjx
      subst hjx
      refine lv_tableIn (off := 62) (tgt := 63) hx hb dX0_tell_1 (by decide +kernel) (by decide +kernel) (by decide +kernel) (by decide) ?_
      refine lv_aload_n hx hb dX0_tell_63 rfl (lv_at hl 0 rfl) ?_
      refine va_get (D := (dC, dI)) (ci := 0) (v := .null) (C := RX0) (T := TX0) (N := 11) hx hb hg inX0 hown hK hP 0 rfl rfl 10 (by decide) (hg _ kF_X0_38) (fun _ h9 => h9) rfl dX0_tell_64 ?_
      refine lv_ifnonnullN hx hb dX0_tell_67 ?_
      refine lv_iconst (v := 0) hx hb dX0_tell_70 (by decide) ?_
      refine lv_goto (tgt := 81) hx hb dX0_tell_71 (by decide) ?_
      exact W.iret (v := 0) hx hb hr (fun t ht hW => ⟨_, rfl, (by first | exact (if_pos hsw).symm | decide +kernel | (rw [et_1]; decide +kernel)), ht⟩) (fun _ h => by cases h) dX0_tell_81
    · rw [hj0] at hjx
      subst hjx
      refine lv_tableIn (off := 81) (tgt := 82) hx hb dX0_tell_1 (by decide +kernel) (by decide +kernel) (by decide +kernel) (by decide) ?_
      refine lv_aload_n hx hb dX0_tell_82 rfl (lv_at hl 0 rfl) ?_
      refine va_get (D := (dC, dI)) (ci := 0) (v := .int 0) (C := RX0) (T := TX0) (N := 11) hx hb hg inX0 hown hK hP 0 rfl rfl 9 (by decide) (hg _ kF_X0_45) (fun _ h9 => h9) rfl dX0_tell_83 ?_
      exact W.iret (v := 0) hx hb hr (fun t ht hW => ⟨_, rfl, (by first | exact (if_pos hsw).symm | decide +kernel | (rw [et_1]; decide +kernel)), ht⟩) (fun _ h => by cases h) dX0_tell_86
    · rw [hj0] at hjx
      subst hjx
      refine lv_tableIn (off := 86) (tgt := 87) hx hb dX0_tell_1 (by decide +kernel) (by decide +kernel) (by decide +kernel) (by decide) ?_
      refine lv_aload_n hx hb dX0_tell_87 rfl (lv_at hl 0 rfl) ?_
      refine va_get (D := (dC, dI)) (ci := 0) (v := .ref a5) (C := RX0) (T := TX0) (N := 11) hx hb hg inX0 hown hK hP 0 rfl rfl 5 (by decide) (hg _ kF_X0_35) (fun _ h9 => h9) rfl dX0_tell_88 ?_
      refine lv_aload_n hx hb dX0_tell_91 rfl (lv_at hl 0 rfl) ?_
      refine va_get (D := (dC, dI)) (ci := 0) (v := .int ix) (C := RX0) (T := TX0) (N := 11) hx hb hg inX0 hown hK hP 0 rfl rfl 0 (by decide) (hg _ kF_X0_19) (fun _ h9 => h9) rfl dX0_tell_92 ?_
      refine va_iald hx hb hK hP 1 0 rfl rfl hix dX0_tell_95 ?_
      refine lv_topi (fun t_1 et_1 => ?_)
      exact W.iret (v := t_1) hx hb hr (fun t ht hW => ⟨_, rfl, (by first | exact (if_pos hsw).symm | decide +kernel | (rw [et_1]; decide +kernel)), ht⟩) (fun _ h => by cases h) dX0_tell_96
set_option maxHeartbeats 4000000 in
set_option maxRecDepth 100000 in
theorem c_X3_node_no (l : Launch) (dC : Nat → ClassId) (dI : Nat → Nat → Nat) (cI cZ cN cO : ClassId) (x na ro oa n : Nat) (fn : Nat → Option Nat) (p0 w1 : Int32) (hno : ¬ isN n p0) : Met l yX3_node (.code yX3_node cX3_node 3 (some .int) :: gw) ({ frames := 1, cells := 0, slots := 0, locals := 21 }) (va_Pc [.ref x, .int p0, .int w1] (fun U => va_P (dC, dI) vwCl [(x, .inr (3, [.ref na, .ref ro, .ref oa, .int 0, .int 0, .int 0, .int 0, .int 0, .int 0])), (na, .inl (cN, n, .inr (.inr (.inr (.inr fn)))))] U.heap ∧ va_K (dC, dI) vwCl (gTy cI cZ cN cO) U)) (vp_Si (fun r => r = -1)) 0 0 (fun _ => False) := by
  refine Met.ofW (cc := cX3_node) (maxL := 3) (ret := (some .int)) (by decide) rfl ?_
  intro p e s m args below meth c s₁ B hml hv
  obtain ⟨rfl, hP, hK⟩ := hv
  have hx := B.exec
  have hb := B.bytes
  have hr := B.returns
  have hts := atoms_spec (ws := (.code yX3_node cX3_node 3 (some .int) :: gw)) B.pre
  have hg : ∀ w ∈ gw, w.before _ s = true := fun w h => hts w (List.mem_cons_of_mem _ h)
  have hown : s.vm.findClass RX3 = some m.cls := findClass_of_methodNamed B.named
  have hlocks := B.notSynchronized
  have hl := lv_entry ([.ref x, .int p0, .int w1]) (n := 3) (Nat.le_of_ble_eq_true rfl)
  rw [lg_entry_eq]
  generalize (lg_sl ([.ref x, .int p0, .int w1]) ++ List.replicate (3 - (lg_sl ([.ref x, .int p0, .int w1])).length) Slot.unset).toArray = ls at hl ⊢
  have hl : lv_has ls 3 [(0, .ref x), (1, .int p0), (2, .int w1)] := hl
  refine lv_aload_n hx hb dX3_node_0 rfl (lv_at hl 0 rfl) ?_
  refine lv_iload_n hx hb dX3_node_1 rfl (lv_at hl 1 rfl) ?_
  have hPc := hP.sub (ws' := [(x, .inr (3, [.ref na, .ref ro, .ref oa, .int 0, .int 0, .int 0, .int 0, .int 0, .int 0])), (na, .inl (cN, n, .inr (.inr (.inr (.inr fn)))))]) [0, 1] rfl
  refine vp_callSi (W.runV (As := [.int p0]) (rest := []) ⟨hx, hb, hml, hown, hg⟩ (c_X3_isNode l dC dI cI cZ cN cO x na ro oa 0 0 0 0 0 0 n fn p0) (cwV 1 hg (gw_V kM_X3_33 kI_X3_isNode kS_X3_isNode kN_X3 kD_X3_isNode) rfl rfl rfl (by decide +kernel) ⟨Nat.le_of_ble_eq_true rfl, Nat.le_of_ble_eq_true rfl⟩) ⟨fun a U g mk q => by obtain ⟨q0, qP, qK⟩ := q; exact ⟨q0, qP, va_K.moved (u := U) (U := U.calling g mk a) (Vm.Alike.refl U.vm) qK⟩, va_recv hK hP (ci := 3) (q0 := 0) rfl rfl, fun U hU hW => ⟨rfl, by rw [hU]; exact hPc, va_K.moved hW.alike hK⟩⟩ rfl rfl hl.1 rfl (lv_room (Nat.le_of_ble_eq_true rfl)) dX3_node_2 ⟨Nat.zero_le _, Nat.zero_le _⟩) (fun r_1 hr_1 => ?_)
  refine lv_if_eq (tgt := 21) hx hb dX3_node_5 (by decide) (fun c_5 => ?_) (fun c_5 => absurd (ite_ne0 hr_1 c_5) hno)
  refine lv_iconst (v := (-1)) hx hb dX3_node_21 (by decide) ?_
  exact W.iret (v := (-1)) hx hb hr (fun t ht hW => ⟨_, rfl, rfl, ht⟩) (fun _ h => by cases h) dX3_node_22
set_option maxHeartbeats 4000000 in
set_option maxRecDepth 100000 in
theorem c_X3_node_yes (l : Launch) (dC : Nat → ClassId) (dI : Nat → Nat → Nat) (cI cZ cN cO : ClassId) (x na ro oa n : Nat) (fn : Nat → Option Nat) (nd a1 a2 a3 a4 a5 : Nat) (ix p0 w1 : Int32) (hn : n < 2 ^ 31) (hy : isN n p0) (hnd : fn p0.toNatClampNeg = some nd) (hix : vp_in ix n) : Met l yX3_node (.code yX3_node cX3_node 3 (some .int) :: gw) ({ frames := 1, cells := 0, slots := 0, locals := 21 }) (va_Pc [.ref x, .int p0, .int w1] (fun U => va_P (dC, dI) vwCl [(x, .inr (3, [.ref na, .ref ro, .ref oa, .int 0, .int 0, .int 0, .int 0, .int 0, .int 0])), (na, .inl (cN, n, .inr (.inr (.inr (.inr fn))))), (nd, .inr (0, [.int ix, .ref a1, .ref a2, .ref a3, .ref a4, .ref a5, .int 1, .int 0, .int 0, .int 0, .null])), (a5, .inl (cI, n, .inl ((fun _ => 0))))] U.heap ∧ va_K (dC, dI) vwCl (gTy cI cZ cN cO) U)) (vp_Si (fun r => r = fNode w1)) 0 0 (fun _ => False) := by
  refine Met.ofW (cc := cX3_node) (maxL := 3) (ret := (some .int)) (by decide) rfl ?_
  intro p e s m args below meth c s₁ B hml hv
  obtain ⟨rfl, hP, hK⟩ := hv
  have hx := B.exec
  have hb := B.bytes
  have hr := B.returns
  have hts := atoms_spec (ws := (.code yX3_node cX3_node 3 (some .int) :: gw)) B.pre
  have hg : ∀ w ∈ gw, w.before _ s = true := fun w h => hts w (List.mem_cons_of_mem _ h)
  have hown : s.vm.findClass RX3 = some m.cls := findClass_of_methodNamed B.named
  have hlocks := B.notSynchronized
  have hl := lv_entry ([.ref x, .int p0, .int w1]) (n := 3) (Nat.le_of_ble_eq_true rfl)
  rw [lg_entry_eq]
  generalize (lg_sl ([.ref x, .int p0, .int w1]) ++ List.replicate (3 - (lg_sl ([.ref x, .int p0, .int w1])).length) Slot.unset).toArray = ls at hl ⊢
  have hl : lv_has ls 3 [(0, .ref x), (1, .int p0), (2, .int w1)] := hl
  refine lv_aload_n hx hb dX3_node_0 rfl (lv_at hl 0 rfl) ?_
  refine lv_iload_n hx hb dX3_node_1 rfl (lv_at hl 1 rfl) ?_
  have hPc := hP.sub (ws' := [(x, .inr (3, [.ref na, .ref ro, .ref oa, .int 0, .int 0, .int 0, .int 0, .int 0, .int 0])), (na, .inl (cN, n, .inr (.inr (.inr (.inr fn)))))]) [0, 1] rfl
  refine vp_callSi (W.runV (As := [.int p0]) (rest := []) ⟨hx, hb, hml, hown, hg⟩ (c_X3_isNode l dC dI cI cZ cN cO x na ro oa 0 0 0 0 0 0 n fn p0) (cwV 1 hg (gw_V kM_X3_33 kI_X3_isNode kS_X3_isNode kN_X3 kD_X3_isNode) rfl rfl rfl (by decide +kernel) ⟨Nat.le_of_ble_eq_true rfl, Nat.le_of_ble_eq_true rfl⟩) ⟨fun a U g mk q => by obtain ⟨q0, qP, qK⟩ := q; exact ⟨q0, qP, va_K.moved (u := U) (U := U.calling g mk a) (Vm.Alike.refl U.vm) qK⟩, va_recv hK hP (ci := 3) (q0 := 0) rfl rfl, fun U hU hW => ⟨rfl, by rw [hU]; exact hPc, va_K.moved hW.alike hK⟩⟩ rfl rfl hl.1 rfl (lv_room (Nat.le_of_ble_eq_true rfl)) dX3_node_2 ⟨Nat.zero_le _, Nat.zero_le _⟩) (fun r_1 hr_1 => ?_)
  refine lv_if_eq (tgt := 21) hx hb dX3_node_5 (by decide) (fun c_5 => absurd hy (ite_eq0 hr_1 c_5)) (fun c_5 => ?_)
  refine lv_aload_n hx hb dX3_node_8 rfl (lv_at hl 0 rfl) ?_
  refine va_get (D := (dC, dI)) (ci := 3) (v := .ref na) (C := RX3) (T := TX3) (N := 9) hx hb hg inX3 hown hK hP 0 rfl rfl 0 (by decide) (hg _ kF_X3_11) (fun _ h9 => h9) rfl dX3_node_9 ?_
  refine lv_iload_n hx hb dX3_node_12 rfl (lv_at hl 1 rfl) ?_
  refine va_aldq hx hb hK hP 1 2 rfl rfl (isN_in hn hy) dX3_node_13 ?_
  rw [show fn p0.toNatClampNeg = some nd from hnd]
  dsimp only [va_rf]
  refine lv_iload_n hx hb dX3_node_14 rfl (lv_at hl 2 rfl) ?_
  have hPc := hP.sub (ws' := [(nd, .inr (0, [.int ix, .ref a1, .ref a2, .ref a3, .ref a4, .ref a5, .int 1, .int 0, .int 0, .int 0, .null])), (a5, .inl (cI, n, .inl ((fun _ => 0))))]) [2, 3] rfl
  refine vp_callSi (W.runV (As := [.int w1]) (rest := []) ⟨hx, hb, hml, hown, hg⟩ (c_X0_tell l dC dI cI cZ cN cO nd a1 a2 a3 a4 a5 n ix w1 hix) (cwV 1 hg (gw_V kM_X3_96 kI_X0_tell kS_X0_tell kN_X0 kD_X0_tell) rfl rfl rfl (by decide +kernel) ⟨Nat.le_of_ble_eq_true rfl, Nat.le_of_ble_eq_true rfl⟩) ⟨fun a U g mk q => by obtain ⟨q0, qP, qK⟩ := q; exact ⟨q0, qP, va_K.moved (u := U) (U := U.calling g mk a) (Vm.Alike.refl U.vm) qK⟩, va_recv hK hP (ci := 0) (q0 := 2) rfl rfl, fun U hU hW => ⟨rfl, by rw [hU]; exact hPc, va_K.moved hW.alike hK⟩⟩ rfl rfl hl.1 rfl (lv_room (Nat.le_of_ble_eq_true rfl)) dX3_node_15 ⟨Nat.zero_le _, Nat.zero_le _⟩) (fun r_2 hr_2 => ?_)
  refine lv_goto (tgt := 22) hx hb dX3_node_18 (by decide) ?_
  exact W.iret (v := r_2) hx hb hr (fun t ht hW => ⟨_, rfl, hr_2, ht⟩) (fun _ h => by cases h) dX3_node_22
set_option maxHeartbeats 4000000 in
set_option maxRecDepth 100000 in
theorem c_X3_kept_no (l : Launch) (dC : Nat → ClassId) (dI : Nat → Nat → Nat) (cI cZ cN cO : ClassId) (x na ro oa n : Nat) (fn : Nat → Option Nat) (p0 p1 : Int32) (hno : ¬ (isN n p0 ∧ isN n p1)) : Met l yX3_kept (.code yX3_kept cX3_kept 3 (some .int) :: gw) ({ frames := 1, cells := 0, slots := 0, locals := 21 }) (va_Pc [.ref x, .int p0, .int p1] (fun U => va_P (dC, dI) vwCl [(x, .inr (3, [.ref na, .ref ro, .ref oa, .int 0, .int 0, .int 0, .int 0, .int 0, .int 0])), (na, .inl (cN, n, .inr (.inr (.inr (.inr fn)))))] U.heap ∧ va_K (dC, dI) vwCl (gTy cI cZ cN cO) U)) (vp_Si (fun r => r = -1)) 0 0 (fun _ => False) := by
  refine Met.ofW (cc := cX3_kept) (maxL := 3) (ret := (some .int)) (by decide) rfl ?_
  intro p e s m args below meth c s₁ B hml hv
  obtain ⟨rfl, hP, hK⟩ := hv
  have hx := B.exec
  have hb := B.bytes
  have hr := B.returns
  have hts := atoms_spec (ws := (.code yX3_kept cX3_kept 3 (some .int) :: gw)) B.pre
  have hg : ∀ w ∈ gw, w.before _ s = true := fun w h => hts w (List.mem_cons_of_mem _ h)
  have hown : s.vm.findClass RX3 = some m.cls := findClass_of_methodNamed B.named
  have hlocks := B.notSynchronized
  have hl := lv_entry ([.ref x, .int p0, .int p1]) (n := 3) (Nat.le_of_ble_eq_true rfl)
  rw [lg_entry_eq]
  generalize (lg_sl ([.ref x, .int p0, .int p1]) ++ List.replicate (3 - (lg_sl ([.ref x, .int p0, .int p1])).length) Slot.unset).toArray = ls at hl ⊢
  have hl : lv_has ls 3 [(0, .ref x), (1, .int p0), (2, .int p1)] := hl
  refine lv_aload_n hx hb dX3_kept_0 rfl (lv_at hl 0 rfl) ?_
  refine lv_iload_n hx hb dX3_kept_1 rfl (lv_at hl 1 rfl) ?_
  have hPc := hP.sub (ws' := [(x, .inr (3, [.ref na, .ref ro, .ref oa, .int 0, .int 0, .int 0, .int 0, .int 0, .int 0])), (na, .inl (cN, n, .inr (.inr (.inr (.inr fn)))))]) [0, 1] rfl
  refine vp_callSi (W.runV (As := [.int p0]) (rest := []) ⟨hx, hb, hml, hown, hg⟩ (c_X3_isNode l dC dI cI cZ cN cO x na ro oa 0 0 0 0 0 0 n fn p0) (cwV 1 hg (gw_V kM_X3_33 kI_X3_isNode kS_X3_isNode kN_X3 kD_X3_isNode) rfl rfl rfl (by decide +kernel) ⟨Nat.le_of_ble_eq_true rfl, Nat.le_of_ble_eq_true rfl⟩) ⟨fun a U g mk q => by obtain ⟨q0, qP, qK⟩ := q; exact ⟨q0, qP, va_K.moved (u := U) (U := U.calling g mk a) (Vm.Alike.refl U.vm) qK⟩, va_recv hK hP (ci := 3) (q0 := 0) rfl rfl, fun U hU hW => ⟨rfl, by rw [hU]; exact hPc, va_K.moved hW.alike hK⟩⟩ rfl rfl hl.1 rfl (lv_room (Nat.le_of_ble_eq_true rfl)) dX3_kept_2 ⟨Nat.zero_le _, Nat.zero_le _⟩) (fun r_1 hr_1 => ?_)
  refine lv_if_eq (tgt := 30) hx hb dX3_kept_5 (by decide) (fun c_5 => ?_) (fun c_5 => ?_)
  · refine lv_iconst (v := (-1)) hx hb dX3_kept_30 (by decide) ?_
    exact W.iret (v := (-1)) hx hb hr (fun t ht hW => ⟨_, rfl, rfl, ht⟩) (fun _ h => by cases h) dX3_kept_31
  · refine lv_aload_n hx hb dX3_kept_8 rfl (lv_at hl 0 rfl) ?_
    refine lv_iload_n hx hb dX3_kept_9 rfl (lv_at hl 2 rfl) ?_
    have hPc := hP.sub (ws' := [(x, .inr (3, [.ref na, .ref ro, .ref oa, .int 0, .int 0, .int 0, .int 0, .int 0, .int 0])), (na, .inl (cN, n, .inr (.inr (.inr (.inr fn)))))]) [0, 1] rfl
    refine vp_callSi (W.runV (As := [.int p1]) (rest := []) ⟨hx, hb, hml, hown, hg⟩ (c_X3_isNode l dC dI cI cZ cN cO x na ro oa 0 0 0 0 0 0 n fn p1) (cwV 1 hg (gw_V kM_X3_33 kI_X3_isNode kS_X3_isNode kN_X3 kD_X3_isNode) rfl rfl rfl (by decide +kernel) ⟨Nat.le_of_ble_eq_true rfl, Nat.le_of_ble_eq_true rfl⟩) ⟨fun a U g mk q => by obtain ⟨q0, qP, qK⟩ := q; exact ⟨q0, qP, va_K.moved (u := U) (U := U.calling g mk a) (Vm.Alike.refl U.vm) qK⟩, va_recv hK hP (ci := 3) (q0 := 0) rfl rfl, fun U hU hW => ⟨rfl, by rw [hU]; exact hPc, va_K.moved hW.alike hK⟩⟩ rfl rfl hl.1 rfl (lv_room (Nat.le_of_ble_eq_true rfl)) dX3_kept_10 ⟨Nat.zero_le _, Nat.zero_le _⟩) (fun r_2 hr_2 => ?_)
    refine lv_if_eq (tgt := 30) hx hb dX3_kept_13 (by decide) (fun c_13 => ?_) (fun c_13 => absurd ⟨ite_ne0 hr_1 c_5, ite_ne0 hr_2 c_13⟩ hno)
    refine lv_iconst (v := (-1)) hx hb dX3_kept_30 (by decide) ?_
    exact W.iret (v := (-1)) hx hb hr (fun t ht hW => ⟨_, rfl, rfl, ht⟩) (fun _ h => by cases h) dX3_kept_31
set_option maxHeartbeats 4000000 in
set_option maxRecDepth 100000 in
theorem c_X3_kept_yes (l : Launch) (dC : Nat → ClassId) (dI : Nat → Nat → Nat) (cI cZ cN cO : ClassId) (x na ro oa n : Nat) (fn : Nat → Option Nat) (nd a1 a2 a3 a4 a5 : Nat) (ix p0 p1 : Int32) (hn : n < 2 ^ 31) (hy : isN n p0) (hy1 : isN n p1) (hnd : fn p0.toNatClampNeg = some nd) : Met l yX3_kept (.code yX3_kept cX3_kept 3 (some .int) :: gw) ({ frames := 1, cells := 0, slots := 0, locals := 21 }) (va_Pc [.ref x, .int p0, .int p1] (fun U => va_P (dC, dI) vwCl [(x, .inr (3, [.ref na, .ref ro, .ref oa, .int 0, .int 0, .int 0, .int 0, .int 0, .int 0])), (na, .inl (cN, n, .inr (.inr (.inr (.inr fn))))), (nd, .inr (0, [.int ix, .ref a1, .ref a2, .ref a3, .ref a4, .ref a5, .int 1, .int 0, .int 0, .int 0, .null])), (a1, .inl (cI, n, .inl ((fun _ => 0))))] U.heap ∧ va_K (dC, dI) vwCl (gTy cI cZ cN cO) U)) (vp_Si (fun r => r = 0)) 0 0 (fun _ => False) := by
  refine Met.ofW (cc := cX3_kept) (maxL := 3) (ret := (some .int)) (by decide) rfl ?_
  intro p e s m args below meth c s₁ B hml hv
  obtain ⟨rfl, hP, hK⟩ := hv
  have hx := B.exec
  have hb := B.bytes
  have hr := B.returns
  have hts := atoms_spec (ws := (.code yX3_kept cX3_kept 3 (some .int) :: gw)) B.pre
  have hg : ∀ w ∈ gw, w.before _ s = true := fun w h => hts w (List.mem_cons_of_mem _ h)
  have hown : s.vm.findClass RX3 = some m.cls := findClass_of_methodNamed B.named
  have hlocks := B.notSynchronized
  have hl := lv_entry ([.ref x, .int p0, .int p1]) (n := 3) (Nat.le_of_ble_eq_true rfl)
  rw [lg_entry_eq]
  generalize (lg_sl ([.ref x, .int p0, .int p1]) ++ List.replicate (3 - (lg_sl ([.ref x, .int p0, .int p1])).length) Slot.unset).toArray = ls at hl ⊢
  have hl : lv_has ls 3 [(0, .ref x), (1, .int p0), (2, .int p1)] := hl
  refine lv_aload_n hx hb dX3_kept_0 rfl (lv_at hl 0 rfl) ?_
  refine lv_iload_n hx hb dX3_kept_1 rfl (lv_at hl 1 rfl) ?_
  have hPc := hP.sub (ws' := [(x, .inr (3, [.ref na, .ref ro, .ref oa, .int 0, .int 0, .int 0, .int 0, .int 0, .int 0])), (na, .inl (cN, n, .inr (.inr (.inr (.inr fn)))))]) [0, 1] rfl
  refine vp_callSi (W.runV (As := [.int p0]) (rest := []) ⟨hx, hb, hml, hown, hg⟩ (c_X3_isNode l dC dI cI cZ cN cO x na ro oa 0 0 0 0 0 0 n fn p0) (cwV 1 hg (gw_V kM_X3_33 kI_X3_isNode kS_X3_isNode kN_X3 kD_X3_isNode) rfl rfl rfl (by decide +kernel) ⟨Nat.le_of_ble_eq_true rfl, Nat.le_of_ble_eq_true rfl⟩) ⟨fun a U g mk q => by obtain ⟨q0, qP, qK⟩ := q; exact ⟨q0, qP, va_K.moved (u := U) (U := U.calling g mk a) (Vm.Alike.refl U.vm) qK⟩, va_recv hK hP (ci := 3) (q0 := 0) rfl rfl, fun U hU hW => ⟨rfl, by rw [hU]; exact hPc, va_K.moved hW.alike hK⟩⟩ rfl rfl hl.1 rfl (lv_room (Nat.le_of_ble_eq_true rfl)) dX3_kept_2 ⟨Nat.zero_le _, Nat.zero_le _⟩) (fun r_1 hr_1 => ?_)
  refine lv_if_eq (tgt := 30) hx hb dX3_kept_5 (by decide) (fun c_5 => absurd hy (ite_eq0 hr_1 c_5)) (fun c_5 => ?_)
  refine lv_aload_n hx hb dX3_kept_8 rfl (lv_at hl 0 rfl) ?_
  refine lv_iload_n hx hb dX3_kept_9 rfl (lv_at hl 2 rfl) ?_
  have hPc := hP.sub (ws' := [(x, .inr (3, [.ref na, .ref ro, .ref oa, .int 0, .int 0, .int 0, .int 0, .int 0, .int 0])), (na, .inl (cN, n, .inr (.inr (.inr (.inr fn)))))]) [0, 1] rfl
  refine vp_callSi (W.runV (As := [.int p1]) (rest := []) ⟨hx, hb, hml, hown, hg⟩ (c_X3_isNode l dC dI cI cZ cN cO x na ro oa 0 0 0 0 0 0 n fn p1) (cwV 1 hg (gw_V kM_X3_33 kI_X3_isNode kS_X3_isNode kN_X3 kD_X3_isNode) rfl rfl rfl (by decide +kernel) ⟨Nat.le_of_ble_eq_true rfl, Nat.le_of_ble_eq_true rfl⟩) ⟨fun a U g mk q => by obtain ⟨q0, qP, qK⟩ := q; exact ⟨q0, qP, va_K.moved (u := U) (U := U.calling g mk a) (Vm.Alike.refl U.vm) qK⟩, va_recv hK hP (ci := 3) (q0 := 0) rfl rfl, fun U hU hW => ⟨rfl, by rw [hU]; exact hPc, va_K.moved hW.alike hK⟩⟩ rfl rfl hl.1 rfl (lv_room (Nat.le_of_ble_eq_true rfl)) dX3_kept_10 ⟨Nat.zero_le _, Nat.zero_le _⟩) (fun r_2 hr_2 => ?_)
  refine lv_if_eq (tgt := 30) hx hb dX3_kept_13 (by decide) (fun c_13 => absurd hy1 (ite_eq0 hr_2 c_13)) (fun c_13 => ?_)
  refine lv_aload_n hx hb dX3_kept_16 rfl (lv_at hl 0 rfl) ?_
  refine va_get (D := (dC, dI)) (ci := 3) (v := .ref na) (C := RX3) (T := TX3) (N := 9) hx hb hg inX3 hown hK hP 0 rfl rfl 0 (by decide) (hg _ kF_X3_11) (fun _ h9 => h9) rfl dX3_kept_17 ?_
  refine lv_iload_n hx hb dX3_kept_20 rfl (lv_at hl 1 rfl) ?_
  refine va_aldq hx hb hK hP 1 2 rfl rfl (isN_in hn hy) dX3_kept_21 ?_
  rw [show fn p0.toNatClampNeg = some nd from hnd]
  dsimp only [va_rf]
  refine va_get (D := (dC, dI)) (ci := 0) (v := .ref a1) (C := RX0) (T := TX0) (N := 11) hx hb hg inX0 hown hK hP 2 rfl rfl 1 (by decide) (hg _ kF_X3_97) (fun _ h9 => h9) rfl dX3_kept_22 ?_
  refine lv_iload_n hx hb dX3_kept_25 rfl (lv_at hl 2 rfl) ?_
  refine va_iald hx hb hK hP 3 0 rfl rfl (isN_in hn hy1) dX3_kept_26 ?_
  refine lv_topi (fun t_3 et_3 => ?_)
  refine lv_goto (tgt := 31) hx hb dX3_kept_27 (by decide) ?_
  exact W.iret (v := t_3) hx hb hr (fun t ht hW => ⟨_, rfl, et_3, ht⟩) (fun _ h => by cases h) dX3_kept_31
set_option maxHeartbeats 4000000 in
set_option maxRecDepth 100000 in
theorem c_X3_told (l : Launch) (dC : Nat → ClassId) (dI : Nat → Nat → Nat) (cI cZ cN cO : ClassId) (x na ro oa : Nat) (p0 p1 : Int32)  : Met l yX3_told (.code yX3_told cX3_told 4 (some .int) :: gw) ({ frames := 1, cells := 0, slots := 0, locals := 21 }) (va_Pc [.ref x, .int p0, .int p1] (fun U => va_P (dC, dI) vwCl [(x, .inr (3, [.ref na, .ref ro, .ref oa, .int 0, .int 0, .int 0, .int 0, .int 0, .int 0])), (oa, .inl (cO, 512, .inr (.inr (.inr (.inr ((fun _ => none)))))))] U.heap ∧ va_K (dC, dI) vwCl (gTy cI cZ cN cO) U)) (vp_Si (fun r => r = -1)) 0 0 (fun _ => False) := by
  refine Met.ofW (cc := cX3_told) (maxL := 4) (ret := (some .int)) (by decide) rfl ?_
  intro p e s m args below meth c s₁ B hml hv
  obtain ⟨rfl, hP, hK⟩ := hv
  have hx := B.exec
  have hb := B.bytes
  have hr := B.returns
  have hts := atoms_spec (ws := (.code yX3_told cX3_told 4 (some .int) :: gw)) B.pre
  have hg : ∀ w ∈ gw, w.before _ s = true := fun w h => hts w (List.mem_cons_of_mem _ h)
  have hown : s.vm.findClass RX3 = some m.cls := findClass_of_methodNamed B.named
  have hlocks := B.notSynchronized
  have hl := lv_entry ([.ref x, .int p0, .int p1]) (n := 4) (Nat.le_of_ble_eq_true rfl)
  rw [lg_entry_eq]
  generalize (lg_sl ([.ref x, .int p0, .int p1]) ++ List.replicate (4 - (lg_sl ([.ref x, .int p0, .int p1])).length) Slot.unset).toArray = ls at hl ⊢
  have hl : lv_has ls 4 [(0, .ref x), (1, .int p0), (2, .int p1)] := hl
  refine lv_aload_n hx hb dX3_told_0 rfl (lv_at hl 0 rfl) ?_
  refine lv_iload_n hx hb dX3_told_1 rfl (lv_at hl 1 rfl) ?_
  have hPc := hP.sub (ws' := [(x, .inr (3, [.ref na, .ref ro, .ref oa, .int 0, .int 0, .int 0, .int 0, .int 0, .int 0])), (oa, .inl (cO, 512, .inr (.inr (.inr (.inr ((fun _ => none)))))))]) [0, 1] rfl
  refine va_csq (W.runV (As := [.int p0]) (rest := []) ⟨hx, hb, hml, hown, hg⟩ (c_X3_find l dC dI cI cZ cN cO x na ro oa 0 0 0 0 0 0 (fun _ => none) p0 (fun z1 z2 => absurd (Int32.le_trans (Int32.not_lt.mp z1) z2) (by decide))) (cwV 1 hg (gw_V kM_X3_74 kI_X3_find kS_X3_find kN_X3 kD_X3_find) rfl rfl rfl (by decide +kernel) ⟨Nat.le_of_ble_eq_true rfl, Nat.le_of_ble_eq_true rfl⟩) ⟨fun a U g mk q => by obtain ⟨q0, qP, qK⟩ := q; exact ⟨q0, qP, va_K.moved (u := U) (U := U.calling g mk a) (Vm.Alike.refl U.vm) qK⟩, va_recv hK hP (ci := 3) (q0 := 0) rfl rfl, fun U hU hW => ⟨rfl, by rw [hU]; exact hPc, va_K.moved hW.alike hK⟩⟩ rfl rfl hl.1 rfl (lv_room (Nat.le_of_ble_eq_true rfl)) dX3_told_2 ⟨Nat.zero_le _, Nat.zero_le _⟩) (fun r_1 hr_1 => ?_)
  have hnone : r_1 = none := by rw [hr_1, if_neg (fun z => absurd (Int32.le_trans (Int32.not_lt.mp z.1) z.2) (by decide))]
  subst hnone
  dsimp only [va_rf]
  refine lv_astore_nN (lv' := [(3, .null), (0, .ref x), (1, .int p0), (2, .int p1)]) hx hb dX3_told_5 rfl hl (by decide) rfl (fun ls hl => ?_)
  refine lv_aload_nN hx hb dX3_told_6 rfl (lv_at hl 0 rfl) ?_
  refine lv_ifnonnullN hx hb dX3_told_7 ?_
  refine lv_iconst (v := (-1)) hx hb dX3_told_10 (by decide) ?_
  refine lv_goto (tgt := 19) hx hb dX3_told_11 (by decide) ?_
  exact W.iret (v := (-1)) hx hb hr (fun t ht hW => ⟨_, rfl, rfl, ht⟩) (fun _ h => by cases h) dX3_told_19
set_option maxHeartbeats 4000000 in
set_option maxRecDepth 100000 in
theorem c_X3_answer (l : Launch) (dC : Nat → ClassId) (dI : Nat → Nat → Nat) (cI cZ cN cO : ClassId) (x na ro oa : Nat) (p0 : Int32)  : Met l yX3_answer (.code yX3_answer cX3_answer 3 (some .long) :: gw) ({ frames := 1, cells := 0, slots := 0, locals := 21 }) (va_Pc [.ref x, .int p0] (fun U => va_P (dC, dI) vwCl [(x, .inr (3, [.ref na, .ref ro, .ref oa, .int 0, .int 0, .int 0, .int 0, .int 0, .int 0])), (oa, .inl (cO, 512, .inr (.inr (.inr (.inr ((fun _ => none)))))))] U.heap ∧ va_K (dC, dI) vwCl (gTy cI cZ cN cO) U)) (vp_Sl (fun r => r = 0)) 0 0 (fun _ => False) := by
  refine Met.ofW (cc := cX3_answer) (maxL := 3) (ret := (some .long)) (by decide) rfl ?_
  intro p e s m args below meth c s₁ B hml hv
  obtain ⟨rfl, hP, hK⟩ := hv
  have hx := B.exec
  have hb := B.bytes
  have hr := B.returns
  have hts := atoms_spec (ws := (.code yX3_answer cX3_answer 3 (some .long) :: gw)) B.pre
  have hg : ∀ w ∈ gw, w.before _ s = true := fun w h => hts w (List.mem_cons_of_mem _ h)
  have hown : s.vm.findClass RX3 = some m.cls := findClass_of_methodNamed B.named
  have hlocks := B.notSynchronized
  have hl := lv_entry ([.ref x, .int p0]) (n := 3) (Nat.le_of_ble_eq_true rfl)
  rw [lg_entry_eq]
  generalize (lg_sl ([.ref x, .int p0]) ++ List.replicate (3 - (lg_sl ([.ref x, .int p0])).length) Slot.unset).toArray = ls at hl ⊢
  have hl : lv_has ls 3 [(0, .ref x), (1, .int p0)] := hl
  refine lv_aload_n hx hb dX3_answer_0 rfl (lv_at hl 0 rfl) ?_
  refine lv_iload_n hx hb dX3_answer_1 rfl (lv_at hl 1 rfl) ?_
  have hPc := hP.sub (ws' := [(x, .inr (3, [.ref na, .ref ro, .ref oa, .int 0, .int 0, .int 0, .int 0, .int 0, .int 0])), (oa, .inl (cO, 512, .inr (.inr (.inr (.inr ((fun _ => none)))))))]) [0, 1] rfl
  refine va_csq (W.runV (As := [.int p0]) (rest := []) ⟨hx, hb, hml, hown, hg⟩ (c_X3_find l dC dI cI cZ cN cO x na ro oa 0 0 0 0 0 0 (fun _ => none) p0 (fun z1 z2 => absurd (Int32.le_trans (Int32.not_lt.mp z1) z2) (by decide))) (cwV 1 hg (gw_V kM_X3_74 kI_X3_find kS_X3_find kN_X3 kD_X3_find) rfl rfl rfl (by decide +kernel) ⟨Nat.le_of_ble_eq_true rfl, Nat.le_of_ble_eq_true rfl⟩) ⟨fun a U g mk q => by obtain ⟨q0, qP, qK⟩ := q; exact ⟨q0, qP, va_K.moved (u := U) (U := U.calling g mk a) (Vm.Alike.refl U.vm) qK⟩, va_recv hK hP (ci := 3) (q0 := 0) rfl rfl, fun U hU hW => ⟨rfl, by rw [hU]; exact hPc, va_K.moved hW.alike hK⟩⟩ rfl rfl hl.1 rfl (lv_room (Nat.le_of_ble_eq_true rfl)) dX3_answer_2 ⟨Nat.zero_le _, Nat.zero_le _⟩) (fun r_1 hr_1 => ?_)
  have hnone : r_1 = none := by rw [hr_1, if_neg (fun z => absurd (Int32.le_trans (Int32.not_lt.mp z.1) z.2) (by decide))]
  subst hnone
  dsimp only [va_rf]
  refine lv_astore_nN (lv' := [(2, .null), (0, .ref x), (1, .int p0)]) hx hb dX3_answer_5 rfl hl (by decide) rfl (fun ls hl => ?_)
  refine lv_aload_nN hx hb dX3_answer_6 rfl (lv_at hl 0 rfl) ?_
  refine lv_ifnullN (tgt := 17) hx hb dX3_answer_7 (by decide) ?_
  refine lv_lconst (v := 0) hx hb dX3_answer_17 (by decide) ?_
  refine lv_goto (tgt := 26) hx hb dX3_answer_18 (by decide) ?_
  exact W.lret (v := 0) hx hb hr (fun t ht hW => ⟨_, rfl, rfl, ht⟩) (fun _ h => by cases h) dX3_answer_26
set_option maxHeartbeats 4000000 in
set_option maxRecDepth 100000 in
theorem c_X3_view (l : Launch) (dC : Nat → ClassId) (dI : Nat → Nat → Nat) (cI cZ cN cO : ClassId) (x na ro oa : Nat) (p0 p1 : Int32)  : Met l yX3_view (.code yX3_view cX3_view 4 (some .int) :: gw) ({ frames := 1, cells := 0, slots := 0, locals := 21 }) (va_Pc [.ref x, .int p0, .int p1] (fun U => va_P (dC, dI) vwCl [(x, .inr (3, [.ref na, .ref ro, .ref oa, .int 0, .int 0, .int 0, .int 0, .int 0, .int 0])), (oa, .inl (cO, 512, .inr (.inr (.inr (.inr ((fun _ => none)))))))] U.heap ∧ va_K (dC, dI) vwCl (gTy cI cZ cN cO) U)) (vp_Si (fun r => r = -1)) 0 0 (fun _ => False) := by
  refine Met.ofW (cc := cX3_view) (maxL := 4) (ret := (some .int)) (by decide) rfl ?_
  intro p e s m args below meth c s₁ B hml hv
  obtain ⟨rfl, hP, hK⟩ := hv
  have hx := B.exec
  have hb := B.bytes
  have hr := B.returns
  have hts := atoms_spec (ws := (.code yX3_view cX3_view 4 (some .int) :: gw)) B.pre
  have hg : ∀ w ∈ gw, w.before _ s = true := fun w h => hts w (List.mem_cons_of_mem _ h)
  have hown : s.vm.findClass RX3 = some m.cls := findClass_of_methodNamed B.named
  have hlocks := B.notSynchronized
  have hl := lv_entry ([.ref x, .int p0, .int p1]) (n := 4) (Nat.le_of_ble_eq_true rfl)
  rw [lg_entry_eq]
  generalize (lg_sl ([.ref x, .int p0, .int p1]) ++ List.replicate (4 - (lg_sl ([.ref x, .int p0, .int p1])).length) Slot.unset).toArray = ls at hl ⊢
  have hl : lv_has ls 4 [(0, .ref x), (1, .int p0), (2, .int p1)] := hl
  refine lv_aload_n hx hb dX3_view_0 rfl (lv_at hl 0 rfl) ?_
  refine lv_iload_n hx hb dX3_view_1 rfl (lv_at hl 1 rfl) ?_
  have hPc := hP.sub (ws' := [(x, .inr (3, [.ref na, .ref ro, .ref oa, .int 0, .int 0, .int 0, .int 0, .int 0, .int 0])), (oa, .inl (cO, 512, .inr (.inr (.inr (.inr ((fun _ => none)))))))]) [0, 1] rfl
  refine va_csq (W.runV (As := [.int p0]) (rest := []) ⟨hx, hb, hml, hown, hg⟩ (c_X3_find l dC dI cI cZ cN cO x na ro oa 0 0 0 0 0 0 (fun _ => none) p0 (fun z1 z2 => absurd (Int32.le_trans (Int32.not_lt.mp z1) z2) (by decide))) (cwV 1 hg (gw_V kM_X3_74 kI_X3_find kS_X3_find kN_X3 kD_X3_find) rfl rfl rfl (by decide +kernel) ⟨Nat.le_of_ble_eq_true rfl, Nat.le_of_ble_eq_true rfl⟩) ⟨fun a U g mk q => by obtain ⟨q0, qP, qK⟩ := q; exact ⟨q0, qP, va_K.moved (u := U) (U := U.calling g mk a) (Vm.Alike.refl U.vm) qK⟩, va_recv hK hP (ci := 3) (q0 := 0) rfl rfl, fun U hU hW => ⟨rfl, by rw [hU]; exact hPc, va_K.moved hW.alike hK⟩⟩ rfl rfl hl.1 rfl (lv_room (Nat.le_of_ble_eq_true rfl)) dX3_view_2 ⟨Nat.zero_le _, Nat.zero_le _⟩) (fun r_1 hr_1 => ?_)
  have hnone : r_1 = none := by rw [hr_1, if_neg (fun z => absurd (Int32.le_trans (Int32.not_lt.mp z.1) z.2) (by decide))]
  subst hnone
  dsimp only [va_rf]
  refine lv_astore_nN (lv' := [(3, .null), (0, .ref x), (1, .int p0), (2, .int p1)]) hx hb dX3_view_5 rfl hl (by decide) rfl (fun ls hl => ?_)
  refine lv_aload_nN hx hb dX3_view_6 rfl (lv_at hl 0 rfl) ?_
  refine lv_ifnullN (tgt := 25) hx hb dX3_view_7 (by decide) ?_
  refine lv_iconst (v := (-1)) hx hb dX3_view_25 (by decide) ?_
  refine lv_goto (tgt := 35) hx hb dX3_view_26 (by decide) ?_
  exact W.iret (v := (-1)) hx hb hr (fun t ht hW => ⟨_, rfl, rfl, ht⟩) (fun _ h => by cases h) dX3_view_35
set_option maxHeartbeats 4000000 in
set_option maxRecDepth 100000 in
theorem c_X3_message (l : Launch) (dC : Nat → ClassId) (dI : Nat → Nat → Nat) (cI cZ cN cO : ClassId) (x na ro oa b1 b2 b3 b4 b5 b6 n : Nat) (p0 p1 : Int32)  : Met l yX3_message (.code yX3_message cX3_message 3 (some .int) :: gw) ({ frames := 1, cells := 0, slots := 0, locals := 21 }) (va_Pc [.ref x, .int p0, .int p1] (fun U => va_P (dC, dI) vwCl [(x, .inr (3, [.ref na, .ref ro, .ref oa, .int 0, .int 0, .int 0, .int 0, .int 0, .int 0])), (ro, .inr (2, [.int (nI n), .ref b1, .ref b2, .ref b3, .ref b4, .ref b5, .ref b6, .int 0, .int 0, .int 0]))] U.heap ∧ va_K (dC, dI) vwCl (gTy cI cZ cN cO) U)) (vp_Si (fun r => r = -1)) 0 0 (fun _ => False) := by
  refine Met.ofW (cc := cX3_message) (maxL := 3) (ret := (some .int)) (by decide) rfl ?_
  intro p e s m args below meth c s₁ B hml hv
  obtain ⟨rfl, hP, hK⟩ := hv
  have hx := B.exec
  have hb := B.bytes
  have hr := B.returns
  have hts := atoms_spec (ws := (.code yX3_message cX3_message 3 (some .int) :: gw)) B.pre
  have hg : ∀ w ∈ gw, w.before _ s = true := fun w h => hts w (List.mem_cons_of_mem _ h)
  have hown : s.vm.findClass RX3 = some m.cls := findClass_of_methodNamed B.named
  have hlocks := B.notSynchronized
  have hl := lv_entry ([.ref x, .int p0, .int p1]) (n := 3) (Nat.le_of_ble_eq_true rfl)
  rw [lg_entry_eq]
  generalize (lg_sl ([.ref x, .int p0, .int p1]) ++ List.replicate (3 - (lg_sl ([.ref x, .int p0, .int p1])).length) Slot.unset).toArray = ls at hl ⊢
  have hl : lv_has ls 3 [(0, .ref x), (1, .int p0), (2, .int p1)] := hl
  refine lv_aload_n hx hb dX3_message_0 rfl (lv_at hl 0 rfl) ?_
  refine va_get (D := (dC, dI)) (ci := 3) (v := .ref ro) (C := RX3) (T := TX3) (N := 9) hx hb hg inX3 hown hK hP 0 rfl rfl 1 (by decide) (hg _ kF_X3_23) (fun _ h9 => h9) rfl dX3_message_1 ?_
  refine lv_iload_n hx hb dX3_message_4 rfl (lv_at hl 1 rfl) ?_
  have hPc := hP.sub (ws' := [(ro, .inr (2, [.int (nI n), .ref b1, .ref b2, .ref b3, .ref b4, .ref b5, .ref b6, .int 0, .int 0, .int 0]))]) [1] rfl
  refine vp_callSi (W.runV (As := [.int p0]) (rest := []) ⟨hx, hb, hml, hown, hg⟩ (c_X2_holds l dC dI cI cZ cN cO ro b1 b2 b3 b4 b5 b6 (nI n) 0 0 0 p0) (cwV 1 hg (gw_V kM_X3_55 kI_X2_holds kS_X2_holds kN_X2 kD_X2_holds) rfl rfl rfl (by decide +kernel) ⟨Nat.le_of_ble_eq_true rfl, Nat.le_of_ble_eq_true rfl⟩) ⟨fun a U g mk q => by obtain ⟨q0, qP, qK⟩ := q; exact ⟨q0, qP, va_K.moved (u := U) (U := U.calling g mk a) (Vm.Alike.refl U.vm) qK⟩, va_recv hK hP (ci := 2) (q0 := 1) rfl rfl, fun U hU hW => ⟨rfl, by rw [hU]; exact hPc, va_K.moved hW.alike hK⟩⟩ rfl rfl hl.1 rfl (lv_room (Nat.le_of_ble_eq_true rfl)) dX3_message_5 ⟨Nat.zero_le _, Nat.zero_le _⟩) (fun r_1 hr_1 => ?_)
  refine lv_if_eq (tgt := 23) hx hb dX3_message_8 (by decide) (fun c_8 => ?_) (fun c_8 => absurd (ite_ne0 hr_1 c_8) (fun z => z.2 (Int32.not_lt.mp z.1)))
  refine lv_iconst (v := (-1)) hx hb dX3_message_23 (by decide) ?_
  exact W.iret (v := (-1)) hx hb hr (fun t ht hW => ⟨_, rfl, rfl, ht⟩) (fun _ h => by cases h) dX3_message_24
set_option maxHeartbeats 4000000 in
set_option maxRecDepth 100000 in
theorem c_X3_vector (l : Launch) (dC : Nat → ClassId) (dI : Nat → Nat → Nat) (cI cZ cN cO : ClassId) (x na ro oa b1 b2 b3 b4 b5 b6 n : Nat) (p0 p1 : Int32)  : Met l yX3_vector (.code yX3_vector cX3_vector 3 (some .int) :: gw) ({ frames := 1, cells := 0, slots := 0, locals := 21 }) (va_Pc [.ref x, .int p0, .int p1] (fun U => va_P (dC, dI) vwCl [(x, .inr (3, [.ref na, .ref ro, .ref oa, .int 0, .int 0, .int 0, .int 0, .int 0, .int 0])), (ro, .inr (2, [.int (nI n), .ref b1, .ref b2, .ref b3, .ref b4, .ref b5, .ref b6, .int 0, .int 0, .int 0]))] U.heap ∧ va_K (dC, dI) vwCl (gTy cI cZ cN cO) U)) (vp_Si (fun r => r = -1)) 0 0 (fun _ => False) := by
  refine Met.ofW (cc := cX3_vector) (maxL := 3) (ret := (some .int)) (by decide) rfl ?_
  intro p e s m args below meth c s₁ B hml hv
  obtain ⟨rfl, hP, hK⟩ := hv
  have hx := B.exec
  have hb := B.bytes
  have hr := B.returns
  have hts := atoms_spec (ws := (.code yX3_vector cX3_vector 3 (some .int) :: gw)) B.pre
  have hg : ∀ w ∈ gw, w.before _ s = true := fun w h => hts w (List.mem_cons_of_mem _ h)
  have hown : s.vm.findClass RX3 = some m.cls := findClass_of_methodNamed B.named
  have hlocks := B.notSynchronized
  have hl := lv_entry ([.ref x, .int p0, .int p1]) (n := 3) (Nat.le_of_ble_eq_true rfl)
  rw [lg_entry_eq]
  generalize (lg_sl ([.ref x, .int p0, .int p1]) ++ List.replicate (3 - (lg_sl ([.ref x, .int p0, .int p1])).length) Slot.unset).toArray = ls at hl ⊢
  have hl : lv_has ls 3 [(0, .ref x), (1, .int p0), (2, .int p1)] := hl
  refine lv_aload_n hx hb dX3_vector_0 rfl (lv_at hl 0 rfl) ?_
  refine va_get (D := (dC, dI)) (ci := 3) (v := .ref ro) (C := RX3) (T := TX3) (N := 9) hx hb hg inX3 hown hK hP 0 rfl rfl 1 (by decide) (hg _ kF_X3_23) (fun _ h9 => h9) rfl dX3_vector_1 ?_
  refine lv_iload_n hx hb dX3_vector_4 rfl (lv_at hl 1 rfl) ?_
  have hPc := hP.sub (ws' := [(ro, .inr (2, [.int (nI n), .ref b1, .ref b2, .ref b3, .ref b4, .ref b5, .ref b6, .int 0, .int 0, .int 0]))]) [1] rfl
  refine vp_callSi (W.runV (As := [.int p0]) (rest := []) ⟨hx, hb, hml, hown, hg⟩ (c_X2_holds l dC dI cI cZ cN cO ro b1 b2 b3 b4 b5 b6 (nI n) 0 0 0 p0) (cwV 1 hg (gw_V kM_X3_55 kI_X2_holds kS_X2_holds kN_X2 kD_X2_holds) rfl rfl rfl (by decide +kernel) ⟨Nat.le_of_ble_eq_true rfl, Nat.le_of_ble_eq_true rfl⟩) ⟨fun a U g mk q => by obtain ⟨q0, qP, qK⟩ := q; exact ⟨q0, qP, va_K.moved (u := U) (U := U.calling g mk a) (Vm.Alike.refl U.vm) qK⟩, va_recv hK hP (ci := 2) (q0 := 1) rfl rfl, fun U hU hW => ⟨rfl, by rw [hU]; exact hPc, va_K.moved hW.alike hK⟩⟩ rfl rfl hl.1 rfl (lv_room (Nat.le_of_ble_eq_true rfl)) dX3_vector_5 ⟨Nat.zero_le _, Nat.zero_le _⟩) (fun r_1 hr_1 => ?_)
  refine lv_if_eq (tgt := 31) hx hb dX3_vector_8 (by decide) (fun c_8 => ?_) (fun c_8 => absurd (ite_ne0 hr_1 c_8) (fun z => z.2 (Int32.not_lt.mp z.1)))
  refine lv_iconst (v := (-1)) hx hb dX3_vector_31 (by decide) ?_
  exact W.iret (v := (-1)) hx hb hr (fun t ht hW => ⟨_, rfl, rfl, ht⟩) (fun _ h => by cases h) dX3_vector_32
set_option maxHeartbeats 4000000 in
set_option maxRecDepth 100000 in
theorem c_X3_astray (l : Launch) (dC : Nat → ClassId) (dI : Nat → Nat → Nat) (cI cZ cN cO : ClassId) (x na ro oa b1 b2 b3 b4 b5 b6 n : Nat)  : Met l yX3_astray (.code yX3_astray cX3_astray 6 (some .int) :: gw) ({ frames := 0, cells := 0, slots := 0, locals := 0 }) (va_Pc [.ref x] (fun U => va_P (dC, dI) vwCl [(x, .inr (3, [.ref na, .ref ro, .ref oa, .int 0, .int 0, .int 0, .int 0, .int 0, .int 0]))] U.heap ∧ va_K (dC, dI) vwCl (gTy cI cZ cN cO) U)) (vp_Si (fun r => r = 0)) 0 0 (fun _ => False) := by
  refine Met.ofW (cc := cX3_astray) (maxL := 6) (ret := (some .int)) (by decide) rfl ?_
  intro p e s m args below meth c s₁ B hml hv
  obtain ⟨rfl, hP, hK⟩ := hv
  have hx := B.exec
  have hb := B.bytes
  have hr := B.returns
  have hts := atoms_spec (ws := (.code yX3_astray cX3_astray 6 (some .int) :: gw)) B.pre
  have hg : ∀ w ∈ gw, w.before _ s = true := fun w h => hts w (List.mem_cons_of_mem _ h)
  have hown : s.vm.findClass RX3 = some m.cls := findClass_of_methodNamed B.named
  have hlocks := B.notSynchronized
  have hl := lv_entry ([.ref x]) (n := 6) (Nat.le_of_ble_eq_true rfl)
  rw [lg_entry_eq]
  generalize (lg_sl ([.ref x]) ++ List.replicate (6 - (lg_sl ([.ref x])).length) Slot.unset).toArray = ls at hl ⊢
  have hl : lv_has ls 6 [(0, .ref x)] := hl
  refine lv_iconst (v := 0) hx hb dX3_astray_0 (by decide) ?_
  refine lv_istore_n (lv' := [(1, .int 0), (0, .ref x)]) hx hb dX3_astray_1 rfl hl (by decide) rfl (fun ls hl => ?_)
  refine lv_iconst (v := 1) hx hb dX3_astray_2 (by decide) ?_
  refine lv_istore_n (lv' := [(2, .int 1), (1, .int 0), (0, .ref x)]) hx hb dX3_astray_3 rfl hl (by decide) rfl (fun ls hl => ?_)
  refine lv_iload_n hx hb dX3_astray_4 rfl (lv_at hl 0 rfl) ?_
  refine lv_aload_n hx hb dX3_astray_5 rfl (lv_at hl 2 rfl) ?_
  refine va_get (D := (dC, dI)) (ci := 3) (v := .int 0) (C := RX3) (T := TX3) (N := 9) hx hb hg inX3 hown hK hP 0 rfl rfl 3 (by decide) (hg _ kF_X3_119) (fun _ h9 => h9) rfl dX3_astray_6 ?_
  refine lv_icmp_gt (tgt := 100) hx hb dX3_astray_9 (by decide) (fun c_9 => ?_) (fun c_9 => absurd (by decide) c_9)
  refine lv_iload_n hx hb dX3_astray_100 rfl (lv_at hl 1 rfl) ?_
  exact W.iret (v := 0) hx hb hr (fun t ht hW => ⟨_, rfl, rfl, ht⟩) (fun _ h => by cases h) dX3_astray_101
set_option maxHeartbeats 4000000 in
set_option maxRecDepth 100000 in
theorem lp_X3_nodesUp {p : Program} {l : Launch} {e : Env} {R : Room} {s : State} {m : MethodId} {args : Array Value} {below : List Frame} {meth : Method} {c : Code} {cells slots : Nat} {Q : State → Prop} {dC : Nat → ClassId} {dI : Nat → Nat → Nat} {cI cZ cN cO : ClassId} {H : Heap} {locs : List Loc} (hx : p.tables.exec = Jvm.exec) (hb : c.code = cX3_nodesUp) (hml : c.maxLocals = 6) (hown : s.vm.findClass RX3 = some m.cls) (hg : ∀ w ∈ gw, w.before args s = true) (hK : va_K (dC, dI) vwCl (gTy cI cZ cN cO) s) (x na ro oa n : Nat) (fn : Nat → Option Nat) (P : va_W) (hn : n ≤ 31) (hNd : gNodes cI n n fn P) (kk : va_P (dC, dI) vwCl ([(x, .inr (3, [.ref na, .ref ro, .ref oa, .int 0, .int 0, .int 0, .int 0, .int 0, .int 0])), (na, .inl (cN, n, .inr (.inr (.inr (.inr fn)))))] ++ P) H → ∀ ls : Array Slot, lv_has ls 6 [(4, .int (nI n)), (1, .int (nI n)), (0, .ref x), (2, .ref na), (3, .int (nI n))] → W p l e R s m args below meth c H locs cells slots Q (F0 m 42 ls [])) : ∀ (k i : Nat), i + k = n → va_P (dC, dI) vwCl ([(x, .inr (3, [.ref na, .ref ro, .ref oa, .int 0, .int 0, .int 0, .int 0, .int 0, .int 0])), (na, .inl (cN, n, .inr (.inr (.inr (.inr fn)))))] ++ P) H → ∀ ls : Array Slot, lv_has ls 6 [(4, .int (nI i)), (1, .int (nI i)), (0, .ref x), (2, .ref na), (3, .int (nI n))] → W p l e R s m args below meth c H locs cells slots Q (F0 m 13 ls []) := by
  intro k
  induction k with
  | zero =>
    intro i hik
    intro  hP ls hl
    have hi : n = i := by omega
    subst hi
    refine lv_iload hx hb dX3_nodesUp_13 (lv_at hl 0 rfl) ?_
    refine lv_iload_n hx hb dX3_nodesUp_15 rfl (lv_at hl 4 rfl) ?_
    refine lv_icmp_ge (tgt := 42) hx hb dX3_nodesUp_16 (by decide) (fun c_16 => ?_) (fun c_16 => absurd (Int32.le_refl _) c_16)
    exact kk  hP ls (lv_sub hl [0, 1, 2, 3, 4] rfl)
  | succ k ih =>
    intro i hik
    intro  hP ls hl
    have hi : i < n := by omega
    refine lv_iload hx hb dX3_nodesUp_13 (lv_at hl 0 rfl) ?_
    refine lv_iload_n hx hb dX3_nodesUp_15 rfl (lv_at hl 4 rfl) ?_
    refine lv_icmp_ge (tgt := 42) hx hb dX3_nodesUp_16 (by decide) (fun c_16 => absurd c_16 (nI_ge hi (by omega))) (fun c_16 => ?_)
    refine lv_aload_n hx hb dX3_nodesUp_19 rfl (lv_at hl 3 rfl) ?_
    refine lv_iload hx hb dX3_nodesUp_20 (lv_at hl 0 rfl) ?_
    obtain ⟨nd, a1, a2, a3, a4, a5, e0, e1, -⟩ := hNd.2 i hi
    refine va_aldq hx hb hK hP 1 2 rfl rfl (vp_in_nI hi (by omega)) dX3_nodesUp_22 ?_
    rw [nI_clamp (by omega), e0]
    dsimp only [va_rf]
    refine lv_astore (lv' := [(5, .ref nd), (4, .int (nI i)), (1, .int (nI i)), (0, .ref x), (2, .ref na), (3, .int (nI n))]) hx hb dX3_nodesUp_23 hl (by decide) rfl (fun ls hl => ?_)
    refine lv_aload hx hb dX3_nodesUp_25 (lv_at hl 0 rfl) ?_
    refine va_get (D := (dC, dI)) (ci := 0) (v := .int 1) (C := RX0) (T := TX0) (N := 11) hx hb hg inX0 hown hK hP (2 + 6 * i) (by rw [List.getElem?_append_right (Nat.le_add_right 2 _)]; show P[2 + 6 * i - 2]? = _; rw [Nat.add_sub_cancel_left]; exact e1) rfl 6 (by decide) (hg _ kF_X3_66) (fun _ h9 => h9) rfl dX3_nodesUp_27 ?_
    refine lv_if_eq (tgt := 36) hx hb dX3_nodesUp_30 (by decide) (fun c_30 => absurd c_30 (by decide)) (fun c_30 => ?_)
    obtain ⟨x_1, ex_1⟩ : ∃ y : Int32, y = (nI i) + 1 := ⟨_, rfl⟩
    refine lv_iinc (v := x_1) (lv' := [(1, .int x_1), (5, .ref nd), (4, .int (nI i)), (0, .ref x), (2, .ref na), (3, .int (nI n))]) hx hb dX3_nodesUp_33 hl (k := 2) rfl (by rw [ex_1]; rfl) (by decide) rfl (fun ls hl => ?_)
    obtain ⟨x_2, ex_2⟩ : ∃ y : Int32, y = (nI i) + 1 := ⟨_, rfl⟩
    refine lv_iinc (v := x_2) (lv' := [(4, .int x_2), (1, .int x_1), (5, .ref nd), (0, .ref x), (2, .ref na), (3, .int (nI n))]) hx hb dX3_nodesUp_36 hl (k := 2) rfl (by rw [ex_2]; rfl) (by decide) rfl (fun ls hl => ?_)
    refine lv_goto (tgt := 13) hx hb dX3_nodesUp_39 (by decide) ?_
    have hx4 : x_2 = nI (i + 1) := by rw [ex_2]; exact nI_1 i
    have hx1 : x_1 = nI (i + 1) := by rw [ex_1]; exact nI_1 i
    rw [hx4, hx1] at hl
    exact ih (i + 1) (by omega)  hP ls (lv_sub hl [0, 1, 3, 4, 5] rfl)
set_option maxHeartbeats 4000000 in
set_option maxRecDepth 100000 in
theorem c_X3_nodesUp (l : Launch) (dC : Nat → ClassId) (dI : Nat → Nat → Nat) (cI cZ cN cO : ClassId) (x na ro oa n : Nat) (fn : Nat → Option Nat) (P : va_W) (hn : n ≤ 31) (hNd : gNodes cI n n fn P) : Met l yX3_nodesUp (.code yX3_nodesUp cX3_nodesUp 6 (some .int) :: gw) ({ frames := 0, cells := 0, slots := 0, locals := 0 }) (va_Pc [.ref x] (fun U => va_P (dC, dI) vwCl ([(x, .inr (3, [.ref na, .ref ro, .ref oa, .int 0, .int 0, .int 0, .int 0, .int 0, .int 0])), (na, .inl (cN, n, .inr (.inr (.inr (.inr fn)))))] ++ P) U.heap ∧ va_K (dC, dI) vwCl (gTy cI cZ cN cO) U)) (vp_Si (fun r => r = nI n)) 0 0 (fun _ => False) := by
  refine Met.ofW (cc := cX3_nodesUp) (maxL := 6) (ret := (some .int)) (by decide) rfl ?_
  intro p e s m args below meth c s₁ B hml hv
  obtain ⟨rfl, hP, hK⟩ := hv
  have hx := B.exec
  have hb := B.bytes
  have hr := B.returns
  have hts := atoms_spec (ws := (.code yX3_nodesUp cX3_nodesUp 6 (some .int) :: gw)) B.pre
  have hg : ∀ w ∈ gw, w.before _ s = true := fun w h => hts w (List.mem_cons_of_mem _ h)
  have hown : s.vm.findClass RX3 = some m.cls := findClass_of_methodNamed B.named
  have hlocks := B.notSynchronized
  have hl := lv_entry ([.ref x]) (n := 6) (Nat.le_of_ble_eq_true rfl)
  rw [lg_entry_eq]
  generalize (lg_sl ([.ref x]) ++ List.replicate (6 - (lg_sl ([.ref x])).length) Slot.unset).toArray = ls at hl ⊢
  have hl : lv_has ls 6 [(0, .ref x)] := hl
  refine lv_iconst (v := 0) hx hb dX3_nodesUp_0 (by decide) ?_
  refine lv_istore_n (lv' := [(1, .int 0), (0, .ref x)]) hx hb dX3_nodesUp_1 rfl hl (by decide) rfl (fun ls hl => ?_)
  refine lv_aload_n hx hb dX3_nodesUp_2 rfl (lv_at hl 1 rfl) ?_
  refine va_get (D := (dC, dI)) (ci := 3) (v := .ref na) (C := RX3) (T := TX3) (N := 9) hx hb hg inX3 hown hK hP 0 rfl rfl 0 (by decide) (hg _ kF_X3_11) (fun _ h9 => h9) rfl dX3_nodesUp_3 ?_
  refine lv_astore_n (lv' := [(2, .ref na), (1, .int 0), (0, .ref x)]) hx hb dX3_nodesUp_6 rfl hl (by decide) rfl (fun ls hl => ?_)
  refine lv_aload_n hx hb dX3_nodesUp_7 rfl (lv_at hl 0 rfl) ?_
  refine va_alen (v := nI n) hx hb hK hP 1 2 rfl rfl (by rfl) dX3_nodesUp_8 ?_
  refine lv_istore_n (lv' := [(3, .int (nI n)), (2, .ref na), (1, .int 0), (0, .ref x)]) hx hb dX3_nodesUp_9 rfl hl (by decide) rfl (fun ls hl => ?_)
  refine lv_iconst (v := 0) hx hb dX3_nodesUp_10 (by decide) ?_
  refine lv_istore (lv' := [(4, .int 0), (3, .int (nI n)), (2, .ref na), (1, .int 0), (0, .ref x)]) hx hb dX3_nodesUp_11 hl (by decide) rfl (fun ls hl => ?_)
  rw [← nI_0] at hl
  refine lp_X3_nodesUp hx hb hml hown hg hK x na ro oa n fn P hn hNd ?_ n 0 (by omega) hP ls (lv_sub hl [0, 3, 4, 2, 1] rfl)
  intro hP ls hl
  refine lv_iload_n hx hb dX3_nodesUp_42 rfl (lv_at hl 1 rfl) ?_
  exact W.iret (v := nI n) hx hb hr (fun t ht hW => ⟨_, rfl, rfl, ht⟩) (fun _ h => by cases h) dX3_nodesUp_43
set_option maxHeartbeats 4000000 in
set_option maxRecDepth 100000 in
theorem c_X3_count (l : Launch) (dC : Nat → ClassId) (dI : Nat → Nat → Nat) (cI cZ cN cO : ClassId) (x na ro oa n : Nat) (fn : Nat → Option Nat) (b1 b2 b3 b4 b5 b6 : Nat) (P : va_W) (w1 : Int32) (hn : n ≤ 31) (hNd : gNodes cI n n fn P) : Met l yX3_count (.code yX3_count cX3_count 2 (some .int) :: gw) ({ frames := 1, cells := 0, slots := 0, locals := 25 }) (va_Pc [.ref x, .int w1] (fun U => va_P (dC, dI) vwCl ([(x, .inr (3, [.ref na, .ref ro, .ref oa, .int 0, .int 0, .int 0, .int 0, .int 0, .int 0])), (na, .inl (cN, n, .inr (.inr (.inr (.inr fn))))), (ro, .inr (2, [.int (nI n), .ref b1, .ref b2, .ref b3, .ref b4, .ref b5, .ref b6, .int 0, .int 0, .int 0]))] ++ P) U.heap ∧ va_K (dC, dI) vwCl (gTy cI cZ cN cO) U)) (vp_Si (fun r => r = fCount n w1)) 0 0 (fun _ => False) := by
  refine Met.ofW (cc := cX3_count) (maxL := 2) (ret := (some .int)) (by decide) rfl ?_
  intro p e s m args below meth c s₁ B hml hv
  obtain ⟨rfl, hP, hK⟩ := hv
  have hx := B.exec
  have hb := B.bytes
  have hr := B.returns
  have hts := atoms_spec (ws := (.code yX3_count cX3_count 2 (some .int) :: gw)) B.pre
  have hg : ∀ w ∈ gw, w.before _ s = true := fun w h => hts w (List.mem_cons_of_mem _ h)
  have hown : s.vm.findClass RX3 = some m.cls := findClass_of_methodNamed B.named
  have hlocks := B.notSynchronized
  have hl := lv_entry ([.ref x, .int w1]) (n := 2) (Nat.le_of_ble_eq_true rfl)
  rw [lg_entry_eq]
  generalize (lg_sl ([.ref x, .int w1]) ++ List.replicate (2 - (lg_sl ([.ref x, .int w1])).length) Slot.unset).toArray = ls at hl ⊢
  have hl : lv_has ls 2 [(0, .ref x), (1, .int w1)] := hl
  refine lv_iload_n hx hb dX3_count_0 rfl (lv_at hl 1 rfl) ?_
  rcases gSw w1 9 9 rfl (by decide) with hsw | ⟨j, hj, hjx⟩
  · refine lv_tableOut (tgt := 113) hx hb dX3_count_1 hsw (by decide) ?_
    refine lv_iconst (v := (-1)) hx hb dX3_count_113 (by decide) ?_
    exact W.iret (v := (-1)) hx hb hr (fun t ht hW => ⟨_, rfl, (by first | exact (if_pos hsw).symm | (unfold fCount; rw [if_neg (by decide +kernel)]; first | exact (if_pos (by decide +kernel)).symm | exact (if_neg (by decide +kernel)).symm)), ht⟩) (fun _ h => by cases h) dX3_count_114
  · rcases (show j = 0 ∨ j = 1 ∨ j = 2 ∨ j = 3 ∨ j = 4 ∨ j = 5 ∨ j = 6 ∨ j = 7 ∨ j = 8 ∨ j = 9 by omega) with hj0 | hj0 | hj0 | hj0 | hj0 | hj0 | hj0 | hj0 | hj0 | hj0
    · rw [hj0] at hjx
      subst hjx
      refine lv_tableIn (off := 55) (tgt := 56) hx hb dX3_count_1 (by decide +kernel) (by decide +kernel) (by decide +kernel) (by decide) ?_
      refine lv_aload_n hx hb dX3_count_56 rfl (lv_at hl 0 rfl) ?_
      refine va_get (D := (dC, dI)) (ci := 3) (v := .ref na) (C := RX3) (T := TX3) (N := 9) hx hb hg inX3 hown hK hP 0 rfl rfl 0 (by decide) (hg _ kF_X3_11) (fun _ h9 => h9) rfl dX3_count_57 ?_
      refine va_alen (v := nI n) hx hb hK hP 1 2 rfl rfl (by rfl) dX3_count_60 ?_
      exact W.iret (v := nI n) hx hb hr (fun t ht hW => ⟨_, rfl, (by first | exact (if_pos hsw).symm | (unfold fCount; rw [if_neg (by decide +kernel)]; first | exact (if_pos (by decide +kernel)).symm | exact (if_neg (by decide +kernel)).symm)), ht⟩) (fun _ h => by cases h) dX3_count_61
    · rw [hj0] at hjx
      subst hjx
      refine lv_tableIn (off := 61) (tgt := 62) hx hb dX3_count_1 (by decide +kernel) (by decide +kernel) (by decide +kernel) (by decide) ?_
      refine lv_aload_n hx hb dX3_count_62 rfl (lv_at hl 0 rfl) ?_
      have hPc : va_P (dC, dI) vwCl ([(x, .inr (3, [.ref na, .ref ro, .ref oa, .int 0, .int 0, .int 0, .int 0, .int 0, .int 0])), (na, .inl (cN, n, .inr (.inr (.inr (.inr fn)))))] ++ P) s.heap := hP.part [0, 1] rfl
      refine vp_callSi (W.runV (As := []) (rest := []) ⟨hx, hb, hml, hown, hg⟩ (c_X3_nodesUp l dC dI cI cZ cN cO x na ro oa n fn P hn hNd) (cwV 0 hg (gw_V kM_X3_106 kI_X3_nodesUp kS_X3_nodesUp kN_X3 kD_X3_nodesUp) rfl rfl rfl (by decide +kernel) ⟨Nat.le_of_ble_eq_true rfl, Nat.le_of_ble_eq_true rfl⟩) ⟨fun a U g mk q => by obtain ⟨q0, qP, qK⟩ := q; exact ⟨q0, qP, va_K.moved (u := U) (U := U.calling g mk a) (Vm.Alike.refl U.vm) qK⟩, va_recv hK hP (ci := 3) (q0 := 0) rfl rfl, fun U hU hW => ⟨rfl, by rw [hU]; exact hPc, va_K.moved hW.alike hK⟩⟩ rfl rfl hl.1 rfl (lv_room (Nat.le_of_ble_eq_true rfl)) dX3_count_63 ⟨Nat.zero_le _, Nat.zero_le _⟩) (fun r_1 hr_1 => ?_)
      subst hr_1
      exact W.iret (v := nI n) hx hb hr (fun t ht hW => ⟨_, rfl, (by first | exact (if_pos hsw).symm | (unfold fCount; rw [if_neg (by decide +kernel)]; first | exact (if_pos (by decide +kernel)).symm | exact (if_neg (by decide +kernel)).symm)), ht⟩) (fun _ h => by cases h) dX3_count_66
    · rw [hj0] at hjx
      subst hjx
      refine lv_tableIn (off := 66) (tgt := 67) hx hb dX3_count_1 (by decide +kernel) (by decide +kernel) (by decide +kernel) (by decide) ?_
      refine lv_aload_n hx hb dX3_count_67 rfl (lv_at hl 0 rfl) ?_
      refine va_get (D := (dC, dI)) (ci := 3) (v := .ref ro) (C := RX3) (T := TX3) (N := 9) hx hb hg inX3 hown hK hP 0 rfl rfl 1 (by decide) (hg _ kF_X3_23) (fun _ h9 => h9) rfl dX3_count_68 ?_
      refine va_get (D := (dC, dI)) (ci := 2) (v := .int 0) (C := RX2) (T := TX2) (N := 10) hx hb hg inX2 hown hK hP 2 rfl rfl 8 (by decide) (hg _ kF_X3_110) (fun _ h9 => h9) rfl dX3_count_71 ?_
      exact W.iret (v := 0) hx hb hr (fun t ht hW => ⟨_, rfl, (by first | exact (if_pos hsw).symm | (unfold fCount; rw [if_neg (by decide +kernel)]; first | exact (if_pos (by decide +kernel)).symm | exact (if_neg (by decide +kernel)).symm)), ht⟩) (fun _ h => by cases h) dX3_count_74
    · rw [hj0] at hjx
      subst hjx
      refine lv_tableIn (off := 74) (tgt := 75) hx hb dX3_count_1 (by decide +kernel) (by decide +kernel) (by decide +kernel) (by decide) ?_
      refine lv_aload_n hx hb dX3_count_75 rfl (lv_at hl 0 rfl) ?_
      refine va_get (D := (dC, dI)) (ci := 3) (v := .ref ro) (C := RX3) (T := TX3) (N := 9) hx hb hg inX3 hown hK hP 0 rfl rfl 1 (by decide) (hg _ kF_X3_23) (fun _ h9 => h9) rfl dX3_count_76 ?_
      refine va_get (D := (dC, dI)) (ci := 2) (v := .int 0) (C := RX2) (T := TX2) (N := 10) hx hb hg inX2 hown hK hP 2 rfl rfl 9 (by decide) (hg _ kF_X3_113) (fun _ h9 => h9) rfl dX3_count_79 ?_
      exact W.iret (v := 0) hx hb hr (fun t ht hW => ⟨_, rfl, (by first | exact (if_pos hsw).symm | (unfold fCount; rw [if_neg (by decide +kernel)]; first | exact (if_pos (by decide +kernel)).symm | exact (if_neg (by decide +kernel)).symm)), ht⟩) (fun _ h => by cases h) dX3_count_82
    · rw [hj0] at hjx
      subst hjx
      refine lv_tableIn (off := 82) (tgt := 83) hx hb dX3_count_1 (by decide +kernel) (by decide +kernel) (by decide +kernel) (by decide) ?_
      refine lv_aload_n hx hb dX3_count_83 rfl (lv_at hl 0 rfl) ?_
      refine va_get (D := (dC, dI)) (ci := 3) (v := .int 0) (C := RX3) (T := TX3) (N := 9) hx hb hg inX3 hown hK hP 0 rfl rfl 6 (by decide) (hg _ kF_X3_116) (fun _ h9 => h9) rfl dX3_count_84 ?_
      exact W.iret (v := 0) hx hb hr (fun t ht hW => ⟨_, rfl, (by first | exact (if_pos hsw).symm | (unfold fCount; rw [if_neg (by decide +kernel)]; first | exact (if_pos (by decide +kernel)).symm | exact (if_neg (by decide +kernel)).symm)), ht⟩) (fun _ h => by cases h) dX3_count_87
    · rw [hj0] at hjx
      subst hjx
      refine lv_tableIn (off := 87) (tgt := 88) hx hb dX3_count_1 (by decide +kernel) (by decide +kernel) (by decide +kernel) (by decide) ?_
      refine lv_aload_n hx hb dX3_count_88 rfl (lv_at hl 0 rfl) ?_
      refine va_get (D := (dC, dI)) (ci := 3) (v := .int 0) (C := RX3) (T := TX3) (N := 9) hx hb hg inX3 hown hK hP 0 rfl rfl 3 (by decide) (hg _ kF_X3_119) (fun _ h9 => h9) rfl dX3_count_89 ?_
      exact W.iret (v := 0) hx hb hr (fun t ht hW => ⟨_, rfl, (by first | exact (if_pos hsw).symm | (unfold fCount; rw [if_neg (by decide +kernel)]; first | exact (if_pos (by decide +kernel)).symm | exact (if_neg (by decide +kernel)).symm)), ht⟩) (fun _ h => by cases h) dX3_count_92
    · rw [hj0] at hjx
      subst hjx
      refine lv_tableIn (off := 92) (tgt := 93) hx hb dX3_count_1 (by decide +kernel) (by decide +kernel) (by decide +kernel) (by decide) ?_
      refine lv_aload_n hx hb dX3_count_93 rfl (lv_at hl 0 rfl) ?_
      refine va_get (D := (dC, dI)) (ci := 3) (v := .int 0) (C := RX3) (T := TX3) (N := 9) hx hb hg inX3 hown hK hP 0 rfl rfl 4 (by decide) (hg _ kF_X3_122) (fun _ h9 => h9) rfl dX3_count_94 ?_
      exact W.iret (v := 0) hx hb hr (fun t ht hW => ⟨_, rfl, (by first | exact (if_pos hsw).symm | (unfold fCount; rw [if_neg (by decide +kernel)]; first | exact (if_pos (by decide +kernel)).symm | exact (if_neg (by decide +kernel)).symm)), ht⟩) (fun _ h => by cases h) dX3_count_97
    · rw [hj0] at hjx
      subst hjx
      refine lv_tableIn (off := 97) (tgt := 98) hx hb dX3_count_1 (by decide +kernel) (by decide +kernel) (by decide +kernel) (by decide) ?_
      refine lv_aload_n hx hb dX3_count_98 rfl (lv_at hl 0 rfl) ?_
      refine va_get (D := (dC, dI)) (ci := 3) (v := .int 0) (C := RX3) (T := TX3) (N := 9) hx hb hg inX3 hown hK hP 0 rfl rfl 5 (by decide) (hg _ kF_X3_70) (fun _ h9 => h9) rfl dX3_count_99 ?_
      exact W.iret (v := 0) hx hb hr (fun t ht hW => ⟨_, rfl, (by first | exact (if_pos hsw).symm | (unfold fCount; rw [if_neg (by decide +kernel)]; first | exact (if_pos (by decide +kernel)).symm | exact (if_neg (by decide +kernel)).symm)), ht⟩) (fun _ h => by cases h) dX3_count_102
    · rw [hj0] at hjx
      subst hjx
      refine lv_tableIn (off := 102) (tgt := 103) hx hb dX3_count_1 (by decide +kernel) (by decide +kernel) (by decide +kernel) (by decide) ?_
      refine lv_aload_n hx hb dX3_count_103 rfl (lv_at hl 0 rfl) ?_
      refine va_get (D := (dC, dI)) (ci := 3) (v := .int 0) (C := RX3) (T := TX3) (N := 9) hx hb hg inX3 hown hK hP 0 rfl rfl 7 (by decide) (hg _ kF_X3_125) (fun _ h9 => h9) rfl dX3_count_104 ?_
      exact W.iret (v := 0) hx hb hr (fun t ht hW => ⟨_, rfl, (by first | exact (if_pos hsw).symm | (unfold fCount; rw [if_neg (by decide +kernel)]; first | exact (if_pos (by decide +kernel)).symm | exact (if_neg (by decide +kernel)).symm)), ht⟩) (fun _ h => by cases h) dX3_count_107
    · rw [hj0] at hjx
      subst hjx
      refine lv_tableIn (off := 107) (tgt := 108) hx hb dX3_count_1 (by decide +kernel) (by decide +kernel) (by decide +kernel) (by decide) ?_
      refine lv_aload_n hx hb dX3_count_108 rfl (lv_at hl 0 rfl) ?_
      refine va_get (D := (dC, dI)) (ci := 3) (v := .int 0) (C := RX3) (T := TX3) (N := 9) hx hb hg inX3 hown hK hP 0 rfl rfl 8 (by decide) (hg _ kF_X3_128) (fun _ h9 => h9) rfl dX3_count_109 ?_
      exact W.iret (v := 0) hx hb hr (fun t ht hW => ⟨_, rfl, (by first | exact (if_pos hsw).symm | (unfold fCount; rw [if_neg (by decide +kernel)]; first | exact (if_pos (by decide +kernel)).symm | exact (if_neg (by decide +kernel)).symm)), ht⟩) (fun _ h => by cases h) dX3_count_112
