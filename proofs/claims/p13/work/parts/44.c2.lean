/-- a MESSAGE into the slot behind the last one -/
def cSnd (σ : CS) (q1 q2 q3 q4 : Int32) : CS := cA_ (cA_ (cA_ (cA_ σ 1 0 2 (nI (slN σ (lnN σ))).toNatClampNeg q1) 1 0 3 (nI (slN σ (lnN σ))).toNatClampNeg q2) 1 0 4 (nI (slN σ (lnN σ))).toNatClampNeg q3) 1 0 5 (nI (slN σ (lnN σ))).toNatClampNeg q4
def cLen (σ : CS) : CS := cI_ (cI_ σ 1 0 8 (σ.1 1 0 8 + 1)) 1 0 9 (σ.1 1 0 9 + 1)
def cSend0 (σ : CS) (q1 q2 q3 q4 : Int32) : CS := cLen (cSnd σ q1 q2 q3 q4)
def cSendV (n k f : Nat) (σ : CS) (q1 q2 q3 q4 : Int32) : CS := cLen (cR_ (cSnd σ q1 q2 q3 q4) 1 0 6 (va_cpy (σ.2.1 2 k f) (σ.2.1 1 0 6) 0 (slN σ (lnN σ) * n) n))
set_option maxHeartbeats 4000000 in
set_option maxRecDepth 100000 in
theorem k_send0 (l : Launch) (D : va_G) (cI cZ cN cO : ClassId) (A : Nat → Prop) (E : CE) (n bg : Nat) (σ : CS) (q1 q2 q3 q4 : Int32) (ok : cOK n bg σ) (hl2 : lnN σ < 2000) (h2 : vp_in q2 n) (h3 : vp_in q3 n) : Met l yX2_send (.code yX2_send cX2_send 7 none :: gw) ({ frames := 0, cells := 0, slots := 0, locals := 0 }) (va_Pc (.ref (E.1 2) :: [.int q1, .int q2, .int q3, .int q4, .null]) (cH D cI cZ cN cO A E n bg σ)) (va_Qv (fun _ : Unit => True) (fun _ t => cH D cI cZ cN cO A E n bg (cSend0 σ q1 q2 q3 q4) t ∧ cOK n bg (cSend0 σ q1 q2 q3 q4)) A) 0 0 A := by
  refine Met.ofW (cc := cX2_send) (maxL := 7) (ret := none) (by decide) rfl ?_
  intro p e s m args below meth c s₁ B hml hv
  obtain ⟨rfl, hP, hK, hD⟩ := hv
  have hx := B.exec
  have hb := B.bytes
  have hr := B.returns
  have hts := atoms_spec (ws := (.code yX2_send cX2_send 7 none :: gw)) B.pre
  have hg : ∀ w ∈ gw, w.before _ s = true := fun w h => hts w (List.mem_cons_of_mem _ h)
  have hown : s.vm.findClass RX2 = some m.cls := findClass_of_methodNamed B.named
  have hlocks := B.notSynchronized
  have C : Cx p c cX2_send s m _ RX2 D (gTy cI cZ cN cO) := ⟨hx, hb, hown, hg, hK⟩
  have w : cWd D cI cN cO A s.heap E n bg σ s.heap [] := ⟨hP, hD, va_S.rf⟩
  have hl := lv_entry ([.ref ((E.1 2)), .int q1, .int q2, .int q3, .int q4, .null]) (n := 7) (Nat.le_of_ble_eq_true rfl)
  rw [lg_entry_eq]
  generalize (lg_sl ([.ref ((E.1 2)), .int q1, .int q2, .int q3, .int q4, .null]) ++ List.replicate (7 - (lg_sl ([.ref ((E.1 2)), .int q1, .int q2, .int q3, .int q4, .null])).length) Slot.unset).toArray = ls at hl ⊢
  have hl : lv_has ls 7 [(0, .ref ((E.1 2))), (1, .int q1), (2, .int q2), (3, .int q3), (4, .int q4), (5, .null)] := hl
  have hsl := (ok.sln (lnN σ)).2
  have ok0 := ok
  refine lv_aload_n hx hb dX2_send_0 rfl (lv_at hl 0 rfl) ?_
  refine c_gX2_1 C w kF_X2_9 dX2_send_1 ?_
  refine lv_aload_n hx hb dX2_send_4 rfl (lv_at hl 0 rfl) ?_
  refine c_gX2_7 C w kF_X2_37 dX2_send_5 ?_
  refine lv_topi (fun t_1 et_1 => ?_)
  refine lv_aload_n hx hb dX2_send_8 rfl (lv_at hl 0 rfl) ?_
  refine c_gX2_8 C w kF_X2_34 dX2_send_9 ?_
  refine lv_topi (fun t_2 et_2 => ?_)
  refine lv_iadd hx hb dX2_send_12 ?_
  refine lv_topi (fun t_3 et_3 => ?_)
  refine lv_sipush (v := 2000) hx hb dX2_send_13 (by decide) ?_
  have hrem : t_3 - t_3 / 2000 * 2000 = nI ((hdN σ + lnN σ) % 2000) := gRem (a := hdN σ + lnN σ) (by have := ok.hdn.2; omega) (by rw [et_3, et_1, et_2, ok.hdn.1, ok.lnn.1, nI_add])
  refine lv_irem hx hb dX2_send_16 (by decide) ?_
  rw [hrem]
  refine c_lR1 C w (vp_in_nI (Nat.mod_lt _ (by decide)) (by decide)) dX2_send_17 ?_
  rw [nI_clamp (by omega), (ok.sln (lnN σ)).1]
  refine lv_istore (lv' := [(6, _), (0, _), (1, _), (2, _), (3, _), (4, _), (5, _)]) C.1 C.2.1 dX2_send_18 hl (by decide) rfl (fun ls hl => ?_)
  refine lv_aload_n hx hb dX2_send_20 rfl (lv_at hl 1 rfl) ?_
  refine c_gX2_2 C w kF_X2_15 dX2_send_21 ?_
  refine lv_iload hx hb dX2_send_24 (lv_at hl 0 rfl) ?_
  refine lv_iload_n hx hb dX2_send_26 rfl (lv_at hl 2 rfl) ?_
  refine c_sR2 (v := q1) C w (vp_in_nI hsl (by decide)) dX2_send_27 (fun H locs w => ?_)
  have ok : cOK n bg _ := cOK.st ok (kd := 1) (ix := 0) (f := 2) (i := (nI (slN σ (lnN σ))).toNatClampNeg) (v := q1) (fun _ => ⟨fun h => by omega, fun h => by omega⟩)
  refine lv_aload_n hx hb dX2_send_28 rfl (lv_at hl 1 rfl) ?_
  refine c_gX2_3 C w kF_X2_18 dX2_send_29 ?_
  refine lv_iload hx hb dX2_send_32 (lv_at hl 0 rfl) ?_
  refine lv_iload_n hx hb dX2_send_34 rfl (lv_at hl 3 rfl) ?_
  refine c_sR3 (v := q2) C w (vp_in_nI hsl (by decide)) dX2_send_35 (fun H locs w => ?_)
  have ok : cOK n bg _ := cOK.st ok (kd := 1) (ix := 0) (f := 3) (i := (nI (slN σ (lnN σ))).toNatClampNeg) (v := q2) (fun _ => ⟨fun h => by omega, fun _ => h2⟩)
  refine lv_aload_n hx hb dX2_send_36 rfl (lv_at hl 1 rfl) ?_
  refine c_gX2_4 C w kF_X2_21 dX2_send_37 ?_
  refine lv_iload hx hb dX2_send_40 (lv_at hl 0 rfl) ?_
  refine lv_iload_n hx hb dX2_send_42 rfl (lv_at hl 4 rfl) ?_
  refine c_sR4 (v := q3) C w (vp_in_nI hsl (by decide)) dX2_send_43 (fun H locs w => ?_)
  have ok : cOK n bg _ := cOK.st ok (kd := 1) (ix := 0) (f := 4) (i := (nI (slN σ (lnN σ))).toNatClampNeg) (v := q3) (fun _ => ⟨fun h => by omega, fun _ => h3⟩)
  refine lv_aload_n hx hb dX2_send_44 rfl (lv_at hl 1 rfl) ?_
  refine c_gX2_5 C w kF_X2_24 dX2_send_45 ?_
  refine lv_iload hx hb dX2_send_48 (lv_at hl 0 rfl) ?_
  refine lv_iload hx hb dX2_send_50 (lv_at hl 5 rfl) ?_
  refine c_sR5 (v := q4) C w (vp_in_nI hsl (by decide)) dX2_send_52 (fun H locs w => ?_)
  have ok : cOK n bg _ := cOK.st ok (kd := 1) (ix := 0) (f := 5) (i := (nI (slN σ (lnN σ))).toNatClampNeg) (v := q4) (fun _ => ⟨fun h => by omega, fun h => by omega⟩)
  refine lv_aloadN hx hb dX2_send_53 (lv_at hl 6 rfl) ?_
  refine lv_ifnullN (tgt := 79) hx hb dX2_send_55 (by decide) ?_
  refine lv_aload_n hx hb dX2_send_79 rfl (lv_at hl 1 rfl) ?_
  refine lv_dup hx hb dX2_send_80 rfl ?_
  refine c_gX2_8 C w kF_X2_34 dX2_send_81 ?_
  refine lv_topi (fun t_4 et_4 => ?_)
  refine lv_iconst (v := 1) hx hb dX2_send_84 (by decide) ?_
  refine lv_iadd hx hb dX2_send_85 ?_
  refine lv_topi (fun t_5 et_5 => ?_)
  refine c_pX2_8 (v := t_5) C w kF_X2_34 dX2_send_86 (fun H locs w => ?_)
  have ok : cOK n bg _ := cOK.len ok (v := t_5) (by rw [et_5, et_4]; show vp_in (σ.1 1 0 8 + 1) 2001; rw [ok0.lnn.1, nI_1]; exact vp_in_nI (by omega) (by decide))
  refine lv_aload_n hx hb dX2_send_89 rfl (lv_at hl 1 rfl) ?_
  refine lv_dup hx hb dX2_send_90 rfl ?_
  refine c_gX2_9 C w kF_X2_46 dX2_send_91 ?_
  refine lv_topi (fun t_6 et_6 => ?_)
  refine lv_iconst (v := 1) hx hb dX2_send_94 (by decide) ?_
  refine lv_iadd hx hb dX2_send_95 ?_
  refine lv_topi (fun t_7 et_7 => ?_)
  refine c_pX2_9 (v := t_7) C w kF_X2_46 dX2_send_96 (fun H locs w => ?_)
  have ok : cOK n bg _ := cOK.put ok (kd := 1) (ix := 0) (f := 9) (v := t_7) rfl
  subst et_7 et_6 et_5 et_4
  exact W.vret hx hb hr (fun t ht hW => ⟨⟨(), rfl, trivial, ⟨by rw [ht]; exact w.1, va_K.moved hW.alike hK, w.2.1⟩, ok⟩, w.2.2.F ht⟩) w.2.2.2.2 dX2_send_99
set_option maxHeartbeats 4000000 in
set_option maxRecDepth 100000 in
theorem k_sendV (l : Launch) (D : va_G) (cI cZ cN cO : ClassId) (A : Nat → Prop) (E : CE) (n bg : Nat) (σ : CS) (q1 q2 q3 q4 : Int32) (k f : Nat) (ok : cOK n bg σ) (hl2 : lnN σ < 2000) (h2 : vp_in q2 n) (h3 : vp_in q3 n) (hk : k < n) (hf : 1 ≤ f ∧ f ≤ 5) : Met l yX2_send (.code yX2_send cX2_send 7 none :: gw) ({ frames := 1, cells := 0, slots := 0, locals := 40 }) (va_Pc (.ref (E.1 2) :: [.int q1, .int q2, .int q3, .int q4, .ref ((E.2.2.2.1 k f))]) (cH D cI cZ cN cO A E n bg σ)) (va_Qv (fun _ : Unit => True) (fun _ t => cH D cI cZ cN cO A E n bg (cSendV n k f σ q1 q2 q3 q4) t ∧ cOK n bg (cSendV n k f σ q1 q2 q3 q4)) A) 0 0 A := by
  refine Met.ofW (cc := cX2_send) (maxL := 7) (ret := none) (by decide) rfl ?_
  intro p e s m args below meth c s₁ B hml hv
  obtain ⟨rfl, hP, hK, hD⟩ := hv
  have hx := B.exec
  have hb := B.bytes
  have hr := B.returns
  have hts := atoms_spec (ws := (.code yX2_send cX2_send 7 none :: gw)) B.pre
  have hg : ∀ w ∈ gw, w.before _ s = true := fun w h => hts w (List.mem_cons_of_mem _ h)
  have hown : s.vm.findClass RX2 = some m.cls := findClass_of_methodNamed B.named
  have hlocks := B.notSynchronized
  have C : Cx p c cX2_send s m _ RX2 D (gTy cI cZ cN cO) := ⟨hx, hb, hown, hg, hK⟩
  have w : cWd D cI cN cO A s.heap E n bg σ s.heap [] := ⟨hP, hD, va_S.rf⟩
  have hl := lv_entry ([.ref ((E.1 2)), .int q1, .int q2, .int q3, .int q4, .ref ((E.2.2.2.1 k f))]) (n := 7) (Nat.le_of_ble_eq_true rfl)
  rw [lg_entry_eq]
  generalize (lg_sl ([.ref ((E.1 2)), .int q1, .int q2, .int q3, .int q4, .ref ((E.2.2.2.1 k f))]) ++ List.replicate (7 - (lg_sl ([.ref ((E.1 2)), .int q1, .int q2, .int q3, .int q4, .ref ((E.2.2.2.1 k f))])).length) Slot.unset).toArray = ls at hl ⊢
  have hl : lv_has ls 7 [(0, .ref ((E.1 2))), (1, .int q1), (2, .int q2), (3, .int q3), (4, .int q4), (5, .ref ((E.2.2.2.1 k f)))] := hl
  have hsl := (ok.sln (lnN σ)).2
  have ok0 := ok
  refine lv_aload_n hx hb dX2_send_0 rfl (lv_at hl 0 rfl) ?_
  refine c_gX2_1 C w kF_X2_9 dX2_send_1 ?_
  refine lv_aload_n hx hb dX2_send_4 rfl (lv_at hl 0 rfl) ?_
  refine c_gX2_7 C w kF_X2_37 dX2_send_5 ?_
  refine lv_topi (fun t_1 et_1 => ?_)
  refine lv_aload_n hx hb dX2_send_8 rfl (lv_at hl 0 rfl) ?_
  refine c_gX2_8 C w kF_X2_34 dX2_send_9 ?_
  refine lv_topi (fun t_2 et_2 => ?_)
  refine lv_iadd hx hb dX2_send_12 ?_
  refine lv_topi (fun t_3 et_3 => ?_)
  refine lv_sipush (v := 2000) hx hb dX2_send_13 (by decide) ?_
  have hrem : t_3 - t_3 / 2000 * 2000 = nI ((hdN σ + lnN σ) % 2000) := gRem (a := hdN σ + lnN σ) (by have := ok.hdn.2; omega) (by rw [et_3, et_1, et_2, ok.hdn.1, ok.lnn.1, nI_add])
  refine lv_irem hx hb dX2_send_16 (by decide) ?_
  rw [hrem]
  refine c_lR1 C w (vp_in_nI (Nat.mod_lt _ (by decide)) (by decide)) dX2_send_17 ?_
  rw [nI_clamp (by omega), (ok.sln (lnN σ)).1]
  refine lv_istore (lv' := [(6, _), (0, _), (1, _), (2, _), (3, _), (4, _), (5, _)]) C.1 C.2.1 dX2_send_18 hl (by decide) rfl (fun ls hl => ?_)
  refine lv_aload_n hx hb dX2_send_20 rfl (lv_at hl 1 rfl) ?_
  refine c_gX2_2 C w kF_X2_15 dX2_send_21 ?_
  refine lv_iload hx hb dX2_send_24 (lv_at hl 0 rfl) ?_
  refine lv_iload_n hx hb dX2_send_26 rfl (lv_at hl 2 rfl) ?_
  refine c_sR2 (v := q1) C w (vp_in_nI hsl (by decide)) dX2_send_27 (fun H locs w => ?_)
  have ok : cOK n bg _ := cOK.st ok (kd := 1) (ix := 0) (f := 2) (i := (nI (slN σ (lnN σ))).toNatClampNeg) (v := q1) (fun _ => ⟨fun h => by omega, fun h => by omega⟩)
  refine lv_aload_n hx hb dX2_send_28 rfl (lv_at hl 1 rfl) ?_
  refine c_gX2_3 C w kF_X2_18 dX2_send_29 ?_
  refine lv_iload hx hb dX2_send_32 (lv_at hl 0 rfl) ?_
  refine lv_iload_n hx hb dX2_send_34 rfl (lv_at hl 3 rfl) ?_
  refine c_sR3 (v := q2) C w (vp_in_nI hsl (by decide)) dX2_send_35 (fun H locs w => ?_)
  have ok : cOK n bg _ := cOK.st ok (kd := 1) (ix := 0) (f := 3) (i := (nI (slN σ (lnN σ))).toNatClampNeg) (v := q2) (fun _ => ⟨fun h => by omega, fun _ => h2⟩)
  refine lv_aload_n hx hb dX2_send_36 rfl (lv_at hl 1 rfl) ?_
  refine c_gX2_4 C w kF_X2_21 dX2_send_37 ?_
  refine lv_iload hx hb dX2_send_40 (lv_at hl 0 rfl) ?_
  refine lv_iload_n hx hb dX2_send_42 rfl (lv_at hl 4 rfl) ?_
  refine c_sR4 (v := q3) C w (vp_in_nI hsl (by decide)) dX2_send_43 (fun H locs w => ?_)
  have ok : cOK n bg _ := cOK.st ok (kd := 1) (ix := 0) (f := 4) (i := (nI (slN σ (lnN σ))).toNatClampNeg) (v := q3) (fun _ => ⟨fun h => by omega, fun _ => h3⟩)
  refine lv_aload_n hx hb dX2_send_44 rfl (lv_at hl 1 rfl) ?_
  refine c_gX2_5 C w kF_X2_24 dX2_send_45 ?_
  refine lv_iload hx hb dX2_send_48 (lv_at hl 0 rfl) ?_
  refine lv_iload hx hb dX2_send_50 (lv_at hl 5 rfl) ?_
  refine c_sR5 (v := q4) C w (vp_in_nI hsl (by decide)) dX2_send_52 (fun H locs w => ?_)
  have ok : cOK n bg _ := cOK.st ok (kd := 1) (ix := 0) (f := 5) (i := (nI (slN σ (lnN σ))).toNatClampNeg) (v := q4) (fun _ => ⟨fun h => by omega, fun h => by omega⟩)
  refine lv_aload hx hb dX2_send_53 (lv_at hl 6 rfl) ?_
  refine lv_ifnull hx hb dX2_send_55 ?_
  refine lv_aload hx hb dX2_send_58 (lv_at hl 6 rfl) ?_
  refine lv_iconst (v := 0) hx hb dX2_send_60 (by decide) ?_
  refine lv_aload_n hx hb dX2_send_61 rfl (lv_at hl 1 rfl) ?_
  refine c_gX2_6 C w kF_X2_31 dX2_send_62 ?_
  refine lv_iload hx hb dX2_send_65 (lv_at hl 0 rfl) ?_
  refine lv_aload_n hx hb dX2_send_67 rfl (lv_at hl 1 rfl) ?_
  refine c_gX2_0 C w kF_X2_27 dX2_send_68 ?_
  rw [ok.wd]
  refine lv_imul hx hb dX2_send_71 ?_
  rw [nI_mul]
  refine lv_aload_n hx hb dX2_send_72 rfl (lv_at hl 1 rfl) ?_
  refine c_gX2_0 C w kF_X2_27 dX2_send_73 ?_
  rw [ok.wd]
  refine c_copy C w (hml.trans hl.1.symm) hk hf kM_X2_40 kZ_native_arraycopyName kT_arraycopyName kN_java_lang_System hsl ok.2.1 (Nat.le_of_ble_eq_true rfl) (by decide +kernel) dX2_send_76 (fun H locs w => ?_)
  have ok : cOK n bg _ := cOK.row ok (kd := 1) (ix := 0) (f := 6) (r := va_cpy (σ.2.1 2 k f) (σ.2.1 1 0 6) 0 (slN σ (lnN σ) * n) n) (fun _ => ⟨fun h => by omega, fun h => by omega⟩)
  refine lv_aload_n hx hb dX2_send_79 rfl (lv_at hl 1 rfl) ?_
  refine lv_dup hx hb dX2_send_80 rfl ?_
  refine c_gX2_8 C w kF_X2_34 dX2_send_81 ?_
  refine lv_topi (fun t_4 et_4 => ?_)
  refine lv_iconst (v := 1) hx hb dX2_send_84 (by decide) ?_
  refine lv_iadd hx hb dX2_send_85 ?_
  refine lv_topi (fun t_5 et_5 => ?_)
  refine c_pX2_8 (v := t_5) C w kF_X2_34 dX2_send_86 (fun H locs w => ?_)
  have ok : cOK n bg _ := cOK.len ok (v := t_5) (by rw [et_5, et_4]; show vp_in (σ.1 1 0 8 + 1) 2001; rw [ok0.lnn.1, nI_1]; exact vp_in_nI (by omega) (by decide))
  refine lv_aload_n hx hb dX2_send_89 rfl (lv_at hl 1 rfl) ?_
  refine lv_dup hx hb dX2_send_90 rfl ?_
  refine c_gX2_9 C w kF_X2_46 dX2_send_91 ?_
  refine lv_topi (fun t_6 et_6 => ?_)
  refine lv_iconst (v := 1) hx hb dX2_send_94 (by decide) ?_
  refine lv_iadd hx hb dX2_send_95 ?_
  refine lv_topi (fun t_7 et_7 => ?_)
  refine c_pX2_9 (v := t_7) C w kF_X2_46 dX2_send_96 (fun H locs w => ?_)
  have ok : cOK n bg _ := cOK.put ok (kd := 1) (ix := 0) (f := 9) (v := t_7) rfl
  subst et_7 et_6 et_5 et_4
  exact W.vret hx hb hr (fun t ht hW => ⟨⟨(), rfl, trivial, ⟨by rw [ht]; exact w.1, va_K.moved hW.alike hK, w.2.1⟩, ok⟩, w.2.2.F ht⟩) w.2.2.2.2 dX2_send_99
theorem gNum {n j i : Nat} (hj : j < 2000) (hi : i < n) (hn : n ≤ 31) : vp_in (nI (j * n + i)) (2000 * n) := by
  have hb : j * n + n ≤ 2000 * n := by rw [← Nat.succ_mul]; exact Nat.mul_le_mul_right n hj
  exact vp_in_nI (by omega) (by omega)
set_option maxHeartbeats 4000000 in
set_option maxRecDepth 100000 in
theorem k_X2_numberOf (l : Launch) (D : va_G) (cI cZ cN cO : ClassId) (A : Nat → Prop) (E : CE) (n bg : Nat) (σ : CS) (j i : Nat) (ok : cOK n bg σ) (hj : j ≤ 2000) (hi : i < n) : Met l yX2_numberOf (.code yX2_numberOf cX2_numberOf 4 (some .int) :: gw) ({ frames := 1, cells := 0, slots := 0, locals := 21 }) (va_Pc (.ref (E.1 2) :: [.int (nI j), .int (nI i)]) (cH D cI cZ cN cO A E n bg σ)) (vp_Si (fun r => r = if σ.2.1 1 0 2 (slN σ j) = 1 ∨ σ.2.1 1 0 2 (slN σ j) = 2 then σ.2.1 1 0 6 (slN σ j * n + i) else -1)) 0 0 (fun _ => False) := by
  refine Met.ofW (cc := cX2_numberOf) (maxL := 4) (ret := (some .int)) (by decide) rfl ?_
  intro p e s m args below meth c s₁ B hml hv
  obtain ⟨rfl, hP, hK, hD⟩ := hv
  have hx := B.exec
  have hb := B.bytes
  have hr := B.returns
  have hts := atoms_spec (ws := (.code yX2_numberOf cX2_numberOf 4 (some .int) :: gw)) B.pre
  have hg : ∀ w ∈ gw, w.before _ s = true := fun w h => hts w (List.mem_cons_of_mem _ h)
  have hown : s.vm.findClass RX2 = some m.cls := findClass_of_methodNamed B.named
  have hlocks := B.notSynchronized
  have C : Cx p c cX2_numberOf s m _ RX2 D (gTy cI cZ cN cO) := ⟨hx, hb, hown, hg, hK⟩
  have w : cWd D cI cN cO A s.heap E n bg σ s.heap [] := ⟨hP, hD, va_S.rf⟩
  have hl := lv_entry ([.ref ((E.1 2)), .int (nI j), .int (nI i)]) (n := 4) (Nat.le_of_ble_eq_true rfl)
  rw [lg_entry_eq]
  generalize (lg_sl ([.ref ((E.1 2)), .int (nI j), .int (nI i)]) ++ List.replicate (4 - (lg_sl ([.ref ((E.1 2)), .int (nI j), .int (nI i)])).length) Slot.unset).toArray = ls at hl ⊢
  have hl : lv_has ls 4 [(0, .ref ((E.1 2))), (1, .int (nI j)), (2, .int (nI i))] := hl
  refine lv_aload_n hx hb dX2_numberOf_0 rfl (lv_at hl 0 rfl) ?_
  refine lv_iload_n hx hb dX2_numberOf_1 rfl (lv_at hl 1 rfl) ?_
  refine c_callp (As := [.int (nI j)]) (rest := []) C (c_preX2 C w) hml hl.1 (k_X2_slotOf l D cI cZ cN cO A E n bg _ j ok hj) kM_X2_49 kI_X2_slotOf kS_X2_slotOf kN_X2 kD_X2_slotOf (show yX2_slotOf.cls = RX2 ∧ yX2_slotOf.cls ≠ "java/lang/invoke/MethodHandle" ∧ yX2_slotOf.cls ≠ "java/lang/invoke/VarHandle" ∧ (parseMethodDescriptor yX2_slotOf.desc).map (fun d => d.parameters.length) = some 1 from by decide +kernel) rfl rfl ⟨Nat.le_of_ble_eq_true rfl, Nat.le_of_ble_eq_true rfl⟩ rfl (lv_room (Nat.le_of_ble_eq_true rfl)) dX2_numberOf_2 ⟨Nat.zero_le _, Nat.zero_le _⟩ (fun r_1 hr_1 => ?_)
  rw [hr_1]
  refine lv_istore_n (lv' := [(3, _), (0, _), (1, _), (2, _)]) C.1 C.2.1 dX2_numberOf_5 rfl hl (by decide) rfl (fun ls hl => ?_)
  refine lv_aload_n hx hb dX2_numberOf_6 rfl (lv_at hl 1 rfl) ?_
  refine c_gX2_2 C w kF_X2_15 dX2_numberOf_7 ?_
  refine lv_iload_n hx hb dX2_numberOf_10 rfl (lv_at hl 0 rfl) ?_
  refine c_lR2 C w (vp_in_nI (ok.sln j).2 (by decide)) dX2_numberOf_11 ?_
  refine lv_topi (fun t_2 et_2 => ?_)
  refine lv_iconst (v := 1) hx hb dX2_numberOf_12 (by decide) ?_
  refine lv_icmp_eq (tgt := 26) hx hb dX2_numberOf_13 (by decide) (fun c_13 => ?_) (fun c_13 => ?_)
  · refine lv_aload_n hx hb dX2_numberOf_26 rfl (lv_at hl 1 rfl) ?_
    refine c_gX2_6 C w kF_X2_31 dX2_numberOf_27 ?_
    refine lv_iload_n hx hb dX2_numberOf_30 rfl (lv_at hl 0 rfl) ?_
    refine lv_aload_n hx hb dX2_numberOf_31 rfl (lv_at hl 1 rfl) ?_
    refine c_gX2_0 C w kF_X2_27 dX2_numberOf_32 ?_
    rw [ok.wd]
    refine lv_imul hx hb dX2_numberOf_35 ?_
    rw [nI_mul]
    refine lv_iload_n hx hb dX2_numberOf_36 rfl (lv_at hl 3 rfl) ?_
    refine lv_iadd hx hb dX2_numberOf_37 ?_
    rw [nI_add]
    refine c_lR6 C w (gNum (ok.sln j).2 hi ok.2.1) dX2_numberOf_38 ?_
    refine lv_topi (fun t_3 et_3 => ?_)
    refine lv_goto (tgt := 43) hx hb dX2_numberOf_39 (by decide) ?_
    have hc := c_13; rw [et_2, nI_clamp (by have := (ok.sln j).2; omega)] at hc
    exact W.iret hx hb hr (fun t ht hW => ⟨_, rfl, (by rw [if_pos (show σ.2.1 1 0 2 (slN σ j) = 1 ∨ σ.2.1 1 0 2 (slN σ j) = 2 from Or.inl hc), et_3, nI_clamp (by have := gNum (ok.sln j).2 hi ok.2.1; rw [vp_in_iff] at this; have h2 := ok.2.1; have h3 := Nat.mul_le_mul (Nat.le_of_lt (ok.sln j).2) h2; omega)]), ht⟩) (fun _ h => by cases h) dX2_numberOf_43
  · refine lv_aload_n hx hb dX2_numberOf_16 rfl (lv_at hl 1 rfl) ?_
    refine c_gX2_2 C w kF_X2_15 dX2_numberOf_17 ?_
    refine lv_iload_n hx hb dX2_numberOf_20 rfl (lv_at hl 0 rfl) ?_
    refine c_lR2 C w (vp_in_nI (ok.sln j).2 (by decide)) dX2_numberOf_21 ?_
    refine lv_topi (fun t_4 et_4 => ?_)
    refine lv_iconst (v := 2) hx hb dX2_numberOf_22 (by decide) ?_
    refine lv_icmp_ne (tgt := 42) hx hb dX2_numberOf_23 (by decide) (fun c_23 => ?_) (fun c_23 => ?_)
    · refine lv_iconst (v := (-1)) hx hb dX2_numberOf_42 (by decide) ?_
      have hc := c_13; rw [et_2, nI_clamp (by have := (ok.sln j).2; omega)] at hc
      have hd := c_23; rw [et_4, nI_clamp (by have := (ok.sln j).2; omega)] at hd
      exact W.iret hx hb hr (fun t ht hW => ⟨_, rfl, (by rw [if_neg (show ¬ (σ.2.1 1 0 2 (slN σ j) = 1 ∨ σ.2.1 1 0 2 (slN σ j) = 2) from fun h => h.elim hc hd)]), ht⟩) (fun _ h => by cases h) dX2_numberOf_43
    · refine lv_aload_n hx hb dX2_numberOf_26 rfl (lv_at hl 1 rfl) ?_
      refine c_gX2_6 C w kF_X2_31 dX2_numberOf_27 ?_
      refine lv_iload_n hx hb dX2_numberOf_30 rfl (lv_at hl 0 rfl) ?_
      refine lv_aload_n hx hb dX2_numberOf_31 rfl (lv_at hl 1 rfl) ?_
      refine c_gX2_0 C w kF_X2_27 dX2_numberOf_32 ?_
      rw [ok.wd]
      refine lv_imul hx hb dX2_numberOf_35 ?_
      rw [nI_mul]
      refine lv_iload_n hx hb dX2_numberOf_36 rfl (lv_at hl 3 rfl) ?_
      refine lv_iadd hx hb dX2_numberOf_37 ?_
      rw [nI_add]
      refine c_lR6 C w (gNum (ok.sln j).2 hi ok.2.1) dX2_numberOf_38 ?_
      refine lv_topi (fun t_5 et_5 => ?_)
      refine lv_goto (tgt := 43) hx hb dX2_numberOf_39 (by decide) ?_
      have hc := c_23; rw [et_4, nI_clamp (by have := (ok.sln j).2; omega)] at hc
      exact W.iret hx hb hr (fun t ht hW => ⟨_, rfl, (by rw [if_pos (show σ.2.1 1 0 2 (slN σ j) = 1 ∨ σ.2.1 1 0 2 (slN σ j) = 2 from Or.inr hc), et_5, nI_clamp (by have := gNum (ok.sln j).2 hi ok.2.1; rw [vp_in_iff] at this; have h2 := ok.2.1; have h3 := Nat.mul_le_mul (Nat.le_of_lt (ok.sln j).2) h2; omega)]), ht⟩) (fun _ h => by cases h) dX2_numberOf_43
set_option maxHeartbeats 4000000 in
set_option maxRecDepth 100000 in
theorem k_X2_tell (l : Launch) (D : va_G) (cI cZ cN cO : ClassId) (A : Nat → Prop) (E : CE) (n bg : Nat) (σ : CS) (jq : Nat) (p1 : Int32) (ok : cOK n bg σ) (hj : jq ≤ 2000) : Met l yX2_tell (.code yX2_tell cX2_tell 4 (some .int) :: gw) ({ frames := 1, cells := 0, slots := 0, locals := 21 }) (va_Pc (.ref (E.1 2) :: [.int (nI jq), .int p1]) (cH D cI cZ cN cO A E n bg σ)) (vp_Si (fun r => r = if p1.toInt < 0 ∨ 3 < p1.toInt then -1 else if p1 = 0 then σ.2.1 1 0 2 (slN σ jq) else if p1 = 1 then σ.2.1 1 0 3 (slN σ jq) else if p1 = 2 then σ.2.1 1 0 4 (slN σ jq) else σ.2.1 1 0 5 (slN σ jq))) 0 0 (fun _ => False) := by
  refine Met.ofW (cc := cX2_tell) (maxL := 4) (ret := (some .int)) (by decide) rfl ?_
  intro p e s m args below meth c s₁ B hml hv
  obtain ⟨rfl, hP, hK, hD⟩ := hv
  have hx := B.exec
  have hb := B.bytes
  have hr := B.returns
  have hts := atoms_spec (ws := (.code yX2_tell cX2_tell 4 (some .int) :: gw)) B.pre
  have hg : ∀ w ∈ gw, w.before _ s = true := fun w h => hts w (List.mem_cons_of_mem _ h)
  have hown : s.vm.findClass RX2 = some m.cls := findClass_of_methodNamed B.named
  have hlocks := B.notSynchronized
  have C : Cx p c cX2_tell s m _ RX2 D (gTy cI cZ cN cO) := ⟨hx, hb, hown, hg, hK⟩
  have w : cWd D cI cN cO A s.heap E n bg σ s.heap [] := ⟨hP, hD, va_S.rf⟩
  have hl := lv_entry ([.ref ((E.1 2)), .int (nI jq), .int p1]) (n := 4) (Nat.le_of_ble_eq_true rfl)
  rw [lg_entry_eq]
  generalize (lg_sl ([.ref ((E.1 2)), .int (nI jq), .int p1]) ++ List.replicate (4 - (lg_sl ([.ref ((E.1 2)), .int (nI jq), .int p1])).length) Slot.unset).toArray = ls at hl ⊢
  have hl : lv_has ls 4 [(0, .ref ((E.1 2))), (1, .int (nI jq)), (2, .int p1)] := hl
  refine lv_aload_n hx hb dX2_tell_0 rfl (lv_at hl 0 rfl) ?_
  refine lv_iload_n hx hb dX2_tell_1 rfl (lv_at hl 1 rfl) ?_
  refine c_callp (As := [.int (nI jq)]) (rest := []) C (c_preX2 C w) hml hl.1 (k_X2_slotOf l D cI cZ cN cO A E n bg _ jq ok hj) kM_X2_49 kI_X2_slotOf kS_X2_slotOf kN_X2 kD_X2_slotOf (show yX2_slotOf.cls = RX2 ∧ yX2_slotOf.cls ≠ "java/lang/invoke/MethodHandle" ∧ yX2_slotOf.cls ≠ "java/lang/invoke/VarHandle" ∧ (parseMethodDescriptor yX2_slotOf.desc).map (fun d => d.parameters.length) = some 1 from by decide +kernel) rfl rfl ⟨Nat.le_of_ble_eq_true rfl, Nat.le_of_ble_eq_true rfl⟩ rfl (lv_room (Nat.le_of_ble_eq_true rfl)) dX2_tell_2 ⟨Nat.zero_le _, Nat.zero_le _⟩ (fun r_1 hr_1 => ?_)
  rw [hr_1]
  refine lv_istore_n (lv' := [(3, _), (0, _), (1, _), (2, _)]) C.1 C.2.1 dX2_tell_5 rfl hl (by decide) rfl (fun ls hl => ?_)
  refine lv_iload_n hx hb dX2_tell_6 rfl (lv_at hl 3 rfl) ?_
  rcases gSw p1 3 3 rfl (by decide) with hsw | ⟨j, hj, hjx⟩
  · refine lv_tableOut (tgt := 64) hx hb dX2_tell_7 hsw (by decide) ?_
    refine lv_iconst (v := (-1)) hx hb dX2_tell_64 (by decide) ?_
    exact W.iret hx hb hr (fun t ht hW => ⟨_, rfl, (by first | (rw [if_pos hsw]) | (rw [if_neg (by decide +kernel)]; first | (rw [if_pos (by decide +kernel), rfl, nI_clamp (by have := (ok.sln jq).2; omega)]) | (rw [if_neg (by decide +kernel), if_pos (by decide +kernel), rfl, nI_clamp (by have := (ok.sln jq).2; omega)]) | (rw [if_neg (by decide +kernel), if_neg (by decide +kernel), if_pos (by decide +kernel), rfl, nI_clamp (by have := (ok.sln jq).2; omega)]) | (rw [if_neg (by decide +kernel), if_neg (by decide +kernel), if_neg (by decide +kernel), rfl, nI_clamp (by have := (ok.sln jq).2; omega)]))), ht⟩) (fun _ h => by cases h) dX2_tell_65
  · rcases (show j = 0 ∨ j = 1 ∨ j = 2 ∨ j = 3 by omega) with hj0 | hj0 | hj0 | hj0
    · rw [hj0] at hjx
      subst hjx
      refine lv_tableIn (off := 29) (tgt := 36) hx hb dX2_tell_7 (by decide +kernel) (by decide +kernel) (by decide +kernel) (by decide) ?_
      refine lv_aload_n hx hb dX2_tell_36 rfl (lv_at hl 1 rfl) ?_
      refine c_gX2_2 C w kF_X2_15 dX2_tell_37 ?_
      refine lv_iload_n hx hb dX2_tell_40 rfl (lv_at hl 0 rfl) ?_
      refine c_lR2 C w (vp_in_nI (ok.sln jq).2 (by decide)) dX2_tell_41 ?_
      refine lv_topi (fun t_2 et_2 => ?_)
      exact W.iret hx hb hr (fun t ht hW => ⟨_, rfl, (by first | (rw [if_pos hsw]) | (rw [if_neg (by decide +kernel)]; first | (rw [if_pos (by decide +kernel), et_2, nI_clamp (by have := (ok.sln jq).2; omega)]) | (rw [if_neg (by decide +kernel), if_pos (by decide +kernel), et_2, nI_clamp (by have := (ok.sln jq).2; omega)]) | (rw [if_neg (by decide +kernel), if_neg (by decide +kernel), if_pos (by decide +kernel), et_2, nI_clamp (by have := (ok.sln jq).2; omega)]) | (rw [if_neg (by decide +kernel), if_neg (by decide +kernel), if_neg (by decide +kernel), et_2, nI_clamp (by have := (ok.sln jq).2; omega)]))), ht⟩) (fun _ h => by cases h) dX2_tell_42
    · rw [hj0] at hjx
      subst hjx
      refine lv_tableIn (off := 36) (tgt := 43) hx hb dX2_tell_7 (by decide +kernel) (by decide +kernel) (by decide +kernel) (by decide) ?_
      refine lv_aload_n hx hb dX2_tell_43 rfl (lv_at hl 1 rfl) ?_
      refine c_gX2_3 C w kF_X2_18 dX2_tell_44 ?_
      refine lv_iload_n hx hb dX2_tell_47 rfl (lv_at hl 0 rfl) ?_
      refine c_lR3 C w (vp_in_nI (ok.sln jq).2 (by decide)) dX2_tell_48 ?_
      refine lv_topi (fun t_3 et_3 => ?_)
      exact W.iret hx hb hr (fun t ht hW => ⟨_, rfl, (by first | (rw [if_pos hsw]) | (rw [if_neg (by decide +kernel)]; first | (rw [if_pos (by decide +kernel), et_3, nI_clamp (by have := (ok.sln jq).2; omega)]) | (rw [if_neg (by decide +kernel), if_pos (by decide +kernel), et_3, nI_clamp (by have := (ok.sln jq).2; omega)]) | (rw [if_neg (by decide +kernel), if_neg (by decide +kernel), if_pos (by decide +kernel), et_3, nI_clamp (by have := (ok.sln jq).2; omega)]) | (rw [if_neg (by decide +kernel), if_neg (by decide +kernel), if_neg (by decide +kernel), et_3, nI_clamp (by have := (ok.sln jq).2; omega)]))), ht⟩) (fun _ h => by cases h) dX2_tell_49
    · rw [hj0] at hjx
      subst hjx
      refine lv_tableIn (off := 43) (tgt := 50) hx hb dX2_tell_7 (by decide +kernel) (by decide +kernel) (by decide +kernel) (by decide) ?_
      refine lv_aload_n hx hb dX2_tell_50 rfl (lv_at hl 1 rfl) ?_
      refine c_gX2_4 C w kF_X2_21 dX2_tell_51 ?_
      refine lv_iload_n hx hb dX2_tell_54 rfl (lv_at hl 0 rfl) ?_
      refine c_lR4 C w (vp_in_nI (ok.sln jq).2 (by decide)) dX2_tell_55 ?_
      refine lv_topi (fun t_4 et_4 => ?_)
      exact W.iret hx hb hr (fun t ht hW => ⟨_, rfl, (by first | (rw [if_pos hsw]) | (rw [if_neg (by decide +kernel)]; first | (rw [if_pos (by decide +kernel), et_4, nI_clamp (by have := (ok.sln jq).2; omega)]) | (rw [if_neg (by decide +kernel), if_pos (by decide +kernel), et_4, nI_clamp (by have := (ok.sln jq).2; omega)]) | (rw [if_neg (by decide +kernel), if_neg (by decide +kernel), if_pos (by decide +kernel), et_4, nI_clamp (by have := (ok.sln jq).2; omega)]) | (rw [if_neg (by decide +kernel), if_neg (by decide +kernel), if_neg (by decide +kernel), et_4, nI_clamp (by have := (ok.sln jq).2; omega)]))), ht⟩) (fun _ h => by cases h) dX2_tell_56
    · rw [hj0] at hjx
      subst hjx
      refine lv_tableIn (off := 50) (tgt := 57) hx hb dX2_tell_7 (by decide +kernel) (by decide +kernel) (by decide +kernel) (by decide) ?_
      refine lv_aload_n hx hb dX2_tell_57 rfl (lv_at hl 1 rfl) ?_
      refine c_gX2_5 C w kF_X2_24 dX2_tell_58 ?_
      refine lv_iload_n hx hb dX2_tell_61 rfl (lv_at hl 0 rfl) ?_
      refine c_lR5 C w (vp_in_nI (ok.sln jq).2 (by decide)) dX2_tell_62 ?_
      refine lv_topi (fun t_5 et_5 => ?_)
      exact W.iret hx hb hr (fun t ht hW => ⟨_, rfl, (by first | (rw [if_pos hsw]) | (rw [if_neg (by decide +kernel)]; first | (rw [if_pos (by decide +kernel), et_5, nI_clamp (by have := (ok.sln jq).2; omega)]) | (rw [if_neg (by decide +kernel), if_pos (by decide +kernel), et_5, nI_clamp (by have := (ok.sln jq).2; omega)]) | (rw [if_neg (by decide +kernel), if_neg (by decide +kernel), if_pos (by decide +kernel), et_5, nI_clamp (by have := (ok.sln jq).2; omega)]) | (rw [if_neg (by decide +kernel), if_neg (by decide +kernel), if_neg (by decide +kernel), et_5, nI_clamp (by have := (ok.sln jq).2; omega)]))), ht⟩) (fun _ h => by cases h) dX2_tell_63
/-- each number of a row raised to the VECTOR's in slot j -/
def cRaise (n k f j : Nat) (σ : CS) : CS := cR_ σ 2 k f (mix (fun i => mx (σ.2.1 2 k f i) (σ.2.1 1 0 6 (j * n + i))) (σ.2.1 2 k f) n)
set_option maxHeartbeats 4000000 in
set_option maxRecDepth 100000 in
theorem kl_raise1 {p : Program} {l : Launch} {e : Env} {R : Room} {s : State} {m : MethodId} {args : Array Value} {below : List Frame} {meth : Method} {c : Code} {cells slots : Nat} {Q : State → Prop} {D : va_G} {cI cZ cN cO : ClassId} {A : Nat → Prop} {H0 : Heap} {E : CE} {n bg : Nat} (C : Cx p c cX2_raise s m args RX2 D (gTy cI cZ cN cO)) (hml : c.maxLocals = 4) {σ : CS} {k j : Nat} (hn : n ≤ 31) (hk : k < n) (hj : j < 2000) (hRf : 1 ≤ R.frames) (hRl : 24 ≤ R.locals) (hRc : cells + 0 ≤ R.cells) (hRs : slots + 0 ≤ R.slots) (kk : ∀ (H : Heap) (locs : List Loc), cWd D cI cN cO A H0 E n bg (cR_ σ 2 k 1 (mix (fun i => mx (σ.2.1 2 k 1 i) (σ.2.1 1 0 6 (j * n + i))) (σ.2.1 2 k 1) n)) H locs → cOK n bg (cR_ σ 2 k 1 (mix (fun i => mx (σ.2.1 2 k 1 i) (σ.2.1 1 0 6 (j * n + i))) (σ.2.1 2 k 1) n)) → ∀ ls : Array Slot, lv_has ls 4 [(3, .int (nI n)), (0, .ref ((E.1 2))), (1, .ref ((E.2.2.2.1 k 1))), (2, .int (nI j))] → W p l e R s m args below meth c H locs cells slots Q (F0 m 36 ls [])) : ∀ (fu i : Nat), i + fu = n → ∀ (H : Heap) (locs : List Loc), cWd D cI cN cO A H0 E n bg (cR_ σ 2 k 1 (mix (fun i => mx (σ.2.1 2 k 1 i) (σ.2.1 1 0 6 (j * n + i))) (σ.2.1 2 k 1) i)) H locs → cOK n bg (cR_ σ 2 k 1 (mix (fun i => mx (σ.2.1 2 k 1 i) (σ.2.1 1 0 6 (j * n + i))) (σ.2.1 2 k 1) i)) → ∀ ls : Array Slot, lv_has ls 4 [(3, .int (nI i)), (0, .ref ((E.1 2))), (1, .ref ((E.2.2.2.1 k 1))), (2, .int (nI j))] → W p l e R s m args below meth c H locs cells slots Q (F0 m 2 ls []) := by
  intro fu
  induction fu with
  | zero =>
    intro i hik
    intro H locs w ok ls hl
    have hx := C.1
    have hb := C.2.1
    have hi : n = i := by omega
    subst hi
    refine lv_iload_n hx hb dX2_raise_2 rfl (lv_at hl 0 rfl) ?_
    refine lv_aload_n hx hb dX2_raise_3 rfl (lv_at hl 2 rfl) ?_
    refine c_nN1 C w hk dX2_raise_4 ?_
    refine lv_icmp_ge (tgt := 36) hx hb dX2_raise_5 (by decide) (fun c_5 => ?_) (fun c_5 => absurd (Int32.le_refl _) c_5)
    exact kk _ _ w ok ls (lv_sub hl [0, 1, 2, 3] rfl)
  | succ fu ih =>
    intro i hik
    intro H locs w ok ls hl
    have hx := C.1
    have hb := C.2.1
    have hi : i < n := by omega
    refine lv_iload_n hx hb dX2_raise_2 rfl (lv_at hl 0 rfl) ?_
    refine lv_aload_n hx hb dX2_raise_3 rfl (lv_at hl 2 rfl) ?_
    refine c_nN1 C w hk dX2_raise_4 ?_
    refine lv_icmp_ge (tgt := 36) hx hb dX2_raise_5 (by decide) (fun c_5 => absurd c_5 (nI_ge hi (by omega))) (fun c_5 => ?_)
    refine lv_aload_n hx hb dX2_raise_8 rfl (lv_at hl 2 rfl) ?_
    refine lv_iload_n hx hb dX2_raise_9 rfl (lv_at hl 0 rfl) ?_
    refine lv_aload_n hx hb dX2_raise_10 rfl (lv_at hl 2 rfl) ?_
    refine lv_iload_n hx hb dX2_raise_11 rfl (lv_at hl 0 rfl) ?_
    refine c_lN1 C w hk (vp_in_nI hi (by omega)) dX2_raise_12 ?_
    refine lv_topi (fun t_1 et_1 => ?_)
    refine lv_aload_n hx hb dX2_raise_13 rfl (lv_at hl 1 rfl) ?_
    refine c_gX2_6 C w kF_X2_31 dX2_raise_14 ?_
    refine lv_iload_n hx hb dX2_raise_17 rfl (lv_at hl 3 rfl) ?_
    refine lv_aload_n hx hb dX2_raise_18 rfl (lv_at hl 1 rfl) ?_
    refine c_gX2_0 C w kF_X2_27 dX2_raise_19 ?_
    rw [ok.wd]
    refine lv_imul hx hb dX2_raise_22 ?_
    rw [nI_mul]
    refine lv_iload_n hx hb dX2_raise_23 rfl (lv_at hl 0 rfl) ?_
    refine lv_iadd hx hb dX2_raise_24 ?_
    rw [nI_add]
    refine c_lR6 C w (gNum hj hi hn) dX2_raise_25 ?_
    refine lv_topi (fun t_2 et_2 => ?_)
    refine va_mmax C.1 C.2.1 (hml.trans hl.1.symm) C.2.2.1 (C.2.2.2.1 _ kM_X2_53) (C.2.2.2.1 _ kT_Lib_Math_max_name) (C.2.2.2.1 _ kN_java_lang_Math) (C.2.2.2.1 _ kD_Lib_Math_max_name) hRf (by show 2 + 13 ≤ R.locals; omega) hRc hRs dX2_raise_26 ?_
    refine lv_topi (fun t_3 et_3 => ?_)
    have et_3 : t_3 = mx t_1 t_2 := et_3
    refine c_sN1 (v := t_3) C w hk (vp_in_nI hi (by omega)) dX2_raise_29 (fun H locs w => ?_)
    have ok : cOK n bg _ := cOK.st ok (kd := 2) (ix := k) (f := 1) (i := (nI i).toNatClampNeg) (v := t_3) (fun h => absurd h (by decide))
    obtain ⟨x_4, ex_4⟩ : ∃ y : Int32, y = (nI i) + 1 := ⟨_, rfl⟩
    refine lv_iinc (v := x_4) (lv' := [(3, _), (0, _), (1, _), (2, _)]) C.1 C.2.1 dX2_raise_30 hl (k := 0) rfl (by rw [ex_4]; rfl) (by decide) rfl (fun ls hl => ?_)
    refine lv_goto (tgt := 2) hx hb dX2_raise_33 (by decide) ?_
    have hv : t_3 = mx (σ.2.1 2 k 1 i) (σ.2.1 1 0 6 (j * n + i)) := by
      rw [et_3, et_1, et_2, cR_get, nI_clamp (by have := ok.n; omega), mix_at, nI_clamp (by have := gNum hj hi hn; rw [vp_in_iff] at this; have h3 := Nat.mul_le_mul (Nat.le_of_lt hj) hn; omega)]; rfl
    rw [cA_mix (F := fun i => mx (σ.2.1 2 k 1 i) (σ.2.1 1 0 6 (j * n + i))) (by have := ok.n; omega) hv] at w ok
    have hx2 : x_4 = nI (i + 1) := by rw [ex_4]; exact nI_1 i
    rw [hx2] at hl
    exact ih (i + 1) (by omega) _ _ w ok ls (lv_sub hl [0, 1, 2, 3] rfl)
set_option maxHeartbeats 4000000 in
set_option maxRecDepth 100000 in
theorem k_raise1 (l : Launch) (D : va_G) (cI cZ cN cO : ClassId) (A : Nat → Prop) (E : CE) (n bg : Nat) (σ : CS) (k j : Nat) (ok : cOK n bg σ) (hk : k < n) (hj : j < 2000) : Met l yX2_raise (.code yX2_raise cX2_raise 4 none :: gw) ({ frames := 1, cells := 0, slots := 0, locals := 24 }) (va_Pc (.ref (E.1 2) :: [.ref ((E.2.2.2.1 k 1)), .int (nI j)]) (cH D cI cZ cN cO A E n bg σ)) (va_Qv (fun _ : Unit => True) (fun _ t => cH D cI cZ cN cO A E n bg (cRaise n k 1 j σ) t ∧ cOK n bg (cRaise n k 1 j σ)) A) 0 0 A := by
  refine Met.ofW (cc := cX2_raise) (maxL := 4) (ret := none) (by decide) rfl ?_
  intro p e s m args below meth c s₁ B hml hv
  obtain ⟨rfl, hP, hK, hD⟩ := hv
  have hx := B.exec
  have hb := B.bytes
  have hr := B.returns
  have hts := atoms_spec (ws := (.code yX2_raise cX2_raise 4 none :: gw)) B.pre
  have hg : ∀ w ∈ gw, w.before _ s = true := fun w h => hts w (List.mem_cons_of_mem _ h)
  have hown : s.vm.findClass RX2 = some m.cls := findClass_of_methodNamed B.named
  have hlocks := B.notSynchronized
  have C : Cx p c cX2_raise s m _ RX2 D (gTy cI cZ cN cO) := ⟨hx, hb, hown, hg, hK⟩
  have w : cWd D cI cN cO A s.heap E n bg σ s.heap [] := ⟨hP, hD, va_S.rf⟩
  have hl := lv_entry ([.ref ((E.1 2)), .ref ((E.2.2.2.1 k 1)), .int (nI j)]) (n := 4) (Nat.le_of_ble_eq_true rfl)
  rw [lg_entry_eq]
  generalize (lg_sl ([.ref ((E.1 2)), .ref ((E.2.2.2.1 k 1)), .int (nI j)]) ++ List.replicate (4 - (lg_sl ([.ref ((E.1 2)), .ref ((E.2.2.2.1 k 1)), .int (nI j)])).length) Slot.unset).toArray = ls at hl ⊢
  have hl : lv_has ls 4 [(0, .ref ((E.1 2))), (1, .ref ((E.2.2.2.1 k 1))), (2, .int (nI j))] := hl
  refine lv_iconst (v := 0) hx hb dX2_raise_0 (by decide) ?_
  refine lv_istore_n (lv' := [(3, _), (0, _), (1, _), (2, _)]) C.1 C.2.1 dX2_raise_1 rfl hl (by decide) rfl (fun ls hl => ?_)
  rw [← nI_0] at hl
  have w : cWd D cI cN cO A s.heap E n bg (cR_ σ 2 k 1 (mix (fun i => mx (σ.2.1 2 k 1 i) (σ.2.1 1 0 6 (j * n + i))) (σ.2.1 2 k 1) 0)) s.heap [] := by rw [mix_0, cR_self]; exact w
  have ok : cOK n bg (cR_ σ 2 k 1 (mix (fun i => mx (σ.2.1 2 k 1 i) (σ.2.1 1 0 6 (j * n + i))) (σ.2.1 2 k 1) 0)) := by rw [mix_0, cR_self]; exact ok
  refine kl_raise1 C hml ok.2.1 hk hj (Nat.le_of_ble_eq_true rfl) (Nat.le_of_ble_eq_true rfl) (Nat.zero_le _) (Nat.zero_le _) ?_ n 0 (by omega) _ _ w ok ls (lv_sub hl [0, 1, 2, 3] rfl)
  intro H locs w ok ls hl
  exact W.vret hx hb hr (fun t ht hW => ⟨⟨(), rfl, trivial, ⟨by rw [ht]; exact w.1, va_K.moved hW.alike hK, w.2.1⟩, ok⟩, w.2.2.F ht⟩) w.2.2.2.2 dX2_raise_36
set_option maxHeartbeats 4000000 in
set_option maxRecDepth 100000 in
theorem kl_raise2 {p : Program} {l : Launch} {e : Env} {R : Room} {s : State} {m : MethodId} {args : Array Value} {below : List Frame} {meth : Method} {c : Code} {cells slots : Nat} {Q : State → Prop} {D : va_G} {cI cZ cN cO : ClassId} {A : Nat → Prop} {H0 : Heap} {E : CE} {n bg : Nat} (C : Cx p c cX2_raise s m args RX2 D (gTy cI cZ cN cO)) (hml : c.maxLocals = 4) {σ : CS} {k j : Nat} (hn : n ≤ 31) (hk : k < n) (hj : j < 2000) (hRf : 1 ≤ R.frames) (hRl : 24 ≤ R.locals) (hRc : cells + 0 ≤ R.cells) (hRs : slots + 0 ≤ R.slots) (kk : ∀ (H : Heap) (locs : List Loc), cWd D cI cN cO A H0 E n bg (cR_ σ 2 k 2 (mix (fun i => mx (σ.2.1 2 k 2 i) (σ.2.1 1 0 6 (j * n + i))) (σ.2.1 2 k 2) n)) H locs → cOK n bg (cR_ σ 2 k 2 (mix (fun i => mx (σ.2.1 2 k 2 i) (σ.2.1 1 0 6 (j * n + i))) (σ.2.1 2 k 2) n)) → ∀ ls : Array Slot, lv_has ls 4 [(3, .int (nI n)), (0, .ref ((E.1 2))), (1, .ref ((E.2.2.2.1 k 2))), (2, .int (nI j))] → W p l e R s m args below meth c H locs cells slots Q (F0 m 36 ls [])) : ∀ (fu i : Nat), i + fu = n → ∀ (H : Heap) (locs : List Loc), cWd D cI cN cO A H0 E n bg (cR_ σ 2 k 2 (mix (fun i => mx (σ.2.1 2 k 2 i) (σ.2.1 1 0 6 (j * n + i))) (σ.2.1 2 k 2) i)) H locs → cOK n bg (cR_ σ 2 k 2 (mix (fun i => mx (σ.2.1 2 k 2 i) (σ.2.1 1 0 6 (j * n + i))) (σ.2.1 2 k 2) i)) → ∀ ls : Array Slot, lv_has ls 4 [(3, .int (nI i)), (0, .ref ((E.1 2))), (1, .ref ((E.2.2.2.1 k 2))), (2, .int (nI j))] → W p l e R s m args below meth c H locs cells slots Q (F0 m 2 ls []) := by
  intro fu
  induction fu with
  | zero =>
    intro i hik
    intro H locs w ok ls hl
    have hx := C.1
    have hb := C.2.1
    have hi : n = i := by omega
    subst hi
    refine lv_iload_n hx hb dX2_raise_2 rfl (lv_at hl 0 rfl) ?_
    refine lv_aload_n hx hb dX2_raise_3 rfl (lv_at hl 2 rfl) ?_
    refine c_nN2 C w hk dX2_raise_4 ?_
    refine lv_icmp_ge (tgt := 36) hx hb dX2_raise_5 (by decide) (fun c_5 => ?_) (fun c_5 => absurd (Int32.le_refl _) c_5)
    exact kk _ _ w ok ls (lv_sub hl [0, 1, 2, 3] rfl)
  | succ fu ih =>
    intro i hik
    intro H locs w ok ls hl
    have hx := C.1
    have hb := C.2.1
    have hi : i < n := by omega
    refine lv_iload_n hx hb dX2_raise_2 rfl (lv_at hl 0 rfl) ?_
    refine lv_aload_n hx hb dX2_raise_3 rfl (lv_at hl 2 rfl) ?_
    refine c_nN2 C w hk dX2_raise_4 ?_
    refine lv_icmp_ge (tgt := 36) hx hb dX2_raise_5 (by decide) (fun c_5 => absurd c_5 (nI_ge hi (by omega))) (fun c_5 => ?_)
    refine lv_aload_n hx hb dX2_raise_8 rfl (lv_at hl 2 rfl) ?_
    refine lv_iload_n hx hb dX2_raise_9 rfl (lv_at hl 0 rfl) ?_
    refine lv_aload_n hx hb dX2_raise_10 rfl (lv_at hl 2 rfl) ?_
    refine lv_iload_n hx hb dX2_raise_11 rfl (lv_at hl 0 rfl) ?_
    refine c_lN2 C w hk (vp_in_nI hi (by omega)) dX2_raise_12 ?_
    refine lv_topi (fun t_1 et_1 => ?_)
    refine lv_aload_n hx hb dX2_raise_13 rfl (lv_at hl 1 rfl) ?_
    refine c_gX2_6 C w kF_X2_31 dX2_raise_14 ?_
    refine lv_iload_n hx hb dX2_raise_17 rfl (lv_at hl 3 rfl) ?_
    refine lv_aload_n hx hb dX2_raise_18 rfl (lv_at hl 1 rfl) ?_
    refine c_gX2_0 C w kF_X2_27 dX2_raise_19 ?_
    rw [ok.wd]
    refine lv_imul hx hb dX2_raise_22 ?_
    rw [nI_mul]
    refine lv_iload_n hx hb dX2_raise_23 rfl (lv_at hl 0 rfl) ?_
    refine lv_iadd hx hb dX2_raise_24 ?_
    rw [nI_add]
    refine c_lR6 C w (gNum hj hi hn) dX2_raise_25 ?_
    refine lv_topi (fun t_2 et_2 => ?_)
    refine va_mmax C.1 C.2.1 (hml.trans hl.1.symm) C.2.2.1 (C.2.2.2.1 _ kM_X2_53) (C.2.2.2.1 _ kT_Lib_Math_max_name) (C.2.2.2.1 _ kN_java_lang_Math) (C.2.2.2.1 _ kD_Lib_Math_max_name) hRf (by show 2 + 13 ≤ R.locals; omega) hRc hRs dX2_raise_26 ?_
    refine lv_topi (fun t_3 et_3 => ?_)
    have et_3 : t_3 = mx t_1 t_2 := et_3
    refine c_sN2 (v := t_3) C w hk (vp_in_nI hi (by omega)) dX2_raise_29 (fun H locs w => ?_)
    have ok : cOK n bg _ := cOK.st ok (kd := 2) (ix := k) (f := 2) (i := (nI i).toNatClampNeg) (v := t_3) (fun h => absurd h (by decide))
    obtain ⟨x_4, ex_4⟩ : ∃ y : Int32, y = (nI i) + 1 := ⟨_, rfl⟩
    refine lv_iinc (v := x_4) (lv' := [(3, _), (0, _), (1, _), (2, _)]) C.1 C.2.1 dX2_raise_30 hl (k := 0) rfl (by rw [ex_4]; rfl) (by decide) rfl (fun ls hl => ?_)
    refine lv_goto (tgt := 2) hx hb dX2_raise_33 (by decide) ?_
    have hv : t_3 = mx (σ.2.1 2 k 2 i) (σ.2.1 1 0 6 (j * n + i)) := by
      rw [et_3, et_1, et_2, cR_get, nI_clamp (by have := ok.n; omega), mix_at, nI_clamp (by have := gNum hj hi hn; rw [vp_in_iff] at this; have h3 := Nat.mul_le_mul (Nat.le_of_lt hj) hn; omega)]; rfl
    rw [cA_mix (F := fun i => mx (σ.2.1 2 k 2 i) (σ.2.1 1 0 6 (j * n + i))) (by have := ok.n; omega) hv] at w ok
    have hx2 : x_4 = nI (i + 1) := by rw [ex_4]; exact nI_1 i
    rw [hx2] at hl
    exact ih (i + 1) (by omega) _ _ w ok ls (lv_sub hl [0, 1, 2, 3] rfl)
set_option maxHeartbeats 4000000 in
set_option maxRecDepth 100000 in
theorem k_raise2 (l : Launch) (D : va_G) (cI cZ cN cO : ClassId) (A : Nat → Prop) (E : CE) (n bg : Nat) (σ : CS) (k j : Nat) (ok : cOK n bg σ) (hk : k < n) (hj : j < 2000) : Met l yX2_raise (.code yX2_raise cX2_raise 4 none :: gw) ({ frames := 1, cells := 0, slots := 0, locals := 24 }) (va_Pc (.ref (E.1 2) :: [.ref ((E.2.2.2.1 k 2)), .int (nI j)]) (cH D cI cZ cN cO A E n bg σ)) (va_Qv (fun _ : Unit => True) (fun _ t => cH D cI cZ cN cO A E n bg (cRaise n k 2 j σ) t ∧ cOK n bg (cRaise n k 2 j σ)) A) 0 0 A := by
  refine Met.ofW (cc := cX2_raise) (maxL := 4) (ret := none) (by decide) rfl ?_
  intro p e s m args below meth c s₁ B hml hv
  obtain ⟨rfl, hP, hK, hD⟩ := hv
  have hx := B.exec
  have hb := B.bytes
  have hr := B.returns
  have hts := atoms_spec (ws := (.code yX2_raise cX2_raise 4 none :: gw)) B.pre
  have hg : ∀ w ∈ gw, w.before _ s = true := fun w h => hts w (List.mem_cons_of_mem _ h)
  have hown : s.vm.findClass RX2 = some m.cls := findClass_of_methodNamed B.named
  have hlocks := B.notSynchronized
  have C : Cx p c cX2_raise s m _ RX2 D (gTy cI cZ cN cO) := ⟨hx, hb, hown, hg, hK⟩
  have w : cWd D cI cN cO A s.heap E n bg σ s.heap [] := ⟨hP, hD, va_S.rf⟩
  have hl := lv_entry ([.ref ((E.1 2)), .ref ((E.2.2.2.1 k 2)), .int (nI j)]) (n := 4) (Nat.le_of_ble_eq_true rfl)
  rw [lg_entry_eq]
  generalize (lg_sl ([.ref ((E.1 2)), .ref ((E.2.2.2.1 k 2)), .int (nI j)]) ++ List.replicate (4 - (lg_sl ([.ref ((E.1 2)), .ref ((E.2.2.2.1 k 2)), .int (nI j)])).length) Slot.unset).toArray = ls at hl ⊢
  have hl : lv_has ls 4 [(0, .ref ((E.1 2))), (1, .ref ((E.2.2.2.1 k 2))), (2, .int (nI j))] := hl
  refine lv_iconst (v := 0) hx hb dX2_raise_0 (by decide) ?_
  refine lv_istore_n (lv' := [(3, _), (0, _), (1, _), (2, _)]) C.1 C.2.1 dX2_raise_1 rfl hl (by decide) rfl (fun ls hl => ?_)
  rw [← nI_0] at hl
  have w : cWd D cI cN cO A s.heap E n bg (cR_ σ 2 k 2 (mix (fun i => mx (σ.2.1 2 k 2 i) (σ.2.1 1 0 6 (j * n + i))) (σ.2.1 2 k 2) 0)) s.heap [] := by rw [mix_0, cR_self]; exact w
  have ok : cOK n bg (cR_ σ 2 k 2 (mix (fun i => mx (σ.2.1 2 k 2 i) (σ.2.1 1 0 6 (j * n + i))) (σ.2.1 2 k 2) 0)) := by rw [mix_0, cR_self]; exact ok
  refine kl_raise2 C hml ok.2.1 hk hj (Nat.le_of_ble_eq_true rfl) (Nat.le_of_ble_eq_true rfl) (Nat.zero_le _) (Nat.zero_le _) ?_ n 0 (by omega) _ _ w ok ls (lv_sub hl [0, 1, 2, 3] rfl)
  intro H locs w ok ls hl
  exact W.vret hx hb hr (fun t ht hW => ⟨⟨(), rfl, trivial, ⟨by rw [ht]; exact w.1, va_K.moved hW.alike hK, w.2.1⟩, ok⟩, w.2.2.F ht⟩) w.2.2.2.2 dX2_raise_36
