/-- the slots as a MESSAGE is taken out: the m places below i have moved up -/
def tkS (h : Nat) (s : Nat → Int32) (i : Nat) : Nat → (Nat → Int32)
  | 0 => s
  | m + 1 => upd (tkS h s i m) ((h + (i - m)) % 2000) (tkS h s i m ((h + (i - m - 1)) % 2000))
def cTake (i : Nat) (σ : CS) : CS := cI_ (cI_ (cA_ (cR_ σ 1 0 1 (tkS (hdN σ) (σ.2.1 1 0 1) i i)) 1 0 1 (hdN σ) (nI (slN σ i))) 1 0 7 (nI ((hdN σ + 1) % 2000))) 1 0 8 (σ.1 1 0 8 - 1)
set_option maxHeartbeats 4000000 in
set_option maxRecDepth 100000 in
theorem kl_take {p : Program} {l : Launch} {e : Env} {R : Room} {s : State} {m : MethodId} {args : Array Value} {below : List Frame} {meth : Method} {c : Code} {cells slots : Nat} {Q : State → Prop} {D : va_G} {cI cZ cN cO : ClassId} {A : Nat → Prop} {H0 : Heap} {E : CE} {n bg : Nat} (C : Cx p c cX2_take s m args RX2 D (gTy cI cZ cN cO)) (hml : c.maxLocals = 4) {σ : CS} {i z : Nat} (hi2 : i ≤ 2000) (hRf : 1 ≤ R.frames) (hRl : 21 ≤ R.locals) (hRc : cells + 0 ≤ R.cells) (hRs : slots + 0 ≤ R.slots) (kk : ∀ (H : Heap) (locs : List Loc), cWd D cI cN cO A H0 E n bg (cR_ σ 1 0 1 (tkS (hdN σ) (σ.2.1 1 0 1) i i)) H locs → cOK n bg (cR_ σ 1 0 1 (tkS (hdN σ) (σ.2.1 1 0 1) i i)) → ∀ ls : Array Slot, lv_has ls 4 [(3, .int (nI (i - i))), (2, .int (nI z)), (0, .ref ((E.1 2))), (1, .int (nI i))] → W p l e R s m args below meth c H locs cells slots Q (F0 m 40 ls [])) : ∀ (fu m_ : Nat), m_ + fu = i → ∀ (H : Heap) (locs : List Loc), cWd D cI cN cO A H0 E n bg (cR_ σ 1 0 1 (tkS (hdN σ) (σ.2.1 1 0 1) i m_)) H locs → cOK n bg (cR_ σ 1 0 1 (tkS (hdN σ) (σ.2.1 1 0 1) i m_)) → ∀ ls : Array Slot, lv_has ls 4 [(3, .int (nI (i - m_))), (2, .int (nI z)), (0, .ref ((E.1 2))), (1, .int (nI i))] → W p l e R s m args below meth c H locs cells slots Q (F0 m 8 ls []) := by
  intro fu
  induction fu with
  | zero =>
    intro m_ hik
    intro H locs w ok ls hl
    have hx := C.1
    have hb := C.2.1
    have hi : i = m_ := by omega
    subst hi
    refine lv_iload_n hx hb dX2_take_8 rfl (lv_at hl 0 rfl) ?_
    refine lv_if_le (tgt := 40) hx hb dX2_take_9 (by decide) (fun c_9 => ?_) (fun c_9 => absurd (by rw [Nat.sub_self, nI_0]; exact Int32.le_refl _) c_9)
    exact kk _ _ w ok ls (lv_sub hl [0, 1, 2, 3] rfl)
  | succ fu ih =>
    intro m_ hik
    intro H locs w ok ls hl
    have hx := C.1
    have hb := C.2.1
    have hi : m_ < i := by omega
    refine lv_iload_n hx hb dX2_take_8 rfl (lv_at hl 0 rfl) ?_
    refine lv_if_le (tgt := 40) hx hb dX2_take_9 (by decide) (fun c_9 => absurd c_9 (nI_nle (by omega) (by omega))) (fun c_9 => ?_)
    refine lv_aload_n hx hb dX2_take_12 rfl (lv_at hl 2 rfl) ?_
    refine c_gX2_1 C w kF_X2_9 dX2_take_13 ?_
    refine lv_aload_n hx hb dX2_take_16 rfl (lv_at hl 2 rfl) ?_
    refine c_gX2_7 C w kF_X2_37 dX2_take_17 ?_
    refine lv_topi (fun t_1 et_1 => ?_)
    refine lv_iload_n hx hb dX2_take_20 rfl (lv_at hl 0 rfl) ?_
    refine lv_iadd hx hb dX2_take_21 ?_
    refine lv_topi (fun t_2 et_2 => ?_)
    refine lv_sipush (v := 2000) hx hb dX2_take_22 (by decide) ?_
    have hrem : t_2 - t_2 / 2000 * 2000 = nI ((hdN σ + (i - m_)) % 2000) := gRem (a := hdN σ + (i - m_)) (by have : hdN σ < 2000 := ok.hdn.2; omega) (by rw [et_2, et_1]; show σ.1 1 0 7 + _ = _; rw [show σ.1 1 0 7 = nI (hdN σ) from ok.hdn.1, nI_add])
    refine lv_irem hx hb dX2_take_25 (by decide) ?_
    rw [hrem]
    refine lv_aload_n hx hb dX2_take_26 rfl (lv_at hl 2 rfl) ?_
    refine lv_iload_n hx hb dX2_take_27 rfl (lv_at hl 0 rfl) ?_
    refine lv_iconst (v := 1) hx hb dX2_take_28 (by decide) ?_
    refine lv_isub hx hb dX2_take_29 ?_
    rw [nI_m1 (a := i - m_) (by omega)]
    refine c_callp (As := [.int (nI (i - m_ - 1))]) (rest := [.int (nI ((hdN σ + (i - m_)) % 2000)), .ref ((E.2.1 1))]) C (c_preX2 C w) hml hl.1 (k_X2_slotOf l D cI cZ cN cO A E n bg _ (i - m_ - 1) ok (by omega)) kM_X2_49 kI_X2_slotOf kS_X2_slotOf kN_X2 kD_X2_slotOf (show yX2_slotOf.cls = RX2 ∧ yX2_slotOf.cls ≠ "java/lang/invoke/MethodHandle" ∧ yX2_slotOf.cls ≠ "java/lang/invoke/VarHandle" ∧ (parseMethodDescriptor yX2_slotOf.desc).map (fun d => d.parameters.length) = some 1 from by decide +kernel) rfl rfl ⟨(by show 0 + 1 ≤ R.frames; omega), (by show 8 + (2 + 11) + 0 ≤ R.locals; omega)⟩ rfl (lv_room (Nat.le_of_ble_eq_true rfl)) dX2_take_30 ⟨hRc, hRs⟩ (fun r_3 hr_3 => ?_)
    have hr2 := hr_3.trans (ok.sln (i - m_ - 1)).1.symm
    refine c_sR1 (v := r_3) C w (vp_in_nI (Nat.mod_lt _ (by decide)) (by decide)) dX2_take_33 (fun H locs w => ?_)
    have ok : cOK n bg _ := cOK.st ok (kd := 1) (ix := 0) (f := 1) (i := (nI ((hdN σ + (i - m_)) % 2000)).toNatClampNeg) (v := r_3) (fun _ => ⟨fun _ => by rw [hr2]; exact ok.sl _, fun h => by omega⟩)
    have hst : cA_ (cR_ σ 1 0 1 (tkS (hdN σ) (σ.2.1 1 0 1) i m_)) 1 0 1 (nI ((hdN σ + (i - m_)) % 2000)).toNatClampNeg r_3 = cR_ σ 1 0 1 (tkS (hdN σ) (σ.2.1 1 0 1) i (m_ + 1)) := by rw [cA_R, cR_get, cR_R, nI_clamp (by omega), hr2, cR_get]; rfl
    rw [hst] at w ok
    obtain ⟨x_4, ex_4⟩ : ∃ y : Int32, y = (nI (i - m_)) + (-1) := ⟨_, rfl⟩
    refine lv_iinc (v := x_4) (lv' := [(3, _), (2, _), (0, _), (1, _)]) C.1 C.2.1 dX2_take_34 hl (k := 0) rfl (by rw [ex_4]; rfl) (by decide) rfl (fun ls hl => ?_)
    refine lv_goto (tgt := 8) hx hb dX2_take_37 (by decide) ?_
    have hx2 : x_4 = nI (i - (m_ + 1)) := by rw [ex_4, show nI (i - m_) + (-1) = nI (i - m_) - 1 from by rw [Int32.sub_eq_add_neg], nI_m1 (a := i - m_) (by omega)]; rfl
    rw [hx2] at hl
    exact ih (m_ + 1) (by omega) _ _ w ok ls (lv_sub hl [0, 1, 2, 3] rfl)
set_option maxHeartbeats 4000000 in
set_option maxRecDepth 100000 in
theorem k_X2_take (l : Launch) (D : va_G) (cI cZ cN cO : ClassId) (A : Nat → Prop) (E : CE) (n bg : Nat) (σ : CS) (i : Nat) (ok : cOK n bg σ) (hi : i < lnN σ) : Met l yX2_take (.code yX2_take cX2_take 4 none :: gw) ({ frames := 1, cells := 0, slots := 0, locals := 21 }) (va_Pc (.ref (E.1 2) :: [.int (nI i)]) (cH D cI cZ cN cO A E n bg σ)) (va_Qv (fun _ : Unit => True) (fun _ t => cH D cI cZ cN cO A E n bg (cTake i σ) t ∧ cOK n bg (cTake i σ)) A) 0 0 A := by
  refine Met.ofW (cc := cX2_take) (maxL := 4) (ret := none) (by decide) rfl ?_
  intro p e s m args below meth c s₁ B hml hv
  obtain ⟨rfl, hP, hK, hD⟩ := hv
  have hx := B.exec
  have hb := B.bytes
  have hr := B.returns
  have hts := atoms_spec (ws := (.code yX2_take cX2_take 4 none :: gw)) B.pre
  have hg : ∀ w ∈ gw, w.before _ s = true := fun w h => hts w (List.mem_cons_of_mem _ h)
  have hown : s.vm.findClass RX2 = some m.cls := findClass_of_methodNamed B.named
  have hlocks := B.notSynchronized
  have C : Cx p c cX2_take s m _ RX2 D (gTy cI cZ cN cO) := ⟨hx, hb, hown, hg, hK⟩
  have w : cWd D cI cN cO A s.heap E n bg σ s.heap [] := ⟨hP, hD, va_S.rf⟩
  have hl := lv_entry ([.ref ((E.1 2)), .int (nI i)]) (n := 4) (Nat.le_of_ble_eq_true rfl)
  rw [lg_entry_eq]
  generalize (lg_sl ([.ref ((E.1 2)), .int (nI i)]) ++ List.replicate (4 - (lg_sl ([.ref ((E.1 2)), .int (nI i)])).length) Slot.unset).toArray = ls at hl ⊢
  have hl : lv_has ls 4 [(0, .ref ((E.1 2))), (1, .int (nI i))] := hl
  have hln := ok.lnn.2
  have hsl := (ok.sln i).2
  have hh := ok.hdn.2
  have ok0 := ok
  refine lv_aload_n hx hb dX2_take_0 rfl (lv_at hl 0 rfl) ?_
  refine lv_iload_n hx hb dX2_take_1 rfl (lv_at hl 1 rfl) ?_
  refine c_callp (As := [.int (nI i)]) (rest := []) C (c_preX2 C w) hml hl.1 (k_X2_slotOf l D cI cZ cN cO A E n bg _ i ok (by omega)) kM_X2_49 kI_X2_slotOf kS_X2_slotOf kN_X2 kD_X2_slotOf (show yX2_slotOf.cls = RX2 ∧ yX2_slotOf.cls ≠ "java/lang/invoke/MethodHandle" ∧ yX2_slotOf.cls ≠ "java/lang/invoke/VarHandle" ∧ (parseMethodDescriptor yX2_slotOf.desc).map (fun d => d.parameters.length) = some 1 from by decide +kernel) rfl rfl ⟨Nat.le_of_ble_eq_true rfl, Nat.le_of_ble_eq_true rfl⟩ rfl (lv_room (Nat.le_of_ble_eq_true rfl)) dX2_take_2 ⟨Nat.zero_le _, Nat.zero_le _⟩ (fun r_1 hr_1 => ?_)
  rw [hr_1]
  refine lv_istore_n (lv' := [(2, _), (0, _), (1, _)]) C.1 C.2.1 dX2_take_5 rfl hl (by decide) rfl (fun ls hl => ?_)
  refine lv_iload_n hx hb dX2_take_6 rfl (lv_at hl 2 rfl) ?_
  refine lv_istore_n (lv' := [(3, _), (2, _), (0, _), (1, _)]) C.1 C.2.1 dX2_take_7 rfl hl (by decide) rfl (fun ls hl => ?_)
  have w : cWd D cI cN cO A s.heap E n bg (cR_ σ 1 0 1 (tkS (hdN σ) (σ.2.1 1 0 1) i 0)) s.heap [] := by show cWd D cI cN cO A s.heap E n bg (cR_ σ 1 0 1 (σ.2.1 1 0 1)) s.heap []; rw [cR_self]; exact w
  have ok : cOK n bg (cR_ σ 1 0 1 (tkS (hdN σ) (σ.2.1 1 0 1) i 0)) := by show cOK n bg (cR_ σ 1 0 1 (σ.2.1 1 0 1)); rw [cR_self]; exact ok
  refine kl_take C hml (by omega) (Nat.le_of_ble_eq_true rfl) (Nat.le_of_ble_eq_true rfl) (Nat.zero_le _) (Nat.zero_le _) ?_ i 0 (by omega) _ _ w ok ls (lv_sub hl [0, 1, 2, 3] rfl)
  intro H locs w ok ls hl
  refine lv_aload_n hx hb dX2_take_40 rfl (lv_at hl 2 rfl) ?_
  refine c_gX2_1 C w kF_X2_9 dX2_take_41 ?_
  refine lv_aload_n hx hb dX2_take_44 rfl (lv_at hl 2 rfl) ?_
  refine c_gX2_7 C w kF_X2_37 dX2_take_45 ?_
  rw [show _ = nI (hdN σ) from ok.hdn.1]
  refine lv_iload_n hx hb dX2_take_48 rfl (lv_at hl 1 rfl) ?_
  refine c_sR1 (v := nI (slN σ i)) C w (vp_in_nI hh (by decide)) dX2_take_49 (fun H locs w => ?_)
  have ok : cOK n bg _ := cOK.st ok (kd := 1) (ix := 0) (f := 1) (i := (nI (hdN σ)).toNatClampNeg) (v := nI (slN σ i)) (fun _ => ⟨fun _ => vp_in_nI hsl (by decide), fun h => by omega⟩)
  rw [nI_clamp (show hdN σ < 2 ^ 31 by omega)] at w ok
  refine lv_aload_n hx hb dX2_take_50 rfl (lv_at hl 2 rfl) ?_
  refine lv_aload_n hx hb dX2_take_51 rfl (lv_at hl 2 rfl) ?_
  refine c_gX2_7 C w kF_X2_37 dX2_take_52 ?_
  rw [show _ = nI (hdN σ) from ok.hdn.1]
  refine lv_iconst (v := 1) hx hb dX2_take_55 (by decide) ?_
  refine lv_iadd hx hb dX2_take_56 ?_
  rw [nI_1]
  refine lv_sipush (v := 2000) hx hb dX2_take_57 (by decide) ?_
  refine lv_irem hx hb dX2_take_60 (by decide) ?_
  rw [nI_rem _ (by omega)]
  refine c_pX2_7 (v := nI ((hdN σ + 1) % 2000)) C w kF_X2_37 dX2_take_61 (fun H locs w => ?_)
  have ok : cOK n bg _ := cOK.head ok (v := nI ((hdN σ + 1) % 2000)) (vp_in_nI (Nat.mod_lt _ (by decide)) (by decide))
  refine lv_aload_n hx hb dX2_take_64 rfl (lv_at hl 2 rfl) ?_
  refine lv_dup hx hb dX2_take_65 rfl ?_
  refine c_gX2_8 C w kF_X2_34 dX2_take_66 ?_
  refine lv_topi (fun t_2 et_2 => ?_)
  refine lv_iconst (v := 1) hx hb dX2_take_69 (by decide) ?_
  refine lv_isub hx hb dX2_take_70 ?_
  refine lv_topi (fun t_3 et_3 => ?_)
  refine c_pX2_8 (v := t_3) C w kF_X2_34 dX2_take_71 (fun H locs w => ?_)
  have ok : cOK n bg _ := cOK.len ok (v := t_3) (by rw [et_3, et_2]; show vp_in (σ.1 1 0 8 - 1) 2001; rw [ok0.lnn.1, nI_m1 (by omega)]; exact vp_in_nI (by have := ok0.lnn.2; omega) (by decide))
  subst et_3 et_2
  exact W.vret hx hb hr (fun t ht hW => ⟨⟨(), rfl, trivial, ⟨by rw [ht]; exact w.1, va_K.moved hW.alike hK, w.2.1⟩, ok⟩, w.2.2.F ht⟩) w.2.2.2.2 dX2_take_74
