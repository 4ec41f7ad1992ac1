set_option maxHeartbeats 4000000 in
set_option maxRecDepth 100000 in
theorem ql_count1 {p : Program} {l : Launch} {e : Env} {R : Room} {s : State} {m : MethodId} {args : Array Value} {below : List Frame} {meth : Method} {c : Code} {cells slots : Nat} {Q : State → Prop} {D : va_G} {cI cZ cN cO : ClassId} {A : Nat → Prop} {H0 : Heap} {mm : Nat} {d : Nat → Nat} {n : Nat} {H : Heap} {locs : List Loc} (C : Cx p c cX4_count s m args RX4 D (gTy cI cZ cN cO)) (hml : c.maxLocals = 6) {σ : RS} {k : Int32} (w : rWd D cI cZ A H0 mm d σ H locs) (ok : rOK n σ) (hn : n ≤ 31) (kk : ∀ (u : Int32), ∀ ls : Array Slot, lv_has ls 6 [(3, .int (nI n)), (2, .int u), (0, .ref mm), (1, .int k)] → W p l e R s m args below meth c H locs cells slots Q (F0 m 40 ls [])) : ∀ (fu i : Nat), i + fu = n → ∀ (u : Int32), ∀ ls : Array Slot, lv_has ls 6 [(3, .int (nI i)), (2, .int u), (0, .ref mm), (1, .int k)] → W p l e R s m args below meth c H locs cells slots Q (F0 m 9 ls []) := by
  intro fu
  induction fu with
  | zero =>
    intro i hik
    intro u ls hl
    have hx := C.1
    have hb := C.2.1
    have hi : n = i := by omega
    subst hi
    refine lv_iload_n hx hb dX4_count_9 rfl (lv_at hl 0 rfl) ?_
    refine lv_aload_n hx hb dX4_count_10 rfl (lv_at hl 2 rfl) ?_
    refine r_get_0 C w dX4_count_11 ?_
    rw [ok.nn]
    refine lv_icmp_ge (tgt := 40) hx hb dX4_count_14 (by decide) (fun c_14 => ?_) (fun c_14 => absurd (Int32.le_refl _) c_14)
    exact kk u ls (lv_sub hl [0, 1, 2, 3] rfl)
  | succ fu ih =>
    intro i hik
    intro u ls hl
    have hx := C.1
    have hb := C.2.1
    have hi : i < n := by omega
    refine lv_iload_n hx hb dX4_count_9 rfl (lv_at hl 0 rfl) ?_
    refine lv_aload_n hx hb dX4_count_10 rfl (lv_at hl 2 rfl) ?_
    refine r_get_0 C w dX4_count_11 ?_
    rw [ok.nn]
    refine lv_icmp_ge (tgt := 40) hx hb dX4_count_14 (by decide) (fun c_14 => absurd c_14 (nI_ge hi (by omega))) (fun c_14 => ?_)
    refine lv_iload_n hx hb dX4_count_17 rfl (lv_at hl 1 rfl) ?_
    refine lv_aload_n hx hb dX4_count_18 rfl (lv_at hl 2 rfl) ?_
    refine r_get_13 C w dX4_count_19 ?_
    refine lv_iload_n hx hb dX4_count_22 rfl (lv_at hl 0 rfl) ?_
    refine r_ld_13 C w (vp_in_nI (by omega) (by omega)) dX4_count_23 ?_
    refine lv_topi (fun t_1 et_1 => ?_)
    refine lv_if_eq (tgt := 31) hx hb dX4_count_24 (by decide) (fun c_24 => ?_) (fun c_24 => ?_)
    · refine lv_iconst (v := 1) hx hb dX4_count_31 (by decide) ?_
      refine lv_iadd hx hb dX4_count_32 ?_
      refine lv_topi (fun t_2 et_2 => ?_)
      refine lv_istore_n (lv' := [(2, _), (3, _), (0, _), (1, _)]) C.1 C.2.1 dX4_count_33 rfl hl (by decide) rfl (fun ls hl => ?_)
      obtain ⟨x_3, ex_3⟩ : ∃ y : Int32, y = (nI i) + 1 := ⟨_, rfl⟩
      refine lv_iinc (v := x_3) (lv' := [(3, _), (2, _), (0, _), (1, _)]) C.1 C.2.1 dX4_count_34 hl (k := 1) rfl (by rw [ex_3]; rfl) (by decide) rfl (fun ls hl => ?_)
      refine lv_goto (tgt := 9) hx hb dX4_count_37 (by decide) ?_
      have hx2 : x_3 = nI (i + 1) := by rw [ex_3]; exact nI_1 i
      rw [hx2] at hl
      exact ih (i + 1) (by omega) t_2 ls (lv_sub hl [0, 1, 2, 3] rfl)
    · refine lv_iconst (v := 0) hx hb dX4_count_27 (by decide) ?_
      refine lv_goto (tgt := 32) hx hb dX4_count_28 (by decide) ?_
      refine lv_iadd hx hb dX4_count_32 ?_
      refine lv_topi (fun t_4 et_4 => ?_)
      refine lv_istore_n (lv' := [(2, _), (3, _), (0, _), (1, _)]) C.1 C.2.1 dX4_count_33 rfl hl (by decide) rfl (fun ls hl => ?_)
      obtain ⟨x_5, ex_5⟩ : ∃ y : Int32, y = (nI i) + 1 := ⟨_, rfl⟩
      refine lv_iinc (v := x_5) (lv' := [(3, _), (2, _), (0, _), (1, _)]) C.1 C.2.1 dX4_count_34 hl (k := 1) rfl (by rw [ex_5]; rfl) (by decide) rfl (fun ls hl => ?_)
      refine lv_goto (tgt := 9) hx hb dX4_count_37 (by decide) ?_
      have hx2 : x_5 = nI (i + 1) := by rw [ex_5]; exact nI_1 i
      rw [hx2] at hl
      exact ih (i + 1) (by omega) t_4 ls (lv_sub hl [0, 1, 2, 3] rfl)
set_option maxHeartbeats 4000000 in
set_option maxRecDepth 100000 in
theorem ql_count2 {p : Program} {l : Launch} {e : Env} {R : Room} {s : State} {m : MethodId} {args : Array Value} {below : List Frame} {meth : Method} {c : Code} {cells slots : Nat} {Q : State → Prop} {D : va_G} {cI cZ cN cO : ClassId} {A : Nat → Prop} {H0 : Heap} {mm : Nat} {d : Nat → Nat} {n : Nat} {H : Heap} {locs : List Loc} (C : Cx p c cX4_count s m args RX4 D (gTy cI cZ cN cO)) (hml : c.maxLocals = 6) {σ : RS} {k z : Int32} (op : Nat) (w : rWd D cI cZ A H0 mm d σ H locs) (ok : rOK n σ) (hop : σ.1 37 = nI op) (hopl : op < 512) (hRf : 1 ≤ R.frames) (hRl : 24 ≤ R.locals) (hRc : cells + 0 ≤ R.cells) (hRs : slots + 0 ≤ R.slots) (kk : ∀ (v : Int32), ∀ (u : Int32), ∀ ls : Array Slot, lv_has ls 6 [(5, .int (nI (1 + op))), (4, .int v), (3, .int u), (2, .int z), (0, .ref mm), (1, .int k)] → W p l e R s m args below meth c H locs cells slots Q (F0 m 96 ls [])) : ∀ (fu i : Nat), i + fu = op → ∀ (v : Int32), ∀ (u : Int32), ∀ ls : Array Slot, lv_has ls 6 [(5, .int (nI (1 + i))), (4, .int v), (3, .int u), (2, .int z), (0, .ref mm), (1, .int k)] → W p l e R s m args below meth c H locs cells slots Q (F0 m 48 ls []) := by
  intro fu
  induction fu with
  | zero =>
    intro i hik
    intro v u ls hl
    have hx := C.1
    have hb := C.2.1
    have hi : op = i := by omega
    subst hi
    refine lv_iload hx hb dX4_count_48 (lv_at hl 0 rfl) ?_
    refine lv_aload_n hx hb dX4_count_50 rfl (lv_at hl 4 rfl) ?_
    refine r_get_37 C w dX4_count_51 ?_
    rw [hop]
    refine lv_icmp_gt (tgt := 96) hx hb dX4_count_54 (by decide) (fun c_54 => ?_) (fun c_54 => absurd (nI_lt (by omega) (by omega)) c_54)
    exact kk v u ls (lv_sub hl [0, 1, 2, 3, 4, 5] rfl)
  | succ fu ih =>
    intro i hik
    intro v u ls hl
    have hx := C.1
    have hb := C.2.1
    have hi : i < op := by omega
    refine lv_iload hx hb dX4_count_48 (lv_at hl 0 rfl) ?_
    refine lv_aload_n hx hb dX4_count_50 rfl (lv_at hl 4 rfl) ?_
    refine r_get_37 C w dX4_count_51 ?_
    rw [hop]
    refine lv_icmp_gt (tgt := 96) hx hb dX4_count_54 (by decide) (fun c_54 => absurd c_54 (nI_nlt (by omega) (by omega))) (fun c_54 => ?_)
    refine lv_iload_n hx hb dX4_count_57 rfl (lv_at hl 2 rfl) ?_
    refine lv_aload_n hx hb dX4_count_58 rfl (lv_at hl 4 rfl) ?_
    refine r_get_31 C w dX4_count_59 ?_
    refine lv_iload hx hb dX4_count_62 (lv_at hl 0 rfl) ?_
    refine r_ld_31 C w (vp_in_nI (by omega) (by omega)) dX4_count_64 ?_
    refine lv_topi (fun t_1 et_1 => ?_)
    refine lv_iconst (v := (-1)) hx hb dX4_count_65 (by decide) ?_
    refine lv_icmp_ne (tgt := 73) hx hb dX4_count_66 (by decide) (fun c_66 => ?_) (fun c_66 => ?_)
    · refine lv_iconst (v := 1) hx hb dX4_count_73 (by decide) ?_
      refine lv_iadd hx hb dX4_count_74 ?_
      refine lv_topi (fun t_2 et_2 => ?_)
      refine lv_istore_n (lv' := [(3, _), (5, _), (4, _), (2, _), (0, _), (1, _)]) C.1 C.2.1 dX4_count_75 rfl hl (by decide) rfl (fun ls hl => ?_)
      refine lv_iload hx hb dX4_count_76 (lv_at hl 2 rfl) ?_
      refine lv_aload_n hx hb dX4_count_78 rfl (lv_at hl 4 rfl) ?_
      refine r_get_32 C w dX4_count_79 ?_
      refine lv_iload hx hb dX4_count_82 (lv_at hl 1 rfl) ?_
      refine r_ld_32 C w (vp_in_nI (by omega) (by omega)) dX4_count_84 ?_
      refine lv_topi (fun t_3 et_3 => ?_)
      refine va_mmax C.1 C.2.1 (hml.trans hl.1.symm) C.2.2.1 (C.2.2.2.1 _ kM_X4_174) (C.2.2.2.1 _ kT_Lib_Math_max_name) (C.2.2.2.1 _ kN_java_lang_Math) (C.2.2.2.1 _ kD_Lib_Math_max_name) hRf (by show 0 + 13 ≤ R.locals; omega) hRc hRs dX4_count_85 ?_
      refine lv_topi (fun t_4 et_4 => ?_)
      refine lv_istore (lv' := [(4, _), (3, _), (5, _), (2, _), (0, _), (1, _)]) C.1 C.2.1 dX4_count_88 hl (by decide) rfl (fun ls hl => ?_)
      obtain ⟨x_5, ex_5⟩ : ∃ y : Int32, y = (nI (1 + i)) + 1 := ⟨_, rfl⟩
      refine lv_iinc (v := x_5) (lv' := [(5, _), (4, _), (3, _), (2, _), (0, _), (1, _)]) C.1 C.2.1 dX4_count_90 hl (k := 2) rfl (by rw [ex_5]; rfl) (by decide) rfl (fun ls hl => ?_)
      refine lv_goto (tgt := 48) hx hb dX4_count_93 (by decide) ?_
      have hx2 : x_5 = nI (1 + (i + 1)) := by rw [ex_5]; exact nI_1 _
      rw [hx2] at hl
      exact ih (i + 1) (by omega) t_4 t_2 ls (lv_sub hl [0, 1, 2, 3, 4, 5] rfl)
    · refine lv_iconst (v := 0) hx hb dX4_count_69 (by decide) ?_
      refine lv_goto (tgt := 74) hx hb dX4_count_70 (by decide) ?_
      refine lv_iadd hx hb dX4_count_74 ?_
      refine lv_topi (fun t_6 et_6 => ?_)
      refine lv_istore_n (lv' := [(3, _), (5, _), (4, _), (2, _), (0, _), (1, _)]) C.1 C.2.1 dX4_count_75 rfl hl (by decide) rfl (fun ls hl => ?_)
      refine lv_iload hx hb dX4_count_76 (lv_at hl 2 rfl) ?_
      refine lv_aload_n hx hb dX4_count_78 rfl (lv_at hl 4 rfl) ?_
      refine r_get_32 C w dX4_count_79 ?_
      refine lv_iload hx hb dX4_count_82 (lv_at hl 1 rfl) ?_
      refine r_ld_32 C w (vp_in_nI (by omega) (by omega)) dX4_count_84 ?_
      refine lv_topi (fun t_7 et_7 => ?_)
      refine va_mmax C.1 C.2.1 (hml.trans hl.1.symm) C.2.2.1 (C.2.2.2.1 _ kM_X4_174) (C.2.2.2.1 _ kT_Lib_Math_max_name) (C.2.2.2.1 _ kN_java_lang_Math) (C.2.2.2.1 _ kD_Lib_Math_max_name) hRf (by show 0 + 13 ≤ R.locals; omega) hRc hRs dX4_count_85 ?_
      refine lv_topi (fun t_8 et_8 => ?_)
      refine lv_istore (lv' := [(4, _), (3, _), (5, _), (2, _), (0, _), (1, _)]) C.1 C.2.1 dX4_count_88 hl (by decide) rfl (fun ls hl => ?_)
      obtain ⟨x_9, ex_9⟩ : ∃ y : Int32, y = (nI (1 + i)) + 1 := ⟨_, rfl⟩
      refine lv_iinc (v := x_9) (lv' := [(5, _), (4, _), (3, _), (2, _), (0, _), (1, _)]) C.1 C.2.1 dX4_count_90 hl (k := 2) rfl (by rw [ex_9]; rfl) (by decide) rfl (fun ls hl => ?_)
      refine lv_goto (tgt := 48) hx hb dX4_count_93 (by decide) ?_
      have hx2 : x_9 = nI (1 + (i + 1)) := by rw [ex_9]; exact nI_1 _
      rw [hx2] at hl
      exact ih (i + 1) (by omega) t_8 t_6 ls (lv_sub hl [0, 1, 2, 3, 4, 5] rfl)
set_option maxHeartbeats 4000000 in
set_option maxRecDepth 100000 in
theorem q_count (l : Launch) (D : va_G) (cI cZ cN cO : ClassId) (A : Nat → Prop) (mm : Nat) (d : Nat → Nat) (n : Nat) (σ : RS) (k : Int32) (ok : rOK n σ)  : Met l yX4_count (.code yX4_count cX4_count 6 (some .int) :: gw) ({ frames := 1, cells := 0, slots := 0, locals := 24 }) (va_Pc (.ref mm :: [.int k]) (rH D cI cZ cN cO A mm d σ)) (va_Qi (fun (r : Int32) (_ : Unit) => True) (fun _ t => rH D cI cZ cN cO A mm d (rI σ 1 0) t ∧ rOK n (rI σ 1 0)) A) 0 0 A := by
  refine Met.ofW (cc := cX4_count) (maxL := 6) (ret := (some .int)) (by decide) rfl ?_
  intro p e s m args below meth c s₁ B hml hv
  obtain ⟨rfl, hP, hK, hD⟩ := hv
  have hx := B.exec
  have hb := B.bytes
  have hr := B.returns
  have hts := atoms_spec (ws := (.code yX4_count cX4_count 6 (some .int) :: gw)) B.pre
  have hg : ∀ w ∈ gw, w.before _ s = true := fun w h => hts w (List.mem_cons_of_mem _ h)
  have hown : s.vm.findClass RX4 = some m.cls := findClass_of_methodNamed B.named
  have hlocks := B.notSynchronized
  have C : Cx p c cX4_count s m _ RX4 D (gTy cI cZ cN cO) := ⟨hx, hb, hown, hg, hK⟩
  have w : rWd D cI cZ A s.heap mm d σ s.heap [] := ⟨hP, hD, va_S.rf⟩
  have hl := lv_entry ([.ref mm, .int k]) (n := 6) (Nat.le_of_ble_eq_true rfl)
  rw [lg_entry_eq]
  generalize (lg_sl ([.ref mm, .int k]) ++ List.replicate (6 - (lg_sl ([.ref mm, .int k])).length) Slot.unset).toArray = ls at hl ⊢
  have hl : lv_has ls 6 [(0, .ref mm), (1, .int k)] := hl
  refine lv_aload_n hx hb dX4_count_0 rfl (lv_at hl 0 rfl) ?_
  refine lv_iconst (v := 0) hx hb dX4_count_1 (by decide) ?_
  refine r_put_1 C w dX4_count_2 (fun H locs w => ?_)
  have ok : rOK n _ := rOK.put ok (k := 1) (v := 0) (by decide) (fun h => absurd h (by decide)) (fun h => absurd h (by decide))
  refine lv_iconst (v := 0) hx hb dX4_count_5 (by decide) ?_
  refine lv_istore_n (lv' := [(2, _), (0, _), (1, _)]) C.1 C.2.1 dX4_count_6 rfl hl (by decide) rfl (fun ls hl => ?_)
  refine lv_iconst (v := 0) hx hb dX4_count_7 (by decide) ?_
  refine lv_istore_n (lv' := [(3, _), (2, _), (0, _), (1, _)]) C.1 C.2.1 dX4_count_8 rfl hl (by decide) rfl (fun ls hl => ?_)
  rw [← nI_0] at hl
  have hn9 := ok.2.1
  refine ql_count1 C hml w ok hn9 ?_ n 0 (by omega) _ ls (lv_sub hl [0, 1, 2, 3] rfl)
  intro u ls hl
  refine lv_iconst (v := 0) hx hb dX4_count_40 (by decide) ?_
  refine lv_istore_n (lv' := [(3, _), (2, _), (0, _), (1, _)]) C.1 C.2.1 dX4_count_41 rfl hl (by decide) rfl (fun ls hl => ?_)
  refine lv_iconst (v := 0) hx hb dX4_count_42 (by decide) ?_
  refine lv_istore (lv' := [(4, _), (3, _), (2, _), (0, _), (1, _)]) C.1 C.2.1 dX4_count_43 hl (by decide) rfl (fun ls hl => ?_)
  refine lv_iconst (v := 1) hx hb dX4_count_45 (by decide) ?_
  refine lv_istore (lv' := [(5, _), (4, _), (3, _), (2, _), (0, _), (1, _)]) C.1 C.2.1 dX4_count_46 hl (by decide) rfl (fun ls hl => ?_)
  obtain ⟨op, hopl, hop⟩ := vp_in_of ok.2.2.2.2.1 (by decide)
  have hl := lv_sub hl (l' := [(5, .int (nI (1 + 0))), (4, .int 0), (3, .int 0), (2, .int u), (0, .ref mm), (1, .int k)]) [0, 1, 2, 3, 4, 5] (by rw [show nI (1 + 0) = (1 : Int32) from by decide +kernel]; rfl)
  refine ql_count2 C hml op w ok hop hopl (Nat.le_of_ble_eq_true rfl) (Nat.le_of_ble_eq_true rfl) (Nat.zero_le _) (Nat.zero_le _) ?_ op 0 (by omega) _ _ ls hl
  intro v u2 ls hl
  refine lv_iload_n hx hb dX4_count_96 rfl (lv_at hl 5 rfl) ?_
  rcases gSw k 9 9 rfl (by decide) with hsw | ⟨j, hj, hjx⟩
  · refine lv_tableOut (tgt := 194) hx hb dX4_count_97 hsw (by decide) ?_
    refine lv_iconst (v := (-1)) hx hb dX4_count_194 (by decide) ?_
    exact W.iret hx hb hr (fun t ht hW => ⟨⟨_, (), rfl, trivial, ⟨by rw [ht]; exact w.1, va_K.moved hW.alike hK, w.2.1⟩, ok⟩, w.2.2.F ht⟩) w.2.2.2.2 dX4_count_195
  · rcases (show j = 0 ∨ j = 1 ∨ j = 2 ∨ j = 3 ∨ j = 4 ∨ j = 5 ∨ j = 6 ∨ j = 7 ∨ j = 8 ∨ j = 9 by omega) with hj0 | hj0 | hj0 | hj0 | hj0 | hj0 | hj0 | hj0 | hj0 | hj0
    · rw [hj0] at hjx
      subst hjx
      refine lv_tableIn (off := 55) (tgt := 152) hx hb dX4_count_97 (by decide +kernel) (by decide +kernel) (by decide +kernel) (by decide) ?_
      refine lv_aload_n hx hb dX4_count_152 rfl (lv_at hl 4 rfl) ?_
      refine r_get_0 C w dX4_count_153 ?_
      refine lv_topi (fun t_1 et_1 => ?_)
      exact W.iret hx hb hr (fun t ht hW => ⟨⟨_, (), rfl, trivial, ⟨by rw [ht]; exact w.1, va_K.moved hW.alike hK, w.2.1⟩, ok⟩, w.2.2.F ht⟩) w.2.2.2.2 dX4_count_156
    · rw [hj0] at hjx
      subst hjx
      refine lv_tableIn (off := 60) (tgt := 157) hx hb dX4_count_97 (by decide +kernel) (by decide +kernel) (by decide +kernel) (by decide) ?_
      refine lv_iload_n hx hb dX4_count_157 rfl (lv_at hl 3 rfl) ?_
      exact W.iret hx hb hr (fun t ht hW => ⟨⟨_, (), rfl, trivial, ⟨by rw [ht]; exact w.1, va_K.moved hW.alike hK, w.2.1⟩, ok⟩, w.2.2.F ht⟩) w.2.2.2.2 dX4_count_158
    · rw [hj0] at hjx
      subst hjx
      refine lv_tableIn (off := 62) (tgt := 159) hx hb dX4_count_97 (by decide +kernel) (by decide +kernel) (by decide +kernel) (by decide) ?_
      refine lv_aload_n hx hb dX4_count_159 rfl (lv_at hl 4 rfl) ?_
      refine r_get_9 C w dX4_count_160 ?_
      refine lv_topi (fun t_2 et_2 => ?_)
      exact W.iret hx hb hr (fun t ht hW => ⟨⟨_, (), rfl, trivial, ⟨by rw [ht]; exact w.1, va_K.moved hW.alike hK, w.2.1⟩, ok⟩, w.2.2.F ht⟩) w.2.2.2.2 dX4_count_163
    · rw [hj0] at hjx
      subst hjx
      refine lv_tableIn (off := 67) (tgt := 164) hx hb dX4_count_97 (by decide +kernel) (by decide +kernel) (by decide +kernel) (by decide) ?_
      refine lv_aload_n hx hb dX4_count_164 rfl (lv_at hl 4 rfl) ?_
      refine r_get_10 C w dX4_count_165 ?_
      refine lv_topi (fun t_3 et_3 => ?_)
      exact W.iret hx hb hr (fun t ht hW => ⟨⟨_, (), rfl, trivial, ⟨by rw [ht]; exact w.1, va_K.moved hW.alike hK, w.2.1⟩, ok⟩, w.2.2.F ht⟩) w.2.2.2.2 dX4_count_168
    · rw [hj0] at hjx
      subst hjx
      refine lv_tableIn (off := 72) (tgt := 169) hx hb dX4_count_97 (by decide +kernel) (by decide +kernel) (by decide +kernel) (by decide) ?_
      refine lv_aload_n hx hb dX4_count_169 rfl (lv_at hl 4 rfl) ?_
      refine r_get_11 C w dX4_count_170 ?_
      refine lv_topi (fun t_4 et_4 => ?_)
      exact W.iret hx hb hr (fun t ht hW => ⟨⟨_, (), rfl, trivial, ⟨by rw [ht]; exact w.1, va_K.moved hW.alike hK, w.2.1⟩, ok⟩, w.2.2.F ht⟩) w.2.2.2.2 dX4_count_173
    · rw [hj0] at hjx
      subst hjx
      refine lv_tableIn (off := 77) (tgt := 174) hx hb dX4_count_97 (by decide +kernel) (by decide +kernel) (by decide +kernel) (by decide) ?_
      refine lv_aload_n hx hb dX4_count_174 rfl (lv_at hl 4 rfl) ?_
      refine r_get_37 C w dX4_count_175 ?_
      refine lv_topi (fun t_5 et_5 => ?_)
      exact W.iret hx hb hr (fun t ht hW => ⟨⟨_, (), rfl, trivial, ⟨by rw [ht]; exact w.1, va_K.moved hW.alike hK, w.2.1⟩, ok⟩, w.2.2.F ht⟩) w.2.2.2.2 dX4_count_178
    · rw [hj0] at hjx
      subst hjx
      refine lv_tableIn (off := 82) (tgt := 179) hx hb dX4_count_97 (by decide +kernel) (by decide +kernel) (by decide +kernel) (by decide) ?_
      refine lv_iload_n hx hb dX4_count_179 rfl (lv_at hl 2 rfl) ?_
      exact W.iret hx hb hr (fun t ht hW => ⟨⟨_, (), rfl, trivial, ⟨by rw [ht]; exact w.1, va_K.moved hW.alike hK, w.2.1⟩, ok⟩, w.2.2.F ht⟩) w.2.2.2.2 dX4_count_180
    · rw [hj0] at hjx
      subst hjx
      refine lv_tableIn (off := 84) (tgt := 181) hx hb dX4_count_97 (by decide +kernel) (by decide +kernel) (by decide +kernel) (by decide) ?_
      refine lv_aload_n hx hb dX4_count_181 rfl (lv_at hl 4 rfl) ?_
      refine r_get_12 C w dX4_count_182 ?_
      refine lv_topi (fun t_6 et_6 => ?_)
      exact W.iret hx hb hr (fun t ht hW => ⟨⟨_, (), rfl, trivial, ⟨by rw [ht]; exact w.1, va_K.moved hW.alike hK, w.2.1⟩, ok⟩, w.2.2.F ht⟩) w.2.2.2.2 dX4_count_185
    · rw [hj0] at hjx
      subst hjx
      refine lv_tableIn (off := 89) (tgt := 186) hx hb dX4_count_97 (by decide +kernel) (by decide +kernel) (by decide +kernel) (by decide) ?_
      refine lv_aload_n hx hb dX4_count_186 rfl (lv_at hl 4 rfl) ?_
      refine r_get_38 C w dX4_count_187 ?_
      refine lv_topi (fun t_7 et_7 => ?_)
      exact W.iret hx hb hr (fun t ht hW => ⟨⟨_, (), rfl, trivial, ⟨by rw [ht]; exact w.1, va_K.moved hW.alike hK, w.2.1⟩, ok⟩, w.2.2.F ht⟩) w.2.2.2.2 dX4_count_190
    · rw [hj0] at hjx
      subst hjx
      refine lv_tableIn (off := 94) (tgt := 191) hx hb dX4_count_97 (by decide +kernel) (by decide +kernel) (by decide +kernel) (by decide) ?_
      refine lv_iload hx hb dX4_count_191 (lv_at hl 1 rfl) ?_
      exact W.iret hx hb hr (fun t ht hW => ⟨⟨_, (), rfl, trivial, ⟨by rw [ht]; exact w.1, va_K.moved hW.alike hK, w.2.1⟩, ok⟩, w.2.2.F ht⟩) w.2.2.2.2 dX4_count_193
