def rCpy (k : Int32) (i : Nat) (σ : RS) : RS := rA σ 22 ((31 : Int32) * k + nI i).toNatClampNeg (σ.2 21 ((31 : Int32) * k + nI i).toNatClampNeg)
/-- what follows as NODE k has heard one more -/
noncomputable def rHr2 (n : Nat) (k : Int32) (σ : RS) : RS := cif (nI n < (2 : Int32) * σ.2 17 k.toNatClampNeg) (cif (σ.2 14 k.toNatClampNeg = 1) (rToS n 22 k (rA (itr (rCpy k) n σ) 14 k.toNatClampNeg 2)) (cif (σ.2 14 k.toNatClampNeg = 2) (rThr n k σ) (rEnds k σ))) σ
def rHOk (n : Nat) (k : Int32) (σ : RS) : Prop := (nI n < (2 : Int32) * σ.2 17 k.toNatClampNeg → σ.2 14 k.toNatClampNeg = 1 → rRm σ n) ∧ (nI n < (2 : Int32) * σ.2 17 k.toNatClampNeg → σ.2 14 k.toNatClampNeg = 2 → rThOk n k σ)
def rH0 (k : Int32) (σ : RS) : RS := rA σ 17 k.toNatClampNeg (σ.2 17 k.toNatClampNeg + 1)
set_option maxHeartbeats 4000000 in
set_option maxRecDepth 100000 in
theorem ql_hear {p : Program} {l : Launch} {e : Env} {R : Room} {s : State} {m : MethodId} {args : Array Value} {below : List Frame} {meth : Method} {c : Code} {cells slots : Nat} {Q : State → Prop} {D : va_G} {cI cZ cN cO : ClassId} {A : Nat → Prop} {H0 : Heap} {mm : Nat} {d : Nat → Nat} {n : Nat} (C : Cx p c cX4_hears s m args RX4 D (gTy cI cZ cN cO)) (hml : c.maxLocals = 5) {σ : RS} {k x : Int32} (hn : n ≤ 31) (hk : vp_in k n) (hx1 : vp_in x 2001) (hkd : σ.2 2 x.toNatClampNeg = 1) (hRf : 1 ≤ R.frames) (hRl : 24 ≤ R.locals) (hRc : cells + 0 ≤ R.cells) (hRs : slots + 0 ≤ R.slots) (kk : ∀ (H : Heap) (locs : List Loc), rWd D cI cZ A H0 mm d (itr (rMax 21 k x) n σ) H locs → rOK n (itr (rMax 21 k x) n σ) → ∀ ls : Array Slot, lv_has ls 5 [(3, .int (nI n)), (2, .int k), (0, .ref mm), (1, .int x)] → W p l e R s m args below meth c H locs cells slots Q (F0 m 79 ls [])) : ∀ (fu i : Nat), i + fu = n → ∀ (H : Heap) (locs : List Loc), rWd D cI cZ A H0 mm d (itr (rMax 21 k x) i σ) H locs → rOK n (itr (rMax 21 k x) i σ) → ∀ ls : Array Slot, lv_has ls 5 [(3, .int (nI i)), (2, .int k), (0, .ref mm), (1, .int x)] → W p l e R s m args below meth c H locs cells slots Q (F0 m 19 ls []) := by
  intro fu
  induction fu with
  | zero =>
    intro i hik
    intro H locs w ok ls hl
    have hx := C.1
    have hb := C.2.1
    have hi : n = i := by omega
    subst hi
    refine lv_iload_n hx hb dX4_hears_19 rfl (lv_at hl 0 rfl) ?_
    refine lv_aload_n hx hb dX4_hears_20 rfl (lv_at hl 2 rfl) ?_
    refine r_get_0 C w dX4_hears_21 ?_
    rw [ok.nn]
    refine lv_icmp_ge (tgt := 79) hx hb dX4_hears_24 (by decide) (fun c_24 => ?_) (fun c_24 => absurd (Int32.le_refl _) c_24)
    exact kk _ _ w ok ls (lv_sub hl [0, 1, 2, 3] rfl)
  | succ fu ih =>
    intro i hik
    intro H locs w ok ls hl
    have hx := C.1
    have hb := C.2.1
    have hi : i < n := by omega
    refine lv_iload_n hx hb dX4_hears_19 rfl (lv_at hl 0 rfl) ?_
    refine lv_aload_n hx hb dX4_hears_20 rfl (lv_at hl 2 rfl) ?_
    refine r_get_0 C w dX4_hears_21 ?_
    rw [ok.nn]
    refine lv_icmp_ge (tgt := 79) hx hb dX4_hears_24 (by decide) (fun c_24 => absurd c_24 (nI_ge hi (by omega))) (fun c_24 => ?_)
    refine lv_aload_n hx hb dX4_hears_27 rfl (lv_at hl 2 rfl) ?_
    refine r_get_2 C w dX4_hears_28 ?_
    refine lv_iload_n hx hb dX4_hears_31 rfl (lv_at hl 3 rfl) ?_
    refine r_ld_2 C w hx1 dX4_hears_32 ?_
    rw [show (itr (rMax 21 k x) i σ).2 2 x.toNatClampNeg = 1 from by rw [itr_row (f := rMax 21 k x) (r := 2) (fun _ _ => rfl) i σ]; exact hkd]
    refine lv_iconst (v := 1) hx hb dX4_hears_33 (by decide) ?_
    refine lv_icmp_ne (tgt := 79) hx hb dX4_hears_34 (by decide) (fun c_34 => absurd rfl c_34) (fun c_34 => ?_)
    refine lv_bipush (v := 31) hx hb dX4_hears_37 (by decide) ?_
    refine lv_iload_n hx hb dX4_hears_39 rfl (lv_at hl 1 rfl) ?_
    refine lv_imul hx hb dX4_hears_40 ?_
    refine lv_topi (fun t_1 et_1 => ?_)
    refine lv_iload_n hx hb dX4_hears_41 rfl (lv_at hl 0 rfl) ?_
    refine lv_iadd hx hb dX4_hears_42 ?_
    refine lv_topi (fun t_2 et_2 => ?_)
    refine lv_istore (lv' := [(4, _), (3, _), (2, _), (0, _), (1, _)]) C.1 C.2.1 dX4_hears_43 hl (by decide) rfl (fun ls hl => ?_)
    refine lv_aload_n hx hb dX4_hears_45 rfl (lv_at hl 3 rfl) ?_
    refine r_get_21 C w dX4_hears_46 ?_
    refine lv_iload hx hb dX4_hears_49 (lv_at hl 0 rfl) ?_
    refine lv_aload_n hx hb dX4_hears_51 rfl (lv_at hl 3 rfl) ?_
    refine r_get_21 C w dX4_hears_52 ?_
    refine lv_iload hx hb dX4_hears_55 (lv_at hl 0 rfl) ?_
    refine r_ld_21 C w (by rw [et_2, et_1]; exact gIx (c := 31) (N := 31) rfl (by decide) (ok.n31 hk) (vp_in_nI (by omega) (by omega))) dX4_hears_57 ?_
    refine lv_topi (fun t_3 et_3 => ?_)
    refine lv_aload_n hx hb dX4_hears_58 rfl (lv_at hl 3 rfl) ?_
    refine r_get_6 C w dX4_hears_59 ?_
    refine lv_bipush (v := 31) hx hb dX4_hears_62 (by decide) ?_
    refine lv_iload_n hx hb dX4_hears_64 rfl (lv_at hl 4 rfl) ?_
    refine lv_imul hx hb dX4_hears_65 ?_
    refine lv_topi (fun t_4 et_4 => ?_)
    refine lv_iload_n hx hb dX4_hears_66 rfl (lv_at hl 1 rfl) ?_
    refine lv_iadd hx hb dX4_hears_67 ?_
    refine lv_topi (fun t_5 et_5 => ?_)
    refine r_ld_6 C w (by rw [et_5, et_4]; exact gIx (c := 31) (N := 2001) rfl (by decide) hx1 (vp_in_nI (by omega) (by omega))) dX4_hears_68 ?_
    refine lv_topi (fun t_6 et_6 => ?_)
    refine va_mmax C.1 C.2.1 (hml.trans hl.1.symm) C.2.2.1 (C.2.2.2.1 _ kM_X4_174) (C.2.2.2.1 _ kT_Lib_Math_max_name) (C.2.2.2.1 _ kN_java_lang_Math) (C.2.2.2.1 _ kD_Lib_Math_max_name) hRf (by show 2 + 13 ≤ R.locals; omega) hRc hRs dX4_hears_69 ?_
    refine lv_topi (fun t_7 et_7 => ?_)
    have et_7 : t_7 = mx t_3 t_6 := et_7
    refine r_st_21 C w (by rw [et_2, et_1]; exact gIx (c := 31) (N := 31) rfl (by decide) (ok.n31 hk) (vp_in_nI (by omega) (by omega))) dX4_hears_72 (fun H locs w => ?_)
    have ok : rOK n _ := rOK.st ok (k := 21) (i := t_2.toNatClampNeg) (v := t_7) (fun b hb => by cases hb; rw [et_7]; exact mx_in (by rw [et_3]; exact ok.at 21 rfl _) (by rw [et_6]; exact ok.at 6 rfl _))
    obtain ⟨x_8, ex_8⟩ : ∃ y : Int32, y = (nI i) + 1 := ⟨_, rfl⟩
    refine lv_iinc (v := x_8) (lv' := [(3, _), (4, _), (2, _), (0, _), (1, _)]) C.1 C.2.1 dX4_hears_73 hl (k := 1) rfl (by rw [ex_8]; rfl) (by decide) rfl (fun ls hl => ?_)
    refine lv_goto (tgt := 19) hx hb dX4_hears_76 (by decide) ?_
    subst et_7 et_6 et_5 et_4 et_3 et_2 et_1
    have hx2 : x_8 = nI (i + 1) := by rw [ex_8]; exact nI_1 i
    rw [hx2] at hl
    exact ih (i + 1) (by omega) _ _ w ok ls (lv_sub hl [0, 2, 3, 4] rfl)
set_option maxHeartbeats 4000000 in
set_option maxRecDepth 100000 in
theorem ql_cpy {p : Program} {l : Launch} {e : Env} {R : Room} {s : State} {m : MethodId} {args : Array Value} {below : List Frame} {meth : Method} {c : Code} {cells slots : Nat} {Q : State → Prop} {D : va_G} {cI cZ cN cO : ClassId} {A : Nat → Prop} {H0 : Heap} {mm : Nat} {d : Nat → Nat} {n : Nat} (C : Cx p c cX4_hears s m args RX4 D (gTy cI cZ cN cO)) (hml : c.maxLocals = 5) {σ : RS} {k x : Int32} (hn : n ≤ 31) (hk : vp_in k n) (kk : ∀ (H : Heap) (locs : List Loc), rWd D cI cZ A H0 mm d (itr (rCpy k) n σ) H locs → rOK n (itr (rCpy k) n σ) → ∀ ls : Array Slot, lv_has ls 5 [(3, .int (nI n)), (2, .int k), (0, .ref mm), (1, .int x)] → W p l e R s m args below meth c H locs cells slots Q (F0 m 143 ls [])) : ∀ (fu i : Nat), i + fu = n → ∀ (H : Heap) (locs : List Loc), rWd D cI cZ A H0 mm d (itr (rCpy k) i σ) H locs → rOK n (itr (rCpy k) i σ) → ∀ ls : Array Slot, lv_has ls 5 [(3, .int (nI i)), (2, .int k), (0, .ref mm), (1, .int x)] → W p l e R s m args below meth c H locs cells slots Q (F0 m 107 ls []) := by
  intro fu
  induction fu with
  | zero =>
    intro i hik
    intro H locs w ok ls hl
    have hx := C.1
    have hb := C.2.1
    have hi : n = i := by omega
    subst hi
    refine lv_iload_n hx hb dX4_hears_107 rfl (lv_at hl 0 rfl) ?_
    refine lv_aload_n hx hb dX4_hears_108 rfl (lv_at hl 2 rfl) ?_
    refine r_get_0 C w dX4_hears_109 ?_
    rw [ok.nn]
    refine lv_icmp_ge (tgt := 143) hx hb dX4_hears_112 (by decide) (fun c_112 => ?_) (fun c_112 => absurd (Int32.le_refl _) c_112)
    exact kk _ _ w ok ls (lv_sub hl [0, 1, 2, 3] rfl)
  | succ fu ih =>
    intro i hik
    intro H locs w ok ls hl
    have hx := C.1
    have hb := C.2.1
    have hi : i < n := by omega
    refine lv_iload_n hx hb dX4_hears_107 rfl (lv_at hl 0 rfl) ?_
    refine lv_aload_n hx hb dX4_hears_108 rfl (lv_at hl 2 rfl) ?_
    refine r_get_0 C w dX4_hears_109 ?_
    rw [ok.nn]
    refine lv_icmp_ge (tgt := 143) hx hb dX4_hears_112 (by decide) (fun c_112 => absurd c_112 (nI_ge hi (by omega))) (fun c_112 => ?_)
    refine lv_aload_n hx hb dX4_hears_115 rfl (lv_at hl 2 rfl) ?_
    refine r_get_22 C w dX4_hears_116 ?_
    refine lv_bipush (v := 31) hx hb dX4_hears_119 (by decide) ?_
    refine lv_iload_n hx hb dX4_hears_121 rfl (lv_at hl 1 rfl) ?_
    refine lv_imul hx hb dX4_hears_122 ?_
    refine lv_topi (fun t_1 et_1 => ?_)
    refine lv_iload_n hx hb dX4_hears_123 rfl (lv_at hl 0 rfl) ?_
    refine lv_iadd hx hb dX4_hears_124 ?_
    refine lv_topi (fun t_2 et_2 => ?_)
    refine lv_aload_n hx hb dX4_hears_125 rfl (lv_at hl 2 rfl) ?_
    refine r_get_21 C w dX4_hears_126 ?_
    refine lv_bipush (v := 31) hx hb dX4_hears_129 (by decide) ?_
    refine lv_iload_n hx hb dX4_hears_131 rfl (lv_at hl 1 rfl) ?_
    refine lv_imul hx hb dX4_hears_132 ?_
    refine lv_topi (fun t_3 et_3 => ?_)
    refine lv_iload_n hx hb dX4_hears_133 rfl (lv_at hl 0 rfl) ?_
    refine lv_iadd hx hb dX4_hears_134 ?_
    refine lv_topi (fun t_4 et_4 => ?_)
    refine r_ld_21 C w (by rw [et_4, et_3]; exact gIx (c := 31) (N := 31) rfl (by decide) (ok.n31 hk) (vp_in_nI (by omega) (by omega))) dX4_hears_135 ?_
    refine lv_topi (fun t_5 et_5 => ?_)
    refine r_st_22 C w (by rw [et_2, et_1]; exact gIx (c := 31) (N := 31) rfl (by decide) (ok.n31 hk) (vp_in_nI (by omega) (by omega))) dX4_hears_136 (fun H locs w => ?_)
    have ok : rOK n _ := rOK.st ok (k := 22) (i := t_2.toNatClampNeg) (v := t_5) (fun b hb => by cases hb; rw [et_5]; exact ok.at 21 rfl _)
    obtain ⟨x_6, ex_6⟩ : ∃ y : Int32, y = (nI i) + 1 := ⟨_, rfl⟩
    refine lv_iinc (v := x_6) (lv' := [(3, _), (2, _), (0, _), (1, _)]) C.1 C.2.1 dX4_hears_137 hl (k := 0) rfl (by rw [ex_6]; rfl) (by decide) rfl (fun ls hl => ?_)
    refine lv_goto (tgt := 107) hx hb dX4_hears_140 (by decide) ?_
    subst et_5 et_4 et_3 et_2 et_1
    have hx2 : x_6 = nI (i + 1) := by rw [ex_6]; exact nI_1 i
    rw [hx2] at hl
    exact ih (i + 1) (by omega) _ _ w ok ls (lv_sub hl [0, 1, 2, 3] rfl)
set_option maxHeartbeats 4000000 in
set_option maxRecDepth 100000 in
theorem q_hearsR (l : Launch) (D : va_G) (cI cZ cN cO : ClassId) (A : Nat → Prop) (mm : Nat) (d : Nat → Nat) (n : Nat) (σ : RS) (x k : Int32) (ok : rOK n σ) (hx1 : vp_in x 2001) (hkr : σ.2 4 x.toNatClampNeg = k) (hk : vp_in k n) (hkd : σ.2 2 x.toNatClampNeg = 1) (hok : rHOk n k (itr (rMax 21 k x) n (rH0 k σ))) : Met l yX4_hears (.code yX4_hears cX4_hears 5 none :: gw) ({ frames := 4, cells := 0, slots := 0, locals := 99 }) (va_Pc (.ref mm :: [.int x]) (rH D cI cZ cN cO A mm d σ)) (va_Qv (fun _ : Unit => True) (fun _ t => rH D cI cZ cN cO A mm d (rHr2 n k (itr (rMax 21 k x) n (rH0 k σ))) t ∧ rOK n (rHr2 n k (itr (rMax 21 k x) n (rH0 k σ)))) A) 0 0 A := by
  refine Met.ofW (cc := cX4_hears) (maxL := 5) (ret := none) (by decide) rfl ?_
  intro p e s m args below meth c s₁ B hml hv
  obtain ⟨rfl, hP, hK, hD⟩ := hv
  have hx := B.exec
  have hb := B.bytes
  have hr := B.returns
  have hts := atoms_spec (ws := (.code yX4_hears cX4_hears 5 none :: gw)) B.pre
  have hg : ∀ w ∈ gw, w.before _ s = true := fun w h => hts w (List.mem_cons_of_mem _ h)
  have hown : s.vm.findClass RX4 = some m.cls := findClass_of_methodNamed B.named
  have hlocks := B.notSynchronized
  have C : Cx p c cX4_hears s m _ RX4 D (gTy cI cZ cN cO) := ⟨hx, hb, hown, hg, hK⟩
  have w : rWd D cI cZ A s.heap mm d σ s.heap [] := ⟨hP, hD, va_S.rf⟩
  have hl := lv_entry ([.ref mm, .int x]) (n := 5) (Nat.le_of_ble_eq_true rfl)
  rw [lg_entry_eq]
  generalize (lg_sl ([.ref mm, .int x]) ++ List.replicate (5 - (lg_sl ([.ref mm, .int x])).length) Slot.unset).toArray = ls at hl ⊢
  have hl : lv_has ls 5 [(0, .ref mm), (1, .int x)] := hl
  refine lv_aload_n hx hb dX4_hears_0 rfl (lv_at hl 0 rfl) ?_
  refine r_get_4 C w dX4_hears_1 ?_
  refine lv_iload_n hx hb dX4_hears_4 rfl (lv_at hl 1 rfl) ?_
  refine r_ld_4 C w hx1 dX4_hears_5 ?_
  rw [hkr]
  refine lv_istore_n (lv' := [(2, _), (0, _), (1, _)]) C.1 C.2.1 dX4_hears_6 rfl hl (by decide) rfl (fun ls hl => ?_)
  refine lv_aload_n hx hb dX4_hears_7 rfl (lv_at hl 1 rfl) ?_
  refine r_get_17 C w dX4_hears_8 ?_
  refine lv_iload_n hx hb dX4_hears_11 rfl (lv_at hl 0 rfl) ?_
  refine lv_dup2_11 hx hb dX4_hears_12 rfl rfl ?_
  refine r_ld_17 C w (ok.n31 hk) dX4_hears_13 ?_
  refine lv_topi (fun t_1 et_1 => ?_)
  refine lv_iconst (v := 1) hx hb dX4_hears_14 (by decide) ?_
  refine lv_iadd hx hb dX4_hears_15 ?_
  refine lv_topi (fun t_2 et_2 => ?_)
  refine r_st_17 C w (ok.n31 hk) dX4_hears_16 (fun H locs w => ?_)
  have ok : rOK n _ := rOK.st ok (k := 17) (i := k.toNatClampNeg) (v := t_2) (fun b hb => by cases hb)
  refine lv_iconst (v := 0) hx hb dX4_hears_17 (by decide) ?_
  refine lv_istore_n (lv' := [(3, _), (2, _), (0, _), (1, _)]) C.1 C.2.1 dX4_hears_18 rfl hl (by decide) rfl (fun ls hl => ?_)
  subst et_2 et_1
  have w : rWd D cI cZ A s.heap mm d (rH0 k σ) H locs := w
  have ok : rOK n (rH0 k σ) := ok
  rw [← nI_0] at hl
  refine ql_hear (σ := rH0 k σ) C hml ok.2.1 hk hx1 hkd (Nat.le_of_ble_eq_true rfl) (Nat.le_of_ble_eq_true rfl) (Nat.zero_le _) (Nat.zero_le _) ?_ n 0 (by omega) _ _ w ok ls (lv_sub hl [0, 1, 2, 3] rfl)
  intro H locs w ok ls hl
  obtain ⟨σ1, hσ1⟩ : ∃ z, z = itr (rMax 21 k x) n (rH0 k σ) := ⟨_, rfl⟩
  rw [← hσ1] at w ok hok ⊢
  refine lv_iconst (v := 2) hx hb dX4_hears_79 (by decide) ?_
  refine lv_aload_n hx hb dX4_hears_80 rfl (lv_at hl 2 rfl) ?_
  refine r_get_17 C w dX4_hears_81 ?_
  refine lv_iload_n hx hb dX4_hears_84 rfl (lv_at hl 1 rfl) ?_
  refine r_ld_17 C w (ok.n31 hk) dX4_hears_85 ?_
  refine lv_topi (fun t_3 et_3 => ?_)
  refine lv_imul hx hb dX4_hears_86 ?_
  refine lv_topi (fun t_4 et_4 => ?_)
  refine lv_aload_n hx hb dX4_hears_87 rfl (lv_at hl 2 rfl) ?_
  refine r_get_0 C w dX4_hears_88 ?_
  rw [ok.nn]
  refine lv_icmp_gt (tgt := 95) hx hb dX4_hears_91 (by decide) (fun c_91 => ?_) (fun c_91 => ?_)
  · refine lv_aload_n hx hb dX4_hears_95 rfl (lv_at hl 2 rfl) ?_
    refine r_get_14 C w dX4_hears_96 ?_
    refine lv_iload_n hx hb dX4_hears_99 rfl (lv_at hl 1 rfl) ?_
    refine r_ld_14 C w (ok.n31 hk) dX4_hears_100 ?_
    refine lv_topi (fun t_5 et_5 => ?_)
    refine lv_iconst (v := 1) hx hb dX4_hears_101 (by decide) ?_
    refine lv_icmp_ne (tgt := 163) hx hb dX4_hears_102 (by decide) (fun c_102 => ?_) (fun c_102 => ?_)
    · refine lv_aload_n hx hb dX4_hears_163 rfl (lv_at hl 2 rfl) ?_
      refine r_get_14 C w dX4_hears_164 ?_
      refine lv_iload_n hx hb dX4_hears_167 rfl (lv_at hl 1 rfl) ?_
      refine r_ld_14 C w (ok.n31 hk) dX4_hears_168 ?_
      refine lv_topi (fun t_6 et_6 => ?_)
      refine lv_iconst (v := 2) hx hb dX4_hears_169 (by decide) ?_
      refine lv_icmp_ne (tgt := 181) hx hb dX4_hears_170 (by decide) (fun c_170 => ?_) (fun c_170 => ?_)
      · refine lv_aload_n hx hb dX4_hears_181 rfl (lv_at hl 2 rfl) ?_
        refine lv_iload_n hx hb dX4_hears_182 rfl (lv_at hl 1 rfl) ?_
        subst et_6 et_5 et_4 et_3
        refine r_callv (As := [.int k]) (rest := []) C w hml hl.1 (q_ends l D cI cZ cN cO A mm d n _ k ok hk) kM_X4_162 kI_X4_ends kS_X4_ends kD_X4_ends (show yX4_ends.cls = RX4 ∧ yX4_ends.cls ≠ "java/lang/invoke/MethodHandle" ∧ yX4_ends.cls ≠ "java/lang/invoke/VarHandle" ∧ (parseMethodDescriptor yX4_ends.desc).map (fun d => d.parameters.length) = some 1 from by decide +kernel) rfl rfl ⟨Nat.le_of_ble_eq_true rfl, Nat.le_of_ble_eq_true rfl⟩ rfl (lv_room (Nat.le_of_ble_eq_true rfl)) dX4_hears_183 ⟨Nat.zero_le _, Nat.zero_le _⟩ (fun H locs w ok => ?_)
        have w : rWd D cI cZ A s.heap mm d (rHr2 n k σ1) H locs := by unfold rHr2; first | (rw [cif_neg c_91]; exact w) | (rw [cif_pos c_91, cif_pos c_102]; exact w) | (rw [cif_pos c_91, cif_neg c_102, cif_pos c_170]; exact w) | (rw [cif_pos c_91, cif_neg c_102, cif_neg c_170]; exact w)
        have ok : rOK n (rHr2 n k σ1) := by unfold rHr2; first | (rw [cif_neg c_91]; exact ok) | (rw [cif_pos c_91, cif_pos c_102]; exact ok) | (rw [cif_pos c_91, cif_neg c_102, cif_pos c_170]; exact ok) | (rw [cif_pos c_91, cif_neg c_102, cif_neg c_170]; exact ok)
        exact W.vret hx hb hr (fun t ht hW => ⟨⟨(), rfl, trivial, ⟨by rw [ht]; exact w.1, va_K.moved hW.alike hK, w.2.1⟩, ok⟩, w.2.2.F ht⟩) w.2.2.2.2 dX4_hears_186
      · refine lv_aload_n hx hb dX4_hears_173 rfl (lv_at hl 2 rfl) ?_
        refine lv_iload_n hx hb dX4_hears_174 rfl (lv_at hl 1 rfl) ?_
        subst et_6 et_5 et_4 et_3
        refine r_callv (As := [.int k]) (rest := []) C w hml hl.1 (q_through l D cI cZ cN cO A mm d n _ k ok hk (hok.2 c_91 c_170)) kM_X4_180 kI_X4_through kS_X4_through kD_X4_through (show yX4_through.cls = RX4 ∧ yX4_through.cls ≠ "java/lang/invoke/MethodHandle" ∧ yX4_through.cls ≠ "java/lang/invoke/VarHandle" ∧ (parseMethodDescriptor yX4_through.desc).map (fun d => d.parameters.length) = some 1 from by decide +kernel) rfl rfl ⟨Nat.le_of_ble_eq_true rfl, Nat.le_of_ble_eq_true rfl⟩ rfl (lv_room (Nat.le_of_ble_eq_true rfl)) dX4_hears_175 ⟨Nat.zero_le _, Nat.zero_le _⟩ (fun H locs w ok => ?_)
        refine lv_goto (tgt := 186) hx hb dX4_hears_178 (by decide) ?_
        have w : rWd D cI cZ A s.heap mm d (rHr2 n k σ1) H locs := by unfold rHr2; first | (rw [cif_neg c_91]; exact w) | (rw [cif_pos c_91, cif_pos c_102]; exact w) | (rw [cif_pos c_91, cif_neg c_102, cif_pos c_170]; exact w) | (rw [cif_pos c_91, cif_neg c_102, cif_neg c_170]; exact w)
        have ok : rOK n (rHr2 n k σ1) := by unfold rHr2; first | (rw [cif_neg c_91]; exact ok) | (rw [cif_pos c_91, cif_pos c_102]; exact ok) | (rw [cif_pos c_91, cif_neg c_102, cif_pos c_170]; exact ok) | (rw [cif_pos c_91, cif_neg c_102, cif_neg c_170]; exact ok)
        exact W.vret hx hb hr (fun t ht hW => ⟨⟨(), rfl, trivial, ⟨by rw [ht]; exact w.1, va_K.moved hW.alike hK, w.2.1⟩, ok⟩, w.2.2.F ht⟩) w.2.2.2.2 dX4_hears_186
    · refine lv_iconst (v := 0) hx hb dX4_hears_105 (by decide) ?_
      refine lv_istore_n (lv' := [(3, _), (2, _), (0, _), (1, _)]) C.1 C.2.1 dX4_hears_106 rfl hl (by decide) rfl (fun ls hl => ?_)
      subst et_5 et_4 et_3
      rw [← nI_0] at hl
      refine ql_cpy C hml ok.2.1 hk ?_ n 0 (by omega) _ _ w ok ls (lv_sub hl [0, 1, 2, 3] rfl)
      intro H locs w ok ls hl
      refine lv_aload_n hx hb dX4_hears_143 rfl (lv_at hl 2 rfl) ?_
      refine r_get_14 C w dX4_hears_144 ?_
      refine lv_iload_n hx hb dX4_hears_147 rfl (lv_at hl 1 rfl) ?_
      refine lv_iconst (v := 2) hx hb dX4_hears_148 (by decide) ?_
      refine r_st_14 C w (ok.n31 hk) dX4_hears_149 (fun H locs w => ?_)
      have ok : rOK n _ := rOK.st ok (k := 14) (i := k.toNatClampNeg) (v := 2) (fun b hb => by cases hb)
      refine lv_aload_n hx hb dX4_hears_150 rfl (lv_at hl 2 rfl) ?_
      refine lv_iload_n hx hb dX4_hears_151 rfl (lv_at hl 1 rfl) ?_
      refine lv_iconst (v := 2) hx hb dX4_hears_152 (by decide) ?_
      refine lv_aload_n hx hb dX4_hears_153 rfl (lv_at hl 2 rfl) ?_
      refine r_get_22 C w dX4_hears_154 ?_
      refine r_callv (As := [.int k, .int 2, .ref ((d 22))]) (rest := []) C w hml hl.1 (q_toS22 l D cI cZ cN cO A mm d n _ k ok hk (rRm.st (rRm.iter (fun i σ h => h.st (by decide)) n (hok.1 c_91 c_102)) (by decide))) kM_X4_125 kI_X4_toAll kS_X4_toAll kD_X4_toAll (show yX4_toAll.cls = RX4 ∧ yX4_toAll.cls ≠ "java/lang/invoke/MethodHandle" ∧ yX4_toAll.cls ≠ "java/lang/invoke/VarHandle" ∧ (parseMethodDescriptor yX4_toAll.desc).map (fun d => d.parameters.length) = some 3 from by decide +kernel) rfl rfl ⟨Nat.le_of_ble_eq_true rfl, Nat.le_of_ble_eq_true rfl⟩ rfl (lv_room (Nat.le_of_ble_eq_true rfl)) dX4_hears_157 ⟨Nat.zero_le _, Nat.zero_le _⟩ (fun H locs w ok => ?_)
      refine lv_goto (tgt := 186) hx hb dX4_hears_160 (by decide) ?_
      have w : rWd D cI cZ A s.heap mm d (rHr2 n k σ1) H locs := by unfold rHr2; first | (rw [cif_neg c_91]; exact w) | (rw [cif_pos c_91, cif_pos c_102]; exact w) | (rw [cif_pos c_91, cif_neg c_102, cif_pos c_170]; exact w) | (rw [cif_pos c_91, cif_neg c_102, cif_neg c_170]; exact w)
      have ok : rOK n (rHr2 n k σ1) := by unfold rHr2; first | (rw [cif_neg c_91]; exact ok) | (rw [cif_pos c_91, cif_pos c_102]; exact ok) | (rw [cif_pos c_91, cif_neg c_102, cif_pos c_170]; exact ok) | (rw [cif_pos c_91, cif_neg c_102, cif_neg c_170]; exact ok)
      exact W.vret hx hb hr (fun t ht hW => ⟨⟨(), rfl, trivial, ⟨by rw [ht]; exact w.1, va_K.moved hW.alike hK, w.2.1⟩, ok⟩, w.2.2.F ht⟩) w.2.2.2.2 dX4_hears_186
  · subst et_4 et_3
    have w : rWd D cI cZ A s.heap mm d (rHr2 n k σ1) H locs := by unfold rHr2; first | (rw [cif_neg c_91]; exact w) | (rw [cif_pos c_91, cif_pos c_102]; exact w) | (rw [cif_pos c_91, cif_neg c_102, cif_pos c_170]; exact w) | (rw [cif_pos c_91, cif_neg c_102, cif_neg c_170]; exact w)
    have ok : rOK n (rHr2 n k σ1) := by unfold rHr2; first | (rw [cif_neg c_91]; exact ok) | (rw [cif_pos c_91, cif_pos c_102]; exact ok) | (rw [cif_pos c_91, cif_neg c_102, cif_pos c_170]; exact ok) | (rw [cif_pos c_91, cif_neg c_102, cif_neg c_170]; exact ok)
    exact W.vret hx hb hr (fun t ht hW => ⟨⟨(), rfl, trivial, ⟨by rw [ht]; exact w.1, va_K.moved hW.alike hK, w.2.1⟩, ok⟩, w.2.2.F ht⟩) w.2.2.2.2 dX4_hears_94
set_option maxHeartbeats 4000000 in
set_option maxRecDepth 100000 in
theorem q_hearsA (l : Launch) (D : va_G) (cI cZ cN cO : ClassId) (A : Nat → Prop) (mm : Nat) (d : Nat → Nat) (n : Nat) (σ : RS) (x k : Int32) (ok : rOK n σ) (hx1 : vp_in x 2001) (hkr : σ.2 4 x.toNatClampNeg = k) (hk : vp_in k n) (hkd : ¬ σ.2 2 x.toNatClampNeg = 1) (hok : rHOk n k (rH0 k σ)) : Met l yX4_hears (.code yX4_hears cX4_hears 5 none :: gw) ({ frames := 4, cells := 0, slots := 0, locals := 99 }) (va_Pc (.ref mm :: [.int x]) (rH D cI cZ cN cO A mm d σ)) (va_Qv (fun _ : Unit => True) (fun _ t => rH D cI cZ cN cO A mm d (rHr2 n k (rH0 k σ)) t ∧ rOK n (rHr2 n k (rH0 k σ))) A) 0 0 A := by
  refine Met.ofW (cc := cX4_hears) (maxL := 5) (ret := none) (by decide) rfl ?_
  intro p e s m args below meth c s₁ B hml hv
  obtain ⟨rfl, hP, hK, hD⟩ := hv
  have hx := B.exec
  have hb := B.bytes
  have hr := B.returns
  have hts := atoms_spec (ws := (.code yX4_hears cX4_hears 5 none :: gw)) B.pre
  have hg : ∀ w ∈ gw, w.before _ s = true := fun w h => hts w (List.mem_cons_of_mem _ h)
  have hown : s.vm.findClass RX4 = some m.cls := findClass_of_methodNamed B.named
  have hlocks := B.notSynchronized
  have C : Cx p c cX4_hears s m _ RX4 D (gTy cI cZ cN cO) := ⟨hx, hb, hown, hg, hK⟩
  have w : rWd D cI cZ A s.heap mm d σ s.heap [] := ⟨hP, hD, va_S.rf⟩
  have hl := lv_entry ([.ref mm, .int x]) (n := 5) (Nat.le_of_ble_eq_true rfl)
  rw [lg_entry_eq]
  generalize (lg_sl ([.ref mm, .int x]) ++ List.replicate (5 - (lg_sl ([.ref mm, .int x])).length) Slot.unset).toArray = ls at hl ⊢
  have hl : lv_has ls 5 [(0, .ref mm), (1, .int x)] := hl
  refine lv_aload_n hx hb dX4_hears_0 rfl (lv_at hl 0 rfl) ?_
  refine r_get_4 C w dX4_hears_1 ?_
  refine lv_iload_n hx hb dX4_hears_4 rfl (lv_at hl 1 rfl) ?_
  refine r_ld_4 C w hx1 dX4_hears_5 ?_
  rw [hkr]
  refine lv_istore_n (lv' := [(2, _), (0, _), (1, _)]) C.1 C.2.1 dX4_hears_6 rfl hl (by decide) rfl (fun ls hl => ?_)
  refine lv_aload_n hx hb dX4_hears_7 rfl (lv_at hl 1 rfl) ?_
  refine r_get_17 C w dX4_hears_8 ?_
  refine lv_iload_n hx hb dX4_hears_11 rfl (lv_at hl 0 rfl) ?_
  refine lv_dup2_11 hx hb dX4_hears_12 rfl rfl ?_
  refine r_ld_17 C w (ok.n31 hk) dX4_hears_13 ?_
  refine lv_topi (fun t_1 et_1 => ?_)
  refine lv_iconst (v := 1) hx hb dX4_hears_14 (by decide) ?_
  refine lv_iadd hx hb dX4_hears_15 ?_
  refine lv_topi (fun t_2 et_2 => ?_)
  refine r_st_17 C w (ok.n31 hk) dX4_hears_16 (fun H locs w => ?_)
  have ok : rOK n _ := rOK.st ok (k := 17) (i := k.toNatClampNeg) (v := t_2) (fun b hb => by cases hb)
  refine lv_iconst (v := 0) hx hb dX4_hears_17 (by decide) ?_
  refine lv_istore_n (lv' := [(3, _), (2, _), (0, _), (1, _)]) C.1 C.2.1 dX4_hears_18 rfl hl (by decide) rfl (fun ls hl => ?_)
  subst et_2 et_1
  have w : rWd D cI cZ A s.heap mm d (rH0 k σ) H locs := w
  have ok : rOK n (rH0 k σ) := ok
  refine lv_iload_n hx hb dX4_hears_19 rfl (lv_at hl 0 rfl) ?_
  refine lv_aload_n hx hb dX4_hears_20 rfl (lv_at hl 2 rfl) ?_
  refine r_get_0 C w dX4_hears_21 ?_
  rw [ok.nn]
  refine lv_icmp_ge (tgt := 79) hx hb dX4_hears_24 (by decide) (fun c_24 => absurd c_24 (by rw [← nI_0]; exact nI_ge (by have := ok.1; omega) (by have := ok.2.1; omega))) (fun c_24 => ?_)
  refine lv_aload_n hx hb dX4_hears_27 rfl (lv_at hl 2 rfl) ?_
  refine r_get_2 C w dX4_hears_28 ?_
  refine lv_iload_n hx hb dX4_hears_31 rfl (lv_at hl 3 rfl) ?_
  refine r_ld_2 C w hx1 dX4_hears_32 ?_
  refine lv_topi (fun t_3 et_3 => ?_)
  refine lv_iconst (v := 1) hx hb dX4_hears_33 (by decide) ?_
  refine lv_icmp_ne (tgt := 79) hx hb dX4_hears_34 (by decide) (fun c_34 => ?_) (fun c_34 => absurd (show t_3 = 1 from c_34) (by rw [et_3]; exact hkd))
  subst et_3
  obtain ⟨σ1, hσ1⟩ : ∃ z, z = rH0 k σ := ⟨_, rfl⟩
  rw [← hσ1] at w ok hok ⊢
  refine lv_iconst (v := 2) hx hb dX4_hears_79 (by decide) ?_
  refine lv_aload_n hx hb dX4_hears_80 rfl (lv_at hl 2 rfl) ?_
  refine r_get_17 C w dX4_hears_81 ?_
  refine lv_iload_n hx hb dX4_hears_84 rfl (lv_at hl 1 rfl) ?_
  refine r_ld_17 C w (ok.n31 hk) dX4_hears_85 ?_
  refine lv_topi (fun t_4 et_4 => ?_)
  refine lv_imul hx hb dX4_hears_86 ?_
  refine lv_topi (fun t_5 et_5 => ?_)
  refine lv_aload_n hx hb dX4_hears_87 rfl (lv_at hl 2 rfl) ?_
  refine r_get_0 C w dX4_hears_88 ?_
  rw [ok.nn]
  refine lv_icmp_gt (tgt := 95) hx hb dX4_hears_91 (by decide) (fun c_91 => ?_) (fun c_91 => ?_)
  · refine lv_aload_n hx hb dX4_hears_95 rfl (lv_at hl 2 rfl) ?_
    refine r_get_14 C w dX4_hears_96 ?_
    refine lv_iload_n hx hb dX4_hears_99 rfl (lv_at hl 1 rfl) ?_
    refine r_ld_14 C w (ok.n31 hk) dX4_hears_100 ?_
    refine lv_topi (fun t_6 et_6 => ?_)
    refine lv_iconst (v := 1) hx hb dX4_hears_101 (by decide) ?_
    refine lv_icmp_ne (tgt := 163) hx hb dX4_hears_102 (by decide) (fun c_102 => ?_) (fun c_102 => ?_)
    · refine lv_aload_n hx hb dX4_hears_163 rfl (lv_at hl 2 rfl) ?_
      refine r_get_14 C w dX4_hears_164 ?_
      refine lv_iload_n hx hb dX4_hears_167 rfl (lv_at hl 1 rfl) ?_
      refine r_ld_14 C w (ok.n31 hk) dX4_hears_168 ?_
      refine lv_topi (fun t_7 et_7 => ?_)
      refine lv_iconst (v := 2) hx hb dX4_hears_169 (by decide) ?_
      refine lv_icmp_ne (tgt := 181) hx hb dX4_hears_170 (by decide) (fun c_170 => ?_) (fun c_170 => ?_)
      · refine lv_aload_n hx hb dX4_hears_181 rfl (lv_at hl 2 rfl) ?_
        refine lv_iload_n hx hb dX4_hears_182 rfl (lv_at hl 1 rfl) ?_
        subst et_7 et_6 et_5 et_4
        refine r_callv (As := [.int k]) (rest := []) C w hml hl.1 (q_ends l D cI cZ cN cO A mm d n _ k ok hk) kM_X4_162 kI_X4_ends kS_X4_ends kD_X4_ends (show yX4_ends.cls = RX4 ∧ yX4_ends.cls ≠ "java/lang/invoke/MethodHandle" ∧ yX4_ends.cls ≠ "java/lang/invoke/VarHandle" ∧ (parseMethodDescriptor yX4_ends.desc).map (fun d => d.parameters.length) = some 1 from by decide +kernel) rfl rfl ⟨Nat.le_of_ble_eq_true rfl, Nat.le_of_ble_eq_true rfl⟩ rfl (lv_room (Nat.le_of_ble_eq_true rfl)) dX4_hears_183 ⟨Nat.zero_le _, Nat.zero_le _⟩ (fun H locs w ok => ?_)
        have w : rWd D cI cZ A s.heap mm d (rHr2 n k σ1) H locs := by unfold rHr2; first | (rw [cif_neg c_91]; exact w) | (rw [cif_pos c_91, cif_pos c_102]; exact w) | (rw [cif_pos c_91, cif_neg c_102, cif_pos c_170]; exact w) | (rw [cif_pos c_91, cif_neg c_102, cif_neg c_170]; exact w)
        have ok : rOK n (rHr2 n k σ1) := by unfold rHr2; first | (rw [cif_neg c_91]; exact ok) | (rw [cif_pos c_91, cif_pos c_102]; exact ok) | (rw [cif_pos c_91, cif_neg c_102, cif_pos c_170]; exact ok) | (rw [cif_pos c_91, cif_neg c_102, cif_neg c_170]; exact ok)
        exact W.vret hx hb hr (fun t ht hW => ⟨⟨(), rfl, trivial, ⟨by rw [ht]; exact w.1, va_K.moved hW.alike hK, w.2.1⟩, ok⟩, w.2.2.F ht⟩) w.2.2.2.2 dX4_hears_186
      · refine lv_aload_n hx hb dX4_hears_173 rfl (lv_at hl 2 rfl) ?_
        refine lv_iload_n hx hb dX4_hears_174 rfl (lv_at hl 1 rfl) ?_
        subst et_7 et_6 et_5 et_4
        refine r_callv (As := [.int k]) (rest := []) C w hml hl.1 (q_through l D cI cZ cN cO A mm d n _ k ok hk (hok.2 c_91 c_170)) kM_X4_180 kI_X4_through kS_X4_through kD_X4_through (show yX4_through.cls = RX4 ∧ yX4_through.cls ≠ "java/lang/invoke/MethodHandle" ∧ yX4_through.cls ≠ "java/lang/invoke/VarHandle" ∧ (parseMethodDescriptor yX4_through.desc).map (fun d => d.parameters.length) = some 1 from by decide +kernel) rfl rfl ⟨Nat.le_of_ble_eq_true rfl, Nat.le_of_ble_eq_true rfl⟩ rfl (lv_room (Nat.le_of_ble_eq_true rfl)) dX4_hears_175 ⟨Nat.zero_le _, Nat.zero_le _⟩ (fun H locs w ok => ?_)
        refine lv_goto (tgt := 186) hx hb dX4_hears_178 (by decide) ?_
        have w : rWd D cI cZ A s.heap mm d (rHr2 n k σ1) H locs := by unfold rHr2; first | (rw [cif_neg c_91]; exact w) | (rw [cif_pos c_91, cif_pos c_102]; exact w) | (rw [cif_pos c_91, cif_neg c_102, cif_pos c_170]; exact w) | (rw [cif_pos c_91, cif_neg c_102, cif_neg c_170]; exact w)
        have ok : rOK n (rHr2 n k σ1) := by unfold rHr2; first | (rw [cif_neg c_91]; exact ok) | (rw [cif_pos c_91, cif_pos c_102]; exact ok) | (rw [cif_pos c_91, cif_neg c_102, cif_pos c_170]; exact ok) | (rw [cif_pos c_91, cif_neg c_102, cif_neg c_170]; exact ok)
        exact W.vret hx hb hr (fun t ht hW => ⟨⟨(), rfl, trivial, ⟨by rw [ht]; exact w.1, va_K.moved hW.alike hK, w.2.1⟩, ok⟩, w.2.2.F ht⟩) w.2.2.2.2 dX4_hears_186
    · refine lv_iconst (v := 0) hx hb dX4_hears_105 (by decide) ?_
      refine lv_istore_n (lv' := [(3, _), (2, _), (0, _), (1, _)]) C.1 C.2.1 dX4_hears_106 rfl hl (by decide) rfl (fun ls hl => ?_)
      subst et_6 et_5 et_4
      rw [← nI_0] at hl
      refine ql_cpy C hml ok.2.1 hk ?_ n 0 (by omega) _ _ w ok ls (lv_sub hl [0, 1, 2, 3] rfl)
      intro H locs w ok ls hl
      refine lv_aload_n hx hb dX4_hears_143 rfl (lv_at hl 2 rfl) ?_
      refine r_get_14 C w dX4_hears_144 ?_
      refine lv_iload_n hx hb dX4_hears_147 rfl (lv_at hl 1 rfl) ?_
      refine lv_iconst (v := 2) hx hb dX4_hears_148 (by decide) ?_
      refine r_st_14 C w (ok.n31 hk) dX4_hears_149 (fun H locs w => ?_)
      have ok : rOK n _ := rOK.st ok (k := 14) (i := k.toNatClampNeg) (v := 2) (fun b hb => by cases hb)
      refine lv_aload_n hx hb dX4_hears_150 rfl (lv_at hl 2 rfl) ?_
      refine lv_iload_n hx hb dX4_hears_151 rfl (lv_at hl 1 rfl) ?_
      refine lv_iconst (v := 2) hx hb dX4_hears_152 (by decide) ?_
      refine lv_aload_n hx hb dX4_hears_153 rfl (lv_at hl 2 rfl) ?_
      refine r_get_22 C w dX4_hears_154 ?_
      refine r_callv (As := [.int k, .int 2, .ref ((d 22))]) (rest := []) C w hml hl.1 (q_toS22 l D cI cZ cN cO A mm d n _ k ok hk (rRm.st (rRm.iter (fun i σ h => h.st (by decide)) n (hok.1 c_91 c_102)) (by decide))) kM_X4_125 kI_X4_toAll kS_X4_toAll kD_X4_toAll (show yX4_toAll.cls = RX4 ∧ yX4_toAll.cls ≠ "java/lang/invoke/MethodHandle" ∧ yX4_toAll.cls ≠ "java/lang/invoke/VarHandle" ∧ (parseMethodDescriptor yX4_toAll.desc).map (fun d => d.parameters.length) = some 3 from by decide +kernel) rfl rfl ⟨Nat.le_of_ble_eq_true rfl, Nat.le_of_ble_eq_true rfl⟩ rfl (lv_room (Nat.le_of_ble_eq_true rfl)) dX4_hears_157 ⟨Nat.zero_le _, Nat.zero_le _⟩ (fun H locs w ok => ?_)
      refine lv_goto (tgt := 186) hx hb dX4_hears_160 (by decide) ?_
      have w : rWd D cI cZ A s.heap mm d (rHr2 n k σ1) H locs := by unfold rHr2; first | (rw [cif_neg c_91]; exact w) | (rw [cif_pos c_91, cif_pos c_102]; exact w) | (rw [cif_pos c_91, cif_neg c_102, cif_pos c_170]; exact w) | (rw [cif_pos c_91, cif_neg c_102, cif_neg c_170]; exact w)
      have ok : rOK n (rHr2 n k σ1) := by unfold rHr2; first | (rw [cif_neg c_91]; exact ok) | (rw [cif_pos c_91, cif_pos c_102]; exact ok) | (rw [cif_pos c_91, cif_neg c_102, cif_pos c_170]; exact ok) | (rw [cif_pos c_91, cif_neg c_102, cif_neg c_170]; exact ok)
      exact W.vret hx hb hr (fun t ht hW => ⟨⟨(), rfl, trivial, ⟨by rw [ht]; exact w.1, va_K.moved hW.alike hK, w.2.1⟩, ok⟩, w.2.2.F ht⟩) w.2.2.2.2 dX4_hears_186
  · subst et_5 et_4
    have w : rWd D cI cZ A s.heap mm d (rHr2 n k σ1) H locs := by unfold rHr2; first | (rw [cif_neg c_91]; exact w) | (rw [cif_pos c_91, cif_pos c_102]; exact w) | (rw [cif_pos c_91, cif_neg c_102, cif_pos c_170]; exact w) | (rw [cif_pos c_91, cif_neg c_102, cif_neg c_170]; exact w)
    have ok : rOK n (rHr2 n k σ1) := by unfold rHr2; first | (rw [cif_neg c_91]; exact ok) | (rw [cif_pos c_91, cif_pos c_102]; exact ok) | (rw [cif_pos c_91, cif_neg c_102, cif_pos c_170]; exact ok) | (rw [cif_pos c_91, cif_neg c_102, cif_neg c_170]; exact ok)
    exact W.vret hx hb hr (fun t ht hW => ⟨⟨(), rfl, trivial, ⟨by rw [ht]; exact w.1, va_K.moved hW.alike hK, w.2.1⟩, ok⟩, w.2.2.F ht⟩) w.2.2.2.2 dX4_hears_94
