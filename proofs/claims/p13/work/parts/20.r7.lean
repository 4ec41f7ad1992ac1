def mx (a b : Int32) : Int32 := if a < b then b else a
theorem mx_in {a b : Int32} {N : Nat} (ha : vp_in a N) (hb : vp_in b N) : vp_in (mx a b) N := by
  unfold mx; split
  · exact hb
  · exact ha
def rMax (q : Nat) (k x : Int32) (i : Nat) (σ : RS) : RS := rA σ q ((31 : Int32) * k + nI i).toNatClampNeg (mx (σ.2 q ((31 : Int32) * k + nI i).toNatClampNeg) (σ.2 6 ((31 : Int32) * x + nI i).toNatClampNeg))
theorem rRm.max {σ : RS} {m : Nat} (h : rRm σ m) {q : Nat} (hq : q ≠ 7) (k x : Int32) : ∀ i, rRm (itr (rMax q k x) i σ) m := by
  intro i
  induction i with
  | zero => exact h
  | succ i ih => exact ih.st hq
def rRepC (n : Nat) (x : Int32) (σ : RS) : RS := itr (rVec 18 (σ.2 4 x.toNatClampNeg) (fr (σ.2 7))) n (rSend σ (fr (σ.2 7)) 1 (σ.2 4 x.toNatClampNeg) (σ.2 3 x.toNatClampNeg) (σ.2 5 x.toNatClampNeg))
def rRepS (n : Nat) (x : Int32) (σ : RS) : RS := rSend (itr (rMax 18 (σ.2 4 x.toNatClampNeg) x) n σ) (fr ((itr (rMax 18 (σ.2 4 x.toNatClampNeg) x) n σ).2 7)) 3 (σ.2 4 x.toNatClampNeg) (σ.2 3 x.toNatClampNeg) (σ.2 5 x.toNatClampNeg)
set_option maxHeartbeats 4000000 in
set_option maxRecDepth 100000 in
theorem ql_repS {p : Program} {l : Launch} {e : Env} {R : Room} {s : State} {m : MethodId} {args : Array Value} {below : List Frame} {meth : Method} {c : Code} {cells slots : Nat} {Q : State → Prop} {D : va_G} {cI cZ cN cO : ClassId} {A : Nat → Prop} {H0 : Heap} {mm : Nat} {d : Nat → Nat} {n : Nat} (C : Cx p c cX4_replies s m args RX4 D (gTy cI cZ cN cO)) (hml : c.maxLocals = 8) {σ : RS} {k x to r0 : Int32} (hn : n ≤ 31) (hk : vp_in k n) (hx1 : vp_in x 2001) (hRf : 1 ≤ R.frames) (hRl : 24 ≤ R.locals) (hRc : cells + 0 ≤ R.cells) (hRs : slots + 0 ≤ R.slots) (kk : ∀ (H : Heap) (locs : List Loc), rWd D cI cZ A H0 mm d (itr (rMax 18 k x) n σ) H locs → rOK n (itr (rMax 18 k x) n σ) → ∀ ls : Array Slot, lv_has ls 8 [(6, .int (nI n)), (5, .int r0), (4, .int to), (3, .int 2), (2, .int k), (0, .ref mm), (1, .int x)] → W p l e R s m args below meth c H locs cells slots Q (F0 m 91 ls [])) : ∀ (fu i : Nat), i + fu = n → ∀ (H : Heap) (locs : List Loc), rWd D cI cZ A H0 mm d (itr (rMax 18 k x) i σ) H locs → rOK n (itr (rMax 18 k x) i σ) → ∀ ls : Array Slot, lv_has ls 8 [(6, .int (nI i)), (5, .int r0), (4, .int to), (3, .int 2), (2, .int k), (0, .ref mm), (1, .int x)] → W p l e R s m args below meth c H locs cells slots Q (F0 m 33 ls []) := by
  intro fu
  induction fu with
  | zero =>
    intro i hik
    intro H locs w ok ls hl
    have hx := C.1
    have hb := C.2.1
    have hi : n = i := by omega
    subst hi
    refine lv_iload hx hb dX4_replies_33 (lv_at hl 0 rfl) ?_
    refine lv_aload_n hx hb dX4_replies_35 rfl (lv_at hl 5 rfl) ?_
    refine r_get_0 C w dX4_replies_36 ?_
    rw [ok.nn]
    refine lv_icmp_ge (tgt := 91) hx hb dX4_replies_39 (by decide) (fun c_39 => ?_) (fun c_39 => absurd (Int32.le_refl _) c_39)
    exact kk _ _ w ok ls (lv_sub hl [0, 1, 2, 3, 4, 5, 6] rfl)
  | succ fu ih =>
    intro i hik
    intro H locs w ok ls hl
    have hx := C.1
    have hb := C.2.1
    have hi : i < n := by omega
    refine lv_iload hx hb dX4_replies_33 (lv_at hl 0 rfl) ?_
    refine lv_aload_n hx hb dX4_replies_35 rfl (lv_at hl 5 rfl) ?_
    refine r_get_0 C w dX4_replies_36 ?_
    rw [ok.nn]
    refine lv_icmp_ge (tgt := 91) hx hb dX4_replies_39 (by decide) (fun c_39 => absurd c_39 (nI_ge hi (by omega))) (fun c_39 => ?_)
    refine lv_iload_n hx hb dX4_replies_42 rfl (lv_at hl 3 rfl) ?_
    refine lv_iconst (v := 2) hx hb dX4_replies_43 (by decide) ?_
    refine lv_icmp_ne (tgt := 91) hx hb dX4_replies_44 (by decide) (fun c_44 => absurd rfl c_44) (fun c_44 => ?_)
    refine lv_bipush (v := 31) hx hb dX4_replies_47 (by decide) ?_
    refine lv_iload_n hx hb dX4_replies_49 rfl (lv_at hl 4 rfl) ?_
    refine lv_imul hx hb dX4_replies_50 ?_
    refine lv_topi (fun t_1 et_1 => ?_)
    refine lv_iload hx hb dX4_replies_51 (lv_at hl 0 rfl) ?_
    refine lv_iadd hx hb dX4_replies_53 ?_
    refine lv_topi (fun t_2 et_2 => ?_)
    refine lv_istore (lv' := [(7, _), (6, _), (5, _), (4, _), (3, _), (2, _), (0, _), (1, _)]) C.1 C.2.1 dX4_replies_54 hl (by decide) rfl (fun ls hl => ?_)
    refine lv_aload_n hx hb dX4_replies_56 rfl (lv_at hl 6 rfl) ?_
    refine r_get_18 C w dX4_replies_57 ?_
    refine lv_iload hx hb dX4_replies_60 (lv_at hl 0 rfl) ?_
    refine lv_aload_n hx hb dX4_replies_62 rfl (lv_at hl 6 rfl) ?_
    refine r_get_18 C w dX4_replies_63 ?_
    refine lv_iload hx hb dX4_replies_66 (lv_at hl 0 rfl) ?_
    refine r_ld_18 C w (by rw [et_2, et_1]; exact gIx (c := 31) (N := 31) rfl (by decide) (ok.n31 hk) (vp_in_nI (by omega) (by omega))) dX4_replies_68 ?_
    refine lv_topi (fun t_3 et_3 => ?_)
    refine lv_aload_n hx hb dX4_replies_69 rfl (lv_at hl 6 rfl) ?_
    refine r_get_6 C w dX4_replies_70 ?_
    refine lv_bipush (v := 31) hx hb dX4_replies_73 (by decide) ?_
    refine lv_iload_n hx hb dX4_replies_75 rfl (lv_at hl 7 rfl) ?_
    refine lv_imul hx hb dX4_replies_76 ?_
    refine lv_topi (fun t_4 et_4 => ?_)
    refine lv_iload hx hb dX4_replies_77 (lv_at hl 1 rfl) ?_
    refine lv_iadd hx hb dX4_replies_79 ?_
    refine lv_topi (fun t_5 et_5 => ?_)
    refine r_ld_6 C w (by rw [et_5, et_4]; exact gIx (c := 31) (N := 2001) rfl (by decide) hx1 (vp_in_nI (by omega) (by omega))) dX4_replies_80 ?_
    refine lv_topi (fun t_6 et_6 => ?_)
    refine va_mmax C.1 C.2.1 (hml.trans hl.1.symm) C.2.2.1 (C.2.2.2.1 _ kM_X4_174) (C.2.2.2.1 _ kT_Lib_Math_max_name) (C.2.2.2.1 _ kN_java_lang_Math) (C.2.2.2.1 _ kD_Lib_Math_max_name) hRf (by show 2 + 13 ≤ R.locals; omega) hRc hRs dX4_replies_81 ?_
    refine lv_topi (fun t_7 et_7 => ?_)
    have et_7 : t_7 = mx t_3 t_6 := et_7
    refine r_st_18 C w (by rw [et_2, et_1]; exact gIx (c := 31) (N := 31) rfl (by decide) (ok.n31 hk) (vp_in_nI (by omega) (by omega))) dX4_replies_84 (fun H locs w => ?_)
    have ok : rOK n _ := rOK.st ok (k := 18) (i := t_2.toNatClampNeg) (v := t_7) (fun b hb => by cases hb; rw [et_7]; exact mx_in (by rw [et_3]; exact ok.at 18 rfl _) (by rw [et_6]; exact ok.at 6 rfl _))
    obtain ⟨x_8, ex_8⟩ : ∃ y : Int32, y = (nI i) + 1 := ⟨_, rfl⟩
    refine lv_iinc (v := x_8) (lv' := [(6, _), (7, _), (5, _), (4, _), (3, _), (2, _), (0, _), (1, _)]) C.1 C.2.1 dX4_replies_85 hl (k := 1) rfl (by rw [ex_8]; rfl) (by decide) rfl (fun ls hl => ?_)
    refine lv_goto (tgt := 33) hx hb dX4_replies_88 (by decide) ?_
    subst et_7 et_6 et_5 et_4 et_3 et_2 et_1
    have hx2 : x_8 = nI (i + 1) := by rw [ex_8]; exact nI_1 i
    rw [hx2] at hl
    exact ih (i + 1) (by omega) _ _ w ok ls (lv_sub hl [0, 2, 3, 4, 5, 6, 7] rfl)
set_option maxHeartbeats 4000000 in
set_option maxRecDepth 100000 in
theorem ql_repC {p : Program} {l : Launch} {e : Env} {R : Room} {s : State} {m : MethodId} {args : Array Value} {below : List Frame} {meth : Method} {c : Code} {cells slots : Nat} {Q : State → Prop} {D : va_G} {cI cZ cN cO : ClassId} {A : Nat → Prop} {H0 : Heap} {mm : Nat} {d : Nat → Nat} {n : Nat} (C : Cx p c cX4_replies s m args RX4 D (gTy cI cZ cN cO)) (hml : c.maxLocals = 8) {σ : RS} {k x to r0 : Int32} (j : Nat) (hn : n ≤ 31) (hk : vp_in k n) (hj : j < 2001) (kk : ∀ (H : Heap) (locs : List Loc), rWd D cI cZ A H0 mm d (itr (rVec 18 k j) n σ) H locs → rOK n (itr (rVec 18 k j) n σ) → ∀ ls : Array Slot, lv_has ls 8 [(7, .int (nI n)), (6, .int (nI j)), (5, .int r0), (4, .int to), (3, .int 0), (2, .int k), (0, .ref mm), (1, .int x)] → W p l e R s m args below meth c H locs cells slots Q (F0 m 159 ls [])) : ∀ (fu i : Nat), i + fu = n → ∀ (H : Heap) (locs : List Loc), rWd D cI cZ A H0 mm d (itr (rVec 18 k j) i σ) H locs → rOK n (itr (rVec 18 k j) i σ) → ∀ ls : Array Slot, lv_has ls 8 [(7, .int (nI i)), (6, .int (nI j)), (5, .int r0), (4, .int to), (3, .int 0), (2, .int k), (0, .ref mm), (1, .int x)] → W p l e R s m args below meth c H locs cells slots Q (F0 m 115 ls []) := by
  intro fu
  induction fu with
  | zero =>
    intro i hik
    intro H locs w ok ls hl
    have hx := C.1
    have hb := C.2.1
    have hi : n = i := by omega
    subst hi
    refine lv_iload hx hb dX4_replies_115 (lv_at hl 0 rfl) ?_
    refine lv_aload_n hx hb dX4_replies_117 rfl (lv_at hl 6 rfl) ?_
    refine r_get_0 C w dX4_replies_118 ?_
    rw [ok.nn]
    refine lv_icmp_ge (tgt := 159) hx hb dX4_replies_121 (by decide) (fun c_121 => ?_) (fun c_121 => absurd (Int32.le_refl _) c_121)
    exact kk _ _ w ok ls (lv_sub hl [0, 1, 2, 3, 4, 5, 6, 7] rfl)
  | succ fu ih =>
    intro i hik
    intro H locs w ok ls hl
    have hx := C.1
    have hb := C.2.1
    have hi : i < n := by omega
    refine lv_iload hx hb dX4_replies_115 (lv_at hl 0 rfl) ?_
    refine lv_aload_n hx hb dX4_replies_117 rfl (lv_at hl 6 rfl) ?_
    refine r_get_0 C w dX4_replies_118 ?_
    rw [ok.nn]
    refine lv_icmp_ge (tgt := 159) hx hb dX4_replies_121 (by decide) (fun c_121 => absurd c_121 (nI_ge hi (by omega))) (fun c_121 => ?_)
    refine lv_iload_n hx hb dX4_replies_124 rfl (lv_at hl 4 rfl) ?_
    refine lv_if_ne (tgt := 159) hx hb dX4_replies_125 (by decide) (fun c_125 => absurd rfl c_125) (fun c_125 => ?_)
    refine lv_aload_n hx hb dX4_replies_128 rfl (lv_at hl 6 rfl) ?_
    refine r_get_6 C w dX4_replies_129 ?_
    refine lv_bipush (v := 31) hx hb dX4_replies_132 (by decide) ?_
    refine lv_iload hx hb dX4_replies_134 (lv_at hl 1 rfl) ?_
    refine lv_imul hx hb dX4_replies_136 ?_
    refine lv_topi (fun t_1 et_1 => ?_)
    refine lv_iload hx hb dX4_replies_137 (lv_at hl 0 rfl) ?_
    refine lv_iadd hx hb dX4_replies_139 ?_
    refine lv_topi (fun t_2 et_2 => ?_)
    refine lv_aload_n hx hb dX4_replies_140 rfl (lv_at hl 6 rfl) ?_
    refine r_get_18 C w dX4_replies_141 ?_
    refine lv_bipush (v := 31) hx hb dX4_replies_144 (by decide) ?_
    refine lv_iload_n hx hb dX4_replies_146 rfl (lv_at hl 5 rfl) ?_
    refine lv_imul hx hb dX4_replies_147 ?_
    refine lv_topi (fun t_3 et_3 => ?_)
    refine lv_iload hx hb dX4_replies_148 (lv_at hl 0 rfl) ?_
    refine lv_iadd hx hb dX4_replies_150 ?_
    refine lv_topi (fun t_4 et_4 => ?_)
    refine r_ld_18 C w (by rw [et_4, et_3]; exact gIx (c := 31) (N := 31) rfl (by decide) (ok.n31 hk) (vp_in_nI (by omega) (by omega))) dX4_replies_151 ?_
    refine lv_topi (fun t_5 et_5 => ?_)
    refine r_st_6 C w (by rw [et_2, et_1]; exact gIx (c := 31) (N := 2001) rfl (by decide) (vp_in_nI hj (by omega)) (vp_in_nI (by omega) (by omega))) dX4_replies_152 (fun H locs w => ?_)
    have ok : rOK n _ := rOK.st ok (k := 6) (i := t_2.toNatClampNeg) (v := t_5) (fun b hb => by cases hb; rw [et_5]; exact ok.at 18 rfl _)
    obtain ⟨x_6, ex_6⟩ : ∃ y : Int32, y = (nI i) + 1 := ⟨_, rfl⟩
    refine lv_iinc (v := x_6) (lv' := [(7, _), (6, _), (5, _), (4, _), (3, _), (2, _), (0, _), (1, _)]) C.1 C.2.1 dX4_replies_153 hl (k := 0) rfl (by rw [ex_6]; rfl) (by decide) rfl (fun ls hl => ?_)
    refine lv_goto (tgt := 115) hx hb dX4_replies_156 (by decide) ?_
    subst et_5 et_4 et_3 et_2 et_1
    have hx2 : x_6 = nI (i + 1) := by rw [ex_6]; exact nI_1 i
    rw [hx2] at hl
    exact ih (i + 1) (by omega) _ _ w ok ls (lv_sub hl [0, 1, 2, 3, 4, 5, 6, 7] rfl)
set_option maxHeartbeats 4000000 in
set_option maxRecDepth 100000 in
theorem q_repC (l : Launch) (D : va_G) (cI cZ cN cO : ClassId) (A : Nat → Prop) (mm : Nat) (d : Nat → Nat) (n : Nat) (σ : RS) (x : Int32) (ok : rOK n σ) (hx1 : vp_in x 2001) (hkd : σ.2 2 x.toNatClampNeg = 0) (hrm : rRm σ (0 + 1)) : Met l yX4_replies (.code yX4_replies cX4_replies 8 none :: gw) ({ frames := 1, cells := 0, slots := 0, locals := 25 }) (va_Pc (.ref mm :: [.int x]) (rH D cI cZ cN cO A mm d σ)) (va_Qv (fun _ : Unit => True) (fun _ t => rH D cI cZ cN cO A mm d (rRepC n x σ) t ∧ rOK n (rRepC n x σ)) A) 0 0 A := by
  refine Met.ofW (cc := cX4_replies) (maxL := 8) (ret := none) (by decide) rfl ?_
  intro p e s m args below meth c s₁ B hml hv
  obtain ⟨rfl, hP, hK, hD⟩ := hv
  have hx := B.exec
  have hb := B.bytes
  have hr := B.returns
  have hts := atoms_spec (ws := (.code yX4_replies cX4_replies 8 none :: gw)) B.pre
  have hg : ∀ w ∈ gw, w.before _ s = true := fun w h => hts w (List.mem_cons_of_mem _ h)
  have hown : s.vm.findClass RX4 = some m.cls := findClass_of_methodNamed B.named
  have hlocks := B.notSynchronized
  have C : Cx p c cX4_replies s m _ RX4 D (gTy cI cZ cN cO) := ⟨hx, hb, hown, hg, hK⟩
  have w : rWd D cI cZ A s.heap mm d σ s.heap [] := ⟨hP, hD, va_S.rf⟩
  have hl := lv_entry ([.ref mm, .int x]) (n := 8) (Nat.le_of_ble_eq_true rfl)
  rw [lg_entry_eq]
  generalize (lg_sl ([.ref mm, .int x]) ++ List.replicate (8 - (lg_sl ([.ref mm, .int x])).length) Slot.unset).toArray = ls at hl ⊢
  have hl : lv_has ls 8 [(0, .ref mm), (1, .int x)] := hl
  refine lv_aload_n hx hb dX4_replies_0 rfl (lv_at hl 0 rfl) ?_
  refine r_get_4 C w dX4_replies_1 ?_
  refine lv_iload_n hx hb dX4_replies_4 rfl (lv_at hl 1 rfl) ?_
  refine r_ld_4 C w hx1 dX4_replies_5 ?_
  refine lv_topi (fun t_1 et_1 => ?_)
  have hk1 : vp_in t_1 n := by rw [et_1]; exact ok.at 4 rfl _
  refine lv_istore_n (lv' := [(2, _), (0, _), (1, _)]) C.1 C.2.1 dX4_replies_6 rfl hl (by decide) rfl (fun ls hl => ?_)
  refine lv_aload_n hx hb dX4_replies_7 rfl (lv_at hl 1 rfl) ?_
  refine r_get_2 C w dX4_replies_8 ?_
  refine lv_iload_n hx hb dX4_replies_11 rfl (lv_at hl 2 rfl) ?_
  refine r_ld_2 C w hx1 dX4_replies_12 ?_
  rw [hkd]
  refine lv_istore_n (lv' := [(3, _), (2, _), (0, _), (1, _)]) C.1 C.2.1 dX4_replies_13 rfl hl (by decide) rfl (fun ls hl => ?_)
  refine lv_aload_n hx hb dX4_replies_14 rfl (lv_at hl 2 rfl) ?_
  refine r_get_3 C w dX4_replies_15 ?_
  refine lv_iload_n hx hb dX4_replies_18 rfl (lv_at hl 3 rfl) ?_
  refine r_ld_3 C w hx1 dX4_replies_19 ?_
  refine lv_topi (fun t_2 et_2 => ?_)
  have hk3 : vp_in t_2 n := by rw [et_2]; exact ok.at 3 rfl _
  refine lv_istore (lv' := [(4, _), (3, _), (2, _), (0, _), (1, _)]) C.1 C.2.1 dX4_replies_20 hl (by decide) rfl (fun ls hl => ?_)
  refine lv_aload_n hx hb dX4_replies_22 rfl (lv_at hl 3 rfl) ?_
  refine r_get_5 C w dX4_replies_23 ?_
  refine lv_iload_n hx hb dX4_replies_26 rfl (lv_at hl 4 rfl) ?_
  refine r_ld_5 C w hx1 dX4_replies_27 ?_
  refine lv_topi (fun t_3 et_3 => ?_)
  refine lv_istore (lv' := [(5, _), (4, _), (3, _), (2, _), (0, _), (1, _)]) C.1 C.2.1 dX4_replies_28 hl (by decide) rfl (fun ls hl => ?_)
  refine lv_iconst (v := 0) hx hb dX4_replies_30 (by decide) ?_
  refine lv_istore (lv' := [(6, _), (5, _), (4, _), (3, _), (2, _), (0, _), (1, _)]) C.1 C.2.1 dX4_replies_31 hl (by decide) rfl (fun ls hl => ?_)
  refine lv_iload hx hb dX4_replies_33 (lv_at hl 0 rfl) ?_
  refine lv_aload_n hx hb dX4_replies_35 rfl (lv_at hl 5 rfl) ?_
  refine r_get_0 C w dX4_replies_36 ?_
  rw [ok.nn]
  refine lv_icmp_ge (tgt := 91) hx hb dX4_replies_39 (by decide) (fun c_39 => absurd c_39 (by rw [← nI_0]; exact nI_ge (by have := ok.1; omega) (by have := ok.2.1; omega))) (fun c_39 => ?_)
  refine lv_iload_n hx hb dX4_replies_42 rfl (lv_at hl 3 rfl) ?_
  refine lv_iconst (v := 2) hx hb dX4_replies_43 (by decide) ?_
  refine lv_icmp_ne (tgt := 91) hx hb dX4_replies_44 (by decide) (fun c_44 => ?_) (fun c_44 => absurd c_44 (by decide))
  refine lv_aload_n hx hb dX4_replies_91 rfl (lv_at hl 5 rfl) ?_
  refine lv_iload_n hx hb dX4_replies_92 rfl (lv_at hl 3 rfl) ?_
  refine lv_iconst (v := 2) hx hb dX4_replies_93 (by decide) ?_
  refine lv_icmp_ne (tgt := 101) hx hb dX4_replies_94 (by decide) (fun c_94 => ?_) (fun c_94 => absurd c_94 (by decide))
  refine lv_iconst (v := 1) hx hb dX4_replies_101 (by decide) ?_
  refine lv_iload_n hx hb dX4_replies_102 rfl (lv_at hl 4 rfl) ?_
  refine lv_iload hx hb dX4_replies_103 (lv_at hl 2 rfl) ?_
  refine lv_iload hx hb dX4_replies_105 (lv_at hl 1 rfl) ?_
  refine r_calli (As := [.int 1, .int t_1, .int t_2, .int t_3]) (rest := []) C w hml hl.1 (q_send l D cI cZ cN cO A mm d n _ (fr _) 1 t_1 t_2 t_3 ok hrm.free.1 hrm.free.2.1 hrm.free.2.2 hk1 hk3 hrm.inc) kM_X4_121 kI_X4_send kS_X4_send kD_X4_send (show yX4_send.cls = RX4 ∧ yX4_send.cls ≠ "java/lang/invoke/MethodHandle" ∧ yX4_send.cls ≠ "java/lang/invoke/VarHandle" ∧ (parseMethodDescriptor yX4_send.desc).map (fun d => d.parameters.length) = some 4 from by decide +kernel) rfl rfl ⟨Nat.le_of_ble_eq_true rfl, Nat.le_of_ble_eq_true rfl⟩ rfl (lv_room (Nat.le_of_ble_eq_true rfl)) dX4_replies_107 ⟨Nat.zero_le _, Nat.zero_le _⟩ (fun r_4 H locs hr_4 w ok => ?_)
  rw [hr_4]
  refine lv_istore (lv' := [(6, _), (5, _), (4, _), (3, _), (2, _), (0, _), (1, _)]) C.1 C.2.1 dX4_replies_110 hl (by decide) rfl (fun ls hl => ?_)
  refine lv_iconst (v := 0) hx hb dX4_replies_112 (by decide) ?_
  refine lv_istore (lv' := [(7, _), (6, _), (5, _), (4, _), (3, _), (2, _), (0, _), (1, _)]) C.1 C.2.1 dX4_replies_113 hl (by decide) rfl (fun ls hl => ?_)
  rw [← nI_0] at hl
  refine ql_repC C hml _ ok.2.1 hk1 hrm.free.1 ?_ n 0 (by omega) _ _ w ok ls (lv_sub hl [0, 1, 2, 3, 4, 5, 6, 7] rfl)
  intro H locs w ok ls hl
  subst et_3 et_2 et_1
  exact W.vret hx hb hr (fun t ht hW => ⟨⟨(), rfl, trivial, ⟨by rw [ht]; exact w.1, va_K.moved hW.alike hK, w.2.1⟩, ok⟩, w.2.2.F ht⟩) w.2.2.2.2 dX4_replies_159
set_option maxHeartbeats 4000000 in
set_option maxRecDepth 100000 in
theorem q_repS (l : Launch) (D : va_G) (cI cZ cN cO : ClassId) (A : Nat → Prop) (mm : Nat) (d : Nat → Nat) (n : Nat) (σ : RS) (x : Int32) (ok : rOK n σ) (hx1 : vp_in x 2001) (hkd : σ.2 2 x.toNatClampNeg = 2) (hrm : rRm σ (0 + 1)) : Met l yX4_replies (.code yX4_replies cX4_replies 8 none :: gw) ({ frames := 1, cells := 0, slots := 0, locals := 25 }) (va_Pc (.ref mm :: [.int x]) (rH D cI cZ cN cO A mm d σ)) (va_Qv (fun _ : Unit => True) (fun _ t => rH D cI cZ cN cO A mm d (rRepS n x σ) t ∧ rOK n (rRepS n x σ)) A) 0 0 A := by
  refine Met.ofW (cc := cX4_replies) (maxL := 8) (ret := none) (by decide) rfl ?_
  intro p e s m args below meth c s₁ B hml hv
  obtain ⟨rfl, hP, hK, hD⟩ := hv
  have hx := B.exec
  have hb := B.bytes
  have hr := B.returns
  have hts := atoms_spec (ws := (.code yX4_replies cX4_replies 8 none :: gw)) B.pre
  have hg : ∀ w ∈ gw, w.before _ s = true := fun w h => hts w (List.mem_cons_of_mem _ h)
  have hown : s.vm.findClass RX4 = some m.cls := findClass_of_methodNamed B.named
  have hlocks := B.notSynchronized
  have C : Cx p c cX4_replies s m _ RX4 D (gTy cI cZ cN cO) := ⟨hx, hb, hown, hg, hK⟩
  have w : rWd D cI cZ A s.heap mm d σ s.heap [] := ⟨hP, hD, va_S.rf⟩
  have hl := lv_entry ([.ref mm, .int x]) (n := 8) (Nat.le_of_ble_eq_true rfl)
  rw [lg_entry_eq]
  generalize (lg_sl ([.ref mm, .int x]) ++ List.replicate (8 - (lg_sl ([.ref mm, .int x])).length) Slot.unset).toArray = ls at hl ⊢
  have hl : lv_has ls 8 [(0, .ref mm), (1, .int x)] := hl
  refine lv_aload_n hx hb dX4_replies_0 rfl (lv_at hl 0 rfl) ?_
  refine r_get_4 C w dX4_replies_1 ?_
  refine lv_iload_n hx hb dX4_replies_4 rfl (lv_at hl 1 rfl) ?_
  refine r_ld_4 C w hx1 dX4_replies_5 ?_
  refine lv_topi (fun t_1 et_1 => ?_)
  have hk1 : vp_in t_1 n := by rw [et_1]; exact ok.at 4 rfl _
  refine lv_istore_n (lv' := [(2, _), (0, _), (1, _)]) C.1 C.2.1 dX4_replies_6 rfl hl (by decide) rfl (fun ls hl => ?_)
  refine lv_aload_n hx hb dX4_replies_7 rfl (lv_at hl 1 rfl) ?_
  refine r_get_2 C w dX4_replies_8 ?_
  refine lv_iload_n hx hb dX4_replies_11 rfl (lv_at hl 2 rfl) ?_
  refine r_ld_2 C w hx1 dX4_replies_12 ?_
  rw [hkd]
  refine lv_istore_n (lv' := [(3, _), (2, _), (0, _), (1, _)]) C.1 C.2.1 dX4_replies_13 rfl hl (by decide) rfl (fun ls hl => ?_)
  refine lv_aload_n hx hb dX4_replies_14 rfl (lv_at hl 2 rfl) ?_
  refine r_get_3 C w dX4_replies_15 ?_
  refine lv_iload_n hx hb dX4_replies_18 rfl (lv_at hl 3 rfl) ?_
  refine r_ld_3 C w hx1 dX4_replies_19 ?_
  refine lv_topi (fun t_2 et_2 => ?_)
  have hk3 : vp_in t_2 n := by rw [et_2]; exact ok.at 3 rfl _
  refine lv_istore (lv' := [(4, _), (3, _), (2, _), (0, _), (1, _)]) C.1 C.2.1 dX4_replies_20 hl (by decide) rfl (fun ls hl => ?_)
  refine lv_aload_n hx hb dX4_replies_22 rfl (lv_at hl 3 rfl) ?_
  refine r_get_5 C w dX4_replies_23 ?_
  refine lv_iload_n hx hb dX4_replies_26 rfl (lv_at hl 4 rfl) ?_
  refine r_ld_5 C w hx1 dX4_replies_27 ?_
  refine lv_topi (fun t_3 et_3 => ?_)
  refine lv_istore (lv' := [(5, _), (4, _), (3, _), (2, _), (0, _), (1, _)]) C.1 C.2.1 dX4_replies_28 hl (by decide) rfl (fun ls hl => ?_)
  refine lv_iconst (v := 0) hx hb dX4_replies_30 (by decide) ?_
  refine lv_istore (lv' := [(6, _), (5, _), (4, _), (3, _), (2, _), (0, _), (1, _)]) C.1 C.2.1 dX4_replies_31 hl (by decide) rfl (fun ls hl => ?_)
  rw [← nI_0] at hl
  refine ql_repS C hml ok.2.1 hk1 hx1 (Nat.le_of_ble_eq_true rfl) (Nat.le_of_ble_eq_true rfl) (Nat.zero_le _) (Nat.zero_le _) ?_ n 0 (by omega) _ _ w ok ls (lv_sub hl [0, 1, 2, 3, 4, 5, 6] rfl)
  intro H locs w ok ls hl
  refine lv_aload_n hx hb dX4_replies_91 rfl (lv_at hl 5 rfl) ?_
  refine lv_iload_n hx hb dX4_replies_92 rfl (lv_at hl 3 rfl) ?_
  refine lv_iconst (v := 2) hx hb dX4_replies_93 (by decide) ?_
  refine lv_icmp_ne (tgt := 101) hx hb dX4_replies_94 (by decide) (fun c_94 => absurd rfl c_94) (fun c_94 => ?_)
  refine lv_iconst (v := 3) hx hb dX4_replies_97 (by decide) ?_
  refine lv_goto (tgt := 102) hx hb dX4_replies_98 (by decide) ?_
  refine lv_iload_n hx hb dX4_replies_102 rfl (lv_at hl 4 rfl) ?_
  refine lv_iload hx hb dX4_replies_103 (lv_at hl 2 rfl) ?_
  refine lv_iload hx hb dX4_replies_105 (lv_at hl 1 rfl) ?_
  have hrm : rRm _ (0 + 1) := hrm.max (q := 18) (by decide) t_1 x n
  refine r_calli (As := [.int 3, .int t_1, .int t_2, .int t_3]) (rest := []) C w hml hl.1 (q_send l D cI cZ cN cO A mm d n _ (fr _) 3 t_1 t_2 t_3 ok hrm.free.1 hrm.free.2.1 hrm.free.2.2 hk1 hk3 hrm.inc) kM_X4_121 kI_X4_send kS_X4_send kD_X4_send (show yX4_send.cls = RX4 ∧ yX4_send.cls ≠ "java/lang/invoke/MethodHandle" ∧ yX4_send.cls ≠ "java/lang/invoke/VarHandle" ∧ (parseMethodDescriptor yX4_send.desc).map (fun d => d.parameters.length) = some 4 from by decide +kernel) rfl rfl ⟨Nat.le_of_ble_eq_true rfl, Nat.le_of_ble_eq_true rfl⟩ rfl (lv_room (Nat.le_of_ble_eq_true rfl)) dX4_replies_107 ⟨Nat.zero_le _, Nat.zero_le _⟩ (fun r_4 H locs hr_4 w ok => ?_)
  rw [hr_4]
  refine lv_istore (lv' := [(6, _), (5, _), (4, _), (3, _), (2, _), (0, _), (1, _)]) C.1 C.2.1 dX4_replies_110 hl (by decide) rfl (fun ls hl => ?_)
  refine lv_iconst (v := 0) hx hb dX4_replies_112 (by decide) ?_
  refine lv_istore (lv' := [(7, _), (6, _), (5, _), (4, _), (3, _), (2, _), (0, _), (1, _)]) C.1 C.2.1 dX4_replies_113 hl (by decide) rfl (fun ls hl => ?_)
  refine lv_iload hx hb dX4_replies_115 (lv_at hl 0 rfl) ?_
  refine lv_aload_n hx hb dX4_replies_117 rfl (lv_at hl 6 rfl) ?_
  refine r_get_0 C w dX4_replies_118 ?_
  rw [ok.nn]
  refine lv_icmp_ge (tgt := 159) hx hb dX4_replies_121 (by decide) (fun c_121 => absurd c_121 (by rw [← nI_0]; exact nI_ge (by have := ok.1; omega) (by have := ok.2.1; omega))) (fun c_121 => ?_)
  refine lv_iload_n hx hb dX4_replies_124 rfl (lv_at hl 4 rfl) ?_
  refine lv_if_ne (tgt := 159) hx hb dX4_replies_125 (by decide) (fun c_125 => ?_) (fun c_125 => absurd c_125 (by decide))
  subst et_3 et_2 et_1
  exact W.vret hx hb hr (fun t ht hW => ⟨⟨(), rfl, trivial, ⟨by rw [ht]; exact w.1, va_K.moved hW.alike hK, w.2.1⟩, ok⟩, w.2.2.F ht⟩) w.2.2.2.2 dX4_replies_159
