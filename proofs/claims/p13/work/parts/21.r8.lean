theorem itr_row {f : Nat → RS → RS} {r : Nat} (h : ∀ i σ, (f i σ).2 r = σ.2 r) : ∀ (n : Nat) (σ : RS), (itr f n σ).2 r = σ.2 r := by
  intro n σ
  induction n with
  | zero => rfl
  | succ n ih => exact (h n _).trans ih
theorem rRm.iter {f : Nat → RS → RS} {m : Nat} (h : ∀ i σ, rRm σ m → rRm (f i σ) m) : ∀ (n : Nat) {σ : RS}, rRm σ m → rRm (itr f n σ) m := by
  intro n σ h0
  induction n with
  | zero => exact h0
  | succ n ih => exact h n _ ih
def rVwS (o k : Int32) (i : Nat) (σ : RS) : RS := rA σ 35 ((31 : Int32) * o + nI i).toNatClampNeg (σ.2 22 ((31 : Int32) * k + nI i).toNatClampNeg)
def rVwB (o g : Int32) (i : Nat) (σ : RS) : RS := rA σ 35 ((31 : Int32) * o + nI i).toNatClampNeg (σ.2 35 ((31 : Int32) * g + nI i).toNatClampNeg)
/-- the lender's UPDATE: from the log of NODE i -/
def rFm (k : Int32) (i : Nat) (σ : RS) : Int32 := σ.2 20 ((512 : Int32) * nI i + σ.2 22 ((31 : Int32) * k + nI i).toNatClampNeg - 1).toNatClampNeg
def rTkS (n : Nat) (k : Int32) (σ : RS) : RS := rI (rA (rA (itr (rVwS (σ.2 16 k.toNatClampNeg) k) n σ) 36 (σ.2 16 k.toNatClampNeg).toNatClampNeg 1) 33 (σ.2 16 k.toNatClampNeg).toNatClampNeg (-1)) 38 ((itr (rVwS (σ.2 16 k.toNatClampNeg) k) n σ).1 38 + 0)
def rTkB (n : Nat) (k : Int32) (j : Nat) (σ : RS) : RS := rI (rA (rA (itr (rVwB (σ.2 16 k.toNatClampNeg) (rFm k j σ)) n σ) 36 (σ.2 16 k.toNatClampNeg).toNatClampNeg 1) 33 (σ.2 16 k.toNatClampNeg).toNatClampNeg (nI j)) 38 ((itr (rVwB (σ.2 16 k.toNatClampNeg) (rFm k j σ)) n σ).1 38 + 1)
def rOwn (k : Int32) (i : Nat) (σ : RS) : RS := rA σ 21 ((31 : Int32) * k + nI i).toNatClampNeg (if nI i = k then σ.2 19 k.toNatClampNeg else 0)
/-- the UPDATE o of NODE k is written into its log -/
def rLg (k o : Int32) (σ : RS) : RS := rA (rA (rA σ 20 ((512 : Int32) * k + σ.2 19 k.toNatClampNeg).toNatClampNeg o) 19 k.toNatClampNeg (σ.2 19 k.toNatClampNeg + 1)) 34 o.toNatClampNeg ((rA (rA σ 20 ((512 : Int32) * k + σ.2 19 k.toNatClampNeg).toNatClampNeg o) 19 k.toNatClampNeg (σ.2 19 k.toNatClampNeg + 1)).2 19 k.toNatClampNeg)
def rWr (n : Nat) (k o : Int32) (σ : RS) : RS := rToS n 21 k (rA (itr (rOwn k) n (rLg k o σ)) 14 k.toNatClampNeg 3)
theorem gLog {x y : Int32} (hx : vp_in x 31) (hy : vp_in y 512) (h1 : ¬ y < 1) : vp_in ((512 : Int32) * x + y - 1) 15872 := by
  obtain ⟨i, hi, rfl⟩ := vp_in_of hx (by decide)
  obtain ⟨j, hj, rfl⟩ := vp_in_of hy (by decide)
  have hj1 : j ≠ 0 := fun e => h1 (by rw [e]; decide +kernel)
  obtain ⟨j', rfl⟩ : ∃ j', j = j' + 1 := ⟨j - 1, by omega⟩
  rw [show (512 : Int32) = nI 512 from by decide +kernel, nI_mul, nI_add, show 512 * i + (j' + 1) = (512 * i + j') + 1 from by omega, nI_pred]
  exact vp_in_nI (by omega) (by decide)
theorem rMv_uniq {n : Nat} {k : Int32} {σ : RS} {r : Int32} {j : Nat} (hj : j < n) (hm : rMv k σ j) (hl : ∀ i, i < j → ¬ rMv k σ i) (h : (∃ i, i < n ∧ r = nI i ∧ rMv k σ i ∧ ∀ j, j < i → ¬ rMv k σ j) ∨ (r = -1 ∧ ∀ j, j < n → ¬ rMv k σ j)) : r = nI j := by
  rcases h with ⟨i, h1, h2, h3, h4⟩ | ⟨h1, h2⟩
  · rcases Nat.lt_trichotomy i j with q | q | q
    · exact absurd h3 (hl i q)
    · rw [h2, q]
    · exact absurd hm (h4 j q)
  · exact absurd hm (h2 j hj)
theorem rTkS_row {n : Nat} {k : Int32} {σ : RS} {r : Nat} (h1 : r ≠ 35) (h2 : r ≠ 36) (h3 : r ≠ 33) : (rTkS n k σ).2 r = σ.2 r := by
  show va_up (va_up (itr (rVwS (σ.2 16 k.toNatClampNeg) k) n σ).2 36 _) 33 _ r = _
  simp only [va_up, if_neg h2, if_neg h3]
  exact itr_row (fun i σ => by show va_up σ.2 35 _ r = _; simp only [va_up, if_neg h1]) n σ
theorem rTkB_row {n : Nat} {k : Int32} {j : Nat} {σ : RS} {r : Nat} (h1 : r ≠ 35) (h2 : r ≠ 36) (h3 : r ≠ 33) : (rTkB n k j σ).2 r = σ.2 r := by
  show va_up (va_up (itr (rVwB (σ.2 16 k.toNatClampNeg) (rFm k j σ)) n σ).2 36 _) 33 _ r = _
  simp only [va_up, if_neg h2, if_neg h3]
  exact itr_row (fun i σ => by show va_up σ.2 35 _ r = _; simp only [va_up, if_neg h1]) n σ
theorem rRm.tkS {n m : Nat} {k : Int32} {σ : RS} (h : rRm σ m) : rRm (rTkS n k σ) m := rRm.put (rRm.st (rRm.st (rRm.iter (fun i σ h => h.st (by decide)) n h) (by decide)) (by decide)) (by decide)
theorem rRm.tkB {n m : Nat} {k : Int32} {j : Nat} {σ : RS} (h : rRm σ m) : rRm (rTkB n k j σ) m := rRm.put (rRm.st (rRm.st (rRm.iter (fun i σ h => h.st (by decide)) n h) (by decide)) (by decide)) (by decide)
theorem rRm.lg {m : Nat} {k o : Int32} {σ : RS} (h : rRm σ m) : rRm (rLg k o σ) m := rRm.st (rRm.st (rRm.st h (by decide)) (by decide)) (by decide)
theorem rRm.own {n m : Nat} {k : Int32} {σ : RS} (h : rRm σ m) : rRm (rA (itr (rOwn k) n σ) 14 k.toNatClampNeg 3) m := rRm.st (rRm.iter (fun i σ h => h.st (by decide)) n h) (by decide)
set_option maxHeartbeats 4000000 in
set_option maxRecDepth 100000 in
theorem ql_viewS {p : Program} {l : Launch} {e : Env} {R : Room} {s : State} {m : MethodId} {args : Array Value} {below : List Frame} {meth : Method} {c : Code} {cells slots : Nat} {Q : State → Prop} {D : va_G} {cI cZ cN cO : ClassId} {A : Nat → Prop} {H0 : Heap} {mm : Nat} {d : Nat → Nat} {n : Nat} (C : Cx p c cX4_take s m args RX4 D (gTy cI cZ cN cO)) (hml : c.maxLocals = 6) {σ : RS} {k o g0 : Int32} (hn : n ≤ 31) (hk : vp_in k n) (hO : vp_in o 512) (kk : ∀ (H : Heap) (locs : List Loc), rWd D cI cZ A H0 mm d (itr (rVwS o k) n σ) H locs → rOK n (itr (rVwS o k) n σ) → ∀ ls : Array Slot, lv_has ls 6 [(5, .int (nI n)), (4, .int g0), (3, .int ((-1))), (2, .int o), (0, .ref mm), (1, .int k)] → W p l e R s m args below meth c H locs cells slots Q (F0 m 123 ls [])) : ∀ (fu i : Nat), i + fu = n → ∀ (H : Heap) (locs : List Loc), rWd D cI cZ A H0 mm d (itr (rVwS o k) i σ) H locs → rOK n (itr (rVwS o k) i σ) → ∀ ls : Array Slot, lv_has ls 6 [(5, .int (nI i)), (4, .int g0), (3, .int ((-1))), (2, .int o), (0, .ref mm), (1, .int k)] → W p l e R s m args below meth c H locs cells slots Q (F0 m 63 ls []) := by
  intro fu
  induction fu with
  | zero =>
    intro i hik
    intro H locs w ok ls hl
    have hx := C.1
    have hb := C.2.1
    have hi : n = i := by omega
    subst hi
    refine lv_iload hx hb dX4_take_63 (lv_at hl 0 rfl) ?_
    refine lv_aload_n hx hb dX4_take_65 rfl (lv_at hl 4 rfl) ?_
    refine r_get_0 C w dX4_take_66 ?_
    rw [ok.nn]
    refine lv_icmp_ge (tgt := 123) hx hb dX4_take_69 (by decide) (fun c_69 => ?_) (fun c_69 => absurd (Int32.le_refl _) c_69)
    exact kk _ _ w ok ls (lv_sub hl [0, 1, 2, 3, 4, 5] rfl)
  | succ fu ih =>
    intro i hik
    intro H locs w ok ls hl
    have hx := C.1
    have hb := C.2.1
    have hi : i < n := by omega
    refine lv_iload hx hb dX4_take_63 (lv_at hl 0 rfl) ?_
    refine lv_aload_n hx hb dX4_take_65 rfl (lv_at hl 4 rfl) ?_
    refine r_get_0 C w dX4_take_66 ?_
    rw [ok.nn]
    refine lv_icmp_ge (tgt := 123) hx hb dX4_take_69 (by decide) (fun c_69 => absurd c_69 (nI_ge hi (by omega))) (fun c_69 => ?_)
    refine lv_aload_n hx hb dX4_take_72 rfl (lv_at hl 4 rfl) ?_
    refine r_get_35 C w dX4_take_73 ?_
    refine lv_bipush (v := 31) hx hb dX4_take_76 (by decide) ?_
    refine lv_iload_n hx hb dX4_take_78 rfl (lv_at hl 3 rfl) ?_
    refine lv_imul hx hb dX4_take_79 ?_
    refine lv_topi (fun t_1 et_1 => ?_)
    refine lv_iload hx hb dX4_take_80 (lv_at hl 0 rfl) ?_
    refine lv_iadd hx hb dX4_take_82 ?_
    refine lv_topi (fun t_2 et_2 => ?_)
    refine lv_iload_n hx hb dX4_take_83 rfl (lv_at hl 2 rfl) ?_
    refine lv_iconst (v := (-1)) hx hb dX4_take_84 (by decide) ?_
    refine lv_icmp_ne (tgt := 103) hx hb dX4_take_85 (by decide) (fun c_85 => absurd rfl c_85) (fun c_85 => ?_)
    refine lv_aload_n hx hb dX4_take_88 rfl (lv_at hl 4 rfl) ?_
    refine r_get_22 C w dX4_take_89 ?_
    refine lv_bipush (v := 31) hx hb dX4_take_92 (by decide) ?_
    refine lv_iload_n hx hb dX4_take_94 rfl (lv_at hl 5 rfl) ?_
    refine lv_imul hx hb dX4_take_95 ?_
    refine lv_topi (fun t_3 et_3 => ?_)
    refine lv_iload hx hb dX4_take_96 (lv_at hl 0 rfl) ?_
    refine lv_iadd hx hb dX4_take_98 ?_
    refine lv_topi (fun t_4 et_4 => ?_)
    refine r_ld_22 C w (by rw [et_4, et_3]; exact gIx (c := 31) (N := 31) rfl (by decide) (ok.n31 hk) (vp_in_nI (by omega) (by omega))) dX4_take_99 ?_
    refine lv_topi (fun t_5 et_5 => ?_)
    refine lv_goto (tgt := 116) hx hb dX4_take_100 (by decide) ?_
    refine r_st_35 C w (by rw [et_2, et_1]; exact gIx (c := 31) (N := 512) rfl (by decide) hO (vp_in_nI (by omega) (by omega))) dX4_take_116 (fun H locs w => ?_)
    have ok : rOK n _ := rOK.st ok (k := 35) (i := t_2.toNatClampNeg) (v := t_5) (fun b hb => by cases hb; rw [et_5]; exact ok.at 22 rfl _)
    obtain ⟨x_6, ex_6⟩ : ∃ y : Int32, y = (nI i) + 1 := ⟨_, rfl⟩
    refine lv_iinc (v := x_6) (lv' := [(5, _), (4, _), (3, _), (2, _), (0, _), (1, _)]) C.1 C.2.1 dX4_take_117 hl (k := 0) rfl (by rw [ex_6]; rfl) (by decide) rfl (fun ls hl => ?_)
    refine lv_goto (tgt := 63) hx hb dX4_take_120 (by decide) ?_
    subst et_5 et_4 et_3 et_2 et_1
    have hx2 : x_6 = nI (i + 1) := by rw [ex_6]; exact nI_1 i
    rw [hx2] at hl
    exact ih (i + 1) (by omega) _ _ w ok ls (lv_sub hl [0, 1, 2, 3, 4, 5] rfl)
set_option maxHeartbeats 4000000 in
set_option maxRecDepth 100000 in
theorem ql_viewB {p : Program} {l : Launch} {e : Env} {R : Room} {s : State} {m : MethodId} {args : Array Value} {below : List Frame} {meth : Method} {c : Code} {cells slots : Nat} {Q : State → Prop} {D : va_G} {cI cZ cN cO : ClassId} {A : Nat → Prop} {H0 : Heap} {mm : Nat} {d : Nat → Nat} {n : Nat} (C : Cx p c cX4_take s m args RX4 D (gTy cI cZ cN cO)) (hml : c.maxLocals = 6) {σ : RS} {k o g0 : Int32} {j : Nat} (hn : n ≤ 31) (hk : vp_in k n) (hO : vp_in o 512) (hF : vp_in g0 512) (hj : j < n) (kk : ∀ (H : Heap) (locs : List Loc), rWd D cI cZ A H0 mm d (itr (rVwB o g0) n σ) H locs → rOK n (itr (rVwB o g0) n σ) → ∀ ls : Array Slot, lv_has ls 6 [(5, .int (nI n)), (4, .int g0), (3, .int ((nI j))), (2, .int o), (0, .ref mm), (1, .int k)] → W p l e R s m args below meth c H locs cells slots Q (F0 m 123 ls [])) : ∀ (fu i : Nat), i + fu = n → ∀ (H : Heap) (locs : List Loc), rWd D cI cZ A H0 mm d (itr (rVwB o g0) i σ) H locs → rOK n (itr (rVwB o g0) i σ) → ∀ ls : Array Slot, lv_has ls 6 [(5, .int (nI i)), (4, .int g0), (3, .int ((nI j))), (2, .int o), (0, .ref mm), (1, .int k)] → W p l e R s m args below meth c H locs cells slots Q (F0 m 63 ls []) := by
  intro fu
  induction fu with
  | zero =>
    intro i hik
    intro H locs w ok ls hl
    have hx := C.1
    have hb := C.2.1
    have hi : n = i := by omega
    subst hi
    refine lv_iload hx hb dX4_take_63 (lv_at hl 0 rfl) ?_
    refine lv_aload_n hx hb dX4_take_65 rfl (lv_at hl 4 rfl) ?_
    refine r_get_0 C w dX4_take_66 ?_
    rw [ok.nn]
    refine lv_icmp_ge (tgt := 123) hx hb dX4_take_69 (by decide) (fun c_69 => ?_) (fun c_69 => absurd (Int32.le_refl _) c_69)
    exact kk _ _ w ok ls (lv_sub hl [0, 1, 2, 3, 4, 5] rfl)
  | succ fu ih =>
    intro i hik
    intro H locs w ok ls hl
    have hx := C.1
    have hb := C.2.1
    have hi : i < n := by omega
    refine lv_iload hx hb dX4_take_63 (lv_at hl 0 rfl) ?_
    refine lv_aload_n hx hb dX4_take_65 rfl (lv_at hl 4 rfl) ?_
    refine r_get_0 C w dX4_take_66 ?_
    rw [ok.nn]
    refine lv_icmp_ge (tgt := 123) hx hb dX4_take_69 (by decide) (fun c_69 => absurd c_69 (nI_ge hi (by omega))) (fun c_69 => ?_)
    refine lv_aload_n hx hb dX4_take_72 rfl (lv_at hl 4 rfl) ?_
    refine r_get_35 C w dX4_take_73 ?_
    refine lv_bipush (v := 31) hx hb dX4_take_76 (by decide) ?_
    refine lv_iload_n hx hb dX4_take_78 rfl (lv_at hl 3 rfl) ?_
    refine lv_imul hx hb dX4_take_79 ?_
    refine lv_topi (fun t_1 et_1 => ?_)
    refine lv_iload hx hb dX4_take_80 (lv_at hl 0 rfl) ?_
    refine lv_iadd hx hb dX4_take_82 ?_
    refine lv_topi (fun t_2 et_2 => ?_)
    refine lv_iload_n hx hb dX4_take_83 rfl (lv_at hl 2 rfl) ?_
    refine lv_iconst (v := (-1)) hx hb dX4_take_84 (by decide) ?_
    refine lv_icmp_ne (tgt := 103) hx hb dX4_take_85 (by decide) (fun c_85 => ?_) (fun c_85 => absurd c_85 (nI_nm1 (by omega)))
    refine lv_aload_n hx hb dX4_take_103 rfl (lv_at hl 4 rfl) ?_
    refine r_get_35 C w dX4_take_104 ?_
    refine lv_bipush (v := 31) hx hb dX4_take_107 (by decide) ?_
    refine lv_iload hx hb dX4_take_109 (lv_at hl 1 rfl) ?_
    refine lv_imul hx hb dX4_take_111 ?_
    refine lv_topi (fun t_3 et_3 => ?_)
    refine lv_iload hx hb dX4_take_112 (lv_at hl 0 rfl) ?_
    refine lv_iadd hx hb dX4_take_114 ?_
    refine lv_topi (fun t_4 et_4 => ?_)
    refine r_ld_35 C w (by rw [et_4, et_3]; exact gIx (c := 31) (N := 512) rfl (by decide) hF (vp_in_nI (by omega) (by omega))) dX4_take_115 ?_
    refine lv_topi (fun t_5 et_5 => ?_)
    refine r_st_35 C w (by rw [et_2, et_1]; exact gIx (c := 31) (N := 512) rfl (by decide) hO (vp_in_nI (by omega) (by omega))) dX4_take_116 (fun H locs w => ?_)
    have ok : rOK n _ := rOK.st ok (k := 35) (i := t_2.toNatClampNeg) (v := t_5) (fun b hb => by cases hb; rw [et_5]; exact ok.at 35 rfl _)
    obtain ⟨x_6, ex_6⟩ : ∃ y : Int32, y = (nI i) + 1 := ⟨_, rfl⟩
    refine lv_iinc (v := x_6) (lv' := [(5, _), (4, _), (3, _), (2, _), (0, _), (1, _)]) C.1 C.2.1 dX4_take_117 hl (k := 0) rfl (by rw [ex_6]; rfl) (by decide) rfl (fun ls hl => ?_)
    refine lv_goto (tgt := 63) hx hb dX4_take_120 (by decide) ?_
    subst et_5 et_4 et_3 et_2 et_1
    have hx2 : x_6 = nI (i + 1) := by rw [ex_6]; exact nI_1 i
    rw [hx2] at hl
    exact ih (i + 1) (by omega) _ _ w ok ls (lv_sub hl [0, 1, 2, 3, 4, 5] rfl)
set_option maxHeartbeats 4000000 in
set_option maxRecDepth 100000 in
theorem ql_own {p : Program} {l : Launch} {e : Env} {R : Room} {s : State} {m : MethodId} {args : Array Value} {below : List Frame} {meth : Method} {c : Code} {cells slots : Nat} {Q : State → Prop} {D : va_G} {cI cZ cN cO : ClassId} {A : Nat → Prop} {H0 : Heap} {mm : Nat} {d : Nat → Nat} {n : Nat} (C : Cx p c cX4_take s m args RX4 D (gTy cI cZ cN cO)) (hml : c.maxLocals = 6) {σ : RS} {k : Int32} (hn : n ≤ 31) (hk : vp_in k n) (kk : ∀ (H : Heap) (locs : List Loc), rWd D cI cZ A H0 mm d (itr (rOwn k) n σ) H locs → rOK n (itr (rOwn k) n σ) → ∀ ls : Array Slot, lv_has ls 6 [(5, .int (nI n)), (0, .ref mm), (1, .int k)] → W p l e R s m args below meth c H locs cells slots Q (F0 m 256 ls [])) : ∀ (fu i : Nat), i + fu = n → ∀ (H : Heap) (locs : List Loc), rWd D cI cZ A H0 mm d (itr (rOwn k) i σ) H locs → rOK n (itr (rOwn k) i σ) → ∀ ls : Array Slot, lv_has ls 6 [(5, .int (nI i)), (0, .ref mm), (1, .int k)] → W p l e R s m args below meth c H locs cells slots Q (F0 m 213 ls []) := by
  intro fu
  induction fu with
  | zero =>
    intro i hik
    intro H locs w ok ls hl
    have hx := C.1
    have hb := C.2.1
    have hi : n = i := by omega
    subst hi
    refine lv_iload hx hb dX4_take_213 (lv_at hl 0 rfl) ?_
    refine lv_aload_n hx hb dX4_take_215 rfl (lv_at hl 1 rfl) ?_
    refine r_get_0 C w dX4_take_216 ?_
    rw [ok.nn]
    refine lv_icmp_ge (tgt := 256) hx hb dX4_take_219 (by decide) (fun c_219 => ?_) (fun c_219 => absurd (Int32.le_refl _) c_219)
    exact kk _ _ w ok ls (lv_sub hl [0, 1, 2] rfl)
  | succ fu ih =>
    intro i hik
    intro H locs w ok ls hl
    have hx := C.1
    have hb := C.2.1
    have hi : i < n := by omega
    refine lv_iload hx hb dX4_take_213 (lv_at hl 0 rfl) ?_
    refine lv_aload_n hx hb dX4_take_215 rfl (lv_at hl 1 rfl) ?_
    refine r_get_0 C w dX4_take_216 ?_
    rw [ok.nn]
    refine lv_icmp_ge (tgt := 256) hx hb dX4_take_219 (by decide) (fun c_219 => absurd c_219 (nI_ge hi (by omega))) (fun c_219 => ?_)
    refine lv_aload_n hx hb dX4_take_222 rfl (lv_at hl 1 rfl) ?_
    refine r_get_21 C w dX4_take_223 ?_
    refine lv_bipush (v := 31) hx hb dX4_take_226 (by decide) ?_
    refine lv_iload_n hx hb dX4_take_228 rfl (lv_at hl 2 rfl) ?_
    refine lv_imul hx hb dX4_take_229 ?_
    refine lv_topi (fun t_1 et_1 => ?_)
    refine lv_iload hx hb dX4_take_230 (lv_at hl 0 rfl) ?_
    refine lv_iadd hx hb dX4_take_232 ?_
    refine lv_topi (fun t_2 et_2 => ?_)
    refine lv_iload hx hb dX4_take_233 (lv_at hl 0 rfl) ?_
    refine lv_iload_n hx hb dX4_take_235 rfl (lv_at hl 2 rfl) ?_
    refine lv_icmp_ne (tgt := 248) hx hb dX4_take_236 (by decide) (fun c_236 => ?_) (fun c_236 => ?_)
    · refine lv_iconst (v := 0) hx hb dX4_take_248 (by decide) ?_
      refine r_st_21 C w (by rw [et_2, et_1]; exact gIx (c := 31) (N := 31) rfl (by decide) (ok.n31 hk) (vp_in_nI (by omega) (by omega))) dX4_take_249 (fun H locs w => ?_)
      have ok : rOK n _ := rOK.st ok (k := 21) (i := t_2.toNatClampNeg) (v := 0) (fun b hb => by cases hb; exact (by unfold vp_in; decide +kernel))
      obtain ⟨x_3, ex_3⟩ : ∃ y : Int32, y = (nI i) + 1 := ⟨_, rfl⟩
      refine lv_iinc (v := x_3) (lv' := [(5, _), (0, _), (1, _)]) C.1 C.2.1 dX4_take_250 hl (k := 0) rfl (by rw [ex_3]; rfl) (by decide) rfl (fun ls hl => ?_)
      refine lv_goto (tgt := 213) hx hb dX4_take_253 (by decide) ?_
      subst et_2 et_1
      have w : rWd D cI cZ A H0 mm d (itr (rOwn k) (i + 1) σ) H locs := by show rWd D cI cZ A H0 mm d (rA _ 21 _ _) H locs; first | (rw [if_pos c_236]; exact w) | (rw [if_neg c_236]; exact w)
      have ok : rOK n (itr (rOwn k) (i + 1) σ) := by show rOK n (rA _ 21 _ _); first | (rw [if_pos c_236]; exact ok) | (rw [if_neg c_236]; exact ok)
      have hx2 : x_3 = nI (i + 1) := by rw [ex_3]; exact nI_1 i
      rw [hx2] at hl
      exact ih (i + 1) (by omega) _ _ w ok ls (lv_sub hl [0, 1, 2] rfl)
    · refine lv_aload_n hx hb dX4_take_239 rfl (lv_at hl 1 rfl) ?_
      refine r_get_19 C w dX4_take_240 ?_
      refine lv_iload_n hx hb dX4_take_243 rfl (lv_at hl 2 rfl) ?_
      refine r_ld_19 C w (ok.n31 hk) dX4_take_244 ?_
      refine lv_topi (fun t_4 et_4 => ?_)
      refine lv_goto (tgt := 249) hx hb dX4_take_245 (by decide) ?_
      refine r_st_21 C w (by rw [et_2, et_1]; exact gIx (c := 31) (N := 31) rfl (by decide) (ok.n31 hk) (vp_in_nI (by omega) (by omega))) dX4_take_249 (fun H locs w => ?_)
      have ok : rOK n _ := rOK.st ok (k := 21) (i := t_2.toNatClampNeg) (v := t_4) (fun b hb => by cases hb; exact (by rw [et_4]; exact ok.at 19 rfl _))
      obtain ⟨x_5, ex_5⟩ : ∃ y : Int32, y = (nI i) + 1 := ⟨_, rfl⟩
      refine lv_iinc (v := x_5) (lv' := [(5, _), (0, _), (1, _)]) C.1 C.2.1 dX4_take_250 hl (k := 0) rfl (by rw [ex_5]; rfl) (by decide) rfl (fun ls hl => ?_)
      refine lv_goto (tgt := 213) hx hb dX4_take_253 (by decide) ?_
      subst et_4 et_2 et_1
      have w : rWd D cI cZ A H0 mm d (itr (rOwn k) (i + 1) σ) H locs := by show rWd D cI cZ A H0 mm d (rA _ 21 _ _) H locs; first | (rw [if_pos c_236]; exact w) | (rw [if_neg c_236]; exact w)
      have ok : rOK n (itr (rOwn k) (i + 1) σ) := by show rOK n (rA _ 21 _ _); first | (rw [if_pos c_236]; exact ok) | (rw [if_neg c_236]; exact ok)
      have hx2 : x_5 = nI (i + 1) := by rw [ex_5]; exact nI_1 i
      rw [hx2] at hl
      exact ih (i + 1) (by omega) _ _ w ok ls (lv_sub hl [0, 1, 2] rfl)
set_option maxHeartbeats 4000000 in
set_option maxRecDepth 100000 in
theorem q_takeSq (l : Launch) (D : va_G) (cI cZ cN cO : ClassId) (A : Nat → Prop) (mm : Nat) (d : Nat → Nat) (n : Nat) (σ : RS) (k : Int32) (ok : rOK n σ) (hk : vp_in k n) (hsm : rSame n k σ) (hq : ¬ σ.2 27 (σ.2 16 k.toNatClampNeg).toNatClampNeg < 10) : Met l yX4_take (.code yX4_take cX4_take 6 none :: gw) ({ frames := 2, cells := 0, slots := 0, locals := 51 }) (va_Pc (.ref mm :: [.int k]) (rH D cI cZ cN cO A mm d σ)) (va_Qv (fun _ : Unit => True) (fun _ t => rH D cI cZ cN cO A mm d (rEnds k (rTkS n k σ)) t ∧ rOK n (rEnds k (rTkS n k σ))) A) 0 0 A := by
  refine Met.ofW (cc := cX4_take) (maxL := 6) (ret := none) (by decide) rfl ?_
  intro p e s m args below meth c s₁ B hml hv
  obtain ⟨rfl, hP, hK, hD⟩ := hv
  have hx := B.exec
  have hb := B.bytes
  have hr := B.returns
  have hts := atoms_spec (ws := (.code yX4_take cX4_take 6 none :: gw)) B.pre
  have hg : ∀ w ∈ gw, w.before _ s = true := fun w h => hts w (List.mem_cons_of_mem _ h)
  have hown : s.vm.findClass RX4 = some m.cls := findClass_of_methodNamed B.named
  have hlocks := B.notSynchronized
  have C : Cx p c cX4_take s m _ RX4 D (gTy cI cZ cN cO) := ⟨hx, hb, hown, hg, hK⟩
  have w : rWd D cI cZ A s.heap mm d σ s.heap [] := ⟨hP, hD, va_S.rf⟩
  have hl := lv_entry ([.ref mm, .int k]) (n := 6) (Nat.le_of_ble_eq_true rfl)
  rw [lg_entry_eq]
  generalize (lg_sl ([.ref mm, .int k]) ++ List.replicate (6 - (lg_sl ([.ref mm, .int k])).length) Slot.unset).toArray = ls at hl ⊢
  have hl : lv_has ls 6 [(0, .ref mm), (1, .int k)] := hl
  refine lv_aload_n hx hb dX4_take_0 rfl (lv_at hl 0 rfl) ?_
  refine r_get_16 C w dX4_take_1 ?_
  refine lv_iload_n hx hb dX4_take_4 rfl (lv_at hl 1 rfl) ?_
  refine r_ld_16 C w (ok.n31 hk) dX4_take_5 ?_
  refine lv_topi (fun o eo => ?_)
  have hO : vp_in o 512 := by rw [eo]; exact ok.at 16 rfl _
  refine lv_istore_n (lv' := [(2, _), (0, _), (1, _)]) C.1 C.2.1 dX4_take_6 rfl hl (by decide) rfl (fun ls hl => ?_)
  refine lv_aload_n hx hb dX4_take_7 rfl (lv_at hl 1 rfl) ?_
  refine lv_iload_n hx hb dX4_take_8 rfl (lv_at hl 2 rfl) ?_
  refine r_callp (As := [.int k]) (rest := []) C w hml hl.1 (q_isSame l D cI cZ cN cO A mm d n _ k ok hk) kM_X4_149 kI_X4_isSame kS_X4_isSame kD_X4_isSame (show yX4_isSame.cls = RX4 ∧ yX4_isSame.cls ≠ "java/lang/invoke/MethodHandle" ∧ yX4_isSame.cls ≠ "java/lang/invoke/VarHandle" ∧ (parseMethodDescriptor yX4_isSame.desc).map (fun d => d.parameters.length) = some 1 from by decide +kernel) rfl rfl ⟨Nat.le_of_ble_eq_true rfl, Nat.le_of_ble_eq_true rfl⟩ rfl (lv_room (Nat.le_of_ble_eq_true rfl)) dX4_take_9 ⟨Nat.zero_le _, Nat.zero_le _⟩ (fun r_1 hr_1 => ?_)
  obtain rfl : r_1 = 1 := hr_1.elim (fun h => h.1) (fun h => absurd hsm h.2)
  refine lv_if_eq (tgt := 19) hx hb dX4_take_12 (by decide) (fun c_12 => absurd c_12 (by decide)) (fun c_12 => ?_)
  refine lv_iconst (v := (-1)) hx hb dX4_take_15 (by decide) ?_
  refine lv_goto (tgt := 24) hx hb dX4_take_16 (by decide) ?_
  refine lv_istore_n (lv' := [(3, _), (2, _), (0, _), (1, _)]) C.1 C.2.1 dX4_take_24 rfl hl (by decide) rfl (fun ls hl => ?_)
  refine lv_iload_n hx hb dX4_take_25 rfl (lv_at hl 0 rfl) ?_
  refine lv_iconst (v := (-1)) hx hb dX4_take_26 (by decide) ?_
  refine lv_icmp_ne (tgt := 34) hx hb dX4_take_27 (by decide) (fun c_27 => absurd rfl c_27) (fun c_27 => ?_)
  refine lv_iconst (v := 0) hx hb dX4_take_30 (by decide) ?_
  refine lv_goto (tgt := 58) hx hb dX4_take_31 (by decide) ?_
  refine lv_istore (lv' := [(4, _), (3, _), (2, _), (0, _), (1, _)]) C.1 C.2.1 dX4_take_58 hl (by decide) rfl (fun ls hl => ?_)
  refine lv_iconst (v := 0) hx hb dX4_take_60 (by decide) ?_
  refine lv_istore (lv' := [(5, _), (4, _), (3, _), (2, _), (0, _), (1, _)]) C.1 C.2.1 dX4_take_61 hl (by decide) rfl (fun ls hl => ?_)
  have hl : lv_has ls 6 [(5, .int (nI 0)), (4, .int 0), (3, .int (-1)), (2, .int o), (0, .ref mm), (1, .int k)] := by rw [nI_0]; exact hl
  refine ql_viewS C hml ok.2.1 hk hO ?_ n 0 (by omega) _ _ w ok ls (lv_sub hl [0, 1, 2, 3, 4, 5] rfl)
  intro H locs w ok ls hl
  refine lv_aload_n hx hb dX4_take_123 rfl (lv_at hl 4 rfl) ?_
  refine r_get_36 C w dX4_take_124 ?_
  refine lv_iload_n hx hb dX4_take_127 rfl (lv_at hl 3 rfl) ?_
  refine lv_iconst (v := 1) hx hb dX4_take_128 (by decide) ?_
  refine r_st_36 (v := 1) C w rfl hO dX4_take_129 (fun H locs w => ?_)
  have ok : rOK n _ := rOK.st ok (k := 36) (i := o.toNatClampNeg) (v := 1) (fun b hb => by cases hb)
  refine lv_aload_n hx hb dX4_take_130 rfl (lv_at hl 4 rfl) ?_
  refine r_get_33 C w dX4_take_131 ?_
  refine lv_iload_n hx hb dX4_take_134 rfl (lv_at hl 3 rfl) ?_
  refine lv_iload_n hx hb dX4_take_135 rfl (lv_at hl 2 rfl) ?_
  refine r_st_33 C w hO dX4_take_136 (fun H locs w => ?_)
  have ok : rOK n _ := rOK.st ok (k := 33) (i := o.toNatClampNeg) (v := (-1)) (fun b hb => by cases hb)
  refine lv_aload_n hx hb dX4_take_137 rfl (lv_at hl 4 rfl) ?_
  refine lv_dup hx hb dX4_take_138 rfl ?_
  refine r_get_38 C w dX4_take_139 ?_
  refine lv_topi (fun t_2 et_2 => ?_)
  refine lv_iload_n hx hb dX4_take_142 rfl (lv_at hl 2 rfl) ?_
  refine lv_iconst (v := (-1)) hx hb dX4_take_143 (by decide) ?_
  refine lv_icmp_ne (tgt := 151) hx hb dX4_take_144 (by decide) (fun c_144 => absurd rfl c_144) (fun c_144 => ?_)
  refine lv_iconst (v := 0) hx hb dX4_take_147 (by decide) ?_
  refine lv_goto (tgt := 152) hx hb dX4_take_148 (by decide) ?_
  refine lv_iadd hx hb dX4_take_152 ?_
  refine lv_topi (fun t_3 et_3 => ?_)
  refine r_put_38 C w dX4_take_153 (fun H locs w => ?_)
  have ok : rOK n _ := rOK.put ok (k := 38) (v := t_3) (by decide) (fun h => absurd h (by decide)) (fun h => absurd h (by decide))
  subst et_3 et_2
  obtain ⟨σ1, hσ1⟩ : ∃ z, z = rTkS n k σ := ⟨_, rfl⟩
  have w : rWd D cI cZ A s.heap mm d σ1 H locs := by rw [hσ1]; unfold rTkS; rw [← eo]; exact w
  have ok : rOK n σ1 := by rw [hσ1]; unfold rTkS; rw [← eo]; exact ok
  refine lv_aload_n hx hb dX4_take_156 rfl (lv_at hl 4 rfl) ?_
  refine lv_iload_n hx hb dX4_take_157 rfl (lv_at hl 3 rfl) ?_
  have e27 : ∀ r, r ≠ 35 → r ≠ 36 → r ≠ 33 → σ1.2 r = σ.2 r := fun r h1 h2 h3 => by rw [hσ1]; exact rTkS_row h1 h2 h3
  refine r_callp (As := [.int o]) (rest := []) C w hml hl.1 (q_isQuery l D cI cZ cN cO A mm d n _ o ok hO) kM_X4_159 kI_X4_isQuery kS_X4_isQuery kD_X4_isQuery (show yX4_isQuery.cls = RX4 ∧ yX4_isQuery.cls ≠ "java/lang/invoke/MethodHandle" ∧ yX4_isQuery.cls ≠ "java/lang/invoke/VarHandle" ∧ (parseMethodDescriptor yX4_isQuery.desc).map (fun d => d.parameters.length) = some 1 from by decide +kernel) rfl rfl ⟨Nat.le_of_ble_eq_true rfl, Nat.le_of_ble_eq_true rfl⟩ rfl (lv_room (Nat.le_of_ble_eq_true rfl)) dX4_take_158 ⟨Nat.zero_le _, Nat.zero_le _⟩ (fun r_4 hr_4 => ?_)
  have hr_4 : r_4 = if ¬ σ.2 27 o.toNatClampNeg < 10 then 1 else 0 := by rw [← e27 27 (by decide) (by decide) (by decide)]; exact hr_4
  obtain rfl : r_4 = 1 := by rw [hr_4, if_pos (by rw [eo]; exact hq)]
  refine lv_if_eq (tgt := 170) hx hb dX4_take_161 (by decide) (fun c_161 => absurd c_161 (by decide)) (fun c_161 => ?_)
  refine lv_aload_n hx hb dX4_take_164 rfl (lv_at hl 4 rfl) ?_
  refine lv_iload_n hx hb dX4_take_165 rfl (lv_at hl 5 rfl) ?_
  refine r_callv (As := [.int k]) (rest := []) C w hml hl.1 (q_ends l D cI cZ cN cO A mm d n _ k ok hk) kM_X4_162 kI_X4_ends kS_X4_ends kD_X4_ends (show yX4_ends.cls = RX4 ∧ yX4_ends.cls ≠ "java/lang/invoke/MethodHandle" ∧ yX4_ends.cls ≠ "java/lang/invoke/VarHandle" ∧ (parseMethodDescriptor yX4_ends.desc).map (fun d => d.parameters.length) = some 1 from by decide +kernel) rfl rfl ⟨Nat.le_of_ble_eq_true rfl, Nat.le_of_ble_eq_true rfl⟩ rfl (lv_room (Nat.le_of_ble_eq_true rfl)) dX4_take_166 ⟨Nat.zero_le _, Nat.zero_le _⟩ (fun H locs w ok => ?_)
  rw [hσ1] at w ok
  exact W.vret hx hb hr (fun t ht hW => ⟨⟨(), rfl, trivial, ⟨by rw [ht]; exact w.1, va_K.moved hW.alike hK, w.2.1⟩, ok⟩, w.2.2.F ht⟩) w.2.2.2.2 dX4_take_169
set_option maxHeartbeats 4000000 in
set_option maxRecDepth 100000 in
theorem q_takeSu (l : Launch) (D : va_G) (cI cZ cN cO : ClassId) (A : Nat → Prop) (mm : Nat) (d : Nat → Nat) (n : Nat) (σ : RS) (k : Int32) (ok : rOK n σ) (hk : vp_in k n) (hsm : rSame n k σ) (hq : σ.2 27 (σ.2 16 k.toNatClampNeg).toNatClampNeg < 10) (hlen : vp_in (σ.2 19 k.toNatClampNeg + 1) 512) (hrm : rRm σ n) : Met l yX4_take (.code yX4_take cX4_take 6 none :: gw) ({ frames := 2, cells := 0, slots := 0, locals := 51 }) (va_Pc (.ref mm :: [.int k]) (rH D cI cZ cN cO A mm d σ)) (va_Qv (fun _ : Unit => True) (fun _ t => rH D cI cZ cN cO A mm d (rWr n k (σ.2 16 k.toNatClampNeg) (rTkS n k σ)) t ∧ rOK n (rWr n k (σ.2 16 k.toNatClampNeg) (rTkS n k σ))) A) 0 0 A := by
  refine Met.ofW (cc := cX4_take) (maxL := 6) (ret := none) (by decide) rfl ?_
  intro p e s m args below meth c s₁ B hml hv
  obtain ⟨rfl, hP, hK, hD⟩ := hv
  have hx := B.exec
  have hb := B.bytes
  have hr := B.returns
  have hts := atoms_spec (ws := (.code yX4_take cX4_take 6 none :: gw)) B.pre
  have hg : ∀ w ∈ gw, w.before _ s = true := fun w h => hts w (List.mem_cons_of_mem _ h)
  have hown : s.vm.findClass RX4 = some m.cls := findClass_of_methodNamed B.named
  have hlocks := B.notSynchronized
  have C : Cx p c cX4_take s m _ RX4 D (gTy cI cZ cN cO) := ⟨hx, hb, hown, hg, hK⟩
  have w : rWd D cI cZ A s.heap mm d σ s.heap [] := ⟨hP, hD, va_S.rf⟩
  have hl := lv_entry ([.ref mm, .int k]) (n := 6) (Nat.le_of_ble_eq_true rfl)
  rw [lg_entry_eq]
  generalize (lg_sl ([.ref mm, .int k]) ++ List.replicate (6 - (lg_sl ([.ref mm, .int k])).length) Slot.unset).toArray = ls at hl ⊢
  have hl : lv_has ls 6 [(0, .ref mm), (1, .int k)] := hl
  refine lv_aload_n hx hb dX4_take_0 rfl (lv_at hl 0 rfl) ?_
  refine r_get_16 C w dX4_take_1 ?_
  refine lv_iload_n hx hb dX4_take_4 rfl (lv_at hl 1 rfl) ?_
  refine r_ld_16 C w (ok.n31 hk) dX4_take_5 ?_
  refine lv_topi (fun o eo => ?_)
  have hO : vp_in o 512 := by rw [eo]; exact ok.at 16 rfl _
  refine lv_istore_n (lv' := [(2, _), (0, _), (1, _)]) C.1 C.2.1 dX4_take_6 rfl hl (by decide) rfl (fun ls hl => ?_)
  refine lv_aload_n hx hb dX4_take_7 rfl (lv_at hl 1 rfl) ?_
  refine lv_iload_n hx hb dX4_take_8 rfl (lv_at hl 2 rfl) ?_
  refine r_callp (As := [.int k]) (rest := []) C w hml hl.1 (q_isSame l D cI cZ cN cO A mm d n _ k ok hk) kM_X4_149 kI_X4_isSame kS_X4_isSame kD_X4_isSame (show yX4_isSame.cls = RX4 ∧ yX4_isSame.cls ≠ "java/lang/invoke/MethodHandle" ∧ yX4_isSame.cls ≠ "java/lang/invoke/VarHandle" ∧ (parseMethodDescriptor yX4_isSame.desc).map (fun d => d.parameters.length) = some 1 from by decide +kernel) rfl rfl ⟨Nat.le_of_ble_eq_true rfl, Nat.le_of_ble_eq_true rfl⟩ rfl (lv_room (Nat.le_of_ble_eq_true rfl)) dX4_take_9 ⟨Nat.zero_le _, Nat.zero_le _⟩ (fun r_1 hr_1 => ?_)
  obtain rfl : r_1 = 1 := hr_1.elim (fun h => h.1) (fun h => absurd hsm h.2)
  refine lv_if_eq (tgt := 19) hx hb dX4_take_12 (by decide) (fun c_12 => absurd c_12 (by decide)) (fun c_12 => ?_)
  refine lv_iconst (v := (-1)) hx hb dX4_take_15 (by decide) ?_
  refine lv_goto (tgt := 24) hx hb dX4_take_16 (by decide) ?_
  refine lv_istore_n (lv' := [(3, _), (2, _), (0, _), (1, _)]) C.1 C.2.1 dX4_take_24 rfl hl (by decide) rfl (fun ls hl => ?_)
  refine lv_iload_n hx hb dX4_take_25 rfl (lv_at hl 0 rfl) ?_
  refine lv_iconst (v := (-1)) hx hb dX4_take_26 (by decide) ?_
  refine lv_icmp_ne (tgt := 34) hx hb dX4_take_27 (by decide) (fun c_27 => absurd rfl c_27) (fun c_27 => ?_)
  refine lv_iconst (v := 0) hx hb dX4_take_30 (by decide) ?_
  refine lv_goto (tgt := 58) hx hb dX4_take_31 (by decide) ?_
  refine lv_istore (lv' := [(4, _), (3, _), (2, _), (0, _), (1, _)]) C.1 C.2.1 dX4_take_58 hl (by decide) rfl (fun ls hl => ?_)
  refine lv_iconst (v := 0) hx hb dX4_take_60 (by decide) ?_
  refine lv_istore (lv' := [(5, _), (4, _), (3, _), (2, _), (0, _), (1, _)]) C.1 C.2.1 dX4_take_61 hl (by decide) rfl (fun ls hl => ?_)
  have hl : lv_has ls 6 [(5, .int (nI 0)), (4, .int 0), (3, .int (-1)), (2, .int o), (0, .ref mm), (1, .int k)] := by rw [nI_0]; exact hl
  refine ql_viewS C hml ok.2.1 hk hO ?_ n 0 (by omega) _ _ w ok ls (lv_sub hl [0, 1, 2, 3, 4, 5] rfl)
  intro H locs w ok ls hl
  refine lv_aload_n hx hb dX4_take_123 rfl (lv_at hl 4 rfl) ?_
  refine r_get_36 C w dX4_take_124 ?_
  refine lv_iload_n hx hb dX4_take_127 rfl (lv_at hl 3 rfl) ?_
  refine lv_iconst (v := 1) hx hb dX4_take_128 (by decide) ?_
  refine r_st_36 (v := 1) C w rfl hO dX4_take_129 (fun H locs w => ?_)
  have ok : rOK n _ := rOK.st ok (k := 36) (i := o.toNatClampNeg) (v := 1) (fun b hb => by cases hb)
  refine lv_aload_n hx hb dX4_take_130 rfl (lv_at hl 4 rfl) ?_
  refine r_get_33 C w dX4_take_131 ?_
  refine lv_iload_n hx hb dX4_take_134 rfl (lv_at hl 3 rfl) ?_
  refine lv_iload_n hx hb dX4_take_135 rfl (lv_at hl 2 rfl) ?_
  refine r_st_33 C w hO dX4_take_136 (fun H locs w => ?_)
  have ok : rOK n _ := rOK.st ok (k := 33) (i := o.toNatClampNeg) (v := (-1)) (fun b hb => by cases hb)
  refine lv_aload_n hx hb dX4_take_137 rfl (lv_at hl 4 rfl) ?_
  refine lv_dup hx hb dX4_take_138 rfl ?_
  refine r_get_38 C w dX4_take_139 ?_
  refine lv_topi (fun t_2 et_2 => ?_)
  refine lv_iload_n hx hb dX4_take_142 rfl (lv_at hl 2 rfl) ?_
  refine lv_iconst (v := (-1)) hx hb dX4_take_143 (by decide) ?_
  refine lv_icmp_ne (tgt := 151) hx hb dX4_take_144 (by decide) (fun c_144 => absurd rfl c_144) (fun c_144 => ?_)
  refine lv_iconst (v := 0) hx hb dX4_take_147 (by decide) ?_
  refine lv_goto (tgt := 152) hx hb dX4_take_148 (by decide) ?_
  refine lv_iadd hx hb dX4_take_152 ?_
  refine lv_topi (fun t_3 et_3 => ?_)
  refine r_put_38 C w dX4_take_153 (fun H locs w => ?_)
  have ok : rOK n _ := rOK.put ok (k := 38) (v := t_3) (by decide) (fun h => absurd h (by decide)) (fun h => absurd h (by decide))
  subst et_3 et_2
  obtain ⟨σ1, hσ1⟩ : ∃ z, z = rTkS n k σ := ⟨_, rfl⟩
  have w : rWd D cI cZ A s.heap mm d σ1 H locs := by rw [hσ1]; unfold rTkS; rw [← eo]; exact w
  have ok : rOK n σ1 := by rw [hσ1]; unfold rTkS; rw [← eo]; exact ok
  refine lv_aload_n hx hb dX4_take_156 rfl (lv_at hl 4 rfl) ?_
  refine lv_iload_n hx hb dX4_take_157 rfl (lv_at hl 3 rfl) ?_
  have e27 : ∀ r, r ≠ 35 → r ≠ 36 → r ≠ 33 → σ1.2 r = σ.2 r := fun r h1 h2 h3 => by rw [hσ1]; exact rTkS_row h1 h2 h3
  refine r_callp (As := [.int o]) (rest := []) C w hml hl.1 (q_isQuery l D cI cZ cN cO A mm d n _ o ok hO) kM_X4_159 kI_X4_isQuery kS_X4_isQuery kD_X4_isQuery (show yX4_isQuery.cls = RX4 ∧ yX4_isQuery.cls ≠ "java/lang/invoke/MethodHandle" ∧ yX4_isQuery.cls ≠ "java/lang/invoke/VarHandle" ∧ (parseMethodDescriptor yX4_isQuery.desc).map (fun d => d.parameters.length) = some 1 from by decide +kernel) rfl rfl ⟨Nat.le_of_ble_eq_true rfl, Nat.le_of_ble_eq_true rfl⟩ rfl (lv_room (Nat.le_of_ble_eq_true rfl)) dX4_take_158 ⟨Nat.zero_le _, Nat.zero_le _⟩ (fun r_4 hr_4 => ?_)
  have hr_4 : r_4 = if ¬ σ.2 27 o.toNatClampNeg < 10 then 1 else 0 := by rw [← e27 27 (by decide) (by decide) (by decide)]; exact hr_4
  obtain rfl : r_4 = 0 := by rw [hr_4, if_neg (fun z => z (by rw [eo]; exact hq))]
  refine lv_if_eq (tgt := 170) hx hb dX4_take_161 (by decide) (fun c_161 => ?_) (fun c_161 => absurd rfl c_161)
  refine lv_aload_n hx hb dX4_take_170 rfl (lv_at hl 4 rfl) ?_
  refine r_get_20 C w dX4_take_171 ?_
  refine lv_sipush (v := 512) hx hb dX4_take_174 (by decide) ?_
  refine lv_iload_n hx hb dX4_take_177 rfl (lv_at hl 5 rfl) ?_
  refine lv_imul hx hb dX4_take_178 ?_
  refine lv_topi (fun t_5 et_5 => ?_)
  refine lv_aload_n hx hb dX4_take_179 rfl (lv_at hl 4 rfl) ?_
  refine r_get_19 C w dX4_take_180 ?_
  refine lv_iload_n hx hb dX4_take_183 rfl (lv_at hl 5 rfl) ?_
  refine r_ld_19 C w (ok.n31 hk) dX4_take_184 ?_
  refine lv_topi (fun t_6 et_6 => ?_)
  have hle : vp_in t_6 512 := by rw [et_6]; exact ok.at 19 rfl _
  refine lv_iadd hx hb dX4_take_185 ?_
  refine lv_topi (fun t_7 et_7 => ?_)
  refine lv_iload_n hx hb dX4_take_186 rfl (lv_at hl 3 rfl) ?_
  refine r_st_20 C w (by rw [et_7, et_5]; exact gIx (c := 512) (N := 31) rfl (by decide) (ok.n31 hk) hle) dX4_take_187 (fun H locs w => ?_)
  have ok : rOK n _ := rOK.st ok (k := 20) (i := t_7.toNatClampNeg) (v := o) (fun b hb => by cases hb; exact hO)
  refine lv_aload_n hx hb dX4_take_188 rfl (lv_at hl 4 rfl) ?_
  refine r_get_19 C w dX4_take_189 ?_
  refine lv_iload_n hx hb dX4_take_192 rfl (lv_at hl 5 rfl) ?_
  refine lv_dup2_11 hx hb dX4_take_193 rfl rfl ?_
  refine r_ld_19 C w (ok.n31 hk) dX4_take_194 ?_
  refine lv_topi (fun t_8 et_8 => ?_)
  have hle : vp_in t_8 512 := by rw [et_8]; exact ok.at 19 rfl _
  refine lv_iconst (v := 1) hx hb dX4_take_195 (by decide) ?_
  refine lv_iadd hx hb dX4_take_196 ?_
  refine lv_topi (fun t_9 et_9 => ?_)
  refine r_st_19 C w (ok.n31 hk) dX4_take_197 (fun H locs w => ?_)
  have ok : rOK n _ := rOK.st ok (k := 19) (i := k.toNatClampNeg) (v := t_9) (fun b hb => by cases hb; rw [et_9, et_8]; show vp_in (σ1.2 19 k.toNatClampNeg + 1) 512; rw [e27 19 (by decide) (by decide) (by decide)]; exact hlen)
  refine lv_aload_n hx hb dX4_take_198 rfl (lv_at hl 4 rfl) ?_
  refine r_get_34 C w dX4_take_199 ?_
  refine lv_iload_n hx hb dX4_take_202 rfl (lv_at hl 3 rfl) ?_
  refine lv_aload_n hx hb dX4_take_203 rfl (lv_at hl 4 rfl) ?_
  refine r_get_19 C w dX4_take_204 ?_
  refine lv_iload_n hx hb dX4_take_207 rfl (lv_at hl 5 rfl) ?_
  refine r_ld_19 C w (ok.n31 hk) dX4_take_208 ?_
  refine lv_topi (fun t_10 et_10 => ?_)
  refine r_st_34 C w hO dX4_take_209 (fun H locs w => ?_)
  have ok : rOK n _ := rOK.st ok (k := 34) (i := o.toNatClampNeg) (v := t_10) (fun b hb => by cases hb)
  refine lv_iconst (v := 0) hx hb dX4_take_210 (by decide) ?_
  refine lv_istore (lv' := [(5, _), (4, _), (3, _), (2, _), (0, _), (1, _)]) C.1 C.2.1 dX4_take_211 hl (by decide) rfl (fun ls hl => ?_)
  subst et_10 et_9 et_8 et_7 et_6 et_5
  obtain ⟨σ2, hσ2⟩ : ∃ z, z = rLg k o σ1 := ⟨_, rfl⟩
  have w : rWd D cI cZ A s.heap mm d σ2 H locs := by rw [hσ2]; exact w
  have ok : rOK n σ2 := by rw [hσ2]; exact ok
  have hl := lv_sub hl (l' := [(5, .int (nI 0)), (0, .ref mm), (1, .int k)]) [0, 4, 5] (by rw [nI_0]; rfl)
  refine ql_own C hml ok.2.1 hk ?_ n 0 (by omega) _ _ w ok ls (lv_sub hl [0, 1, 2] rfl)
  intro H locs w ok ls hl
  refine lv_aload_n hx hb dX4_take_256 rfl (lv_at hl 1 rfl) ?_
  refine r_get_14 C w dX4_take_257 ?_
  refine lv_iload_n hx hb dX4_take_260 rfl (lv_at hl 2 rfl) ?_
  refine lv_iconst (v := 3) hx hb dX4_take_261 (by decide) ?_
  refine r_st_14 C w (ok.n31 hk) dX4_take_262 (fun H locs w => ?_)
  have ok : rOK n _ := rOK.st ok (k := 14) (i := k.toNatClampNeg) (v := 3) (fun b hb => by cases hb)
  refine lv_aload_n hx hb dX4_take_263 rfl (lv_at hl 1 rfl) ?_
  refine lv_iload_n hx hb dX4_take_264 rfl (lv_at hl 2 rfl) ?_
  refine lv_iconst (v := 2) hx hb dX4_take_265 (by decide) ?_
  refine lv_aload_n hx hb dX4_take_266 rfl (lv_at hl 1 rfl) ?_
  refine r_get_21 C w dX4_take_267 ?_
  refine r_callv (As := [.int k, .int 2, .ref ((d 21))]) (rest := []) C w hml hl.1 (q_toS21 l D cI cZ cN cO A mm d n _ k ok hk (rRm.own (by rw [hσ2, hσ1]; exact hrm.tkS.lg))) kM_X4_125 kI_X4_toAll kS_X4_toAll kD_X4_toAll (show yX4_toAll.cls = RX4 ∧ yX4_toAll.cls ≠ "java/lang/invoke/MethodHandle" ∧ yX4_toAll.cls ≠ "java/lang/invoke/VarHandle" ∧ (parseMethodDescriptor yX4_toAll.desc).map (fun d => d.parameters.length) = some 3 from by decide +kernel) rfl rfl ⟨Nat.le_of_ble_eq_true rfl, Nat.le_of_ble_eq_true rfl⟩ rfl (lv_room (Nat.le_of_ble_eq_true rfl)) dX4_take_270 ⟨Nat.zero_le _, Nat.zero_le _⟩ (fun H locs w ok => ?_)
  subst hσ2
  subst hσ1
  subst eo
  exact W.vret hx hb hr (fun t ht hW => ⟨⟨(), rfl, trivial, ⟨by rw [ht]; exact w.1, va_K.moved hW.alike hK, w.2.1⟩, ok⟩, w.2.2.F ht⟩) w.2.2.2.2 dX4_take_273
set_option maxHeartbeats 4000000 in
set_option maxRecDepth 100000 in
theorem q_takeBq (l : Launch) (D : va_G) (cI cZ cN cO : ClassId) (A : Nat → Prop) (mm : Nat) (d : Nat → Nat) (n : Nat) (σ : RS) (k : Int32) (j : Nat) (ok : rOK n σ) (hk : vp_in k n) (hns : ¬ rSame n k σ) (hj : j < n) (hm : rMv k σ j) (hlt : ∀ i, i < j → ¬ rMv k σ i) (hc1 : ¬ σ.2 22 ((31 : Int32) * k + nI j).toNatClampNeg < 1) (hq : ¬ σ.2 27 (σ.2 16 k.toNatClampNeg).toNatClampNeg < 10) : Met l yX4_take (.code yX4_take cX4_take 6 none :: gw) ({ frames := 2, cells := 0, slots := 0, locals := 51 }) (va_Pc (.ref mm :: [.int k]) (rH D cI cZ cN cO A mm d σ)) (va_Qv (fun _ : Unit => True) (fun _ t => rH D cI cZ cN cO A mm d (rEnds k (rTkB n k j σ)) t ∧ rOK n (rEnds k (rTkB n k j σ))) A) 0 0 A := by
  refine Met.ofW (cc := cX4_take) (maxL := 6) (ret := none) (by decide) rfl ?_
  intro p e s m args below meth c s₁ B hml hv
  obtain ⟨rfl, hP, hK, hD⟩ := hv
  have hx := B.exec
  have hb := B.bytes
  have hr := B.returns
  have hts := atoms_spec (ws := (.code yX4_take cX4_take 6 none :: gw)) B.pre
  have hg : ∀ w ∈ gw, w.before _ s = true := fun w h => hts w (List.mem_cons_of_mem _ h)
  have hown : s.vm.findClass RX4 = some m.cls := findClass_of_methodNamed B.named
  have hlocks := B.notSynchronized
  have C : Cx p c cX4_take s m _ RX4 D (gTy cI cZ cN cO) := ⟨hx, hb, hown, hg, hK⟩
  have w : rWd D cI cZ A s.heap mm d σ s.heap [] := ⟨hP, hD, va_S.rf⟩
  have hl := lv_entry ([.ref mm, .int k]) (n := 6) (Nat.le_of_ble_eq_true rfl)
  rw [lg_entry_eq]
  generalize (lg_sl ([.ref mm, .int k]) ++ List.replicate (6 - (lg_sl ([.ref mm, .int k])).length) Slot.unset).toArray = ls at hl ⊢
  have hl : lv_has ls 6 [(0, .ref mm), (1, .int k)] := hl
  refine lv_aload_n hx hb dX4_take_0 rfl (lv_at hl 0 rfl) ?_
  refine r_get_16 C w dX4_take_1 ?_
  refine lv_iload_n hx hb dX4_take_4 rfl (lv_at hl 1 rfl) ?_
  refine r_ld_16 C w (ok.n31 hk) dX4_take_5 ?_
  refine lv_topi (fun o eo => ?_)
  have hO : vp_in o 512 := by rw [eo]; exact ok.at 16 rfl _
  refine lv_istore_n (lv' := [(2, _), (0, _), (1, _)]) C.1 C.2.1 dX4_take_6 rfl hl (by decide) rfl (fun ls hl => ?_)
  refine lv_aload_n hx hb dX4_take_7 rfl (lv_at hl 1 rfl) ?_
  refine lv_iload_n hx hb dX4_take_8 rfl (lv_at hl 2 rfl) ?_
  refine r_callp (As := [.int k]) (rest := []) C w hml hl.1 (q_isSame l D cI cZ cN cO A mm d n _ k ok hk) kM_X4_149 kI_X4_isSame kS_X4_isSame kD_X4_isSame (show yX4_isSame.cls = RX4 ∧ yX4_isSame.cls ≠ "java/lang/invoke/MethodHandle" ∧ yX4_isSame.cls ≠ "java/lang/invoke/VarHandle" ∧ (parseMethodDescriptor yX4_isSame.desc).map (fun d => d.parameters.length) = some 1 from by decide +kernel) rfl rfl ⟨Nat.le_of_ble_eq_true rfl, Nat.le_of_ble_eq_true rfl⟩ rfl (lv_room (Nat.le_of_ble_eq_true rfl)) dX4_take_9 ⟨Nat.zero_le _, Nat.zero_le _⟩ (fun r_1 hr_1 => ?_)
  obtain rfl : r_1 = 0 := hr_1.elim (fun h => absurd h.2 hns) (fun h => h.1)
  refine lv_if_eq (tgt := 19) hx hb dX4_take_12 (by decide) (fun c_12 => ?_) (fun c_12 => absurd rfl c_12)
  refine lv_aload_n hx hb dX4_take_19 rfl (lv_at hl 1 rfl) ?_
  refine lv_iload_n hx hb dX4_take_20 rfl (lv_at hl 2 rfl) ?_
  refine r_callp (As := [.int k]) (rest := []) C w hml hl.1 (q_movedTwice l D cI cZ cN cO A mm d n _ k ok hk) kM_X4_152 kI_X4_movedTwice kS_X4_movedTwice kD_X4_movedTwice (show yX4_movedTwice.cls = RX4 ∧ yX4_movedTwice.cls ≠ "java/lang/invoke/MethodHandle" ∧ yX4_movedTwice.cls ≠ "java/lang/invoke/VarHandle" ∧ (parseMethodDescriptor yX4_movedTwice.desc).map (fun d => d.parameters.length) = some 1 from by decide +kernel) rfl rfl ⟨Nat.le_of_ble_eq_true rfl, Nat.le_of_ble_eq_true rfl⟩ rfl (lv_room (Nat.le_of_ble_eq_true rfl)) dX4_take_21 ⟨Nat.zero_le _, Nat.zero_le _⟩ (fun r_2 hr_2 => ?_)
  obtain rfl : r_2 = nI j := rMv_uniq hj hm hlt hr_2
  refine lv_istore_n (lv' := [(3, _), (2, _), (0, _), (1, _)]) C.1 C.2.1 dX4_take_24 rfl hl (by decide) rfl (fun ls hl => ?_)
  refine lv_iload_n hx hb dX4_take_25 rfl (lv_at hl 0 rfl) ?_
  refine lv_iconst (v := (-1)) hx hb dX4_take_26 (by decide) ?_
  refine lv_icmp_ne (tgt := 34) hx hb dX4_take_27 (by decide) (fun c_27 => ?_) (fun c_27 => absurd c_27 (nI_nm1 (by have := ok.2.1; omega)))
  refine lv_aload_n hx hb dX4_take_34 rfl (lv_at hl 2 rfl) ?_
  refine r_get_20 C w dX4_take_35 ?_
  refine lv_sipush (v := 512) hx hb dX4_take_38 (by decide) ?_
  refine lv_iload_n hx hb dX4_take_41 rfl (lv_at hl 0 rfl) ?_
  refine lv_imul hx hb dX4_take_42 ?_
  refine lv_topi (fun t_3 et_3 => ?_)
  refine lv_aload_n hx hb dX4_take_43 rfl (lv_at hl 2 rfl) ?_
  refine r_get_22 C w dX4_take_44 ?_
  refine lv_bipush (v := 31) hx hb dX4_take_47 (by decide) ?_
  refine lv_iload_n hx hb dX4_take_49 rfl (lv_at hl 3 rfl) ?_
  refine lv_imul hx hb dX4_take_50 ?_
  refine lv_topi (fun t_4 et_4 => ?_)
  refine lv_iload_n hx hb dX4_take_51 rfl (lv_at hl 0 rfl) ?_
  refine lv_iadd hx hb dX4_take_52 ?_
  refine lv_topi (fun t_5 et_5 => ?_)
  refine r_ld_22 C w (by rw [et_5, et_4]; exact gIx (c := 31) (N := 31) rfl (by decide) (ok.n31 hk) (vp_in_nI (by have := ok.2.1; omega) (by omega))) dX4_take_53 ?_
  refine lv_topi (fun t_6 et_6 => ?_)
  refine lv_iadd hx hb dX4_take_54 ?_
  refine lv_topi (fun t_7 et_7 => ?_)
  refine lv_iconst (v := 1) hx hb dX4_take_55 (by decide) ?_
  refine lv_isub hx hb dX4_take_56 ?_
  refine lv_topi (fun t_8 et_8 => ?_)
  subst et_8 et_7 et_6 et_5 et_4 et_3
  refine r_ld_20 C w (gLog (ok.n31 (vp_in_nI hj (by have := ok.2.1; omega))) (ok.at 22 rfl _) hc1) dX4_take_57 ?_
  refine lv_topi (fun g0 eg0 => ?_)
  have hF : vp_in g0 512 := by rw [eg0]; exact ok.at 20 rfl _
  refine lv_istore (lv' := [(4, _), (3, _), (2, _), (0, _), (1, _)]) C.1 C.2.1 dX4_take_58 hl (by decide) rfl (fun ls hl => ?_)
  refine lv_iconst (v := 0) hx hb dX4_take_60 (by decide) ?_
  refine lv_istore (lv' := [(5, _), (4, _), (3, _), (2, _), (0, _), (1, _)]) C.1 C.2.1 dX4_take_61 hl (by decide) rfl (fun ls hl => ?_)
  rw [← nI_0] at hl
  refine ql_viewB C hml ok.2.1 hk hO hF hj ?_ n 0 (by omega) _ _ w ok ls (lv_sub hl [0, 1, 2, 3, 4, 5] rfl)
  intro H locs w ok ls hl
  refine lv_aload_n hx hb dX4_take_123 rfl (lv_at hl 4 rfl) ?_
  refine r_get_36 C w dX4_take_124 ?_
  refine lv_iload_n hx hb dX4_take_127 rfl (lv_at hl 3 rfl) ?_
  refine lv_iconst (v := 1) hx hb dX4_take_128 (by decide) ?_
  refine r_st_36 (v := 1) C w rfl hO dX4_take_129 (fun H locs w => ?_)
  have ok : rOK n _ := rOK.st ok (k := 36) (i := o.toNatClampNeg) (v := 1) (fun b hb => by cases hb)
  refine lv_aload_n hx hb dX4_take_130 rfl (lv_at hl 4 rfl) ?_
  refine r_get_33 C w dX4_take_131 ?_
  refine lv_iload_n hx hb dX4_take_134 rfl (lv_at hl 3 rfl) ?_
  refine lv_iload_n hx hb dX4_take_135 rfl (lv_at hl 2 rfl) ?_
  refine r_st_33 C w hO dX4_take_136 (fun H locs w => ?_)
  have ok : rOK n _ := rOK.st ok (k := 33) (i := o.toNatClampNeg) (v := (nI j)) (fun b hb => by cases hb)
  refine lv_aload_n hx hb dX4_take_137 rfl (lv_at hl 4 rfl) ?_
  refine lv_dup hx hb dX4_take_138 rfl ?_
  refine r_get_38 C w dX4_take_139 ?_
  refine lv_topi (fun t_9 et_9 => ?_)
  refine lv_iload_n hx hb dX4_take_142 rfl (lv_at hl 2 rfl) ?_
  refine lv_iconst (v := (-1)) hx hb dX4_take_143 (by decide) ?_
  refine lv_icmp_ne (tgt := 151) hx hb dX4_take_144 (by decide) (fun c_144 => ?_) (fun c_144 => absurd c_144 (nI_nm1 (by have := ok.2.1; omega)))
  refine lv_iconst (v := 1) hx hb dX4_take_151 (by decide) ?_
  refine lv_iadd hx hb dX4_take_152 ?_
  refine lv_topi (fun t_10 et_10 => ?_)
  refine r_put_38 C w dX4_take_153 (fun H locs w => ?_)
  have ok : rOK n _ := rOK.put ok (k := 38) (v := t_10) (by decide) (fun h => absurd h (by decide)) (fun h => absurd h (by decide))
  subst et_10 et_9
  obtain ⟨σ1, hσ1⟩ : ∃ z, z = rTkB n k j σ := ⟨_, rfl⟩
  have w : rWd D cI cZ A s.heap mm d σ1 H locs := by rw [hσ1]; unfold rTkB; rw [← eo, show rFm k j σ = g0 from eg0.symm]; exact w
  have ok : rOK n σ1 := by rw [hσ1]; unfold rTkB; rw [← eo, show rFm k j σ = g0 from eg0.symm]; exact ok
  refine lv_aload_n hx hb dX4_take_156 rfl (lv_at hl 4 rfl) ?_
  refine lv_iload_n hx hb dX4_take_157 rfl (lv_at hl 3 rfl) ?_
  have e27 : ∀ r, r ≠ 35 → r ≠ 36 → r ≠ 33 → σ1.2 r = σ.2 r := fun r h1 h2 h3 => by rw [hσ1]; exact rTkB_row h1 h2 h3
  refine r_callp (As := [.int o]) (rest := []) C w hml hl.1 (q_isQuery l D cI cZ cN cO A mm d n _ o ok hO) kM_X4_159 kI_X4_isQuery kS_X4_isQuery kD_X4_isQuery (show yX4_isQuery.cls = RX4 ∧ yX4_isQuery.cls ≠ "java/lang/invoke/MethodHandle" ∧ yX4_isQuery.cls ≠ "java/lang/invoke/VarHandle" ∧ (parseMethodDescriptor yX4_isQuery.desc).map (fun d => d.parameters.length) = some 1 from by decide +kernel) rfl rfl ⟨Nat.le_of_ble_eq_true rfl, Nat.le_of_ble_eq_true rfl⟩ rfl (lv_room (Nat.le_of_ble_eq_true rfl)) dX4_take_158 ⟨Nat.zero_le _, Nat.zero_le _⟩ (fun r_11 hr_11 => ?_)
  have hr_11 : r_11 = if ¬ σ.2 27 o.toNatClampNeg < 10 then 1 else 0 := by rw [← e27 27 (by decide) (by decide) (by decide)]; exact hr_11
  obtain rfl : r_11 = 1 := by rw [hr_11, if_pos (by rw [eo]; exact hq)]
  refine lv_if_eq (tgt := 170) hx hb dX4_take_161 (by decide) (fun c_161 => absurd c_161 (by decide)) (fun c_161 => ?_)
  refine lv_aload_n hx hb dX4_take_164 rfl (lv_at hl 4 rfl) ?_
  refine lv_iload_n hx hb dX4_take_165 rfl (lv_at hl 5 rfl) ?_
  refine r_callv (As := [.int k]) (rest := []) C w hml hl.1 (q_ends l D cI cZ cN cO A mm d n _ k ok hk) kM_X4_162 kI_X4_ends kS_X4_ends kD_X4_ends (show yX4_ends.cls = RX4 ∧ yX4_ends.cls ≠ "java/lang/invoke/MethodHandle" ∧ yX4_ends.cls ≠ "java/lang/invoke/VarHandle" ∧ (parseMethodDescriptor yX4_ends.desc).map (fun d => d.parameters.length) = some 1 from by decide +kernel) rfl rfl ⟨Nat.le_of_ble_eq_true rfl, Nat.le_of_ble_eq_true rfl⟩ rfl (lv_room (Nat.le_of_ble_eq_true rfl)) dX4_take_166 ⟨Nat.zero_le _, Nat.zero_le _⟩ (fun H locs w ok => ?_)
  rw [hσ1] at w ok
  exact W.vret hx hb hr (fun t ht hW => ⟨⟨(), rfl, trivial, ⟨by rw [ht]; exact w.1, va_K.moved hW.alike hK, w.2.1⟩, ok⟩, w.2.2.F ht⟩) w.2.2.2.2 dX4_take_169
set_option maxHeartbeats 4000000 in
set_option maxRecDepth 100000 in
theorem q_takeBu (l : Launch) (D : va_G) (cI cZ cN cO : ClassId) (A : Nat → Prop) (mm : Nat) (d : Nat → Nat) (n : Nat) (σ : RS) (k : Int32) (j : Nat) (ok : rOK n σ) (hk : vp_in k n) (hns : ¬ rSame n k σ) (hj : j < n) (hm : rMv k σ j) (hlt : ∀ i, i < j → ¬ rMv k σ i) (hc1 : ¬ σ.2 22 ((31 : Int32) * k + nI j).toNatClampNeg < 1) (hq : σ.2 27 (σ.2 16 k.toNatClampNeg).toNatClampNeg < 10) (hlen : vp_in (σ.2 19 k.toNatClampNeg + 1) 512) (hrm : rRm σ n) : Met l yX4_take (.code yX4_take cX4_take 6 none :: gw) ({ frames := 2, cells := 0, slots := 0, locals := 51 }) (va_Pc (.ref mm :: [.int k]) (rH D cI cZ cN cO A mm d σ)) (va_Qv (fun _ : Unit => True) (fun _ t => rH D cI cZ cN cO A mm d (rWr n k (σ.2 16 k.toNatClampNeg) (rTkB n k j σ)) t ∧ rOK n (rWr n k (σ.2 16 k.toNatClampNeg) (rTkB n k j σ))) A) 0 0 A := by
  refine Met.ofW (cc := cX4_take) (maxL := 6) (ret := none) (by decide) rfl ?_
  intro p e s m args below meth c s₁ B hml hv
  obtain ⟨rfl, hP, hK, hD⟩ := hv
  have hx := B.exec
  have hb := B.bytes
  have hr := B.returns
  have hts := atoms_spec (ws := (.code yX4_take cX4_take 6 none :: gw)) B.pre
  have hg : ∀ w ∈ gw, w.before _ s = true := fun w h => hts w (List.mem_cons_of_mem _ h)
  have hown : s.vm.findClass RX4 = some m.cls := findClass_of_methodNamed B.named
  have hlocks := B.notSynchronized
  have C : Cx p c cX4_take s m _ RX4 D (gTy cI cZ cN cO) := ⟨hx, hb, hown, hg, hK⟩
  have w : rWd D cI cZ A s.heap mm d σ s.heap [] := ⟨hP, hD, va_S.rf⟩
  have hl := lv_entry ([.ref mm, .int k]) (n := 6) (Nat.le_of_ble_eq_true rfl)
  rw [lg_entry_eq]
  generalize (lg_sl ([.ref mm, .int k]) ++ List.replicate (6 - (lg_sl ([.ref mm, .int k])).length) Slot.unset).toArray = ls at hl ⊢
  have hl : lv_has ls 6 [(0, .ref mm), (1, .int k)] := hl
  refine lv_aload_n hx hb dX4_take_0 rfl (lv_at hl 0 rfl) ?_
  refine r_get_16 C w dX4_take_1 ?_
  refine lv_iload_n hx hb dX4_take_4 rfl (lv_at hl 1 rfl) ?_
  refine r_ld_16 C w (ok.n31 hk) dX4_take_5 ?_
  refine lv_topi (fun o eo => ?_)
  have hO : vp_in o 512 := by rw [eo]; exact ok.at 16 rfl _
  refine lv_istore_n (lv' := [(2, _), (0, _), (1, _)]) C.1 C.2.1 dX4_take_6 rfl hl (by decide) rfl (fun ls hl => ?_)
  refine lv_aload_n hx hb dX4_take_7 rfl (lv_at hl 1 rfl) ?_
  refine lv_iload_n hx hb dX4_take_8 rfl (lv_at hl 2 rfl) ?_
  refine r_callp (As := [.int k]) (rest := []) C w hml hl.1 (q_isSame l D cI cZ cN cO A mm d n _ k ok hk) kM_X4_149 kI_X4_isSame kS_X4_isSame kD_X4_isSame (show yX4_isSame.cls = RX4 ∧ yX4_isSame.cls ≠ "java/lang/invoke/MethodHandle" ∧ yX4_isSame.cls ≠ "java/lang/invoke/VarHandle" ∧ (parseMethodDescriptor yX4_isSame.desc).map (fun d => d.parameters.length) = some 1 from by decide +kernel) rfl rfl ⟨Nat.le_of_ble_eq_true rfl, Nat.le_of_ble_eq_true rfl⟩ rfl (lv_room (Nat.le_of_ble_eq_true rfl)) dX4_take_9 ⟨Nat.zero_le _, Nat.zero_le _⟩ (fun r_1 hr_1 => ?_)
  obtain rfl : r_1 = 0 := hr_1.elim (fun h => absurd h.2 hns) (fun h => h.1)
  refine lv_if_eq (tgt := 19) hx hb dX4_take_12 (by decide) (fun c_12 => ?_) (fun c_12 => absurd rfl c_12)
  refine lv_aload_n hx hb dX4_take_19 rfl (lv_at hl 1 rfl) ?_
  refine lv_iload_n hx hb dX4_take_20 rfl (lv_at hl 2 rfl) ?_
  refine r_callp (As := [.int k]) (rest := []) C w hml hl.1 (q_movedTwice l D cI cZ cN cO A mm d n _ k ok hk) kM_X4_152 kI_X4_movedTwice kS_X4_movedTwice kD_X4_movedTwice (show yX4_movedTwice.cls = RX4 ∧ yX4_movedTwice.cls ≠ "java/lang/invoke/MethodHandle" ∧ yX4_movedTwice.cls ≠ "java/lang/invoke/VarHandle" ∧ (parseMethodDescriptor yX4_movedTwice.desc).map (fun d => d.parameters.length) = some 1 from by decide +kernel) rfl rfl ⟨Nat.le_of_ble_eq_true rfl, Nat.le_of_ble_eq_true rfl⟩ rfl (lv_room (Nat.le_of_ble_eq_true rfl)) dX4_take_21 ⟨Nat.zero_le _, Nat.zero_le _⟩ (fun r_2 hr_2 => ?_)
  obtain rfl : r_2 = nI j := rMv_uniq hj hm hlt hr_2
  refine lv_istore_n (lv' := [(3, _), (2, _), (0, _), (1, _)]) C.1 C.2.1 dX4_take_24 rfl hl (by decide) rfl (fun ls hl => ?_)
  refine lv_iload_n hx hb dX4_take_25 rfl (lv_at hl 0 rfl) ?_
  refine lv_iconst (v := (-1)) hx hb dX4_take_26 (by decide) ?_
  refine lv_icmp_ne (tgt := 34) hx hb dX4_take_27 (by decide) (fun c_27 => ?_) (fun c_27 => absurd c_27 (nI_nm1 (by have := ok.2.1; omega)))
  refine lv_aload_n hx hb dX4_take_34 rfl (lv_at hl 2 rfl) ?_
  refine r_get_20 C w dX4_take_35 ?_
  refine lv_sipush (v := 512) hx hb dX4_take_38 (by decide) ?_
  refine lv_iload_n hx hb dX4_take_41 rfl (lv_at hl 0 rfl) ?_
  refine lv_imul hx hb dX4_take_42 ?_
  refine lv_topi (fun t_3 et_3 => ?_)
  refine lv_aload_n hx hb dX4_take_43 rfl (lv_at hl 2 rfl) ?_
  refine r_get_22 C w dX4_take_44 ?_
  refine lv_bipush (v := 31) hx hb dX4_take_47 (by decide) ?_
  refine lv_iload_n hx hb dX4_take_49 rfl (lv_at hl 3 rfl) ?_
  refine lv_imul hx hb dX4_take_50 ?_
  refine lv_topi (fun t_4 et_4 => ?_)
  refine lv_iload_n hx hb dX4_take_51 rfl (lv_at hl 0 rfl) ?_
  refine lv_iadd hx hb dX4_take_52 ?_
  refine lv_topi (fun t_5 et_5 => ?_)
  refine r_ld_22 C w (by rw [et_5, et_4]; exact gIx (c := 31) (N := 31) rfl (by decide) (ok.n31 hk) (vp_in_nI (by have := ok.2.1; omega) (by omega))) dX4_take_53 ?_
  refine lv_topi (fun t_6 et_6 => ?_)
  refine lv_iadd hx hb dX4_take_54 ?_
  refine lv_topi (fun t_7 et_7 => ?_)
  refine lv_iconst (v := 1) hx hb dX4_take_55 (by decide) ?_
  refine lv_isub hx hb dX4_take_56 ?_
  refine lv_topi (fun t_8 et_8 => ?_)
  subst et_8 et_7 et_6 et_5 et_4 et_3
  refine r_ld_20 C w (gLog (ok.n31 (vp_in_nI hj (by have := ok.2.1; omega))) (ok.at 22 rfl _) hc1) dX4_take_57 ?_
  refine lv_topi (fun g0 eg0 => ?_)
  have hF : vp_in g0 512 := by rw [eg0]; exact ok.at 20 rfl _
  refine lv_istore (lv' := [(4, _), (3, _), (2, _), (0, _), (1, _)]) C.1 C.2.1 dX4_take_58 hl (by decide) rfl (fun ls hl => ?_)
  refine lv_iconst (v := 0) hx hb dX4_take_60 (by decide) ?_
  refine lv_istore (lv' := [(5, _), (4, _), (3, _), (2, _), (0, _), (1, _)]) C.1 C.2.1 dX4_take_61 hl (by decide) rfl (fun ls hl => ?_)
  rw [← nI_0] at hl
  refine ql_viewB C hml ok.2.1 hk hO hF hj ?_ n 0 (by omega) _ _ w ok ls (lv_sub hl [0, 1, 2, 3, 4, 5] rfl)
  intro H locs w ok ls hl
  refine lv_aload_n hx hb dX4_take_123 rfl (lv_at hl 4 rfl) ?_
  refine r_get_36 C w dX4_take_124 ?_
  refine lv_iload_n hx hb dX4_take_127 rfl (lv_at hl 3 rfl) ?_
  refine lv_iconst (v := 1) hx hb dX4_take_128 (by decide) ?_
  refine r_st_36 (v := 1) C w rfl hO dX4_take_129 (fun H locs w => ?_)
  have ok : rOK n _ := rOK.st ok (k := 36) (i := o.toNatClampNeg) (v := 1) (fun b hb => by cases hb)
  refine lv_aload_n hx hb dX4_take_130 rfl (lv_at hl 4 rfl) ?_
  refine r_get_33 C w dX4_take_131 ?_
  refine lv_iload_n hx hb dX4_take_134 rfl (lv_at hl 3 rfl) ?_
  refine lv_iload_n hx hb dX4_take_135 rfl (lv_at hl 2 rfl) ?_
  refine r_st_33 C w hO dX4_take_136 (fun H locs w => ?_)
  have ok : rOK n _ := rOK.st ok (k := 33) (i := o.toNatClampNeg) (v := (nI j)) (fun b hb => by cases hb)
  refine lv_aload_n hx hb dX4_take_137 rfl (lv_at hl 4 rfl) ?_
  refine lv_dup hx hb dX4_take_138 rfl ?_
  refine r_get_38 C w dX4_take_139 ?_
  refine lv_topi (fun t_9 et_9 => ?_)
  refine lv_iload_n hx hb dX4_take_142 rfl (lv_at hl 2 rfl) ?_
  refine lv_iconst (v := (-1)) hx hb dX4_take_143 (by decide) ?_
  refine lv_icmp_ne (tgt := 151) hx hb dX4_take_144 (by decide) (fun c_144 => ?_) (fun c_144 => absurd c_144 (nI_nm1 (by have := ok.2.1; omega)))
  refine lv_iconst (v := 1) hx hb dX4_take_151 (by decide) ?_
  refine lv_iadd hx hb dX4_take_152 ?_
  refine lv_topi (fun t_10 et_10 => ?_)
  refine r_put_38 C w dX4_take_153 (fun H locs w => ?_)
  have ok : rOK n _ := rOK.put ok (k := 38) (v := t_10) (by decide) (fun h => absurd h (by decide)) (fun h => absurd h (by decide))
  subst et_10 et_9
  obtain ⟨σ1, hσ1⟩ : ∃ z, z = rTkB n k j σ := ⟨_, rfl⟩
  have w : rWd D cI cZ A s.heap mm d σ1 H locs := by rw [hσ1]; unfold rTkB; rw [← eo, show rFm k j σ = g0 from eg0.symm]; exact w
  have ok : rOK n σ1 := by rw [hσ1]; unfold rTkB; rw [← eo, show rFm k j σ = g0 from eg0.symm]; exact ok
  refine lv_aload_n hx hb dX4_take_156 rfl (lv_at hl 4 rfl) ?_
  refine lv_iload_n hx hb dX4_take_157 rfl (lv_at hl 3 rfl) ?_
  have e27 : ∀ r, r ≠ 35 → r ≠ 36 → r ≠ 33 → σ1.2 r = σ.2 r := fun r h1 h2 h3 => by rw [hσ1]; exact rTkB_row h1 h2 h3
  refine r_callp (As := [.int o]) (rest := []) C w hml hl.1 (q_isQuery l D cI cZ cN cO A mm d n _ o ok hO) kM_X4_159 kI_X4_isQuery kS_X4_isQuery kD_X4_isQuery (show yX4_isQuery.cls = RX4 ∧ yX4_isQuery.cls ≠ "java/lang/invoke/MethodHandle" ∧ yX4_isQuery.cls ≠ "java/lang/invoke/VarHandle" ∧ (parseMethodDescriptor yX4_isQuery.desc).map (fun d => d.parameters.length) = some 1 from by decide +kernel) rfl rfl ⟨Nat.le_of_ble_eq_true rfl, Nat.le_of_ble_eq_true rfl⟩ rfl (lv_room (Nat.le_of_ble_eq_true rfl)) dX4_take_158 ⟨Nat.zero_le _, Nat.zero_le _⟩ (fun r_11 hr_11 => ?_)
  have hr_11 : r_11 = if ¬ σ.2 27 o.toNatClampNeg < 10 then 1 else 0 := by rw [← e27 27 (by decide) (by decide) (by decide)]; exact hr_11
  obtain rfl : r_11 = 0 := by rw [hr_11, if_neg (fun z => z (by rw [eo]; exact hq))]
  refine lv_if_eq (tgt := 170) hx hb dX4_take_161 (by decide) (fun c_161 => ?_) (fun c_161 => absurd rfl c_161)
  refine lv_aload_n hx hb dX4_take_170 rfl (lv_at hl 4 rfl) ?_
  refine r_get_20 C w dX4_take_171 ?_
  refine lv_sipush (v := 512) hx hb dX4_take_174 (by decide) ?_
  refine lv_iload_n hx hb dX4_take_177 rfl (lv_at hl 5 rfl) ?_
  refine lv_imul hx hb dX4_take_178 ?_
  refine lv_topi (fun t_12 et_12 => ?_)
  refine lv_aload_n hx hb dX4_take_179 rfl (lv_at hl 4 rfl) ?_
  refine r_get_19 C w dX4_take_180 ?_
  refine lv_iload_n hx hb dX4_take_183 rfl (lv_at hl 5 rfl) ?_
  refine r_ld_19 C w (ok.n31 hk) dX4_take_184 ?_
  refine lv_topi (fun t_13 et_13 => ?_)
  have hle : vp_in t_13 512 := by rw [et_13]; exact ok.at 19 rfl _
  refine lv_iadd hx hb dX4_take_185 ?_
  refine lv_topi (fun t_14 et_14 => ?_)
  refine lv_iload_n hx hb dX4_take_186 rfl (lv_at hl 3 rfl) ?_
  refine r_st_20 C w (by rw [et_14, et_12]; exact gIx (c := 512) (N := 31) rfl (by decide) (ok.n31 hk) hle) dX4_take_187 (fun H locs w => ?_)
  have ok : rOK n _ := rOK.st ok (k := 20) (i := t_14.toNatClampNeg) (v := o) (fun b hb => by cases hb; exact hO)
  refine lv_aload_n hx hb dX4_take_188 rfl (lv_at hl 4 rfl) ?_
  refine r_get_19 C w dX4_take_189 ?_
  refine lv_iload_n hx hb dX4_take_192 rfl (lv_at hl 5 rfl) ?_
  refine lv_dup2_11 hx hb dX4_take_193 rfl rfl ?_
  refine r_ld_19 C w (ok.n31 hk) dX4_take_194 ?_
  refine lv_topi (fun t_15 et_15 => ?_)
  have hle : vp_in t_15 512 := by rw [et_15]; exact ok.at 19 rfl _
  refine lv_iconst (v := 1) hx hb dX4_take_195 (by decide) ?_
  refine lv_iadd hx hb dX4_take_196 ?_
  refine lv_topi (fun t_16 et_16 => ?_)
  refine r_st_19 C w (ok.n31 hk) dX4_take_197 (fun H locs w => ?_)
  have ok : rOK n _ := rOK.st ok (k := 19) (i := k.toNatClampNeg) (v := t_16) (fun b hb => by cases hb; rw [et_16, et_15]; show vp_in (σ1.2 19 k.toNatClampNeg + 1) 512; rw [e27 19 (by decide) (by decide) (by decide)]; exact hlen)
  refine lv_aload_n hx hb dX4_take_198 rfl (lv_at hl 4 rfl) ?_
  refine r_get_34 C w dX4_take_199 ?_
  refine lv_iload_n hx hb dX4_take_202 rfl (lv_at hl 3 rfl) ?_
  refine lv_aload_n hx hb dX4_take_203 rfl (lv_at hl 4 rfl) ?_
  refine r_get_19 C w dX4_take_204 ?_
  refine lv_iload_n hx hb dX4_take_207 rfl (lv_at hl 5 rfl) ?_
  refine r_ld_19 C w (ok.n31 hk) dX4_take_208 ?_
  refine lv_topi (fun t_17 et_17 => ?_)
  refine r_st_34 C w hO dX4_take_209 (fun H locs w => ?_)
  have ok : rOK n _ := rOK.st ok (k := 34) (i := o.toNatClampNeg) (v := t_17) (fun b hb => by cases hb)
  refine lv_iconst (v := 0) hx hb dX4_take_210 (by decide) ?_
  refine lv_istore (lv' := [(5, _), (4, _), (3, _), (2, _), (0, _), (1, _)]) C.1 C.2.1 dX4_take_211 hl (by decide) rfl (fun ls hl => ?_)
  subst et_17 et_16 et_15 et_14 et_13 et_12
  obtain ⟨σ2, hσ2⟩ : ∃ z, z = rLg k o σ1 := ⟨_, rfl⟩
  have w : rWd D cI cZ A s.heap mm d σ2 H locs := by rw [hσ2]; exact w
  have ok : rOK n σ2 := by rw [hσ2]; exact ok
  rw [← nI_0] at hl
  refine ql_own C hml ok.2.1 hk ?_ n 0 (by omega) _ _ w ok ls (lv_sub hl [0, 4, 5] rfl)
  intro H locs w ok ls hl
  refine lv_aload_n hx hb dX4_take_256 rfl (lv_at hl 1 rfl) ?_
  refine r_get_14 C w dX4_take_257 ?_
  refine lv_iload_n hx hb dX4_take_260 rfl (lv_at hl 2 rfl) ?_
  refine lv_iconst (v := 3) hx hb dX4_take_261 (by decide) ?_
  refine r_st_14 C w (ok.n31 hk) dX4_take_262 (fun H locs w => ?_)
  have ok : rOK n _ := rOK.st ok (k := 14) (i := k.toNatClampNeg) (v := 3) (fun b hb => by cases hb)
  refine lv_aload_n hx hb dX4_take_263 rfl (lv_at hl 1 rfl) ?_
  refine lv_iload_n hx hb dX4_take_264 rfl (lv_at hl 2 rfl) ?_
  refine lv_iconst (v := 2) hx hb dX4_take_265 (by decide) ?_
  refine lv_aload_n hx hb dX4_take_266 rfl (lv_at hl 1 rfl) ?_
  refine r_get_21 C w dX4_take_267 ?_
  refine r_callv (As := [.int k, .int 2, .ref ((d 21))]) (rest := []) C w hml hl.1 (q_toS21 l D cI cZ cN cO A mm d n _ k ok hk (rRm.own (by rw [hσ2, hσ1]; exact hrm.tkB.lg))) kM_X4_125 kI_X4_toAll kS_X4_toAll kD_X4_toAll (show yX4_toAll.cls = RX4 ∧ yX4_toAll.cls ≠ "java/lang/invoke/MethodHandle" ∧ yX4_toAll.cls ≠ "java/lang/invoke/VarHandle" ∧ (parseMethodDescriptor yX4_toAll.desc).map (fun d => d.parameters.length) = some 3 from by decide +kernel) rfl rfl ⟨Nat.le_of_ble_eq_true rfl, Nat.le_of_ble_eq_true rfl⟩ rfl (lv_room (Nat.le_of_ble_eq_true rfl)) dX4_take_270 ⟨Nat.zero_le _, Nat.zero_le _⟩ (fun H locs w ok => ?_)
  subst hσ2
  subst hσ1
  subst eo
  exact W.vret hx hb hr (fun t ht hW => ⟨⟨(), rfl, trivial, ⟨by rw [ht]; exact w.1, va_K.moved hW.alike hK, w.2.1⟩, ok⟩, w.2.2.F ht⟩) w.2.2.2.2 dX4_take_273
