theorem gJoinL {p : Program} {l : Launch} {e : Env} {R : Room} {s : State} {m : MethodId} {args : Array Value} {below : List Frame} {meth : Method} {c : Code} {H : Heap} {locs : List Loc} {cells slots : Nat} {Q : State → Prop} {g : JFrame} (P : Int64 → Prop) (mk : Int64 → JFrame) (h : ∀ v, P v → W p l e R s m args below meth c H locs cells slots Q (mk v)) (k : (∀ v, P v → W p l e R s m args below meth c H locs cells slots Q (mk v)) → W p l e R s m args below meth c H locs cells slots Q g) : W p l e R s m args below meth c H locs cells slots Q g := k h
/-- one UPDATE of the log of NODE k is looked at -/
def rGst (wh : Int32) (k i : Nat) (σ : RS) : RS := if σ.2 27 (σ.2 20 ((512 : Int32) * nI k + nI i).toNatClampNeg).toNatClampNeg = wh then rI (rA σ 39 (σ.1 40).toNatClampNeg (σ.2 20 ((512 : Int32) * nI k + nI i).toNatClampNeg)) 40 (σ.1 40 + 1) else σ
def rGk (wh : Int32) (V : Nat → Nat) (k : Nat) (σ : RS) : RS := itr (rGst wh k) (V k) σ
def rGat (n : Nat) (V : Nat → Nat) (wh : Int32) (σ : RS) : RS := itr (rGk wh V) n (rI σ 40 0)
theorem rGst_no {wh : Int32} {k i : Nat} {σ : RS} (h : ¬ σ.2 27 (σ.2 20 ((512 : Int32) * nI k + nI i).toNatClampNeg).toNatClampNeg = wh) : rGst wh k i σ = σ := if_neg h
theorem rGst_go {wh : Int32} {k i : Nat} {σ : RS} (h : σ.2 27 (σ.2 20 ((512 : Int32) * nI k + nI i).toNatClampNeg).toNatClampNeg = wh) : rGst wh k i σ = rI (rA σ 39 (σ.1 40).toNatClampNeg (σ.2 20 ((512 : Int32) * nI k + nI i).toNatClampNeg)) 40 (σ.1 40 + 1) := if_pos h
theorem rGst_2 {wh : Int32} {k i A : Nat} {σ : RS} (hA : ¬ A = 39) : (rGst wh k i σ).2 A = σ.2 A := by
  unfold rGst; split
  · rw [rI_2, rA_2, if_neg hA]
  · rfl
theorem rGst_1 {wh : Int32} {k i j : Nat} {σ : RS} (hj : ¬ j = 40) : (rGst wh k i σ).1 j = σ.1 j := by
  unfold rGst; split
  · rw [rI_1, if_neg hj, rA_1]
  · rfl
theorem itr_r2 {f : Nat → RS → RS} {A : Nat} (h : ∀ i σ, (f i σ).2 A = σ.2 A) : ∀ (n : Nat) (σ : RS), (itr f n σ).2 A = σ.2 A
  | 0, _ => rfl
  | n + 1, σ => (h n _).trans (itr_r2 h n σ)
theorem itr_r1 {f : Nat → RS → RS} {j : Nat} (h : ∀ i σ, (f i σ).1 j = σ.1 j) : ∀ (n : Nat) (σ : RS), (itr f n σ).1 j = σ.1 j
  | 0, _ => rfl
  | n + 1, σ => (h n _).trans (itr_r1 h n σ)
theorem rGk_2 {wh : Int32} {V : Nat → Nat} {k A : Nat} {σ : RS} (hA : ¬ A = 39) : (rGk wh V k σ).2 A = σ.2 A := itr_r2 (fun _ _ => rGst_2 hA) _ _
theorem rGk_1 {wh : Int32} {V : Nat → Nat} {k j : Nat} {σ : RS} (hj : ¬ j = 40) : (rGk wh V k σ).1 j = σ.1 j := itr_r1 (fun _ _ => rGst_1 hj) _ _
theorem rGat_2 {n : Nat} {wh : Int32} {V : Nat → Nat} {A : Nat} {σ : RS} (hA : ¬ A = 39) : (rGat n V wh σ).2 A = σ.2 A := (itr_r2 (fun _ _ => rGk_2 hA) _ _).trans rfl
theorem rGat_1 {n : Nat} {wh : Int32} {V : Nat → Nat} {j : Nat} {σ : RS} (hj : ¬ j = 40) : (rGat n V wh σ).1 j = σ.1 j := (itr_r1 (fun _ _ => rGk_1 hj) _ _).trans (by rw [rI_1, if_neg hj])
/-- how many there are -/
def rGc (b : Nat) (σ : RS) : Prop := ∃ c, c ≤ b ∧ σ.1 40 = nI c
theorem rGst_c {wh : Int32} {k i b : Nat} {σ : RS} (h : rGc b σ) : rGc (b + 1) (rGst wh k i σ) := by
  obtain ⟨c, h1, h2⟩ := h
  unfold rGst; split
  · exact ⟨c + 1, by omega, by rw [rI_1, if_pos rfl, h2, nI_1]⟩
  · exact ⟨c, by omega, h2⟩
theorem rGi_c {wh : Int32} {k b : Nat} {σ : RS} (h : rGc b σ) : ∀ i, rGc (b + i) (itr (rGst wh k) i σ)
  | 0 => h
  | i + 1 => by have := rGst_c (wh := wh) (k := k) (i := i) (rGi_c (wh := wh) (k := k) h i); rw [Nat.add_assoc] at this; exact this
theorem rGo_c {wh : Int32} {V : Nat → Nat} {σ : RS} : ∀ k, rGc (mSum V k) (itr (rGk wh V) k (rI σ 40 0))
  | 0 => ⟨0, Nat.le_refl _, by show (rI σ 40 0).1 40 = _; rw [rI_1, if_pos rfl, nI_0]⟩
  | k + 1 => rGi_c (rGo_c k) (V k)
theorem mSum_mono {f : Nat → Nat} {a b : Nat} (h : a ≤ b) : mSum f a ≤ mSum f b := by
  induction b with
  | zero => rw [Nat.le_zero.mp h]; exact Nat.le_refl _
  | succ b ih =>
    by_cases e : a = b + 1
    · rw [e]; exact Nat.le_refl _
    · have := ih (by omega); show mSum f a ≤ mSum f b + f b; omega
/-- those gathered: no two alike ahead of the i-th -/
def rDf (σ : RS) (i j : Nat) : Prop := ∀ q, q < j → ¬ σ.2 28 (σ.2 39 q).toNatClampNeg = σ.2 28 (σ.2 39 i).toNatClampNeg
noncomputable def aDif (σ : RS) : Nat → Int32
  | 0 => 0
  | i + 1 => aDif σ i + cif (rDf σ i i) 1 0
def aSum (σ : RS) : Nat → Int64
  | 0 => 0
  | i + 1 => aSum σ i + (σ.2 28 (σ.2 39 i).toNatClampNeg).toInt64
noncomputable def aIs (σ : RS) (x : Int32) : Nat → Int32
  | 0 => 0
  | i + 1 => cif (¬ aIs σ x i = 0 ∨ σ.2 28 (σ.2 39 i).toNatClampNeg = x) 1 0
noncomputable def aX (σ : RS) (wh : Int32) (i : Nat) : Int64 := cif (wh = 11) (σ.2 28 (σ.2 39 i).toNatClampNeg).toInt64 (σ.2 29 (σ.2 39 i).toNatClampNeg).toInt64
noncomputable def aMst (σ : RS) (wh x : Int32) : Nat → Int64
  | 0 => -9223372036854775808
  | i + 1 => cif ((wh = 11 ∨ σ.2 28 (σ.2 39 i).toNatClampNeg = x) ∧ aMst σ wh x i < aX σ wh i) (aX σ wh i) (aMst σ wh x i)
set_option maxHeartbeats 4000000 in
set_option maxRecDepth 100000 in
theorem ql_gath {p : Program} {l : Launch} {e : Env} {R : Room} {s : State} {m : MethodId} {args : Array Value} {below : List Frame} {meth : Method} {c : Code} {cells slots : Nat} {Q : State → Prop} {D : va_G} {cI cZ cN cO : ClassId} {A : Nat → Prop} {H0 : Heap} {mm : Nat} {d : Nat → Nat} {n : Nat} (C : Cx p c cX4_gather s m args RX4 D (gTy cI cZ cN cO)) (hml : c.maxLocals = 6) {σ : RS} {o1 wh : Int32} (k vv b0 : Nat) (h1 : vp_in o1 512) (hk : k < n) (hvv : σ.2 35 ((31 : Int32) * o1 + nI k).toNatClampNeg = nI vv) (hb : b0 + vv ≤ 511) (kk : ∀ (H : Heap) (locs : List Loc), rWd D cI cZ A H0 mm d (itr (rGst wh k) vv σ) H locs → rOK n (itr (rGst wh k) vv σ) → (rGc (b0 + vv) (itr (rGst wh k) vv σ)) → ∀ ls : Array Slot, lv_has ls 6 [(4, .int (nI vv)), (3, .int (nI k)), (0, .ref mm), (1, .int o1), (2, .int wh)] → W p l e R s m args below meth c H locs cells slots Q (F0 m 87 ls [])) : ∀ (fu i : Nat), i + fu = vv → ∀ (H : Heap) (locs : List Loc), rWd D cI cZ A H0 mm d (itr (rGst wh k) i σ) H locs → rOK n (itr (rGst wh k) i σ) → (rGc (b0 + i) (itr (rGst wh k) i σ)) → ∀ ls : Array Slot, lv_has ls 6 [(4, .int (nI i)), (3, .int (nI k)), (0, .ref mm), (1, .int o1), (2, .int wh)] → W p l e R s m args below meth c H locs cells slots Q (F0 m 18 ls []) := by
  intro fu
  induction fu with
  | zero =>
    intro i hik
    intro H locs w ok hI ls hl
    have hx := C.1
    obtain ⟨cq, hc1, hc2⟩ := id hI
    have hb := C.2.1
    have hn9 := ok.2.1
    have hi : vv = i := by omega
    subst hi
    refine lv_iload hx hb dX4_gather_18 (lv_at hl 0 rfl) ?_
    refine lv_aload_n hx hb dX4_gather_20 rfl (lv_at hl 2 rfl) ?_
    refine r_get_35 C w dX4_gather_21 ?_
    refine lv_bipush (v := 31) hx hb dX4_gather_24 (by decide) ?_
    refine lv_iload_n hx hb dX4_gather_26 rfl (lv_at hl 3 rfl) ?_
    refine lv_imul hx hb dX4_gather_27 ?_
    refine lv_topi (fun t_1 et_1 => ?_)
    refine lv_iload_n hx hb dX4_gather_28 rfl (lv_at hl 1 rfl) ?_
    refine lv_iadd hx hb dX4_gather_29 ?_
    refine lv_topi (fun t_2 et_2 => ?_)
    refine r_ld_35 C w (by rw [et_2, et_1]; exact gIx (c := 31) (N := 512) rfl (by decide) h1 (vp_in_nI (by omega) (by omega))) dX4_gather_30 ?_
    rw [et_2, et_1, itr_r2 (fun _ _ => rGst_2 (by decide)), hvv]
    refine lv_icmp_ge (tgt := 87) hx hb dX4_gather_31 (by decide) (fun c_31 => ?_) (fun c_31 => absurd (Int32.le_refl _) c_31)
    exact kk _ _ w ok hI ls (lv_sub hl [0, 1, 2, 3, 4] rfl)
  | succ fu ih =>
    intro i hik
    intro H locs w ok hI ls hl
    have hx := C.1
    obtain ⟨cq, hc1, hc2⟩ := id hI
    have hb := C.2.1
    have hn9 := ok.2.1
    have hi : i < vv := by omega
    refine lv_iload hx hb dX4_gather_18 (lv_at hl 0 rfl) ?_
    refine lv_aload_n hx hb dX4_gather_20 rfl (lv_at hl 2 rfl) ?_
    refine r_get_35 C w dX4_gather_21 ?_
    refine lv_bipush (v := 31) hx hb dX4_gather_24 (by decide) ?_
    refine lv_iload_n hx hb dX4_gather_26 rfl (lv_at hl 3 rfl) ?_
    refine lv_imul hx hb dX4_gather_27 ?_
    refine lv_topi (fun t_1 et_1 => ?_)
    refine lv_iload_n hx hb dX4_gather_28 rfl (lv_at hl 1 rfl) ?_
    refine lv_iadd hx hb dX4_gather_29 ?_
    refine lv_topi (fun t_2 et_2 => ?_)
    refine r_ld_35 C w (by rw [et_2, et_1]; exact gIx (c := 31) (N := 512) rfl (by decide) h1 (vp_in_nI (by omega) (by omega))) dX4_gather_30 ?_
    rw [et_2, et_1, itr_r2 (fun _ _ => rGst_2 (by decide)), hvv]
    refine lv_icmp_ge (tgt := 87) hx hb dX4_gather_31 (by decide) (fun c_31 => absurd c_31 (nI_ge hi (by omega))) (fun c_31 => ?_)
    refine lv_aload_n hx hb dX4_gather_34 rfl (lv_at hl 2 rfl) ?_
    refine r_get_20 C w dX4_gather_35 ?_
    refine lv_sipush (v := 512) hx hb dX4_gather_38 (by decide) ?_
    refine lv_iload_n hx hb dX4_gather_41 rfl (lv_at hl 1 rfl) ?_
    refine lv_imul hx hb dX4_gather_42 ?_
    refine lv_topi (fun t_3 et_3 => ?_)
    refine lv_iload hx hb dX4_gather_43 (lv_at hl 0 rfl) ?_
    refine lv_iadd hx hb dX4_gather_45 ?_
    refine lv_topi (fun t_4 et_4 => ?_)
    refine r_ld_20 C w (by rw [et_4, et_3]; exact gIx (c := 512) (N := 31) rfl (by decide) (vp_in_nI (by omega) (by omega)) (vp_in_nI (by omega) (by omega))) dX4_gather_46 ?_
    refine lv_topi (fun t_5 et_5 => ?_)
    refine lv_istore (lv' := [(5, _), (4, _), (3, _), (0, _), (1, _), (2, _)]) C.1 C.2.1 dX4_gather_47 hl (by decide) rfl (fun ls hl => ?_)
    refine lv_aload_n hx hb dX4_gather_49 rfl (lv_at hl 3 rfl) ?_
    refine r_get_27 C w dX4_gather_50 ?_
    refine lv_iload hx hb dX4_gather_53 (lv_at hl 0 rfl) ?_
    refine r_ld_27 C w (show vp_in t_5 512 from by rw [et_5]; exact ok.at 20 rfl _) dX4_gather_55 ?_
    refine lv_topi (fun t_6 et_6 => ?_)
    refine lv_iload_n hx hb dX4_gather_56 rfl (lv_at hl 5 rfl) ?_
    refine lv_icmp_ne (tgt := 81) hx hb dX4_gather_57 (by decide) (fun c_57 => ?_) (fun c_57 => ?_)
    · obtain ⟨x_7, ex_7⟩ : ∃ y : Int32, y = (nI i) + 1 := ⟨_, rfl⟩
      refine lv_iinc (v := x_7) (lv' := [(4, _), (5, _), (3, _), (0, _), (1, _), (2, _)]) C.1 C.2.1 dX4_gather_81 hl (k := 1) rfl (by rw [ex_7]; rfl) (by decide) rfl (fun ls hl => ?_)
      refine lv_goto (tgt := 18) hx hb dX4_gather_84 (by decide) ?_
      subst et_6 et_5 et_4 et_3
      have e9 := rGst_no (wh := wh) (k := k) (i := i) (σ := itr (rGst wh k) i σ) c_57
      rw [← e9] at w ok
      have hx2 : x_7 = nI (i + 1) := by rw [ex_7]; exact nI_1 i
      rw [hx2] at hl
      exact ih (i + 1) (by omega) _ _ w ok (by have := rGst_c (wh := wh) (k := k) (i := i) hI; rw [Nat.add_assoc] at this; exact this) ls (lv_sub hl [0, 2, 3, 4, 5] rfl)
    · refine lv_aload_n hx hb dX4_gather_60 rfl (lv_at hl 3 rfl) ?_
      refine r_get_39 C w dX4_gather_61 ?_
      refine lv_aload_n hx hb dX4_gather_64 rfl (lv_at hl 3 rfl) ?_
      refine r_get_40 C w dX4_gather_65 ?_
      refine lv_topi (fun t_8 et_8 => ?_)
      refine lv_iload hx hb dX4_gather_68 (lv_at hl 0 rfl) ?_
      refine r_st_39 C w (show vp_in t_8 512 from by rw [et_8, hc2]; exact vp_in_nI (by omega) (by omega)) dX4_gather_70 (fun H locs w => ?_)
      have ok : rOK n _ := rOK.st ok (k := 39) (i := t_8.toNatClampNeg) (v := t_5) (fun b hb => by cases hb; exact (show vp_in t_5 512 from by rw [et_5]; exact ok.at 20 rfl _))
      refine lv_aload_n hx hb dX4_gather_71 rfl (lv_at hl 3 rfl) ?_
      refine lv_dup hx hb dX4_gather_72 rfl ?_
      refine r_get_40 C w dX4_gather_73 ?_
      refine lv_topi (fun t_9 et_9 => ?_)
      refine lv_iconst (v := 1) hx hb dX4_gather_76 (by decide) ?_
      refine lv_iadd hx hb dX4_gather_77 ?_
      refine lv_topi (fun t_10 et_10 => ?_)
      refine r_put_40 C w dX4_gather_78 (fun H locs w => ?_)
      have ok : rOK n _ := rOK.put ok (k := 40) (v := t_10) (by decide) (fun h => absurd h (by decide)) (fun h => absurd h (by decide))
      obtain ⟨x_11, ex_11⟩ : ∃ y : Int32, y = (nI i) + 1 := ⟨_, rfl⟩
      refine lv_iinc (v := x_11) (lv' := [(4, _), (5, _), (3, _), (0, _), (1, _), (2, _)]) C.1 C.2.1 dX4_gather_81 hl (k := 1) rfl (by rw [ex_11]; rfl) (by decide) rfl (fun ls hl => ?_)
      refine lv_goto (tgt := 18) hx hb dX4_gather_84 (by decide) ?_
      subst et_10 et_9 et_8 et_6 et_5 et_4 et_3
      have e9 := rGst_go (wh := wh) (k := k) (i := i) (σ := itr (rGst wh k) i σ) c_57
      rw [rA_1] at w ok
      rw [← e9] at w ok
      have hx2 : x_11 = nI (i + 1) := by rw [ex_11]; exact nI_1 i
      rw [hx2] at hl
      exact ih (i + 1) (by omega) _ _ w ok (by have := rGst_c (wh := wh) (k := k) (i := i) hI; rw [Nat.add_assoc] at this; exact this) ls (lv_sub hl [0, 2, 3, 4, 5] rfl)
set_option maxHeartbeats 4000000 in
set_option maxRecDepth 100000 in
theorem ql_gather {p : Program} {l : Launch} {e : Env} {R : Room} {s : State} {m : MethodId} {args : Array Value} {below : List Frame} {meth : Method} {c : Code} {cells slots : Nat} {Q : State → Prop} {D : va_G} {cI cZ cN cO : ClassId} {A : Nat → Prop} {H0 : Heap} {mm : Nat} {d : Nat → Nat} {n : Nat} (C : Cx p c cX4_gather s m args RX4 D (gTy cI cZ cN cO)) (hml : c.maxLocals = 6) {σ : RS} {o1 wh : Int32} (V : Nat → Nat) (h1 : vp_in o1 512) (hV : ∀ k, k < n → σ.2 35 ((31 : Int32) * o1 + nI k).toNatClampNeg = nI (V k)) (hS : mSum V n ≤ 511) (kk : ∀ (H : Heap) (locs : List Loc), rWd D cI cZ A H0 mm d (itr (rGk wh V) n (rI σ 40 0)) H locs → rOK n (itr (rGk wh V) n (rI σ 40 0)) → (rGc (mSum V n) (itr (rGk wh V) n (rI σ 40 0))) → ∀ ls : Array Slot, lv_has ls 6 [(3, .int (nI n)), (0, .ref mm), (1, .int o1), (2, .int wh)] → W p l e R s m args below meth c H locs cells slots Q (F0 m 93 ls [])) : ∀ (fu i : Nat), i + fu = n → ∀ (H : Heap) (locs : List Loc), rWd D cI cZ A H0 mm d (itr (rGk wh V) i (rI σ 40 0)) H locs → rOK n (itr (rGk wh V) i (rI σ 40 0)) → (rGc (mSum V i) (itr (rGk wh V) i (rI σ 40 0))) → ∀ ls : Array Slot, lv_has ls 6 [(3, .int (nI i)), (0, .ref mm), (1, .int o1), (2, .int wh)] → W p l e R s m args below meth c H locs cells slots Q (F0 m 7 ls []) := by
  intro fu
  induction fu with
  | zero =>
    intro i hik
    intro H locs w ok hI ls hl
    have hx := C.1
    have hb := C.2.1
    have hn9 := ok.2.1
    have hi : n = i := by omega
    subst hi
    refine lv_iload_n hx hb dX4_gather_7 rfl (lv_at hl 0 rfl) ?_
    refine lv_aload_n hx hb dX4_gather_8 rfl (lv_at hl 1 rfl) ?_
    refine r_get_0 C w dX4_gather_9 ?_
    rw [ok.nn]
    refine lv_icmp_ge (tgt := 93) hx hb dX4_gather_12 (by decide) (fun c_12 => ?_) (fun c_12 => absurd (Int32.le_refl _) c_12)
    exact kk _ _ w ok hI ls (lv_sub hl [0, 1, 2, 3] rfl)
  | succ fu ih =>
    intro i hik
    intro H locs w ok hI ls hl
    have hx := C.1
    have hb := C.2.1
    have hn9 := ok.2.1
    have hi : i < n := by omega
    refine lv_iload_n hx hb dX4_gather_7 rfl (lv_at hl 0 rfl) ?_
    refine lv_aload_n hx hb dX4_gather_8 rfl (lv_at hl 1 rfl) ?_
    refine r_get_0 C w dX4_gather_9 ?_
    rw [ok.nn]
    refine lv_icmp_ge (tgt := 93) hx hb dX4_gather_12 (by decide) (fun c_12 => absurd c_12 (nI_ge hi (by omega))) (fun c_12 => ?_)
    refine lv_iconst (v := 0) hx hb dX4_gather_15 (by decide) ?_
    refine lv_istore (lv' := [(4, _), (3, _), (0, _), (1, _), (2, _)]) C.1 C.2.1 dX4_gather_16 hl (by decide) rfl (fun ls hl => ?_)
    rw [← nI_0] at hl
    refine ql_gath C hml i (V i) (mSum V i) h1 hi (by rw [itr_r2 (fun _ _ => rGk_2 (by decide)), rI_2]; exact hV i hi) (by have := mSum_mono (f := V) (show i + 1 ≤ n by omega); have e : mSum V (i + 1) = mSum V i + V i := rfl; omega) ?_ (V i) 0 (by omega) _ _ w ok (by rw [Nat.add_zero]; exact rGo_c i) ls (lv_sub hl [0, 1, 2, 3, 4] rfl)
    intro H locs w ok hJ ls hl
    obtain ⟨x_1, ex_1⟩ : ∃ y : Int32, y = (nI i) + 1 := ⟨_, rfl⟩
    refine lv_iinc (v := x_1) (lv' := [(3, _), (4, _), (0, _), (1, _), (2, _)]) C.1 C.2.1 dX4_gather_87 hl (k := 1) rfl (by rw [ex_1]; rfl) (by decide) rfl (fun ls hl => ?_)
    refine lv_goto (tgt := 7) hx hb dX4_gather_90 (by decide) ?_
    have hx2 : x_1 = nI (i + 1) := by rw [ex_1]; exact nI_1 i
    rw [hx2] at hl
    exact ih (i + 1) (by omega) _ _ w ok (rGo_c (i + 1)) ls (lv_sub hl [0, 2, 3, 4] rfl)
set_option maxHeartbeats 4000000 in
set_option maxRecDepth 100000 in
theorem q_gather (l : Launch) (D : va_G) (cI cZ cN cO : ClassId) (A : Nat → Prop) (mm : Nat) (d : Nat → Nat) (n : Nat) (σ : RS) (o1 wh : Int32) (V : Nat → Nat) (ok : rOK n σ) (h1 : vp_in o1 512) (hV : ∀ k, k < n → σ.2 35 ((31 : Int32) * o1 + nI k).toNatClampNeg = nI (V k)) (hS : mSum V n ≤ 511) : Met l yX4_gather (.code yX4_gather cX4_gather 6 none :: gw) ({ frames := 0, cells := 0, slots := 0, locals := 0 }) (va_Pc (.ref mm :: [.int o1, .int wh]) (rH D cI cZ cN cO A mm d σ)) (va_Qv (fun _ : Unit => True) (fun _ t => rH D cI cZ cN cO A mm d (rGat n V wh σ) t ∧ rOK n (rGat n V wh σ)) A) 0 0 A := by
  refine Met.ofW (cc := cX4_gather) (maxL := 6) (ret := none) (by decide) rfl ?_
  intro p e s m args below meth c s₁ B hml hv
  obtain ⟨rfl, hP, hK, hD⟩ := hv
  have hx := B.exec
  have hb := B.bytes
  have hr := B.returns
  have hts := atoms_spec (ws := (.code yX4_gather cX4_gather 6 none :: gw)) B.pre
  have hg : ∀ w ∈ gw, w.before _ s = true := fun w h => hts w (List.mem_cons_of_mem _ h)
  have hown : s.vm.findClass RX4 = some m.cls := findClass_of_methodNamed B.named
  have hlocks := B.notSynchronized
  have C : Cx p c cX4_gather s m _ RX4 D (gTy cI cZ cN cO) := ⟨hx, hb, hown, hg, hK⟩
  have w : rWd D cI cZ A s.heap mm d σ s.heap [] := ⟨hP, hD, va_S.rf⟩
  have hl := lv_entry ([.ref mm, .int o1, .int wh]) (n := 6) (Nat.le_of_ble_eq_true rfl)
  rw [lg_entry_eq]
  generalize (lg_sl ([.ref mm, .int o1, .int wh]) ++ List.replicate (6 - (lg_sl ([.ref mm, .int o1, .int wh])).length) Slot.unset).toArray = ls at hl ⊢
  have hl : lv_has ls 6 [(0, .ref mm), (1, .int o1), (2, .int wh)] := hl
  refine lv_aload_n hx hb dX4_gather_0 rfl (lv_at hl 0 rfl) ?_
  refine lv_iconst (v := 0) hx hb dX4_gather_1 (by decide) ?_
  refine r_put_40 C w dX4_gather_2 (fun H locs w => ?_)
  have ok : rOK n _ := rOK.put ok (k := 40) (v := 0) (by decide) (fun h => absurd h (by decide)) (fun h => absurd h (by decide))
  refine lv_iconst (v := 0) hx hb dX4_gather_5 (by decide) ?_
  refine lv_istore_n (lv' := [(3, _), (0, _), (1, _), (2, _)]) C.1 C.2.1 dX4_gather_6 rfl hl (by decide) rfl (fun ls hl => ?_)
  rw [← nI_0] at hl
  refine ql_gather C hml V h1 hV hS ?_ n 0 (by omega) _ _ w ok (rGo_c 0) ls (lv_sub hl [0, 1, 2, 3] rfl)
  intro H locs w ok hJ ls hl
  exact W.vret hx hb hr (fun t ht hW => ⟨⟨(), rfl, trivial, ⟨by rw [ht]; exact w.1, va_K.moved hW.alike hK, w.2.1⟩, ok⟩, w.2.2.F ht⟩) w.2.2.2.2 dX4_gather_93
set_option maxHeartbeats 4000000 in
set_option maxRecDepth 100000 in
theorem ql_dif1 {p : Program} {l : Launch} {e : Env} {R : Room} {s : State} {m : MethodId} {args : Array Value} {below : List Frame} {meth : Method} {c : Code} {cells slots : Nat} {Q : State → Prop} {D : va_G} {cI cZ cN cO : ClassId} {A : Nat → Prop} {H0 : Heap} {mm : Nat} {d : Nat → Nat} {n : Nat} {H : Heap} {locs : List Loc} (C : Cx p c cX4_different s m args RX4 D (gTy cI cZ cN cO)) (hml : c.maxLocals = 5) {σ : RS} (k cq : Nat) {a : Int32} (w : rWd D cI cZ A H0 mm d σ H locs) (ok : rOK n σ) (hkc : k < cq) (hcq : cq ≤ 511) (kk : ∀ (v : Int32), ((v = 1 ∧ rDf σ k k) ∨ (v = 0 ∧ ¬ rDf σ k k)) → ∀ ls : Array Slot, lv_has ls 5 [(4, .int (nI k)), (3, .int v), (2, .int (nI k)), (1, .int a), (0, .ref mm)] → W p l e R s m args below meth c H locs cells slots Q (F0 m 65 ls [])) : ∀ (fu i : Nat), i + fu = k → ∀ (v : Int32), ((v = 1 ∧ rDf σ k i) ∨ (v = 0 ∧ ¬ rDf σ k i)) → ∀ ls : Array Slot, lv_has ls 5 [(4, .int (nI i)), (3, .int v), (2, .int (nI k)), (1, .int a), (0, .ref mm)] → W p l e R s m args below meth c H locs cells slots Q (F0 m 17 ls []) := by
  intro fu
  induction fu with
  | zero =>
    intro i hik
    intro v hI ls hl
    have hx := C.1
    have hb := C.2.1
    have hn9 := ok.2.1
    have hi : k = i := by omega
    subst hi
    refine lv_iload hx hb dX4_different_17 (lv_at hl 0 rfl) ?_
    refine lv_iload_n hx hb dX4_different_19 rfl (lv_at hl 2 rfl) ?_
    refine lv_icmp_ge (tgt := 65) hx hb dX4_different_20 (by decide) (fun c_20 => ?_) (fun c_20 => absurd (Int32.le_refl _) c_20)
    exact kk v hI ls (lv_sub hl [0, 1, 2, 3, 4] rfl)
  | succ fu ih =>
    intro i hik
    intro v hI ls hl
    have hx := C.1
    have hb := C.2.1
    have hn9 := ok.2.1
    have hi : i < k := by omega
    refine lv_iload hx hb dX4_different_17 (lv_at hl 0 rfl) ?_
    refine lv_iload_n hx hb dX4_different_19 rfl (lv_at hl 2 rfl) ?_
    refine lv_icmp_ge (tgt := 65) hx hb dX4_different_20 (by decide) (fun c_20 => absurd c_20 (nI_ge hi (by omega))) (fun c_20 => ?_)
    refine lv_iload_n hx hb dX4_different_23 rfl (lv_at hl 1 rfl) ?_
    refine lv_if_eq (tgt := 57) hx hb dX4_different_24 (by decide) (fun c_24 => ?_) (fun c_24 => ?_)
    · refine lv_iconst (v := 0) hx hb dX4_different_57 (by decide) ?_
      refine lv_istore_n (lv' := [(3, _), (4, _), (2, _), (1, _), (0, _)]) C.1 C.2.1 dX4_different_58 rfl hl (by decide) rfl (fun ls hl => ?_)
      obtain ⟨x_1, ex_1⟩ : ∃ y : Int32, y = (nI i) + 1 := ⟨_, rfl⟩
      refine lv_iinc (v := x_1) (lv' := [(4, _), (3, _), (2, _), (1, _), (0, _)]) C.1 C.2.1 dX4_different_59 hl (k := 1) rfl (by rw [ex_1]; rfl) (by decide) rfl (fun ls hl => ?_)
      refine lv_goto (tgt := 17) hx hb dX4_different_62 (by decide) ?_
      have hx2 : x_1 = nI (i + 1) := by rw [ex_1]; exact nI_1 i
      rw [hx2] at hl
      exact ih (i + 1) (by omega) 0 (hI.elim (fun q => absurd (q.1.symm.trans c_24) (by decide)) (fun q => Or.inr ⟨rfl, fun z => q.2 (fun j hj => z j (by omega))⟩)) ls (lv_sub hl [0, 1, 2, 3, 4] rfl)
    · refine lv_aload_n hx hb dX4_different_27 rfl (lv_at hl 4 rfl) ?_
      refine r_get_28 C w dX4_different_28 ?_
      refine lv_aload_n hx hb dX4_different_31 rfl (lv_at hl 4 rfl) ?_
      refine r_get_39 C w dX4_different_32 ?_
      refine lv_iload hx hb dX4_different_35 (lv_at hl 0 rfl) ?_
      refine r_ld_39 C w (vp_in_nI (show i < 512 by omega) (by omega)) dX4_different_37 ?_
      refine lv_topi (fun t_2 et_2 => ?_)
      refine r_ld_28 C w (by rw [et_2]; exact ok.at 39 rfl _) dX4_different_38 ?_
      refine lv_topi (fun t_3 et_3 => ?_)
      refine lv_aload_n hx hb dX4_different_39 rfl (lv_at hl 4 rfl) ?_
      refine r_get_28 C w dX4_different_40 ?_
      refine lv_aload_n hx hb dX4_different_43 rfl (lv_at hl 4 rfl) ?_
      refine r_get_39 C w dX4_different_44 ?_
      refine lv_iload_n hx hb dX4_different_47 rfl (lv_at hl 2 rfl) ?_
      refine r_ld_39 C w (vp_in_nI (show k < 512 by omega) (by omega)) dX4_different_48 ?_
      refine lv_topi (fun t_4 et_4 => ?_)
      refine r_ld_28 C w (by rw [et_4]; exact ok.at 39 rfl _) dX4_different_49 ?_
      refine lv_topi (fun t_5 et_5 => ?_)
      refine lv_icmp_eq (tgt := 57) hx hb dX4_different_50 (by decide) (fun c_50 => ?_) (fun c_50 => ?_)
      · refine lv_iconst (v := 0) hx hb dX4_different_57 (by decide) ?_
        refine lv_istore_n (lv' := [(3, _), (4, _), (2, _), (1, _), (0, _)]) C.1 C.2.1 dX4_different_58 rfl hl (by decide) rfl (fun ls hl => ?_)
        obtain ⟨x_6, ex_6⟩ : ∃ y : Int32, y = (nI i) + 1 := ⟨_, rfl⟩
        refine lv_iinc (v := x_6) (lv' := [(4, _), (3, _), (2, _), (1, _), (0, _)]) C.1 C.2.1 dX4_different_59 hl (k := 1) rfl (by rw [ex_6]; rfl) (by decide) rfl (fun ls hl => ?_)
        refine lv_goto (tgt := 17) hx hb dX4_different_62 (by decide) ?_
        subst et_5 et_4 et_3 et_2
        have hx2 : x_6 = nI (i + 1) := by rw [ex_6]; exact nI_1 i
        rw [hx2] at hl
        rw [nI_clamp (show i < 2 ^ 31 by omega), nI_clamp (show k < 2 ^ 31 by omega)] at c_50
        exact ih (i + 1) (by omega) 0 (Or.inr ⟨rfl, fun z => z i (by omega) c_50⟩) ls (lv_sub hl [0, 1, 2, 3, 4] rfl)
      · refine lv_iconst (v := 1) hx hb dX4_different_53 (by decide) ?_
        refine lv_goto (tgt := 58) hx hb dX4_different_54 (by decide) ?_
        refine lv_istore_n (lv' := [(3, _), (4, _), (2, _), (1, _), (0, _)]) C.1 C.2.1 dX4_different_58 rfl hl (by decide) rfl (fun ls hl => ?_)
        obtain ⟨x_7, ex_7⟩ : ∃ y : Int32, y = (nI i) + 1 := ⟨_, rfl⟩
        refine lv_iinc (v := x_7) (lv' := [(4, _), (3, _), (2, _), (1, _), (0, _)]) C.1 C.2.1 dX4_different_59 hl (k := 1) rfl (by rw [ex_7]; rfl) (by decide) rfl (fun ls hl => ?_)
        refine lv_goto (tgt := 17) hx hb dX4_different_62 (by decide) ?_
        subst et_5 et_4 et_3 et_2
        have hx2 : x_7 = nI (i + 1) := by rw [ex_7]; exact nI_1 i
        rw [hx2] at hl
        rw [nI_clamp (show i < 2 ^ 31 by omega), nI_clamp (show k < 2 ^ 31 by omega)] at c_50
        exact ih (i + 1) (by omega) 1 (hI.elim (fun q => Or.inl ⟨rfl, fun j hj => by by_cases h : j = i; (subst h; exact c_50); exact q.2 j (by omega)⟩) (fun q => absurd q.1 c_24)) ls (lv_sub hl [0, 1, 2, 3, 4] rfl)
set_option maxHeartbeats 4000000 in
set_option maxRecDepth 100000 in
theorem ql_dif {p : Program} {l : Launch} {e : Env} {R : Room} {s : State} {m : MethodId} {args : Array Value} {below : List Frame} {meth : Method} {c : Code} {cells slots : Nat} {Q : State → Prop} {D : va_G} {cI cZ cN cO : ClassId} {A : Nat → Prop} {H0 : Heap} {mm : Nat} {d : Nat → Nat} {n : Nat} {H : Heap} {locs : List Loc} (C : Cx p c cX4_different s m args RX4 D (gTy cI cZ cN cO)) (hml : c.maxLocals = 5) {σ : RS} (cq : Nat) (w : rWd D cI cZ A H0 mm d σ H locs) (ok : rOK n σ) (hc : σ.1 40 = nI cq) (hcq : cq ≤ 511) (kk : ∀ (a : Int32), (a = aDif σ cq) → ∀ ls : Array Slot, lv_has ls 5 [(2, .int (nI cq)), (1, .int a), (0, .ref mm)] → W p l e R s m args below meth c H locs cells slots Q (F0 m 83 ls [])) : ∀ (fu i : Nat), i + fu = cq → ∀ (a : Int32), (a = aDif σ i) → ∀ ls : Array Slot, lv_has ls 5 [(2, .int (nI i)), (1, .int a), (0, .ref mm)] → W p l e R s m args below meth c H locs cells slots Q (F0 m 4 ls []) := by
  intro fu
  induction fu with
  | zero =>
    intro i hik
    intro a hI ls hl
    have hx := C.1
    have hb := C.2.1
    have hn9 := ok.2.1
    have hi : cq = i := by omega
    subst hi
    refine lv_iload_n hx hb dX4_different_4 rfl (lv_at hl 0 rfl) ?_
    refine lv_aload_n hx hb dX4_different_5 rfl (lv_at hl 2 rfl) ?_
    refine r_get_40 C w dX4_different_6 ?_
    rw [hc]
    refine lv_icmp_ge (tgt := 83) hx hb dX4_different_9 (by decide) (fun c_9 => ?_) (fun c_9 => absurd (Int32.le_refl _) c_9)
    exact kk a hI ls (lv_sub hl [0, 1, 2] rfl)
  | succ fu ih =>
    intro i hik
    intro a hI ls hl
    have hx := C.1
    have hb := C.2.1
    have hn9 := ok.2.1
    have hi : i < cq := by omega
    refine lv_iload_n hx hb dX4_different_4 rfl (lv_at hl 0 rfl) ?_
    refine lv_aload_n hx hb dX4_different_5 rfl (lv_at hl 2 rfl) ?_
    refine r_get_40 C w dX4_different_6 ?_
    rw [hc]
    refine lv_icmp_ge (tgt := 83) hx hb dX4_different_9 (by decide) (fun c_9 => absurd c_9 (nI_ge hi (by omega))) (fun c_9 => ?_)
    refine lv_iconst (v := 1) hx hb dX4_different_12 (by decide) ?_
    refine lv_istore_n (lv' := [(3, _), (2, _), (1, _), (0, _)]) C.1 C.2.1 dX4_different_13 rfl hl (by decide) rfl (fun ls hl => ?_)
    refine lv_iconst (v := 0) hx hb dX4_different_14 (by decide) ?_
    refine lv_istore (lv' := [(4, _), (3, _), (2, _), (1, _), (0, _)]) C.1 C.2.1 dX4_different_15 hl (by decide) rfl (fun ls hl => ?_)
    rw [← nI_0] at hl
    refine ql_dif1 C hml i cq w ok hi hcq ?_ i 0 (by omega) 1 (Or.inl ⟨rfl, fun j hj => absurd hj (Nat.not_lt_zero j)⟩) ls (lv_sub hl [0, 1, 2, 3, 4] rfl)
    intro v hJ ls hl
    refine lv_iload_n hx hb dX4_different_65 rfl (lv_at hl 3 rfl) ?_
    refine lv_iload_n hx hb dX4_different_66 rfl (lv_at hl 1 rfl) ?_
    refine lv_if_eq (tgt := 74) hx hb dX4_different_67 (by decide) (fun c_67 => ?_) (fun c_67 => ?_)
    · refine lv_iconst (v := 0) hx hb dX4_different_74 (by decide) ?_
      refine lv_iadd hx hb dX4_different_75 ?_
      refine lv_topi (fun t_1 et_1 => ?_)
      refine lv_istore_n (lv' := [(1, _), (4, _), (3, _), (2, _), (0, _)]) C.1 C.2.1 dX4_different_76 rfl hl (by decide) rfl (fun ls hl => ?_)
      obtain ⟨x_2, ex_2⟩ : ∃ y : Int32, y = (nI i) + 1 := ⟨_, rfl⟩
      refine lv_iinc (v := x_2) (lv' := [(2, _), (1, _), (4, _), (3, _), (0, _)]) C.1 C.2.1 dX4_different_77 hl (k := 3) rfl (by rw [ex_2]; rfl) (by decide) rfl (fun ls hl => ?_)
      refine lv_goto (tgt := 4) hx hb dX4_different_80 (by decide) ?_
      have hq : t_1 = aDif σ (i + 1) := by rw [et_1, hI]; show _ = aDif σ i + cif (rDf σ i i) 1 0; rw [cif_neg (hJ.elim (fun q => absurd (q.1.symm.trans c_67) (by decide)) (fun q => q.2))]
      have hx2 : x_2 = nI (i + 1) := by rw [ex_2]; exact nI_1 i
      rw [hx2] at hl
      exact ih (i + 1) (by omega) t_1 hq ls (lv_sub hl [0, 1, 4] rfl)
    · refine lv_iconst (v := 1) hx hb dX4_different_70 (by decide) ?_
      refine lv_goto (tgt := 75) hx hb dX4_different_71 (by decide) ?_
      refine lv_iadd hx hb dX4_different_75 ?_
      refine lv_topi (fun t_3 et_3 => ?_)
      refine lv_istore_n (lv' := [(1, _), (4, _), (3, _), (2, _), (0, _)]) C.1 C.2.1 dX4_different_76 rfl hl (by decide) rfl (fun ls hl => ?_)
      obtain ⟨x_4, ex_4⟩ : ∃ y : Int32, y = (nI i) + 1 := ⟨_, rfl⟩
      refine lv_iinc (v := x_4) (lv' := [(2, _), (1, _), (4, _), (3, _), (0, _)]) C.1 C.2.1 dX4_different_77 hl (k := 3) rfl (by rw [ex_4]; rfl) (by decide) rfl (fun ls hl => ?_)
      refine lv_goto (tgt := 4) hx hb dX4_different_80 (by decide) ?_
      have hq : t_3 = aDif σ (i + 1) := by rw [et_3, hI]; show _ = aDif σ i + cif (rDf σ i i) 1 0; rw [cif_pos (hJ.elim (fun q => q.2) (fun q => absurd q.1 c_67))]
      have hx2 : x_4 = nI (i + 1) := by rw [ex_4]; exact nI_1 i
      rw [hx2] at hl
      exact ih (i + 1) (by omega) t_3 hq ls (lv_sub hl [0, 1, 4] rfl)
set_option maxHeartbeats 4000000 in
set_option maxRecDepth 100000 in
theorem q_different (l : Launch) (D : va_G) (cI cZ cN cO : ClassId) (A : Nat → Prop) (mm : Nat) (d : Nat → Nat) (n : Nat) (σ : RS) (cq : Nat) (ok : rOK n σ) (hc : σ.1 40 = nI cq) (hcq : cq ≤ 511) : Met l yX4_different (.code yX4_different cX4_different 5 (some .int) :: gw) ({ frames := 0, cells := 0, slots := 0, locals := 0 }) (va_Pc (.ref mm :: []) (rH D cI cZ cN cO A mm d σ)) (vp_Si (fun r => r = aDif σ cq)) 0 0 (fun _ => False) := by
  refine Met.ofW (cc := cX4_different) (maxL := 5) (ret := (some .int)) (by decide) rfl ?_
  intro p e s m args below meth c s₁ B hml hv
  obtain ⟨rfl, hP, hK, hD⟩ := hv
  have hx := B.exec
  have hb := B.bytes
  have hr := B.returns
  have hts := atoms_spec (ws := (.code yX4_different cX4_different 5 (some .int) :: gw)) B.pre
  have hg : ∀ w ∈ gw, w.before _ s = true := fun w h => hts w (List.mem_cons_of_mem _ h)
  have hown : s.vm.findClass RX4 = some m.cls := findClass_of_methodNamed B.named
  have hlocks := B.notSynchronized
  have C : Cx p c cX4_different s m _ RX4 D (gTy cI cZ cN cO) := ⟨hx, hb, hown, hg, hK⟩
  have w : rWd D cI cZ A s.heap mm d σ s.heap [] := ⟨hP, hD, va_S.rf⟩
  have hl := lv_entry ([.ref mm]) (n := 5) (Nat.le_of_ble_eq_true rfl)
  rw [lg_entry_eq]
  generalize (lg_sl ([.ref mm]) ++ List.replicate (5 - (lg_sl ([.ref mm])).length) Slot.unset).toArray = ls at hl ⊢
  have hl : lv_has ls 5 [(0, .ref mm)] := hl
  refine lv_iconst (v := 0) hx hb dX4_different_0 (by decide) ?_
  refine lv_istore_n (lv' := [(1, _), (0, _)]) C.1 C.2.1 dX4_different_1 rfl hl (by decide) rfl (fun ls hl => ?_)
  refine lv_iconst (v := 0) hx hb dX4_different_2 (by decide) ?_
  refine lv_istore_n (lv' := [(2, _), (1, _), (0, _)]) C.1 C.2.1 dX4_different_3 rfl hl (by decide) rfl (fun ls hl => ?_)
  have hl := lv_sub hl (l' := [(2, .int (nI 0)), (1, .int 0), (0, .ref mm)]) [0, 1, 2] (by rw [nI_0]; rfl)
  refine ql_dif C hml cq w ok hc hcq ?_ cq 0 (by omega) 0 rfl ls hl
  intro a hI ls hl
  refine lv_iload_n hx hb dX4_different_83 rfl (lv_at hl 1 rfl) ?_
  exact W.iret hx hb hr (fun t ht hW => ⟨_, rfl, hI, ht⟩) (fun _ h => by cases h) dX4_different_84
