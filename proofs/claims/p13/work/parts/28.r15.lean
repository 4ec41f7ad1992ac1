def rWin (n : Nat) (o1 o2 : Int32) (σ : RS) : Prop := ∀ i, i < n → σ.2 35 ((31 : Int32) * o1 + nI i).toNatClampNeg ≤ σ.2 35 ((31 : Int32) * o2 + nI i).toNatClampNeg
def rLate (n : Nat) (o1 : Int32) (σ : RS) : Prop := ∃ k i, k < n ∧ nI i < σ.2 35 ((31 : Int32) * o1 + nI k).toNatClampNeg ∧ i < 512 ∧ ¬ σ.2 30 (σ.2 20 ((512 : Int32) * nI k + nI i).toNatClampNeg).toNatClampNeg ≤ σ.2 31 o1.toNatClampNeg
set_option maxHeartbeats 4000000 in
set_option maxRecDepth 100000 in
theorem ql_isWithin {p : Program} {l : Launch} {e : Env} {R : Room} {s : State} {m : MethodId} {args : Array Value} {below : List Frame} {meth : Method} {c : Code} {cells slots : Nat} {Q : State → Prop} {D : va_G} {cI cZ cN cO : ClassId} {A : Nat → Prop} {H0 : Heap} {mm : Nat} {d : Nat → Nat} {n : Nat} {H : Heap} {locs : List Loc} (C : Cx p c cX4_isWithin s m args RX4 D (gTy cI cZ cN cO)) (hml : c.maxLocals = 4) {σ : RS} {o1 o2 : Int32} (w : rWd D cI cZ A H0 mm d σ H locs) (ok : rOK n σ) (h1 : vp_in o1 512) (h2 : vp_in o2 512) (kk : (∀ j, j < n → σ.2 35 ((31 : Int32) * o1 + nI j).toNatClampNeg ≤ σ.2 35 ((31 : Int32) * o2 + nI j).toNatClampNeg) → ∀ ls : Array Slot, lv_has ls 4 [(3, .int (nI n)), (0, .ref mm), (1, .int o1), (2, .int o2)] → W p l e R s m args below meth c H locs cells slots Q (F0 m 43 ls [])) (kx : ∀ (i : Nat), i < n → ¬ σ.2 35 ((31 : Int32) * o1 + nI i).toNatClampNeg ≤ σ.2 35 ((31 : Int32) * o2 + nI i).toNatClampNeg → ∀ ls : Array Slot, lv_has ls 4 [(3, .int (nI i)), (0, .ref mm), (1, .int o1), (2, .int o2)] → W p l e R s m args below meth c H locs cells slots Q (F0 m 35 ls [])) : ∀ (fu i : Nat), i + fu = n → (∀ j, j < i → σ.2 35 ((31 : Int32) * o1 + nI j).toNatClampNeg ≤ σ.2 35 ((31 : Int32) * o2 + nI j).toNatClampNeg) → ∀ ls : Array Slot, lv_has ls 4 [(3, .int (nI i)), (0, .ref mm), (1, .int o1), (2, .int o2)] → W p l e R s m args below meth c H locs cells slots Q (F0 m 2 ls []) := by
  intro fu
  induction fu with
  | zero =>
    intro i hik
    intro hI ls hl
    have hx := C.1
    have hb := C.2.1
    have hn9 := ok.2.1
    have hi : n = i := by omega
    subst hi
    refine lv_iload_n hx hb dX4_isWithin_2 rfl (lv_at hl 0 rfl) ?_
    refine lv_aload_n hx hb dX4_isWithin_3 rfl (lv_at hl 1 rfl) ?_
    refine r_get_0 C w dX4_isWithin_4 ?_
    rw [ok.nn]
    refine lv_icmp_ge (tgt := 43) hx hb dX4_isWithin_7 (by decide) (fun c_7 => ?_) (fun c_7 => absurd (Int32.le_refl _) c_7)
    exact kk hI ls (lv_sub hl [0, 1, 2, 3] rfl)
  | succ fu ih =>
    intro i hik
    intro hI ls hl
    have hx := C.1
    have hb := C.2.1
    have hn9 := ok.2.1
    have hi : i < n := by omega
    refine lv_iload_n hx hb dX4_isWithin_2 rfl (lv_at hl 0 rfl) ?_
    refine lv_aload_n hx hb dX4_isWithin_3 rfl (lv_at hl 1 rfl) ?_
    refine r_get_0 C w dX4_isWithin_4 ?_
    rw [ok.nn]
    refine lv_icmp_ge (tgt := 43) hx hb dX4_isWithin_7 (by decide) (fun c_7 => absurd c_7 (nI_ge hi (by omega))) (fun c_7 => ?_)
    refine lv_aload_n hx hb dX4_isWithin_10 rfl (lv_at hl 1 rfl) ?_
    refine r_get_35 C w dX4_isWithin_11 ?_
    refine lv_bipush (v := 31) hx hb dX4_isWithin_14 (by decide) ?_
    refine lv_iload_n hx hb dX4_isWithin_16 rfl (lv_at hl 2 rfl) ?_
    refine lv_imul hx hb dX4_isWithin_17 ?_
    refine lv_topi (fun t_1 et_1 => ?_)
    refine lv_iload_n hx hb dX4_isWithin_18 rfl (lv_at hl 0 rfl) ?_
    refine lv_iadd hx hb dX4_isWithin_19 ?_
    refine lv_topi (fun t_2 et_2 => ?_)
    refine r_ld_35 C w (by rw [et_2, et_1]; exact gIx (c := 31) (N := 512) rfl (by decide) h1 (vp_in_nI (by omega) (by omega))) dX4_isWithin_20 ?_
    refine lv_topi (fun t_3 et_3 => ?_)
    refine lv_aload_n hx hb dX4_isWithin_21 rfl (lv_at hl 1 rfl) ?_
    refine r_get_35 C w dX4_isWithin_22 ?_
    refine lv_bipush (v := 31) hx hb dX4_isWithin_25 (by decide) ?_
    refine lv_iload_n hx hb dX4_isWithin_27 rfl (lv_at hl 3 rfl) ?_
    refine lv_imul hx hb dX4_isWithin_28 ?_
    refine lv_topi (fun t_4 et_4 => ?_)
    refine lv_iload_n hx hb dX4_isWithin_29 rfl (lv_at hl 0 rfl) ?_
    refine lv_iadd hx hb dX4_isWithin_30 ?_
    refine lv_topi (fun t_5 et_5 => ?_)
    refine r_ld_35 C w (by rw [et_5, et_4]; exact gIx (c := 31) (N := 512) rfl (by decide) h2 (vp_in_nI (by omega) (by omega))) dX4_isWithin_31 ?_
    refine lv_topi (fun t_6 et_6 => ?_)
    refine lv_icmp_le (tgt := 37) hx hb dX4_isWithin_32 (by decide) (fun c_32 => ?_) (fun c_32 => ?_)
    · obtain ⟨x_7, ex_7⟩ : ∃ y : Int32, y = (nI i) + 1 := ⟨_, rfl⟩
      refine lv_iinc (v := x_7) (lv' := [(3, _), (0, _), (1, _), (2, _)]) C.1 C.2.1 dX4_isWithin_37 hl (k := 0) rfl (by rw [ex_7]; rfl) (by decide) rfl (fun ls hl => ?_)
      refine lv_goto (tgt := 2) hx hb dX4_isWithin_40 (by decide) ?_
      subst et_6 et_5 et_4 et_3 et_2 et_1
      have hx2 : x_7 = nI (i + 1) := by rw [ex_7]; exact nI_1 i
      rw [hx2] at hl
      exact ih (i + 1) (by omega) (fun j hj => by by_cases h : j = i; (subst h; exact c_32); exact hI j (by omega)) ls (lv_sub hl [0, 1, 2, 3] rfl)
    · exact kx i hi (by subst et_6 et_5 et_4 et_3 et_2 et_1; exact c_32) ls (lv_sub hl [0, 1, 2, 3] rfl)
set_option maxHeartbeats 4000000 in
set_option maxRecDepth 100000 in
theorem q_isWithin (l : Launch) (D : va_G) (cI cZ cN cO : ClassId) (A : Nat → Prop) (mm : Nat) (d : Nat → Nat) (n : Nat) (σ : RS) (o1 o2 : Int32) (ok : rOK n σ) (h1 : vp_in o1 512) (h2 : vp_in o2 512) : Met l yX4_isWithin (.code yX4_isWithin cX4_isWithin 4 (some .boolean) :: gw) ({ frames := 0, cells := 0, slots := 0, locals := 0 }) (va_Pc (.ref mm :: [.int o1, .int o2]) (rH D cI cZ cN cO A mm d σ)) (vp_Si (fun r => (r = 1 ∧ rWin n o1 o2 σ) ∨ (r = 0 ∧ ¬ rWin n o1 o2 σ))) 0 0 (fun _ => False) := by
  refine Met.ofW (cc := cX4_isWithin) (maxL := 4) (ret := (some .boolean)) (by decide) rfl ?_
  intro p e s m args below meth c s₁ B hml hv
  obtain ⟨rfl, hP, hK, hD⟩ := hv
  have hx := B.exec
  have hb := B.bytes
  have hr := B.returns
  have hts := atoms_spec (ws := (.code yX4_isWithin cX4_isWithin 4 (some .boolean) :: gw)) B.pre
  have hg : ∀ w ∈ gw, w.before _ s = true := fun w h => hts w (List.mem_cons_of_mem _ h)
  have hown : s.vm.findClass RX4 = some m.cls := findClass_of_methodNamed B.named
  have hlocks := B.notSynchronized
  have C : Cx p c cX4_isWithin s m _ RX4 D (gTy cI cZ cN cO) := ⟨hx, hb, hown, hg, hK⟩
  have w : rWd D cI cZ A s.heap mm d σ s.heap [] := ⟨hP, hD, va_S.rf⟩
  have hl := lv_entry ([.ref mm, .int o1, .int o2]) (n := 4) (Nat.le_of_ble_eq_true rfl)
  rw [lg_entry_eq]
  generalize (lg_sl ([.ref mm, .int o1, .int o2]) ++ List.replicate (4 - (lg_sl ([.ref mm, .int o1, .int o2])).length) Slot.unset).toArray = ls at hl ⊢
  have hl : lv_has ls 4 [(0, .ref mm), (1, .int o1), (2, .int o2)] := hl
  refine lv_iconst (v := 0) hx hb dX4_isWithin_0 (by decide) ?_
  refine lv_istore_n (lv' := [(3, _), (0, _), (1, _), (2, _)]) C.1 C.2.1 dX4_isWithin_1 rfl hl (by decide) rfl (fun ls hl => ?_)
  rw [← nI_0] at hl
  refine ql_isWithin C hml w ok h1 h2 ?_ ?_ n 0 (by omega) (fun j hj => absurd hj (Nat.not_lt_zero j)) ls (lv_sub hl [0, 1, 2, 3] rfl)
  · intro hI ls hl
    refine lv_iconst (v := 1) hx hb dX4_isWithin_43 (by decide) ?_
    exact W.zret (v := 1) (ty := .boolean) hx hb hr rfl (fun t ht hW => ⟨_, rfl, Or.inl ⟨rfl, hI⟩, ht⟩) (fun _ h => by cases h) dX4_isWithin_44
  · intro i hi hc ls hl
    refine lv_iconst (v := 0) hx hb dX4_isWithin_35 (by decide) ?_
    exact W.zret (v := 0) (ty := .boolean) hx hb hr rfl (fun t ht hW => ⟨_, rfl, Or.inr ⟨rfl, fun h => hc (h i hi)⟩, ht⟩) (fun _ h => by cases h) dX4_isWithin_36
set_option maxHeartbeats 4000000 in
set_option maxRecDepth 100000 in
theorem ql_late {p : Program} {l : Launch} {e : Env} {R : Room} {s : State} {m : MethodId} {args : Array Value} {below : List Frame} {meth : Method} {c : Code} {cells slots : Nat} {Q : State → Prop} {D : va_G} {cI cZ cN cO : ClassId} {A : Nat → Prop} {H0 : Heap} {mm : Nat} {d : Nat → Nat} {n : Nat} {H : Heap} {locs : List Loc} (C : Cx p c cX4_isLate s m args RX4 D (gTy cI cZ cN cO)) (hml : c.maxLocals = 4) {σ : RS} {o1 : Int32} (k vv : Nat) (w : rWd D cI cZ A H0 mm d σ H locs) (ok : rOK n σ) (h1 : vp_in o1 512) (hk : k < n) (hvv : σ.2 35 ((31 : Int32) * o1 + nI k).toNatClampNeg = nI vv) (hvl : vv < 512) (kk : (∀ j, j < vv → σ.2 30 (σ.2 20 ((512 : Int32) * nI k + nI j).toNatClampNeg).toNatClampNeg ≤ σ.2 31 o1.toNatClampNeg) → ∀ ls : Array Slot, lv_has ls 4 [(3, .int (nI vv)), (2, .int (nI k)), (0, .ref mm), (1, .int o1)] → W p l e R s m args below meth c H locs cells slots Q (F0 m 61 ls [])) (kx : ∀ (i : Nat), i < vv → ¬ σ.2 30 (σ.2 20 ((512 : Int32) * nI k + nI i).toNatClampNeg).toNatClampNeg ≤ σ.2 31 o1.toNatClampNeg → ∀ ls : Array Slot, lv_has ls 4 [(3, .int (nI i)), (2, .int (nI k)), (0, .ref mm), (1, .int o1)] → W p l e R s m args below meth c H locs cells slots Q (F0 m 53 ls [])) : ∀ (fu i : Nat), i + fu = vv → (∀ j, j < i → σ.2 30 (σ.2 20 ((512 : Int32) * nI k + nI j).toNatClampNeg).toNatClampNeg ≤ σ.2 31 o1.toNatClampNeg) → ∀ ls : Array Slot, lv_has ls 4 [(3, .int (nI i)), (2, .int (nI k)), (0, .ref mm), (1, .int o1)] → W p l e R s m args below meth c H locs cells slots Q (F0 m 12 ls []) := by
  intro fu
  induction fu with
  | zero =>
    intro i hik
    intro hI ls hl
    have hx := C.1
    have hb := C.2.1
    have hn9 := ok.2.1
    have hi : vv = i := by omega
    subst hi
    refine lv_iload_n hx hb dX4_isLate_12 rfl (lv_at hl 0 rfl) ?_
    refine lv_aload_n hx hb dX4_isLate_13 rfl (lv_at hl 2 rfl) ?_
    refine r_get_35 C w dX4_isLate_14 ?_
    refine lv_bipush (v := 31) hx hb dX4_isLate_17 (by decide) ?_
    refine lv_iload_n hx hb dX4_isLate_19 rfl (lv_at hl 3 rfl) ?_
    refine lv_imul hx hb dX4_isLate_20 ?_
    refine lv_topi (fun t_1 et_1 => ?_)
    refine lv_iload_n hx hb dX4_isLate_21 rfl (lv_at hl 1 rfl) ?_
    refine lv_iadd hx hb dX4_isLate_22 ?_
    refine lv_topi (fun t_2 et_2 => ?_)
    refine r_ld_35 C w (by rw [et_2, et_1]; exact gIx (c := 31) (N := 512) rfl (by decide) h1 (vp_in_nI (by omega) (by omega))) dX4_isLate_23 ?_
    rw [et_2, et_1, hvv]
    refine lv_icmp_ge (tgt := 61) hx hb dX4_isLate_24 (by decide) (fun c_24 => ?_) (fun c_24 => absurd (Int32.le_refl _) c_24)
    exact kk hI ls (lv_sub hl [0, 1, 2, 3] rfl)
  | succ fu ih =>
    intro i hik
    intro hI ls hl
    have hx := C.1
    have hb := C.2.1
    have hn9 := ok.2.1
    have hi : i < vv := by omega
    refine lv_iload_n hx hb dX4_isLate_12 rfl (lv_at hl 0 rfl) ?_
    refine lv_aload_n hx hb dX4_isLate_13 rfl (lv_at hl 2 rfl) ?_
    refine r_get_35 C w dX4_isLate_14 ?_
    refine lv_bipush (v := 31) hx hb dX4_isLate_17 (by decide) ?_
    refine lv_iload_n hx hb dX4_isLate_19 rfl (lv_at hl 3 rfl) ?_
    refine lv_imul hx hb dX4_isLate_20 ?_
    refine lv_topi (fun t_1 et_1 => ?_)
    refine lv_iload_n hx hb dX4_isLate_21 rfl (lv_at hl 1 rfl) ?_
    refine lv_iadd hx hb dX4_isLate_22 ?_
    refine lv_topi (fun t_2 et_2 => ?_)
    refine r_ld_35 C w (by rw [et_2, et_1]; exact gIx (c := 31) (N := 512) rfl (by decide) h1 (vp_in_nI (by omega) (by omega))) dX4_isLate_23 ?_
    rw [et_2, et_1, hvv]
    refine lv_icmp_ge (tgt := 61) hx hb dX4_isLate_24 (by decide) (fun c_24 => absurd c_24 (nI_ge hi (by omega))) (fun c_24 => ?_)
    refine lv_aload_n hx hb dX4_isLate_27 rfl (lv_at hl 2 rfl) ?_
    refine r_get_30 C w dX4_isLate_28 ?_
    refine lv_aload_n hx hb dX4_isLate_31 rfl (lv_at hl 2 rfl) ?_
    refine r_get_20 C w dX4_isLate_32 ?_
    refine lv_sipush (v := 512) hx hb dX4_isLate_35 (by decide) ?_
    refine lv_iload_n hx hb dX4_isLate_38 rfl (lv_at hl 1 rfl) ?_
    refine lv_imul hx hb dX4_isLate_39 ?_
    refine lv_topi (fun t_3 et_3 => ?_)
    refine lv_iload_n hx hb dX4_isLate_40 rfl (lv_at hl 0 rfl) ?_
    refine lv_iadd hx hb dX4_isLate_41 ?_
    refine lv_topi (fun t_4 et_4 => ?_)
    refine r_ld_20 C w (by rw [et_4, et_3]; exact gIx (c := 512) (N := 31) rfl (by decide) (vp_in_nI (by omega) (by omega)) (vp_in_nI (by omega) (by omega))) dX4_isLate_42 ?_
    refine lv_topi (fun t_5 et_5 => ?_)
    refine r_ld_30 C w (show vp_in t_5 512 from by rw [et_5]; exact ok.at 20 rfl _) dX4_isLate_43 ?_
    refine lv_topi (fun t_6 et_6 => ?_)
    refine lv_aload_n hx hb dX4_isLate_44 rfl (lv_at hl 2 rfl) ?_
    refine r_get_31 C w dX4_isLate_45 ?_
    refine lv_iload_n hx hb dX4_isLate_48 rfl (lv_at hl 3 rfl) ?_
    refine r_ld_31 C w h1 dX4_isLate_49 ?_
    refine lv_topi (fun t_7 et_7 => ?_)
    refine lv_icmp_le (tgt := 55) hx hb dX4_isLate_50 (by decide) (fun c_50 => ?_) (fun c_50 => ?_)
    · obtain ⟨x_8, ex_8⟩ : ∃ y : Int32, y = (nI i) + 1 := ⟨_, rfl⟩
      refine lv_iinc (v := x_8) (lv' := [(3, _), (2, _), (0, _), (1, _)]) C.1 C.2.1 dX4_isLate_55 hl (k := 0) rfl (by rw [ex_8]; rfl) (by decide) rfl (fun ls hl => ?_)
      refine lv_goto (tgt := 12) hx hb dX4_isLate_58 (by decide) ?_
      subst et_7 et_6 et_5 et_4 et_3
      have hx2 : x_8 = nI (i + 1) := by rw [ex_8]; exact nI_1 i
      rw [hx2] at hl
      exact ih (i + 1) (by omega) (fun j hj => by by_cases h : j = i; (subst h; exact c_50); exact hI j (by omega)) ls (lv_sub hl [0, 1, 2, 3] rfl)
    · exact kx i hi (by subst et_7 et_6 et_5 et_4 et_3; exact c_50) ls (lv_sub hl [0, 1, 2, 3] rfl)
set_option maxHeartbeats 4000000 in
set_option maxRecDepth 100000 in
theorem ql_isLate {p : Program} {l : Launch} {e : Env} {R : Room} {s : State} {m : MethodId} {args : Array Value} {below : List Frame} {meth : Method} {c : Code} {cells slots : Nat} {Q : State → Prop} {D : va_G} {cI cZ cN cO : ClassId} {A : Nat → Prop} {H0 : Heap} {mm : Nat} {d : Nat → Nat} {n : Nat} {H : Heap} {locs : List Loc} (C : Cx p c cX4_isLate s m args RX4 D (gTy cI cZ cN cO)) (hml : c.maxLocals = 4) {σ : RS} {o1 : Int32} (w : rWd D cI cZ A H0 mm d σ H locs) (ok : rOK n σ) (h1 : vp_in o1 512) (kk : (∀ k, k < n → ∀ j, nI j < σ.2 35 ((31 : Int32) * o1 + nI k).toNatClampNeg → j < 512 → σ.2 30 (σ.2 20 ((512 : Int32) * nI k + nI j).toNatClampNeg).toNatClampNeg ≤ σ.2 31 o1.toNatClampNeg) → ∀ ls : Array Slot, lv_has ls 4 [(2, .int (nI n)), (0, .ref mm), (1, .int o1)] → W p l e R s m args below meth c H locs cells slots Q (F0 m 67 ls [])) (kx : ∀ (i : Nat), i < n → (∃ q, nI q < σ.2 35 ((31 : Int32) * o1 + nI i).toNatClampNeg ∧ q < 512 ∧ ¬ σ.2 30 (σ.2 20 ((512 : Int32) * nI i + nI q).toNatClampNeg).toNatClampNeg ≤ σ.2 31 o1.toNatClampNeg) → ∀ ls : Array Slot, lv_has ls 4 [(2, .int (nI i)), (0, .ref mm), (1, .int o1)] → W p l e R s m args below meth c H locs cells slots Q (F0 m 53 ls [])) : ∀ (fu i : Nat), i + fu = n → (∀ k, k < i → ∀ j, nI j < σ.2 35 ((31 : Int32) * o1 + nI k).toNatClampNeg → j < 512 → σ.2 30 (σ.2 20 ((512 : Int32) * nI k + nI j).toNatClampNeg).toNatClampNeg ≤ σ.2 31 o1.toNatClampNeg) → ∀ ls : Array Slot, lv_has ls 4 [(2, .int (nI i)), (0, .ref mm), (1, .int o1)] → W p l e R s m args below meth c H locs cells slots Q (F0 m 2 ls []) := by
  intro fu
  induction fu with
  | zero =>
    intro i hik
    intro hI ls hl
    have hx := C.1
    have hb := C.2.1
    have hn9 := ok.2.1
    have hi : n = i := by omega
    subst hi
    refine lv_iload_n hx hb dX4_isLate_2 rfl (lv_at hl 0 rfl) ?_
    refine lv_aload_n hx hb dX4_isLate_3 rfl (lv_at hl 1 rfl) ?_
    refine r_get_0 C w dX4_isLate_4 ?_
    rw [ok.nn]
    refine lv_icmp_ge (tgt := 67) hx hb dX4_isLate_7 (by decide) (fun c_7 => ?_) (fun c_7 => absurd (Int32.le_refl _) c_7)
    exact kk hI ls (lv_sub hl [0, 1, 2] rfl)
  | succ fu ih =>
    intro i hik
    intro hI ls hl
    have hx := C.1
    have hb := C.2.1
    have hn9 := ok.2.1
    have hi : i < n := by omega
    refine lv_iload_n hx hb dX4_isLate_2 rfl (lv_at hl 0 rfl) ?_
    refine lv_aload_n hx hb dX4_isLate_3 rfl (lv_at hl 1 rfl) ?_
    refine r_get_0 C w dX4_isLate_4 ?_
    rw [ok.nn]
    refine lv_icmp_ge (tgt := 67) hx hb dX4_isLate_7 (by decide) (fun c_7 => absurd c_7 (nI_ge hi (by omega))) (fun c_7 => ?_)
    refine lv_iconst (v := 0) hx hb dX4_isLate_10 (by decide) ?_
    refine lv_istore_n (lv' := [(3, _), (2, _), (0, _), (1, _)]) C.1 C.2.1 dX4_isLate_11 rfl hl (by decide) rfl (fun ls hl => ?_)
    obtain ⟨vv, hvl, hvv⟩ := vp_in_of (ok.at 35 (b := 512) rfl ((31 : Int32) * o1 + nI i).toNatClampNeg) (by decide)
    rw [← nI_0] at hl
    refine ql_late C hml i vv w ok h1 hi hvv hvl ?_ ?_ vv 0 (by omega) (fun j hj => absurd hj (Nat.not_lt_zero j)) ls (lv_sub hl [0, 1, 2, 3] rfl)
    · intro hJ ls hl
      obtain ⟨x_1, ex_1⟩ : ∃ y : Int32, y = (nI i) + 1 := ⟨_, rfl⟩
      refine lv_iinc (v := x_1) (lv' := [(2, _), (3, _), (0, _), (1, _)]) C.1 C.2.1 dX4_isLate_61 hl (k := 1) rfl (by rw [ex_1]; rfl) (by decide) rfl (fun ls hl => ?_)
      refine lv_goto (tgt := 2) hx hb dX4_isLate_64 (by decide) ?_
      have hx2 : x_1 = nI (i + 1) := by rw [ex_1]; exact nI_1 i
      rw [hx2] at hl
      exact ih (i + 1) (by omega) (fun k hk j hj hj2 => by by_cases h : k = i; (subst h; exact hJ j (by rw [hvv] at hj; exact (nI_ltI (by omega) (by omega)).mp hj)); exact hI k (by omega) j hj hj2) ls (lv_sub hl [0, 2, 3] rfl)
    · intro q hq hc ls hl
      exact kx i hi ⟨q, by rw [hvv]; exact nI_lt hq (by omega), by omega, hc⟩ ls (lv_sub hl [1, 2, 3] rfl)
set_option maxHeartbeats 4000000 in
set_option maxRecDepth 100000 in
theorem q_isLate (l : Launch) (D : va_G) (cI cZ cN cO : ClassId) (A : Nat → Prop) (mm : Nat) (d : Nat → Nat) (n : Nat) (σ : RS) (o1 : Int32) (ok : rOK n σ) (h1 : vp_in o1 512) : Met l yX4_isLate (.code yX4_isLate cX4_isLate 4 (some .boolean) :: gw) ({ frames := 0, cells := 0, slots := 0, locals := 0 }) (va_Pc (.ref mm :: [.int o1]) (rH D cI cZ cN cO A mm d σ)) (vp_Si (fun r => (r = 1 ∧ rLate n o1 σ) ∨ (r = 0 ∧ ¬ rLate n o1 σ))) 0 0 (fun _ => False) := by
  refine Met.ofW (cc := cX4_isLate) (maxL := 4) (ret := (some .boolean)) (by decide) rfl ?_
  intro p e s m args below meth c s₁ B hml hv
  obtain ⟨rfl, hP, hK, hD⟩ := hv
  have hx := B.exec
  have hb := B.bytes
  have hr := B.returns
  have hts := atoms_spec (ws := (.code yX4_isLate cX4_isLate 4 (some .boolean) :: gw)) B.pre
  have hg : ∀ w ∈ gw, w.before _ s = true := fun w h => hts w (List.mem_cons_of_mem _ h)
  have hown : s.vm.findClass RX4 = some m.cls := findClass_of_methodNamed B.named
  have hlocks := B.notSynchronized
  have C : Cx p c cX4_isLate s m _ RX4 D (gTy cI cZ cN cO) := ⟨hx, hb, hown, hg, hK⟩
  have w : rWd D cI cZ A s.heap mm d σ s.heap [] := ⟨hP, hD, va_S.rf⟩
  have hl := lv_entry ([.ref mm, .int o1]) (n := 4) (Nat.le_of_ble_eq_true rfl)
  rw [lg_entry_eq]
  generalize (lg_sl ([.ref mm, .int o1]) ++ List.replicate (4 - (lg_sl ([.ref mm, .int o1])).length) Slot.unset).toArray = ls at hl ⊢
  have hl : lv_has ls 4 [(0, .ref mm), (1, .int o1)] := hl
  refine lv_iconst (v := 0) hx hb dX4_isLate_0 (by decide) ?_
  refine lv_istore_n (lv' := [(2, _), (0, _), (1, _)]) C.1 C.2.1 dX4_isLate_1 rfl hl (by decide) rfl (fun ls hl => ?_)
  rw [← nI_0] at hl
  refine ql_isLate C hml w ok h1 ?_ ?_ n 0 (by omega) (fun j hj => absurd hj (Nat.not_lt_zero j)) ls (lv_sub hl [0, 1, 2] rfl)
  · intro hI ls hl
    refine lv_iconst (v := 0) hx hb dX4_isLate_67 (by decide) ?_
    exact W.zret (v := 0) (ty := .boolean) hx hb hr rfl (fun t ht hW => ⟨_, rfl, Or.inr ⟨rfl, fun ⟨k, j, q1, q2, q3, q4⟩ => q4 (hI k q1 j q2 q3)⟩, ht⟩) (fun _ h => by cases h) dX4_isLate_68
  · intro i hi hc ls hl
    refine lv_iconst (v := 1) hx hb dX4_isLate_53 (by decide) ?_
    exact W.zret (v := 1) (ty := .boolean) hx hb hr rfl (fun t ht hW => ⟨_, rfl, Or.inl ⟨rfl, by obtain ⟨q, q1, q2, q3⟩ := hc; exact ⟨i, q, hi, q1, q2, q3⟩⟩, ht⟩) (fun _ h => by cases h) dX4_isLate_54
