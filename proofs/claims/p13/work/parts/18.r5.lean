set_option maxHeartbeats 4000000 in
set_option maxRecDepth 100000 in
theorem ql_isSame {p : Program} {l : Launch} {e : Env} {R : Room} {s : State} {m : MethodId} {args : Array Value} {below : List Frame} {meth : Method} {c : Code} {cells slots : Nat} {Q : State → Prop} {D : va_G} {cI cZ cN cO : ClassId} {A : Nat → Prop} {H0 : Heap} {mm : Nat} {d : Nat → Nat} {n : Nat} {H : Heap} {locs : List Loc} (C : Cx p c cX4_isSame s m args RX4 D (gTy cI cZ cN cO)) (hml : c.maxLocals = 3) {σ : RS} {k : Int32} (w : rWd D cI cZ A H0 mm d σ H locs) (ok : rOK n σ) (hk : vp_in k n) (kk : (∀ j, j < n → σ.2 23 ((31 : Int32) * k + nI j).toNatClampNeg = σ.2 22 ((31 : Int32) * k + nI j).toNatClampNeg) → ∀ ls : Array Slot, lv_has ls 3 [(2, .int (nI n)), (0, .ref mm), (1, .int k)] → W p l e R s m args below meth c H locs cells slots Q (F0 m 43 ls [])) (kx : ∀ (i : Nat), i < n → ¬ σ.2 23 ((31 : Int32) * k + nI i).toNatClampNeg = σ.2 22 ((31 : Int32) * k + nI i).toNatClampNeg → ∀ ls : Array Slot, lv_has ls 3 [(2, .int (nI i)), (0, .ref mm), (1, .int k)] → W p l e R s m args below meth c H locs cells slots Q (F0 m 35 ls [])) : ∀ (fu i : Nat), i + fu = n → (∀ j, j < i → σ.2 23 ((31 : Int32) * k + nI j).toNatClampNeg = σ.2 22 ((31 : Int32) * k + nI j).toNatClampNeg) → ∀ ls : Array Slot, lv_has ls 3 [(2, .int (nI i)), (0, .ref mm), (1, .int k)] → W p l e R s m args below meth c H locs cells slots Q (F0 m 2 ls []) := by
  intro fu
  induction fu with
  | zero =>
    intro i hik
    intro hI ls hl
    have hx := C.1
    have hb := C.2.1
    have hn9 := ok.2.1
    have hi : n = i := by omega
    subst hi
    refine lv_iload_n hx hb dX4_isSame_2 rfl (lv_at hl 0 rfl) ?_
    refine lv_aload_n hx hb dX4_isSame_3 rfl (lv_at hl 1 rfl) ?_
    refine r_get_0 C w dX4_isSame_4 ?_
    rw [ok.nn]
    refine lv_icmp_ge (tgt := 43) hx hb dX4_isSame_7 (by decide) (fun c_7 => ?_) (fun c_7 => absurd (Int32.le_refl _) c_7)
    exact kk hI ls (lv_sub hl [0, 1, 2] rfl)
  | succ fu ih =>
    intro i hik
    intro hI ls hl
    have hx := C.1
    have hb := C.2.1
    have hn9 := ok.2.1
    have hi : i < n := by omega
    refine lv_iload_n hx hb dX4_isSame_2 rfl (lv_at hl 0 rfl) ?_
    refine lv_aload_n hx hb dX4_isSame_3 rfl (lv_at hl 1 rfl) ?_
    refine r_get_0 C w dX4_isSame_4 ?_
    rw [ok.nn]
    refine lv_icmp_ge (tgt := 43) hx hb dX4_isSame_7 (by decide) (fun c_7 => absurd c_7 (nI_ge hi (by omega))) (fun c_7 => ?_)
    refine lv_aload_n hx hb dX4_isSame_10 rfl (lv_at hl 1 rfl) ?_
    refine r_get_23 C w dX4_isSame_11 ?_
    refine lv_bipush (v := 31) hx hb dX4_isSame_14 (by decide) ?_
    refine lv_iload_n hx hb dX4_isSame_16 rfl (lv_at hl 2 rfl) ?_
    refine lv_imul hx hb dX4_isSame_17 ?_
    refine lv_topi (fun t_1 et_1 => ?_)
    refine lv_iload_n hx hb dX4_isSame_18 rfl (lv_at hl 0 rfl) ?_
    refine lv_iadd hx hb dX4_isSame_19 ?_
    refine lv_topi (fun t_2 et_2 => ?_)
    refine r_ld_23 C w (by rw [et_2, et_1]; exact gIx (c := 31) (N := 31) rfl (by decide) (ok.n31 hk) (vp_in_nI (by omega) (by omega))) dX4_isSame_20 ?_
    refine lv_topi (fun t_3 et_3 => ?_)
    refine lv_aload_n hx hb dX4_isSame_21 rfl (lv_at hl 1 rfl) ?_
    refine r_get_22 C w dX4_isSame_22 ?_
    refine lv_bipush (v := 31) hx hb dX4_isSame_25 (by decide) ?_
    refine lv_iload_n hx hb dX4_isSame_27 rfl (lv_at hl 2 rfl) ?_
    refine lv_imul hx hb dX4_isSame_28 ?_
    refine lv_topi (fun t_4 et_4 => ?_)
    refine lv_iload_n hx hb dX4_isSame_29 rfl (lv_at hl 0 rfl) ?_
    refine lv_iadd hx hb dX4_isSame_30 ?_
    refine lv_topi (fun t_5 et_5 => ?_)
    refine r_ld_22 C w (by rw [et_5, et_4]; exact gIx (c := 31) (N := 31) rfl (by decide) (ok.n31 hk) (vp_in_nI (by omega) (by omega))) dX4_isSame_31 ?_
    refine lv_topi (fun t_6 et_6 => ?_)
    refine lv_icmp_eq (tgt := 37) hx hb dX4_isSame_32 (by decide) (fun c_32 => ?_) (fun c_32 => ?_)
    · obtain ⟨x_7, ex_7⟩ : ∃ y : Int32, y = (nI i) + 1 := ⟨_, rfl⟩
      refine lv_iinc (v := x_7) (lv' := [(2, _), (0, _), (1, _)]) C.1 C.2.1 dX4_isSame_37 hl (k := 0) rfl (by rw [ex_7]; rfl) (by decide) rfl (fun ls hl => ?_)
      refine lv_goto (tgt := 2) hx hb dX4_isSame_40 (by decide) ?_
      subst et_6 et_5 et_4 et_3 et_2 et_1
      have hx2 : x_7 = nI (i + 1) := by rw [ex_7]; exact nI_1 i
      rw [hx2] at hl
      exact ih (i + 1) (by omega) (fun j hj => by by_cases h : j = i; (subst h; exact c_32); exact hI j (by omega)) ls (lv_sub hl [0, 1, 2] rfl)
    · exact kx i hi (by subst et_6 et_5 et_4 et_3 et_2 et_1; exact c_32) ls (lv_sub hl [0, 1, 2] rfl)
set_option maxHeartbeats 4000000 in
set_option maxRecDepth 100000 in
theorem q_isSame (l : Launch) (D : va_G) (cI cZ cN cO : ClassId) (A : Nat → Prop) (mm : Nat) (d : Nat → Nat) (n : Nat) (σ : RS) (k : Int32) (ok : rOK n σ) (hk : vp_in k n) : Met l yX4_isSame (.code yX4_isSame cX4_isSame 3 (some .boolean) :: gw) ({ frames := 0, cells := 0, slots := 0, locals := 0 }) (va_Pc (.ref mm :: [.int k]) (rH D cI cZ cN cO A mm d σ)) (vp_Si (fun r => (r = 1 ∧ rSame n k σ) ∨ (r = 0 ∧ ¬ rSame n k σ))) 0 0 (fun _ => False) := by
  refine Met.ofW (cc := cX4_isSame) (maxL := 3) (ret := (some .boolean)) (by decide) rfl ?_
  intro p e s m args below meth c s₁ B hml hv
  obtain ⟨rfl, hP, hK, hD⟩ := hv
  have hx := B.exec
  have hb := B.bytes
  have hr := B.returns
  have hts := atoms_spec (ws := (.code yX4_isSame cX4_isSame 3 (some .boolean) :: gw)) B.pre
  have hg : ∀ w ∈ gw, w.before _ s = true := fun w h => hts w (List.mem_cons_of_mem _ h)
  have hown : s.vm.findClass RX4 = some m.cls := findClass_of_methodNamed B.named
  have hlocks := B.notSynchronized
  have C : Cx p c cX4_isSame s m _ RX4 D (gTy cI cZ cN cO) := ⟨hx, hb, hown, hg, hK⟩
  have w : rWd D cI cZ A s.heap mm d σ s.heap [] := ⟨hP, hD, va_S.rf⟩
  have hl := lv_entry ([.ref mm, .int k]) (n := 3) (Nat.le_of_ble_eq_true rfl)
  rw [lg_entry_eq]
  generalize (lg_sl ([.ref mm, .int k]) ++ List.replicate (3 - (lg_sl ([.ref mm, .int k])).length) Slot.unset).toArray = ls at hl ⊢
  have hl : lv_has ls 3 [(0, .ref mm), (1, .int k)] := hl
  refine lv_iconst (v := 0) hx hb dX4_isSame_0 (by decide) ?_
  refine lv_istore_n (lv' := [(2, _), (0, _), (1, _)]) C.1 C.2.1 dX4_isSame_1 rfl hl (by decide) rfl (fun ls hl => ?_)
  rw [← nI_0] at hl
  have hn9 := ok.2.1
  refine ql_isSame C hml w ok hk ?_ ?_ n 0 (by omega) (fun j hj => absurd hj (Nat.not_lt_zero j)) ls (lv_sub hl [0, 1, 2] rfl)
  · intro hI ls hl
    refine lv_iconst (v := 1) hx hb dX4_isSame_43 (by decide) ?_
    exact W.zret (v := 1) (ty := .boolean) hx hb hr rfl (fun t ht hW => ⟨_, rfl, Or.inl ⟨rfl, hI⟩, ht⟩) (fun _ h => by cases h) dX4_isSame_44
  · intro i hi hc ls hl
    refine lv_iconst (v := 0) hx hb dX4_isSame_35 (by decide) ?_
    exact W.zret (v := 0) (ty := .boolean) hx hb hr rfl (fun t ht hW => ⟨_, rfl, Or.inr ⟨rfl, fun h => hc (h i hi)⟩, ht⟩) (fun _ h => by cases h) dX4_isSame_36
set_option maxHeartbeats 4000000 in
set_option maxRecDepth 100000 in
theorem ql_movedTwice {p : Program} {l : Launch} {e : Env} {R : Room} {s : State} {m : MethodId} {args : Array Value} {below : List Frame} {meth : Method} {c : Code} {cells slots : Nat} {Q : State → Prop} {D : va_G} {cI cZ cN cO : ClassId} {A : Nat → Prop} {H0 : Heap} {mm : Nat} {d : Nat → Nat} {n : Nat} {H : Heap} {locs : List Loc} (C : Cx p c cX4_movedTwice s m args RX4 D (gTy cI cZ cN cO)) (hml : c.maxLocals = 4) {σ : RS} {k : Int32} (w : rWd D cI cZ A H0 mm d σ H locs) (ok : rOK n σ) (hk : vp_in k n) (kk : (∀ j, j < n → ¬ rMv k σ j) → ∀ ls : Array Slot, lv_has ls 4 [(2, .int (nI n)), (0, .ref mm), (1, .int k)] → W p l e R s m args below meth c H locs cells slots Q (F0 m 74 ls [])) (kx : ∀ (i : Nat), i < n → rMv k σ i → (∀ j, j < i → ¬ rMv k σ j) → ∀ ls : Array Slot, lv_has ls 4 [(2, .int (nI i)), (0, .ref mm), (1, .int k)] → W p l e R s m args below meth c H locs cells slots Q (F0 m 66 ls [])) : ∀ (fu i : Nat), i + fu = n → (∀ j, j < i → ¬ rMv k σ j) → ∀ ls : Array Slot, lv_has ls 4 [(2, .int (nI i)), (0, .ref mm), (1, .int k)] → W p l e R s m args below meth c H locs cells slots Q (F0 m 2 ls []) := by
  intro fu
  induction fu with
  | zero =>
    intro i hik
    intro hI ls hl
    have hx := C.1
    have hb := C.2.1
    have hn9 := ok.2.1
    have hi : n = i := by omega
    subst hi
    refine lv_iload_n hx hb dX4_movedTwice_2 rfl (lv_at hl 0 rfl) ?_
    refine lv_aload_n hx hb dX4_movedTwice_3 rfl (lv_at hl 1 rfl) ?_
    refine r_get_0 C w dX4_movedTwice_4 ?_
    rw [ok.nn]
    refine lv_icmp_ge (tgt := 74) hx hb dX4_movedTwice_7 (by decide) (fun c_7 => ?_) (fun c_7 => absurd (Int32.le_refl _) c_7)
    exact kk hI ls (lv_sub hl [0, 1, 2] rfl)
  | succ fu ih =>
    intro i hik
    intro hI ls hl
    have hx := C.1
    have hb := C.2.1
    have hn9 := ok.2.1
    have hi : i < n := by omega
    refine lv_iload_n hx hb dX4_movedTwice_2 rfl (lv_at hl 0 rfl) ?_
    refine lv_aload_n hx hb dX4_movedTwice_3 rfl (lv_at hl 1 rfl) ?_
    refine r_get_0 C w dX4_movedTwice_4 ?_
    rw [ok.nn]
    refine lv_icmp_ge (tgt := 74) hx hb dX4_movedTwice_7 (by decide) (fun c_7 => absurd c_7 (nI_ge hi (by omega))) (fun c_7 => ?_)
    refine lv_aload_n hx hb dX4_movedTwice_10 rfl (lv_at hl 1 rfl) ?_
    refine r_get_23 C w dX4_movedTwice_11 ?_
    refine lv_bipush (v := 31) hx hb dX4_movedTwice_14 (by decide) ?_
    refine lv_iload_n hx hb dX4_movedTwice_16 rfl (lv_at hl 2 rfl) ?_
    refine lv_imul hx hb dX4_movedTwice_17 ?_
    refine lv_topi (fun t_1 et_1 => ?_)
    refine lv_iload_n hx hb dX4_movedTwice_18 rfl (lv_at hl 0 rfl) ?_
    refine lv_iadd hx hb dX4_movedTwice_19 ?_
    refine lv_topi (fun t_2 et_2 => ?_)
    refine r_ld_23 C w (by rw [et_2, et_1]; exact gIx (c := 31) (N := 31) rfl (by decide) (ok.n31 hk) (vp_in_nI (by omega) (by omega))) dX4_movedTwice_20 ?_
    refine lv_topi (fun t_3 et_3 => ?_)
    refine lv_aload_n hx hb dX4_movedTwice_21 rfl (lv_at hl 1 rfl) ?_
    refine r_get_22 C w dX4_movedTwice_22 ?_
    refine lv_bipush (v := 31) hx hb dX4_movedTwice_25 (by decide) ?_
    refine lv_iload_n hx hb dX4_movedTwice_27 rfl (lv_at hl 2 rfl) ?_
    refine lv_imul hx hb dX4_movedTwice_28 ?_
    refine lv_topi (fun t_4 et_4 => ?_)
    refine lv_iload_n hx hb dX4_movedTwice_29 rfl (lv_at hl 0 rfl) ?_
    refine lv_iadd hx hb dX4_movedTwice_30 ?_
    refine lv_topi (fun t_5 et_5 => ?_)
    refine r_ld_22 C w (by rw [et_5, et_4]; exact gIx (c := 31) (N := 31) rfl (by decide) (ok.n31 hk) (vp_in_nI (by omega) (by omega))) dX4_movedTwice_31 ?_
    refine lv_topi (fun t_6 et_6 => ?_)
    refine lv_icmp_eq (tgt := 39) hx hb dX4_movedTwice_32 (by decide) (fun c_32 => ?_) (fun c_32 => ?_)
    · refine lv_iconst (v := 0) hx hb dX4_movedTwice_39 (by decide) ?_
      refine lv_istore_n (lv' := [(3, _), (2, _), (0, _), (1, _)]) C.1 C.2.1 dX4_movedTwice_40 rfl hl (by decide) rfl (fun ls hl => ?_)
      refine lv_aload_n hx hb dX4_movedTwice_41 rfl (lv_at hl 2 rfl) ?_
      refine r_get_25 C w dX4_movedTwice_42 ?_
      refine lv_bipush (v := 31) hx hb dX4_movedTwice_45 (by decide) ?_
      refine lv_iload_n hx hb dX4_movedTwice_47 rfl (lv_at hl 3 rfl) ?_
      refine lv_imul hx hb dX4_movedTwice_48 ?_
      refine lv_topi (fun t_7 et_7 => ?_)
      refine lv_iload_n hx hb dX4_movedTwice_49 rfl (lv_at hl 1 rfl) ?_
      refine lv_iadd hx hb dX4_movedTwice_50 ?_
      refine lv_topi (fun t_8 et_8 => ?_)
      refine r_ld_25 C w (by rw [et_8, et_7]; exact gIx (c := 31) (N := 31) rfl (by decide) (ok.n31 hk) (vp_in_nI (by omega) (by omega))) dX4_movedTwice_51 ?_
      refine lv_topi (fun t_9 et_9 => ?_)
      refine lv_iload_n hx hb dX4_movedTwice_52 rfl (lv_at hl 0 rfl) ?_
      refine lv_if_eq (tgt := 60) hx hb dX4_movedTwice_53 (by decide) (fun c_53 => ?_) (fun c_53 => absurd rfl c_53)
      refine lv_iconst (v := 0) hx hb dX4_movedTwice_60 (by decide) ?_
      refine lv_iadd hx hb dX4_movedTwice_61 ?_
      refine lv_topi (fun t_10 et_10 => ?_)
      refine lv_iconst (v := 2) hx hb dX4_movedTwice_62 (by decide) ?_
      refine lv_icmp_lt (tgt := 68) hx hb dX4_movedTwice_63 (by decide) (fun c_63 => ?_) (fun c_63 => ?_)
      · obtain ⟨x_11, ex_11⟩ : ∃ y : Int32, y = (nI i) + 1 := ⟨_, rfl⟩
        refine lv_iinc (v := x_11) (lv' := [(2, _), (3, _), (0, _), (1, _)]) C.1 C.2.1 dX4_movedTwice_68 hl (k := 1) rfl (by rw [ex_11]; rfl) (by decide) rfl (fun ls hl => ?_)
        refine lv_goto (tgt := 2) hx hb dX4_movedTwice_71 (by decide) ?_
        subst et_10 et_9 et_8 et_7 et_6 et_5 et_4 et_3 et_2 et_1
        have hx2 : x_11 = nI (i + 1) := by rw [ex_11]; exact nI_1 i
        rw [hx2] at hl
        exact ih (i + 1) (by omega) (fun j hj => by by_cases h : j = i; (subst h; intro hm; unfold rMv at hm; first | (rw [if_pos c_32] at hm; exact absurd c_63 (Int32.not_lt.mpr hm)) | (rw [if_neg c_32] at hm; exact absurd c_63 (Int32.not_lt.mpr hm))); exact hI j (by omega)) ls (lv_sub hl [0, 2, 3] rfl)
      · exact kx i hi (by subst et_10 et_9 et_8 et_7 et_6 et_5 et_4 et_3 et_2 et_1; unfold rMv; first | (rw [if_pos c_32]; exact Int32.not_lt.mp c_63) | (rw [if_neg c_32]; exact Int32.not_lt.mp c_63)) hI ls (lv_sub hl [1, 2, 3] rfl)
    · refine lv_iconst (v := 1) hx hb dX4_movedTwice_35 (by decide) ?_
      refine lv_goto (tgt := 40) hx hb dX4_movedTwice_36 (by decide) ?_
      refine lv_istore_n (lv' := [(3, _), (2, _), (0, _), (1, _)]) C.1 C.2.1 dX4_movedTwice_40 rfl hl (by decide) rfl (fun ls hl => ?_)
      refine lv_aload_n hx hb dX4_movedTwice_41 rfl (lv_at hl 2 rfl) ?_
      refine r_get_25 C w dX4_movedTwice_42 ?_
      refine lv_bipush (v := 31) hx hb dX4_movedTwice_45 (by decide) ?_
      refine lv_iload_n hx hb dX4_movedTwice_47 rfl (lv_at hl 3 rfl) ?_
      refine lv_imul hx hb dX4_movedTwice_48 ?_
      refine lv_topi (fun t_12 et_12 => ?_)
      refine lv_iload_n hx hb dX4_movedTwice_49 rfl (lv_at hl 1 rfl) ?_
      refine lv_iadd hx hb dX4_movedTwice_50 ?_
      refine lv_topi (fun t_13 et_13 => ?_)
      refine r_ld_25 C w (by rw [et_13, et_12]; exact gIx (c := 31) (N := 31) rfl (by decide) (ok.n31 hk) (vp_in_nI (by omega) (by omega))) dX4_movedTwice_51 ?_
      refine lv_topi (fun t_14 et_14 => ?_)
      refine lv_iload_n hx hb dX4_movedTwice_52 rfl (lv_at hl 0 rfl) ?_
      refine lv_if_eq (tgt := 60) hx hb dX4_movedTwice_53 (by decide) (fun c_53 => absurd c_53 (by decide)) (fun c_53 => ?_)
      refine lv_iconst (v := 1) hx hb dX4_movedTwice_56 (by decide) ?_
      refine lv_goto (tgt := 61) hx hb dX4_movedTwice_57 (by decide) ?_
      refine lv_iadd hx hb dX4_movedTwice_61 ?_
      refine lv_topi (fun t_15 et_15 => ?_)
      refine lv_iconst (v := 2) hx hb dX4_movedTwice_62 (by decide) ?_
      refine lv_icmp_lt (tgt := 68) hx hb dX4_movedTwice_63 (by decide) (fun c_63 => ?_) (fun c_63 => ?_)
      · obtain ⟨x_16, ex_16⟩ : ∃ y : Int32, y = (nI i) + 1 := ⟨_, rfl⟩
        refine lv_iinc (v := x_16) (lv' := [(2, _), (3, _), (0, _), (1, _)]) C.1 C.2.1 dX4_movedTwice_68 hl (k := 1) rfl (by rw [ex_16]; rfl) (by decide) rfl (fun ls hl => ?_)
        refine lv_goto (tgt := 2) hx hb dX4_movedTwice_71 (by decide) ?_
        subst et_15 et_14 et_13 et_12 et_6 et_5 et_4 et_3 et_2 et_1
        have hx2 : x_16 = nI (i + 1) := by rw [ex_16]; exact nI_1 i
        rw [hx2] at hl
        exact ih (i + 1) (by omega) (fun j hj => by by_cases h : j = i; (subst h; intro hm; unfold rMv at hm; first | (rw [if_pos c_32] at hm; exact absurd c_63 (Int32.not_lt.mpr hm)) | (rw [if_neg c_32] at hm; exact absurd c_63 (Int32.not_lt.mpr hm))); exact hI j (by omega)) ls (lv_sub hl [0, 2, 3] rfl)
      · exact kx i hi (by subst et_15 et_14 et_13 et_12 et_6 et_5 et_4 et_3 et_2 et_1; unfold rMv; first | (rw [if_pos c_32]; exact Int32.not_lt.mp c_63) | (rw [if_neg c_32]; exact Int32.not_lt.mp c_63)) hI ls (lv_sub hl [1, 2, 3] rfl)
set_option maxHeartbeats 4000000 in
set_option maxRecDepth 100000 in
theorem q_movedTwice (l : Launch) (D : va_G) (cI cZ cN cO : ClassId) (A : Nat → Prop) (mm : Nat) (d : Nat → Nat) (n : Nat) (σ : RS) (k : Int32) (ok : rOK n σ) (hk : vp_in k n) : Met l yX4_movedTwice (.code yX4_movedTwice cX4_movedTwice 4 (some .int) :: gw) ({ frames := 0, cells := 0, slots := 0, locals := 0 }) (va_Pc (.ref mm :: [.int k]) (rH D cI cZ cN cO A mm d σ)) (vp_Si (fun r => (∃ i, i < n ∧ r = nI i ∧ rMv k σ i ∧ ∀ j, j < i → ¬ rMv k σ j) ∨ (r = -1 ∧ ∀ j, j < n → ¬ rMv k σ j))) 0 0 (fun _ => False) := by
  refine Met.ofW (cc := cX4_movedTwice) (maxL := 4) (ret := (some .int)) (by decide) rfl ?_
  intro p e s m args below meth c s₁ B hml hv
  obtain ⟨rfl, hP, hK, hD⟩ := hv
  have hx := B.exec
  have hb := B.bytes
  have hr := B.returns
  have hts := atoms_spec (ws := (.code yX4_movedTwice cX4_movedTwice 4 (some .int) :: gw)) B.pre
  have hg : ∀ w ∈ gw, w.before _ s = true := fun w h => hts w (List.mem_cons_of_mem _ h)
  have hown : s.vm.findClass RX4 = some m.cls := findClass_of_methodNamed B.named
  have hlocks := B.notSynchronized
  have C : Cx p c cX4_movedTwice s m _ RX4 D (gTy cI cZ cN cO) := ⟨hx, hb, hown, hg, hK⟩
  have w : rWd D cI cZ A s.heap mm d σ s.heap [] := ⟨hP, hD, va_S.rf⟩
  have hl := lv_entry ([.ref mm, .int k]) (n := 4) (Nat.le_of_ble_eq_true rfl)
  rw [lg_entry_eq]
  generalize (lg_sl ([.ref mm, .int k]) ++ List.replicate (4 - (lg_sl ([.ref mm, .int k])).length) Slot.unset).toArray = ls at hl ⊢
  have hl : lv_has ls 4 [(0, .ref mm), (1, .int k)] := hl
  refine lv_iconst (v := 0) hx hb dX4_movedTwice_0 (by decide) ?_
  refine lv_istore_n (lv' := [(2, _), (0, _), (1, _)]) C.1 C.2.1 dX4_movedTwice_1 rfl hl (by decide) rfl (fun ls hl => ?_)
  rw [← nI_0] at hl
  have hn9 := ok.2.1
  refine ql_movedTwice C hml w ok hk ?_ ?_ n 0 (by omega) (fun j hj => absurd hj (Nat.not_lt_zero j)) ls (lv_sub hl [0, 1, 2] rfl)
  · intro hI ls hl
    refine lv_iconst (v := (-1)) hx hb dX4_movedTwice_74 (by decide) ?_
    exact W.iret hx hb hr (fun t ht hW => ⟨_, rfl, Or.inr ⟨rfl, hI⟩, ht⟩) (fun _ h => by cases h) dX4_movedTwice_75
  · intro i hi hc hI ls hl
    refine lv_iload_n hx hb dX4_movedTwice_66 rfl (lv_at hl 0 rfl) ?_
    exact W.iret hx hb hr (fun t ht hW => ⟨_, rfl, Or.inl ⟨i, hi, rfl, hc, hI⟩, ht⟩) (fun _ h => by cases h) dX4_movedTwice_67
theorem nI_nm1 {i : Nat} (h : i < 2 ^ 31) : ¬ nI i = -1 := by
  intro q
  have := nI_pos h
  rw [q] at this
  exact this (by decide)
set_option maxHeartbeats 4000000 in
set_option maxRecDepth 100000 in
theorem q_isSeen (l : Launch) (D : va_G) (cI cZ cN cO : ClassId) (A : Nat → Prop) (mm : Nat) (d : Nat → Nat) (n : Nat) (σ : RS) (k : Int32) (ok : rOK n σ) (hk : vp_in k n) : Met l yX4_isSeen (.code yX4_isSeen cX4_isSeen 2 (some .boolean) :: gw) ({ frames := 1, cells := 0, slots := 0, locals := 23 }) (va_Pc (.ref mm :: [.int k]) (rH D cI cZ cN cO A mm d σ)) (vp_Si (fun r => (r = 1 ∧ rSeen n k σ) ∨ (r = 0 ∧ ¬ rSeen n k σ))) 0 0 (fun _ => False) := by
  refine Met.ofW (cc := cX4_isSeen) (maxL := 2) (ret := (some .boolean)) (by decide) rfl ?_
  intro p e s m args below meth c s₁ B hml hv
  obtain ⟨rfl, hP, hK, hD⟩ := hv
  have hx := B.exec
  have hb := B.bytes
  have hr := B.returns
  have hts := atoms_spec (ws := (.code yX4_isSeen cX4_isSeen 2 (some .boolean) :: gw)) B.pre
  have hg : ∀ w ∈ gw, w.before _ s = true := fun w h => hts w (List.mem_cons_of_mem _ h)
  have hown : s.vm.findClass RX4 = some m.cls := findClass_of_methodNamed B.named
  have hlocks := B.notSynchronized
  have C : Cx p c cX4_isSeen s m _ RX4 D (gTy cI cZ cN cO) := ⟨hx, hb, hown, hg, hK⟩
  have w : rWd D cI cZ A s.heap mm d σ s.heap [] := ⟨hP, hD, va_S.rf⟩
  have hl := lv_entry ([.ref mm, .int k]) (n := 2) (Nat.le_of_ble_eq_true rfl)
  rw [lg_entry_eq]
  generalize (lg_sl ([.ref mm, .int k]) ++ List.replicate (2 - (lg_sl ([.ref mm, .int k])).length) Slot.unset).toArray = ls at hl ⊢
  have hl : lv_has ls 2 [(0, .ref mm), (1, .int k)] := hl
  refine lv_aload_n hx hb dX4_isSeen_0 rfl (lv_at hl 0 rfl) ?_
  refine r_get_24 C w dX4_isSeen_1 ?_
  refine lv_iload_n hx hb dX4_isSeen_4 rfl (lv_at hl 1 rfl) ?_
  refine r_ld_24 C w (ok.n31 hk) dX4_isSeen_5 ?_
  refine lv_topi (fun t_1 et_1 => ?_)
  refine lv_if_eq (tgt := 30) hx hb dX4_isSeen_6 (by decide) (fun c_6 => ?_) (fun c_6 => ?_)
  · refine lv_iconst (v := 0) hx hb dX4_isSeen_30 (by decide) ?_
    exact W.zret (v := 0) (ty := .boolean) hx hb hr rfl (fun t ht hW => ⟨_, rfl, (by first | exact Or.inr ⟨rfl, fun h => h.1 (by rw [← et_1]; assumption)⟩ | (rcases hr_2 with ⟨q1, q2⟩ | ⟨q1, q2⟩; (exact Or.inl ⟨rfl, fun z => c_6 (by rw [et_1]; exact z), Or.inl q2⟩); (exact absurd q1 c_14)) | (rcases hr_2 with ⟨q1, q2⟩ | ⟨q1, q2⟩; (rw [q1] at c_14; exact absurd c_14 (by decide)); (rcases hr_3 with ⟨i, h1, h2, h3, h4⟩ | ⟨h1, h2⟩; (first | exact Or.inl ⟨rfl, fun z => c_6 (by rw [et_1]; exact z), Or.inr ⟨i, h1, h3⟩⟩ | exact absurd (h2.symm.trans c_23) (nI_nm1 (by have := ok.2.1; omega))); (first | exact absurd h1 c_23 | exact Or.inr ⟨rfl, fun h => h.2.elim q2 (fun ⟨i, hi, hm⟩ => h2 i hi hm)⟩)))), ht⟩) (fun _ h => by cases h) dX4_isSeen_31
  · refine lv_aload_n hx hb dX4_isSeen_9 rfl (lv_at hl 0 rfl) ?_
    refine lv_iload_n hx hb dX4_isSeen_10 rfl (lv_at hl 1 rfl) ?_
    refine r_callp (As := [.int k]) (rest := []) C w hml hl.1 (q_isSame l D cI cZ cN cO A mm d n _ k ok hk) kM_X4_149 kI_X4_isSame kS_X4_isSame kD_X4_isSame (show yX4_isSame.cls = RX4 ∧ yX4_isSame.cls ≠ "java/lang/invoke/MethodHandle" ∧ yX4_isSame.cls ≠ "java/lang/invoke/VarHandle" ∧ (parseMethodDescriptor yX4_isSame.desc).map (fun d => d.parameters.length) = some 1 from by decide +kernel) rfl rfl ⟨Nat.le_of_ble_eq_true rfl, Nat.le_of_ble_eq_true rfl⟩ rfl (lv_room (Nat.le_of_ble_eq_true rfl)) dX4_isSeen_11 ⟨Nat.zero_le _, Nat.zero_le _⟩ (fun r_2 hr_2 => ?_)
    refine lv_if_ne (tgt := 26) hx hb dX4_isSeen_14 (by decide) (fun c_14 => ?_) (fun c_14 => ?_)
    · refine lv_iconst (v := 1) hx hb dX4_isSeen_26 (by decide) ?_
      refine lv_goto (tgt := 31) hx hb dX4_isSeen_27 (by decide) ?_
      exact W.zret (v := 1) (ty := .boolean) hx hb hr rfl (fun t ht hW => ⟨_, rfl, (by first | exact Or.inr ⟨rfl, fun h => h.1 (by rw [← et_1]; assumption)⟩ | (rcases hr_2 with ⟨q1, q2⟩ | ⟨q1, q2⟩; (exact Or.inl ⟨rfl, fun z => c_6 (by rw [et_1]; exact z), Or.inl q2⟩); (exact absurd q1 c_14)) | (rcases hr_2 with ⟨q1, q2⟩ | ⟨q1, q2⟩; (rw [q1] at c_14; exact absurd c_14 (by decide)); (rcases hr_3 with ⟨i, h1, h2, h3, h4⟩ | ⟨h1, h2⟩; (first | exact Or.inl ⟨rfl, fun z => c_6 (by rw [et_1]; exact z), Or.inr ⟨i, h1, h3⟩⟩ | exact absurd (h2.symm.trans c_23) (nI_nm1 (by have := ok.2.1; omega))); (first | exact absurd h1 c_23 | exact Or.inr ⟨rfl, fun h => h.2.elim q2 (fun ⟨i, hi, hm⟩ => h2 i hi hm)⟩)))), ht⟩) (fun _ h => by cases h) dX4_isSeen_31
    · refine lv_aload_n hx hb dX4_isSeen_17 rfl (lv_at hl 0 rfl) ?_
      refine lv_iload_n hx hb dX4_isSeen_18 rfl (lv_at hl 1 rfl) ?_
      refine r_callp (As := [.int k]) (rest := []) C w hml hl.1 (q_movedTwice l D cI cZ cN cO A mm d n _ k ok hk) kM_X4_152 kI_X4_movedTwice kS_X4_movedTwice kD_X4_movedTwice (show yX4_movedTwice.cls = RX4 ∧ yX4_movedTwice.cls ≠ "java/lang/invoke/MethodHandle" ∧ yX4_movedTwice.cls ≠ "java/lang/invoke/VarHandle" ∧ (parseMethodDescriptor yX4_movedTwice.desc).map (fun d => d.parameters.length) = some 1 from by decide +kernel) rfl rfl ⟨Nat.le_of_ble_eq_true rfl, Nat.le_of_ble_eq_true rfl⟩ rfl (lv_room (Nat.le_of_ble_eq_true rfl)) dX4_isSeen_19 ⟨Nat.zero_le _, Nat.zero_le _⟩ (fun r_3 hr_3 => ?_)
      refine lv_iconst (v := (-1)) hx hb dX4_isSeen_22 (by decide) ?_
      refine lv_icmp_eq (tgt := 30) hx hb dX4_isSeen_23 (by decide) (fun c_23 => ?_) (fun c_23 => ?_)
      · refine lv_iconst (v := 0) hx hb dX4_isSeen_30 (by decide) ?_
        exact W.zret (v := 0) (ty := .boolean) hx hb hr rfl (fun t ht hW => ⟨_, rfl, (by first | exact Or.inr ⟨rfl, fun h => h.1 (by rw [← et_1]; assumption)⟩ | (rcases hr_2 with ⟨q1, q2⟩ | ⟨q1, q2⟩; (exact Or.inl ⟨rfl, fun z => c_6 (by rw [et_1]; exact z), Or.inl q2⟩); (exact absurd q1 c_14)) | (rcases hr_2 with ⟨q1, q2⟩ | ⟨q1, q2⟩; (rw [q1] at c_14; exact absurd c_14 (by decide)); (rcases hr_3 with ⟨i, h1, h2, h3, h4⟩ | ⟨h1, h2⟩; (first | exact Or.inl ⟨rfl, fun z => c_6 (by rw [et_1]; exact z), Or.inr ⟨i, h1, h3⟩⟩ | exact absurd (h2.symm.trans c_23) (nI_nm1 (by have := ok.2.1; omega))); (first | exact absurd h1 c_23 | exact Or.inr ⟨rfl, fun h => h.2.elim q2 (fun ⟨i, hi, hm⟩ => h2 i hi hm)⟩)))), ht⟩) (fun _ h => by cases h) dX4_isSeen_31
      · refine lv_iconst (v := 1) hx hb dX4_isSeen_26 (by decide) ?_
        refine lv_goto (tgt := 31) hx hb dX4_isSeen_27 (by decide) ?_
        exact W.zret (v := 1) (ty := .boolean) hx hb hr rfl (fun t ht hW => ⟨_, rfl, (by first | exact Or.inr ⟨rfl, fun h => h.1 (by rw [← et_1]; assumption)⟩ | (rcases hr_2 with ⟨q1, q2⟩ | ⟨q1, q2⟩; (exact Or.inl ⟨rfl, fun z => c_6 (by rw [et_1]; exact z), Or.inl q2⟩); (exact absurd q1 c_14)) | (rcases hr_2 with ⟨q1, q2⟩ | ⟨q1, q2⟩; (rw [q1] at c_14; exact absurd c_14 (by decide)); (rcases hr_3 with ⟨i, h1, h2, h3, h4⟩ | ⟨h1, h2⟩; (first | exact Or.inl ⟨rfl, fun z => c_6 (by rw [et_1]; exact z), Or.inr ⟨i, h1, h3⟩⟩ | exact absurd (h2.symm.trans c_23) (nI_nm1 (by have := ok.2.1; omega))); (first | exact absurd h1 c_23 | exact Or.inr ⟨rfl, fun h => h.2.elim q2 (fun ⟨i, hi, hm⟩ => h2 i hi hm)⟩)))), ht⟩) (fun _ h => by cases h) dX4_isSeen_31
set_option maxHeartbeats 4000000 in
set_option maxRecDepth 100000 in
theorem q_ends (l : Launch) (D : va_G) (cI cZ cN cO : ClassId) (A : Nat → Prop) (mm : Nat) (d : Nat → Nat) (n : Nat) (σ : RS) (k : Int32) (ok : rOK n σ) (hk : vp_in k n) : Met l yX4_ends (.code yX4_ends cX4_ends 2 none :: gw) ({ frames := 0, cells := 0, slots := 0, locals := 0 }) (va_Pc (.ref mm :: [.int k]) (rH D cI cZ cN cO A mm d σ)) (va_Qv (fun _ : Unit => True) (fun _ t => rH D cI cZ cN cO A mm d (rEnds k σ) t ∧ rOK n (rEnds k σ)) A) 0 0 A := by
  refine Met.ofW (cc := cX4_ends) (maxL := 2) (ret := none) (by decide) rfl ?_
  intro p e s m args below meth c s₁ B hml hv
  obtain ⟨rfl, hP, hK, hD⟩ := hv
  have hx := B.exec
  have hb := B.bytes
  have hr := B.returns
  have hts := atoms_spec (ws := (.code yX4_ends cX4_ends 2 none :: gw)) B.pre
  have hg : ∀ w ∈ gw, w.before _ s = true := fun w h => hts w (List.mem_cons_of_mem _ h)
  have hown : s.vm.findClass RX4 = some m.cls := findClass_of_methodNamed B.named
  have hlocks := B.notSynchronized
  have C : Cx p c cX4_ends s m _ RX4 D (gTy cI cZ cN cO) := ⟨hx, hb, hown, hg, hK⟩
  have w : rWd D cI cZ A s.heap mm d σ s.heap [] := ⟨hP, hD, va_S.rf⟩
  have hl := lv_entry ([.ref mm, .int k]) (n := 2) (Nat.le_of_ble_eq_true rfl)
  rw [lg_entry_eq]
  generalize (lg_sl ([.ref mm, .int k]) ++ List.replicate (2 - (lg_sl ([.ref mm, .int k])).length) Slot.unset).toArray = ls at hl ⊢
  have hl : lv_has ls 2 [(0, .ref mm), (1, .int k)] := hl
  refine lv_aload_n hx hb dX4_ends_0 rfl (lv_at hl 0 rfl) ?_
  refine r_get_31 C w dX4_ends_1 ?_
  refine lv_aload_n hx hb dX4_ends_4 rfl (lv_at hl 0 rfl) ?_
  refine r_get_16 C w dX4_ends_5 ?_
  refine lv_iload_n hx hb dX4_ends_8 rfl (lv_at hl 1 rfl) ?_
  refine r_ld_16 C w (ok.n31 hk) dX4_ends_9 ?_
  refine lv_topi (fun t_1 et_1 => ?_)
  refine lv_aload_n hx hb dX4_ends_10 rfl (lv_at hl 0 rfl) ?_
  refine r_get_12 C w dX4_ends_11 ?_
  refine lv_topi (fun t_2 et_2 => ?_)
  refine r_st_31 C w (show vp_in t_1 512 from by rw [et_1]; exact ok.at 16 rfl _) dX4_ends_14 (fun H locs w => ?_)
  have ok : rOK n _ := rOK.st ok (k := 31) (i := t_1.toNatClampNeg) (v := t_2) (fun b hb => by cases hb)
  refine lv_aload_n hx hb dX4_ends_15 rfl (lv_at hl 0 rfl) ?_
  refine r_get_14 C w dX4_ends_16 ?_
  refine lv_iload_n hx hb dX4_ends_19 rfl (lv_at hl 1 rfl) ?_
  refine lv_iconst (v := 0) hx hb dX4_ends_20 (by decide) ?_
  refine r_st_14 C w (ok.n31 hk) dX4_ends_21 (fun H locs w => ?_)
  have ok : rOK n _ := rOK.st ok (k := 14) (i := k.toNatClampNeg) (v := 0) (fun b hb => by cases hb)
  refine lv_aload_n hx hb dX4_ends_22 rfl (lv_at hl 0 rfl) ?_
  refine r_get_17 C w dX4_ends_23 ?_
  refine lv_iload_n hx hb dX4_ends_26 rfl (lv_at hl 1 rfl) ?_
  refine lv_iconst (v := 0) hx hb dX4_ends_27 (by decide) ?_
  refine r_st_17 C w (ok.n31 hk) dX4_ends_28 (fun H locs w => ?_)
  have ok : rOK n _ := rOK.st ok (k := 17) (i := k.toNatClampNeg) (v := 0) (fun b hb => by cases hb)
  refine lv_aload_n hx hb dX4_ends_29 rfl (lv_at hl 0 rfl) ?_
  refine r_get_16 C w dX4_ends_30 ?_
  refine lv_iload_n hx hb dX4_ends_33 rfl (lv_at hl 1 rfl) ?_
  refine lv_iconst (v := 0) hx hb dX4_ends_34 (by decide) ?_
  refine r_st_16 C w (ok.n31 hk) dX4_ends_35 (fun H locs w => ?_)
  have ok : rOK n _ := rOK.st ok (k := 16) (i := k.toNatClampNeg) (v := 0) (fun b hb => by cases hb; exact (by unfold vp_in; decide +kernel))
  subst et_2 et_1
  exact W.vret hx hb hr (fun t ht hW => ⟨⟨(), rfl, trivial, ⟨by rw [ht]; exact w.1, va_K.moved hW.alike hK, w.2.1⟩, ok⟩, w.2.2.F ht⟩) w.2.2.2.2 dX4_ends_36
/-- slot s counts for its receiver -/
def rCnt (x : Int32) (σ : RS) : Prop := σ.2 13 (σ.2 4 x.toNatClampNeg).toNatClampNeg = 0 ∧ σ.2 5 x.toNatClampNeg = σ.2 15 (σ.2 4 x.toNatClampNeg).toNatClampNeg ∧ ((σ.2 2 x.toNatClampNeg = 1 ∧ σ.2 14 (σ.2 4 x.toNatClampNeg).toNatClampNeg = 1) ∨ (¬ σ.2 2 x.toNatClampNeg = 1 ∧ (σ.2 14 (σ.2 4 x.toNatClampNeg).toNatClampNeg = 2 ∨ σ.2 14 (σ.2 4 x.toNatClampNeg).toNatClampNeg = 3)))
set_option maxHeartbeats 4000000 in
set_option maxRecDepth 100000 in
theorem q_counts (l : Launch) (D : va_G) (cI cZ cN cO : ClassId) (A : Nat → Prop) (mm : Nat) (d : Nat → Nat) (n : Nat) (σ : RS) (x : Int32) (ok : rOK n σ) (hx1 : vp_in x 2001) : Met l yX4_counts (.code yX4_counts cX4_counts 3 (some .boolean) :: gw) ({ frames := 0, cells := 0, slots := 0, locals := 0 }) (va_Pc (.ref mm :: [.int x]) (rH D cI cZ cN cO A mm d σ)) (vp_Si (fun r => (r = 1 ∧ rCnt x σ) ∨ (r = 0 ∧ ¬ rCnt x σ))) 0 0 (fun _ => False) := by
  refine Met.ofW (cc := cX4_counts) (maxL := 3) (ret := (some .boolean)) (by decide) rfl ?_
  intro p e s m args below meth c s₁ B hml hv
  obtain ⟨rfl, hP, hK, hD⟩ := hv
  have hx := B.exec
  have hb := B.bytes
  have hr := B.returns
  have hts := atoms_spec (ws := (.code yX4_counts cX4_counts 3 (some .boolean) :: gw)) B.pre
  have hg : ∀ w ∈ gw, w.before _ s = true := fun w h => hts w (List.mem_cons_of_mem _ h)
  have hown : s.vm.findClass RX4 = some m.cls := findClass_of_methodNamed B.named
  have hlocks := B.notSynchronized
  have C : Cx p c cX4_counts s m _ RX4 D (gTy cI cZ cN cO) := ⟨hx, hb, hown, hg, hK⟩
  have w : rWd D cI cZ A s.heap mm d σ s.heap [] := ⟨hP, hD, va_S.rf⟩
  have hl := lv_entry ([.ref mm, .int x]) (n := 3) (Nat.le_of_ble_eq_true rfl)
  rw [lg_entry_eq]
  generalize (lg_sl ([.ref mm, .int x]) ++ List.replicate (3 - (lg_sl ([.ref mm, .int x])).length) Slot.unset).toArray = ls at hl ⊢
  have hl : lv_has ls 3 [(0, .ref mm), (1, .int x)] := hl
  refine lv_aload_n hx hb dX4_counts_0 rfl (lv_at hl 0 rfl) ?_
  refine r_get_4 C w dX4_counts_1 ?_
  refine lv_iload_n hx hb dX4_counts_4 rfl (lv_at hl 1 rfl) ?_
  refine r_ld_4 C w hx1 dX4_counts_5 ?_
  refine lv_topi (fun t_1 et_1 => ?_)
  refine lv_istore_n (lv' := [(2, _), (0, _), (1, _)]) C.1 C.2.1 dX4_counts_6 rfl hl (by decide) rfl (fun ls hl => ?_)
  refine lv_aload_n hx hb dX4_counts_7 rfl (lv_at hl 1 rfl) ?_
  refine r_get_13 C w dX4_counts_8 ?_
  refine lv_iload_n hx hb dX4_counts_11 rfl (lv_at hl 0 rfl) ?_
  refine r_ld_13 C w (ok.n31 (show vp_in t_1 n from by rw [et_1]; exact ok.at 4 rfl _)) dX4_counts_12 ?_
  refine lv_topi (fun t_2 et_2 => ?_)
  refine lv_if_ne (tgt := 31) hx hb dX4_counts_13 (by decide) (fun c_13 => ?_) (fun c_13 => ?_)
  · refine lv_iconst (v := 0) hx hb dX4_counts_31 (by decide) ?_
    subst et_2 et_1
    exact W.zret (v := 0) (ty := .boolean) hx hb hr rfl (fun t ht hW => ⟨_, rfl, (by unfold rCnt; first | exact Or.inl ⟨rfl, by simp_all⟩ | exact Or.inr ⟨rfl, by simp_all⟩), ht⟩) (fun _ h => by cases h) dX4_counts_32
  · refine lv_aload_n hx hb dX4_counts_16 rfl (lv_at hl 1 rfl) ?_
    refine r_get_5 C w dX4_counts_17 ?_
    refine lv_iload_n hx hb dX4_counts_20 rfl (lv_at hl 2 rfl) ?_
    refine r_ld_5 C w hx1 dX4_counts_21 ?_
    refine lv_topi (fun t_3 et_3 => ?_)
    refine lv_aload_n hx hb dX4_counts_22 rfl (lv_at hl 1 rfl) ?_
    refine r_get_15 C w dX4_counts_23 ?_
    refine lv_iload_n hx hb dX4_counts_26 rfl (lv_at hl 0 rfl) ?_
    refine r_ld_15 C w (ok.n31 (show vp_in t_1 n from by rw [et_1]; exact ok.at 4 rfl _)) dX4_counts_27 ?_
    refine lv_topi (fun t_4 et_4 => ?_)
    refine lv_icmp_eq (tgt := 33) hx hb dX4_counts_28 (by decide) (fun c_28 => ?_) (fun c_28 => ?_)
    · refine lv_aload_n hx hb dX4_counts_33 rfl (lv_at hl 1 rfl) ?_
      refine r_get_2 C w dX4_counts_34 ?_
      refine lv_iload_n hx hb dX4_counts_37 rfl (lv_at hl 2 rfl) ?_
      refine r_ld_2 C w hx1 dX4_counts_38 ?_
      refine lv_topi (fun t_5 et_5 => ?_)
      refine lv_iconst (v := 1) hx hb dX4_counts_39 (by decide) ?_
      refine lv_icmp_ne (tgt := 61) hx hb dX4_counts_40 (by decide) (fun c_40 => ?_) (fun c_40 => ?_)
      · refine lv_aload_n hx hb dX4_counts_61 rfl (lv_at hl 1 rfl) ?_
        refine r_get_14 C w dX4_counts_62 ?_
        refine lv_iload_n hx hb dX4_counts_65 rfl (lv_at hl 0 rfl) ?_
        refine r_ld_14 C w (ok.n31 (show vp_in t_1 n from by rw [et_1]; exact ok.at 4 rfl _)) dX4_counts_66 ?_
        refine lv_topi (fun t_6 et_6 => ?_)
        refine lv_iconst (v := 2) hx hb dX4_counts_67 (by decide) ?_
        refine lv_icmp_eq (tgt := 81) hx hb dX4_counts_68 (by decide) (fun c_68 => ?_) (fun c_68 => ?_)
        · refine lv_iconst (v := 1) hx hb dX4_counts_81 (by decide) ?_
          refine lv_goto (tgt := 86) hx hb dX4_counts_82 (by decide) ?_
          subst et_6 et_5 et_4 et_3 et_2 et_1
          exact W.zret (v := 1) (ty := .boolean) hx hb hr rfl (fun t ht hW => ⟨_, rfl, (by unfold rCnt; first | exact Or.inl ⟨rfl, by simp_all⟩ | exact Or.inr ⟨rfl, by simp_all⟩), ht⟩) (fun _ h => by cases h) dX4_counts_86
        · refine lv_aload_n hx hb dX4_counts_71 rfl (lv_at hl 1 rfl) ?_
          refine r_get_14 C w dX4_counts_72 ?_
          refine lv_iload_n hx hb dX4_counts_75 rfl (lv_at hl 0 rfl) ?_
          refine r_ld_14 C w (ok.n31 (show vp_in t_1 n from by rw [et_1]; exact ok.at 4 rfl _)) dX4_counts_76 ?_
          refine lv_topi (fun t_7 et_7 => ?_)
          refine lv_iconst (v := 3) hx hb dX4_counts_77 (by decide) ?_
          refine lv_icmp_ne (tgt := 85) hx hb dX4_counts_78 (by decide) (fun c_78 => ?_) (fun c_78 => ?_)
          · refine lv_iconst (v := 0) hx hb dX4_counts_85 (by decide) ?_
            subst et_7 et_6 et_5 et_4 et_3 et_2 et_1
            exact W.zret (v := 0) (ty := .boolean) hx hb hr rfl (fun t ht hW => ⟨_, rfl, (by unfold rCnt; first | exact Or.inl ⟨rfl, by simp_all⟩ | exact Or.inr ⟨rfl, by simp_all⟩), ht⟩) (fun _ h => by cases h) dX4_counts_86
          · refine lv_iconst (v := 1) hx hb dX4_counts_81 (by decide) ?_
            refine lv_goto (tgt := 86) hx hb dX4_counts_82 (by decide) ?_
            subst et_7 et_6 et_5 et_4 et_3 et_2 et_1
            exact W.zret (v := 1) (ty := .boolean) hx hb hr rfl (fun t ht hW => ⟨_, rfl, (by unfold rCnt; first | exact Or.inl ⟨rfl, by simp_all⟩ | exact Or.inr ⟨rfl, by simp_all⟩), ht⟩) (fun _ h => by cases h) dX4_counts_86
      · refine lv_aload_n hx hb dX4_counts_43 rfl (lv_at hl 1 rfl) ?_
        refine r_get_14 C w dX4_counts_44 ?_
        refine lv_iload_n hx hb dX4_counts_47 rfl (lv_at hl 0 rfl) ?_
        refine r_ld_14 C w (ok.n31 (show vp_in t_1 n from by rw [et_1]; exact ok.at 4 rfl _)) dX4_counts_48 ?_
        refine lv_topi (fun t_8 et_8 => ?_)
        refine lv_iconst (v := 1) hx hb dX4_counts_49 (by decide) ?_
        refine lv_icmp_ne (tgt := 57) hx hb dX4_counts_50 (by decide) (fun c_50 => ?_) (fun c_50 => ?_)
        · refine lv_iconst (v := 0) hx hb dX4_counts_57 (by decide) ?_
          refine lv_goto (tgt := 86) hx hb dX4_counts_58 (by decide) ?_
          subst et_8 et_5 et_4 et_3 et_2 et_1
          exact W.zret (v := 0) (ty := .boolean) hx hb hr rfl (fun t ht hW => ⟨_, rfl, (by unfold rCnt; first | exact Or.inl ⟨rfl, by simp_all⟩ | exact Or.inr ⟨rfl, by simp_all⟩), ht⟩) (fun _ h => by cases h) dX4_counts_86
        · refine lv_iconst (v := 1) hx hb dX4_counts_53 (by decide) ?_
          refine lv_goto (tgt := 86) hx hb dX4_counts_54 (by decide) ?_
          subst et_8 et_5 et_4 et_3 et_2 et_1
          exact W.zret (v := 1) (ty := .boolean) hx hb hr rfl (fun t ht hW => ⟨_, rfl, (by unfold rCnt; first | exact Or.inl ⟨rfl, by simp_all⟩ | exact Or.inr ⟨rfl, by simp_all⟩), ht⟩) (fun _ h => by cases h) dX4_counts_86
    · refine lv_iconst (v := 0) hx hb dX4_counts_31 (by decide) ?_
      subst et_4 et_3 et_2 et_1
      exact W.zret (v := 0) (ty := .boolean) hx hb hr rfl (fun t ht hW => ⟨_, rfl, (by unfold rCnt; first | exact Or.inl ⟨rfl, by simp_all⟩ | exact Or.inr ⟨rfl, by simp_all⟩), ht⟩) (fun _ h => by cases h) dX4_counts_32
