/-- a choice that nothing decides by running -/
noncomputable def cif {α : Type} (P : Prop) (a b : α) : α := @ite α P (Classical.propDecidable P) a b
theorem cif_pos {α : Type} {P : Prop} {a b : α} (h : P) : cif P a b = a := by unfold cif; exact if_pos h
theorem cif_neg {α : Type} {P : Prop} {a b : α} (h : ¬ P) : cif P a b = b := by unfold cif; exact if_neg h
/-- the least place with P from i on, i + f if there is none -/
noncomputable def lst (P : Nat → Prop) : Nat → Nat → Nat
  | 0, i => i
  | f + 1, i => cif (P i) i (lst P f (i + 1))
theorem lst_spec (P : Nat → Prop) : ∀ (f i : Nat), i ≤ lst P f i ∧ lst P f i ≤ i + f ∧ (∀ j, i ≤ j → j < lst P f i → ¬ P j) ∧ (lst P f i < i + f → P (lst P f i)) := by
  intro f
  induction f with
  | zero => intro i; exact ⟨Nat.le_refl _, Nat.le_refl _, fun j h1 h2 => absurd h2 (Nat.not_lt.mpr h1), fun h => absurd h (Nat.lt_irrefl _)⟩
  | succ f ih =>
    intro i
    unfold lst
    by_cases h : P i
    · rw [cif_pos h]; exact ⟨Nat.le_refl _, by omega, fun j h1 h2 => absurd h2 (Nat.not_lt.mpr h1), fun _ => h⟩
    · rw [cif_neg h]
      obtain ⟨h1, h2, h3, h4⟩ := ih (i + 1)
      refine ⟨by omega, by omega, fun j h5 h6 => ?_, fun h5 => h4 (by omega)⟩
      by_cases hj : j = i
      · subst hj; exact h
      · exact h3 j (by omega) h6
theorem lst_of {P : Nat → Prop} {n : Nat} (h : ∃ i, i < n ∧ P i) : lst P n 0 < n ∧ P (lst P n 0) ∧ ∀ i, i < lst P n 0 → ¬ P i := by
  obtain ⟨-, h2, h3, h4⟩ := lst_spec P n 0
  have hlt : lst P n 0 < n := by
    obtain ⟨i, hi, hp⟩ := h
    rcases Nat.lt_or_ge (lst P n 0) n with q | q
    · exact q
    · exact absurd hp (h3 i (Nat.zero_le _) (by omega))
  exact ⟨hlt, h4 (by omega), fun i hi => h3 i (Nat.zero_le _) hi⟩
def rStep (k : Int32) (i : Nat) (σ : RS) : RS := rA (rA σ 25 ((31 : Int32) * k + nI i).toNatClampNeg (σ.2 25 ((31 : Int32) * k + nI i).toNatClampNeg + (if σ.2 24 k.toNatClampNeg = 0 then 0 else if σ.2 23 ((31 : Int32) * k + nI i).toNatClampNeg = σ.2 22 ((31 : Int32) * k + nI i).toNatClampNeg then 0 else 1))) 23 ((31 : Int32) * k + nI i).toNatClampNeg (σ.2 22 ((31 : Int32) * k + nI i).toNatClampNeg)
def rThN (n : Nat) (k : Int32) (σ : RS) : RS := rCol n k (rA (itr (rStep k) n σ) 24 k.toNatClampNeg 1)
/-- the collect of NODE k is through -/
noncomputable def rThr (n : Nat) (k : Int32) (σ : RS) : RS := cif (rSeen n k σ) (cif (rSame n k σ) (cif (σ.2 27 (σ.2 16 k.toNatClampNeg).toNatClampNeg < 10) (rWr n k (σ.2 16 k.toNatClampNeg) (rTkS n k σ)) (rEnds k (rTkS n k σ))) (cif (σ.2 27 (σ.2 16 k.toNatClampNeg).toNatClampNeg < 10) (rWr n k (σ.2 16 k.toNatClampNeg) (rTkB n k (lst (rMv k σ) n 0) σ)) (rEnds k (rTkB n k (lst (rMv k σ) n 0) σ)))) (rThN n k σ)
/-- what it wants of the state, by its road -/
def rThOk (n : Nat) (k : Int32) (σ : RS) : Prop := (rSeen n k σ → ¬ rSame n k σ → ¬ σ.2 22 ((31 : Int32) * k + nI (lst (rMv k σ) n 0)).toNatClampNeg < 1) ∧ (rSeen n k σ → σ.2 27 (σ.2 16 k.toNatClampNeg).toNatClampNeg < 10 → vp_in (σ.2 19 k.toNatClampNeg + 1) 512 ∧ rRm σ n) ∧ (¬ rSeen n k σ → rRm σ n)
set_option maxHeartbeats 4000000 in
set_option maxRecDepth 100000 in
theorem ql_through {p : Program} {l : Launch} {e : Env} {R : Room} {s : State} {m : MethodId} {args : Array Value} {below : List Frame} {meth : Method} {c : Code} {cells slots : Nat} {Q : State → Prop} {D : va_G} {cI cZ cN cO : ClassId} {A : Nat → Prop} {H0 : Heap} {mm : Nat} {d : Nat → Nat} {n : Nat} (C : Cx p c cX4_through s m args RX4 D (gTy cI cZ cN cO)) (hml : c.maxLocals = 4) {σ : RS} {k : Int32} (hn : n ≤ 31) (hk : vp_in k n) (kk : ∀ (H : Heap) (locs : List Loc), rWd D cI cZ A H0 mm d (itr (rStep k) n σ) H locs → rOK n (itr (rStep k) n σ) → ∀ ls : Array Slot, lv_has ls 4 [(2, .int (nI n)), (0, .ref mm), (1, .int k)] → W p l e R s m args below meth c H locs cells slots Q (F0 m 87 ls [])) : ∀ (fu i : Nat), i + fu = n → ∀ (H : Heap) (locs : List Loc), rWd D cI cZ A H0 mm d (itr (rStep k) i σ) H locs → rOK n (itr (rStep k) i σ) → ∀ ls : Array Slot, lv_has ls 4 [(2, .int (nI i)), (0, .ref mm), (1, .int k)] → W p l e R s m args below meth c H locs cells slots Q (F0 m 16 ls []) := by
  intro fu
  induction fu with
  | zero =>
    intro i hik
    intro H locs w ok ls hl
    have hx := C.1
    have hb := C.2.1
    have hi : n = i := by omega
    subst hi
    refine lv_iload_n hx hb dX4_through_16 rfl (lv_at hl 0 rfl) ?_
    refine lv_aload_n hx hb dX4_through_17 rfl (lv_at hl 1 rfl) ?_
    refine r_get_0 C w dX4_through_18 ?_
    rw [ok.nn]
    refine lv_icmp_ge (tgt := 87) hx hb dX4_through_21 (by decide) (fun c_21 => ?_) (fun c_21 => absurd (Int32.le_refl _) c_21)
    exact kk _ _ w ok ls (lv_sub hl [0, 1, 2] rfl)
  | succ fu ih =>
    intro i hik
    intro H locs w ok ls hl
    have hx := C.1
    have hb := C.2.1
    have hi : i < n := by omega
    refine lv_iload_n hx hb dX4_through_16 rfl (lv_at hl 0 rfl) ?_
    refine lv_aload_n hx hb dX4_through_17 rfl (lv_at hl 1 rfl) ?_
    refine r_get_0 C w dX4_through_18 ?_
    rw [ok.nn]
    refine lv_icmp_ge (tgt := 87) hx hb dX4_through_21 (by decide) (fun c_21 => absurd c_21 (nI_ge hi (by omega))) (fun c_21 => ?_)
    refine lv_bipush (v := 31) hx hb dX4_through_24 (by decide) ?_
    refine lv_iload_n hx hb dX4_through_26 rfl (lv_at hl 2 rfl) ?_
    refine lv_imul hx hb dX4_through_27 ?_
    refine lv_topi (fun t_1 et_1 => ?_)
    refine lv_iload_n hx hb dX4_through_28 rfl (lv_at hl 0 rfl) ?_
    refine lv_iadd hx hb dX4_through_29 ?_
    refine lv_topi (fun t_2 et_2 => ?_)
    refine lv_istore_n (lv' := [(3, _), (2, _), (0, _), (1, _)]) C.1 C.2.1 dX4_through_30 rfl hl (by decide) rfl (fun ls hl => ?_)
    have hX : vp_in t_2 961 := (by rw [et_2, et_1]; exact gIx (c := 31) (N := 31) rfl (by decide) (ok.n31 hk) (vp_in_nI (by omega) (by omega)))
    refine lv_aload_n hx hb dX4_through_31 rfl (lv_at hl 2 rfl) ?_
    refine r_get_25 C w dX4_through_32 ?_
    refine lv_iload_n hx hb dX4_through_35 rfl (lv_at hl 0 rfl) ?_
    refine lv_dup2_11 hx hb dX4_through_36 rfl rfl ?_
    refine r_ld_25 C w hX dX4_through_37 ?_
    refine lv_topi (fun t_3 et_3 => ?_)
    refine lv_aload_n hx hb dX4_through_38 rfl (lv_at hl 2 rfl) ?_
    refine r_get_24 C w dX4_through_39 ?_
    refine lv_iload_n hx hb dX4_through_42 rfl (lv_at hl 3 rfl) ?_
    refine r_ld_24 C w (ok.n31 hk) dX4_through_43 ?_
    refine lv_topi (fun t_4 et_4 => ?_)
    refine lv_if_eq (tgt := 66) hx hb dX4_through_44 (by decide) (fun c_44 => ?_) (fun c_44 => ?_)
    · refine lv_iconst (v := 0) hx hb dX4_through_66 (by decide) ?_
      refine lv_iadd hx hb dX4_through_67 ?_
      refine lv_topi (fun t_5 et_5 => ?_)
      refine r_st_25 C w hX dX4_through_68 (fun H locs w => ?_)
      have ok : rOK n _ := rOK.st ok (k := 25) (i := t_2.toNatClampNeg) (v := t_5) (fun b hb => by cases hb)
      refine lv_aload_n hx hb dX4_through_69 rfl (lv_at hl 2 rfl) ?_
      refine r_get_23 C w dX4_through_70 ?_
      refine lv_iload_n hx hb dX4_through_73 rfl (lv_at hl 0 rfl) ?_
      refine lv_aload_n hx hb dX4_through_74 rfl (lv_at hl 2 rfl) ?_
      refine r_get_22 C w dX4_through_75 ?_
      refine lv_iload_n hx hb dX4_through_78 rfl (lv_at hl 0 rfl) ?_
      refine r_ld_22 C w hX dX4_through_79 ?_
      refine lv_topi (fun t_6 et_6 => ?_)
      refine r_st_23 C w hX dX4_through_80 (fun H locs w => ?_)
      have ok : rOK n _ := rOK.st ok (k := 23) (i := t_2.toNatClampNeg) (v := t_6) (fun b hb => by cases hb; rw [et_6]; exact ok.at 22 rfl _)
      obtain ⟨x_7, ex_7⟩ : ∃ y : Int32, y = (nI i) + 1 := ⟨_, rfl⟩
      refine lv_iinc (v := x_7) (lv' := [(2, _), (3, _), (0, _), (1, _)]) C.1 C.2.1 dX4_through_81 hl (k := 1) rfl (by rw [ex_7]; rfl) (by decide) rfl (fun ls hl => ?_)
      refine lv_goto (tgt := 16) hx hb dX4_through_84 (by decide) ?_
      subst et_6 et_5 et_4 et_3 et_2 et_1
      have w : rWd D cI cZ A H0 mm d (itr (rStep k) (i + 1) σ) H locs := by show rWd D cI cZ A H0 mm d (rA (rA _ 25 _ _) 23 _ _) H locs; first | (rw [if_pos c_44]; exact w) | (rw [if_neg c_44, if_pos c_59]; exact w) | (rw [if_neg c_44, if_neg c_59]; exact w)
      have ok : rOK n (itr (rStep k) (i + 1) σ) := by show rOK n (rA (rA _ 25 _ _) 23 _ _); first | (rw [if_pos c_44]; exact ok) | (rw [if_neg c_44, if_pos c_59]; exact ok) | (rw [if_neg c_44, if_neg c_59]; exact ok)
      have hx2 : x_7 = nI (i + 1) := by rw [ex_7]; exact nI_1 i
      rw [hx2] at hl
      exact ih (i + 1) (by omega) _ _ w ok ls (lv_sub hl [0, 2, 3] rfl)
    · refine lv_aload_n hx hb dX4_through_47 rfl (lv_at hl 2 rfl) ?_
      refine r_get_23 C w dX4_through_48 ?_
      refine lv_iload_n hx hb dX4_through_51 rfl (lv_at hl 0 rfl) ?_
      refine r_ld_23 C w hX dX4_through_52 ?_
      refine lv_topi (fun t_8 et_8 => ?_)
      refine lv_aload_n hx hb dX4_through_53 rfl (lv_at hl 2 rfl) ?_
      refine r_get_22 C w dX4_through_54 ?_
      refine lv_iload_n hx hb dX4_through_57 rfl (lv_at hl 0 rfl) ?_
      refine r_ld_22 C w hX dX4_through_58 ?_
      refine lv_topi (fun t_9 et_9 => ?_)
      refine lv_icmp_eq (tgt := 66) hx hb dX4_through_59 (by decide) (fun c_59 => ?_) (fun c_59 => ?_)
      · refine lv_iconst (v := 0) hx hb dX4_through_66 (by decide) ?_
        refine lv_iadd hx hb dX4_through_67 ?_
        refine lv_topi (fun t_10 et_10 => ?_)
        refine r_st_25 C w hX dX4_through_68 (fun H locs w => ?_)
        have ok : rOK n _ := rOK.st ok (k := 25) (i := t_2.toNatClampNeg) (v := t_10) (fun b hb => by cases hb)
        refine lv_aload_n hx hb dX4_through_69 rfl (lv_at hl 2 rfl) ?_
        refine r_get_23 C w dX4_through_70 ?_
        refine lv_iload_n hx hb dX4_through_73 rfl (lv_at hl 0 rfl) ?_
        refine lv_aload_n hx hb dX4_through_74 rfl (lv_at hl 2 rfl) ?_
        refine r_get_22 C w dX4_through_75 ?_
        refine lv_iload_n hx hb dX4_through_78 rfl (lv_at hl 0 rfl) ?_
        refine r_ld_22 C w hX dX4_through_79 ?_
        refine lv_topi (fun t_11 et_11 => ?_)
        refine r_st_23 C w hX dX4_through_80 (fun H locs w => ?_)
        have ok : rOK n _ := rOK.st ok (k := 23) (i := t_2.toNatClampNeg) (v := t_11) (fun b hb => by cases hb; rw [et_11]; exact ok.at 22 rfl _)
        obtain ⟨x_12, ex_12⟩ : ∃ y : Int32, y = (nI i) + 1 := ⟨_, rfl⟩
        refine lv_iinc (v := x_12) (lv' := [(2, _), (3, _), (0, _), (1, _)]) C.1 C.2.1 dX4_through_81 hl (k := 1) rfl (by rw [ex_12]; rfl) (by decide) rfl (fun ls hl => ?_)
        refine lv_goto (tgt := 16) hx hb dX4_through_84 (by decide) ?_
        subst et_11 et_10 et_9 et_8 et_4 et_3 et_2 et_1
        have w : rWd D cI cZ A H0 mm d (itr (rStep k) (i + 1) σ) H locs := by show rWd D cI cZ A H0 mm d (rA (rA _ 25 _ _) 23 _ _) H locs; first | (rw [if_pos c_44]; exact w) | (rw [if_neg c_44, if_pos c_59]; exact w) | (rw [if_neg c_44, if_neg c_59]; exact w)
        have ok : rOK n (itr (rStep k) (i + 1) σ) := by show rOK n (rA (rA _ 25 _ _) 23 _ _); first | (rw [if_pos c_44]; exact ok) | (rw [if_neg c_44, if_pos c_59]; exact ok) | (rw [if_neg c_44, if_neg c_59]; exact ok)
        have hx2 : x_12 = nI (i + 1) := by rw [ex_12]; exact nI_1 i
        rw [hx2] at hl
        exact ih (i + 1) (by omega) _ _ w ok ls (lv_sub hl [0, 2, 3] rfl)
      · refine lv_iconst (v := 1) hx hb dX4_through_62 (by decide) ?_
        refine lv_goto (tgt := 67) hx hb dX4_through_63 (by decide) ?_
        refine lv_iadd hx hb dX4_through_67 ?_
        refine lv_topi (fun t_13 et_13 => ?_)
        refine r_st_25 C w hX dX4_through_68 (fun H locs w => ?_)
        have ok : rOK n _ := rOK.st ok (k := 25) (i := t_2.toNatClampNeg) (v := t_13) (fun b hb => by cases hb)
        refine lv_aload_n hx hb dX4_through_69 rfl (lv_at hl 2 rfl) ?_
        refine r_get_23 C w dX4_through_70 ?_
        refine lv_iload_n hx hb dX4_through_73 rfl (lv_at hl 0 rfl) ?_
        refine lv_aload_n hx hb dX4_through_74 rfl (lv_at hl 2 rfl) ?_
        refine r_get_22 C w dX4_through_75 ?_
        refine lv_iload_n hx hb dX4_through_78 rfl (lv_at hl 0 rfl) ?_
        refine r_ld_22 C w hX dX4_through_79 ?_
        refine lv_topi (fun t_14 et_14 => ?_)
        refine r_st_23 C w hX dX4_through_80 (fun H locs w => ?_)
        have ok : rOK n _ := rOK.st ok (k := 23) (i := t_2.toNatClampNeg) (v := t_14) (fun b hb => by cases hb; rw [et_14]; exact ok.at 22 rfl _)
        obtain ⟨x_15, ex_15⟩ : ∃ y : Int32, y = (nI i) + 1 := ⟨_, rfl⟩
        refine lv_iinc (v := x_15) (lv' := [(2, _), (3, _), (0, _), (1, _)]) C.1 C.2.1 dX4_through_81 hl (k := 1) rfl (by rw [ex_15]; rfl) (by decide) rfl (fun ls hl => ?_)
        refine lv_goto (tgt := 16) hx hb dX4_through_84 (by decide) ?_
        subst et_14 et_13 et_9 et_8 et_4 et_3 et_2 et_1
        have w : rWd D cI cZ A H0 mm d (itr (rStep k) (i + 1) σ) H locs := by show rWd D cI cZ A H0 mm d (rA (rA _ 25 _ _) 23 _ _) H locs; first | (rw [if_pos c_44]; exact w) | (rw [if_neg c_44, if_pos c_59]; exact w) | (rw [if_neg c_44, if_neg c_59]; exact w)
        have ok : rOK n (itr (rStep k) (i + 1) σ) := by show rOK n (rA (rA _ 25 _ _) 23 _ _); first | (rw [if_pos c_44]; exact ok) | (rw [if_neg c_44, if_pos c_59]; exact ok) | (rw [if_neg c_44, if_neg c_59]; exact ok)
        have hx2 : x_15 = nI (i + 1) := by rw [ex_15]; exact nI_1 i
        rw [hx2] at hl
        exact ih (i + 1) (by omega) _ _ w ok ls (lv_sub hl [0, 2, 3] rfl)
set_option maxHeartbeats 4000000 in
set_option maxRecDepth 100000 in
theorem q_thN (l : Launch) (D : va_G) (cI cZ cN cO : ClassId) (A : Nat → Prop) (mm : Nat) (d : Nat → Nat) (n : Nat) (σ : RS) (k : Int32) (ok : rOK n σ) (hk : vp_in k n) (hs : ¬ rSeen n k σ) (hrm : rRm σ n) : Met l yX4_through (.code yX4_through cX4_through 4 none :: gw) ({ frames := 3, cells := 0, slots := 0, locals := 76 }) (va_Pc (.ref mm :: [.int k]) (rH D cI cZ cN cO A mm d σ)) (va_Qv (fun _ : Unit => True) (fun _ t => rH D cI cZ cN cO A mm d (rThN n k σ) t ∧ rOK n (rThN n k σ)) A) 0 0 A := by
  refine Met.ofW (cc := cX4_through) (maxL := 4) (ret := none) (by decide) rfl ?_
  intro p e s m args below meth c s₁ B hml hv
  obtain ⟨rfl, hP, hK, hD⟩ := hv
  have hx := B.exec
  have hb := B.bytes
  have hr := B.returns
  have hts := atoms_spec (ws := (.code yX4_through cX4_through 4 none :: gw)) B.pre
  have hg : ∀ w ∈ gw, w.before _ s = true := fun w h => hts w (List.mem_cons_of_mem _ h)
  have hown : s.vm.findClass RX4 = some m.cls := findClass_of_methodNamed B.named
  have hlocks := B.notSynchronized
  have C : Cx p c cX4_through s m _ RX4 D (gTy cI cZ cN cO) := ⟨hx, hb, hown, hg, hK⟩
  have w : rWd D cI cZ A s.heap mm d σ s.heap [] := ⟨hP, hD, va_S.rf⟩
  have hl := lv_entry ([.ref mm, .int k]) (n := 4) (Nat.le_of_ble_eq_true rfl)
  rw [lg_entry_eq]
  generalize (lg_sl ([.ref mm, .int k]) ++ List.replicate (4 - (lg_sl ([.ref mm, .int k])).length) Slot.unset).toArray = ls at hl ⊢
  have hl : lv_has ls 4 [(0, .ref mm), (1, .int k)] := hl
  refine lv_aload_n hx hb dX4_through_0 rfl (lv_at hl 0 rfl) ?_
  refine lv_iload_n hx hb dX4_through_1 rfl (lv_at hl 1 rfl) ?_
  refine r_callp (As := [.int k]) (rest := []) C w hml hl.1 (q_isSeen l D cI cZ cN cO A mm d n _ k ok hk) kM_X4_165 kI_X4_isSeen kS_X4_isSeen kD_X4_isSeen (show yX4_isSeen.cls = RX4 ∧ yX4_isSeen.cls ≠ "java/lang/invoke/MethodHandle" ∧ yX4_isSeen.cls ≠ "java/lang/invoke/VarHandle" ∧ (parseMethodDescriptor yX4_isSeen.desc).map (fun d => d.parameters.length) = some 1 from by decide +kernel) rfl rfl ⟨Nat.le_of_ble_eq_true rfl, Nat.le_of_ble_eq_true rfl⟩ rfl (lv_room (Nat.le_of_ble_eq_true rfl)) dX4_through_2 ⟨Nat.zero_le _, Nat.zero_le _⟩ (fun r_1 hr_1 => ?_)
  obtain rfl : r_1 = 0 := hr_1.elim (fun h => absurd h.2 hs) (fun h => h.1)
  refine lv_if_eq (tgt := 14) hx hb dX4_through_5 (by decide) (fun c_5 => ?_) (fun c_5 => absurd rfl c_5)
  refine lv_iconst (v := 0) hx hb dX4_through_14 (by decide) ?_
  refine lv_istore_n (lv' := [(2, _), (0, _), (1, _)]) C.1 C.2.1 dX4_through_15 rfl hl (by decide) rfl (fun ls hl => ?_)
  rw [← nI_0] at hl
  refine ql_through C hml ok.2.1 hk ?_ n 0 (by omega) _ _ w ok ls (lv_sub hl [0, 1, 2] rfl)
  intro H locs w ok ls hl
  refine lv_aload_n hx hb dX4_through_87 rfl (lv_at hl 1 rfl) ?_
  refine r_get_24 C w dX4_through_88 ?_
  refine lv_iload_n hx hb dX4_through_91 rfl (lv_at hl 2 rfl) ?_
  refine lv_iconst (v := 1) hx hb dX4_through_92 (by decide) ?_
  refine r_st_24 (v := 1) C w rfl (ok.n31 hk) dX4_through_93 (fun H locs w => ?_)
  have ok : rOK n _ := rOK.st ok (k := 24) (i := k.toNatClampNeg) (v := 1) (fun b hb => by cases hb)
  refine lv_aload_n hx hb dX4_through_94 rfl (lv_at hl 1 rfl) ?_
  refine lv_iload_n hx hb dX4_through_95 rfl (lv_at hl 2 rfl) ?_
  refine r_callv (As := [.int k]) (rest := []) C w hml hl.1 (q_collect l D cI cZ cN cO A mm d n _ k ok hk (rRm.st (rRm.iter (fun i σ h => rRm.st (rRm.st h (by decide)) (by decide)) n hrm) (by decide))) kM_X4_139 kI_X4_collect kS_X4_collect kD_X4_collect (show yX4_collect.cls = RX4 ∧ yX4_collect.cls ≠ "java/lang/invoke/MethodHandle" ∧ yX4_collect.cls ≠ "java/lang/invoke/VarHandle" ∧ (parseMethodDescriptor yX4_collect.desc).map (fun d => d.parameters.length) = some 1 from by decide +kernel) rfl rfl ⟨Nat.le_of_ble_eq_true rfl, Nat.le_of_ble_eq_true rfl⟩ rfl (lv_room (Nat.le_of_ble_eq_true rfl)) dX4_through_96 ⟨Nat.zero_le _, Nat.zero_le _⟩ (fun H locs w ok => ?_)
  exact W.vret hx hb hr (fun t ht hW => ⟨⟨(), rfl, trivial, ⟨by rw [ht]; exact w.1, va_K.moved hW.alike hK, w.2.1⟩, ok⟩, w.2.2.F ht⟩) w.2.2.2.2 dX4_through_99
set_option maxHeartbeats 4000000 in
set_option maxRecDepth 100000 in
theorem q_thSq (l : Launch) (D : va_G) (cI cZ cN cO : ClassId) (A : Nat → Prop) (mm : Nat) (d : Nat → Nat) (n : Nat) (σ : RS) (k : Int32) (ok : rOK n σ) (hk : vp_in k n) (hs : rSeen n k σ) (hsm : rSame n k σ) (hq : ¬ σ.2 27 (σ.2 16 k.toNatClampNeg).toNatClampNeg < 10) : Met l yX4_through (.code yX4_through cX4_through 4 none :: gw) ({ frames := 3, cells := 0, slots := 0, locals := 76 }) (va_Pc (.ref mm :: [.int k]) (rH D cI cZ cN cO A mm d σ)) (va_Qv (fun _ : Unit => True) (fun _ t => rH D cI cZ cN cO A mm d (rEnds k (rTkS n k σ)) t ∧ rOK n (rEnds k (rTkS n k σ))) A) 0 0 A := by
  refine Met.ofW (cc := cX4_through) (maxL := 4) (ret := none) (by decide) rfl ?_
  intro p e s m args below meth c s₁ B hml hv
  obtain ⟨rfl, hP, hK, hD⟩ := hv
  have hx := B.exec
  have hb := B.bytes
  have hr := B.returns
  have hts := atoms_spec (ws := (.code yX4_through cX4_through 4 none :: gw)) B.pre
  have hg : ∀ w ∈ gw, w.before _ s = true := fun w h => hts w (List.mem_cons_of_mem _ h)
  have hown : s.vm.findClass RX4 = some m.cls := findClass_of_methodNamed B.named
  have hlocks := B.notSynchronized
  have C : Cx p c cX4_through s m _ RX4 D (gTy cI cZ cN cO) := ⟨hx, hb, hown, hg, hK⟩
  have w : rWd D cI cZ A s.heap mm d σ s.heap [] := ⟨hP, hD, va_S.rf⟩
  have hl := lv_entry ([.ref mm, .int k]) (n := 4) (Nat.le_of_ble_eq_true rfl)
  rw [lg_entry_eq]
  generalize (lg_sl ([.ref mm, .int k]) ++ List.replicate (4 - (lg_sl ([.ref mm, .int k])).length) Slot.unset).toArray = ls at hl ⊢
  have hl : lv_has ls 4 [(0, .ref mm), (1, .int k)] := hl
  refine lv_aload_n hx hb dX4_through_0 rfl (lv_at hl 0 rfl) ?_
  refine lv_iload_n hx hb dX4_through_1 rfl (lv_at hl 1 rfl) ?_
  refine r_callp (As := [.int k]) (rest := []) C w hml hl.1 (q_isSeen l D cI cZ cN cO A mm d n _ k ok hk) kM_X4_165 kI_X4_isSeen kS_X4_isSeen kD_X4_isSeen (show yX4_isSeen.cls = RX4 ∧ yX4_isSeen.cls ≠ "java/lang/invoke/MethodHandle" ∧ yX4_isSeen.cls ≠ "java/lang/invoke/VarHandle" ∧ (parseMethodDescriptor yX4_isSeen.desc).map (fun d => d.parameters.length) = some 1 from by decide +kernel) rfl rfl ⟨Nat.le_of_ble_eq_true rfl, Nat.le_of_ble_eq_true rfl⟩ rfl (lv_room (Nat.le_of_ble_eq_true rfl)) dX4_through_2 ⟨Nat.zero_le _, Nat.zero_le _⟩ (fun r_1 hr_1 => ?_)
  obtain rfl : r_1 = 1 := hr_1.elim (fun h => h.1) (fun h => absurd hs h.2)
  refine lv_if_eq (tgt := 14) hx hb dX4_through_5 (by decide) (fun c_5 => absurd c_5 (by decide)) (fun c_5 => ?_)
  refine lv_aload_n hx hb dX4_through_8 rfl (lv_at hl 0 rfl) ?_
  refine lv_iload_n hx hb dX4_through_9 rfl (lv_at hl 1 rfl) ?_
  refine r_callv (As := [.int k]) (rest := []) C w hml hl.1 (q_takeSq l D cI cZ cN cO A mm d n _ k ok hk hsm hq) kM_X4_168 kI_X4_take kS_X4_take kD_X4_take (show yX4_take.cls = RX4 ∧ yX4_take.cls ≠ "java/lang/invoke/MethodHandle" ∧ yX4_take.cls ≠ "java/lang/invoke/VarHandle" ∧ (parseMethodDescriptor yX4_take.desc).map (fun d => d.parameters.length) = some 1 from by decide +kernel) rfl rfl ⟨Nat.le_of_ble_eq_true rfl, Nat.le_of_ble_eq_true rfl⟩ rfl (lv_room (Nat.le_of_ble_eq_true rfl)) dX4_through_10 ⟨Nat.zero_le _, Nat.zero_le _⟩ (fun H locs w ok => ?_)
  exact W.vret hx hb hr (fun t ht hW => ⟨⟨(), rfl, trivial, ⟨by rw [ht]; exact w.1, va_K.moved hW.alike hK, w.2.1⟩, ok⟩, w.2.2.F ht⟩) w.2.2.2.2 dX4_through_13
set_option maxHeartbeats 4000000 in
set_option maxRecDepth 100000 in
theorem q_thSu (l : Launch) (D : va_G) (cI cZ cN cO : ClassId) (A : Nat → Prop) (mm : Nat) (d : Nat → Nat) (n : Nat) (σ : RS) (k : Int32) (ok : rOK n σ) (hk : vp_in k n) (hs : rSeen n k σ) (hsm : rSame n k σ) (hq : σ.2 27 (σ.2 16 k.toNatClampNeg).toNatClampNeg < 10) (hlen : vp_in (σ.2 19 k.toNatClampNeg + 1) 512) (hrm : rRm σ n) : Met l yX4_through (.code yX4_through cX4_through 4 none :: gw) ({ frames := 3, cells := 0, slots := 0, locals := 76 }) (va_Pc (.ref mm :: [.int k]) (rH D cI cZ cN cO A mm d σ)) (va_Qv (fun _ : Unit => True) (fun _ t => rH D cI cZ cN cO A mm d (rWr n k (σ.2 16 k.toNatClampNeg) (rTkS n k σ)) t ∧ rOK n (rWr n k (σ.2 16 k.toNatClampNeg) (rTkS n k σ))) A) 0 0 A := by
  refine Met.ofW (cc := cX4_through) (maxL := 4) (ret := none) (by decide) rfl ?_
  intro p e s m args below meth c s₁ B hml hv
  obtain ⟨rfl, hP, hK, hD⟩ := hv
  have hx := B.exec
  have hb := B.bytes
  have hr := B.returns
  have hts := atoms_spec (ws := (.code yX4_through cX4_through 4 none :: gw)) B.pre
  have hg : ∀ w ∈ gw, w.before _ s = true := fun w h => hts w (List.mem_cons_of_mem _ h)
  have hown : s.vm.findClass RX4 = some m.cls := findClass_of_methodNamed B.named
  have hlocks := B.notSynchronized
  have C : Cx p c cX4_through s m _ RX4 D (gTy cI cZ cN cO) := ⟨hx, hb, hown, hg, hK⟩
  have w : rWd D cI cZ A s.heap mm d σ s.heap [] := ⟨hP, hD, va_S.rf⟩
  have hl := lv_entry ([.ref mm, .int k]) (n := 4) (Nat.le_of_ble_eq_true rfl)
  rw [lg_entry_eq]
  generalize (lg_sl ([.ref mm, .int k]) ++ List.replicate (4 - (lg_sl ([.ref mm, .int k])).length) Slot.unset).toArray = ls at hl ⊢
  have hl : lv_has ls 4 [(0, .ref mm), (1, .int k)] := hl
  refine lv_aload_n hx hb dX4_through_0 rfl (lv_at hl 0 rfl) ?_
  refine lv_iload_n hx hb dX4_through_1 rfl (lv_at hl 1 rfl) ?_
  refine r_callp (As := [.int k]) (rest := []) C w hml hl.1 (q_isSeen l D cI cZ cN cO A mm d n _ k ok hk) kM_X4_165 kI_X4_isSeen kS_X4_isSeen kD_X4_isSeen (show yX4_isSeen.cls = RX4 ∧ yX4_isSeen.cls ≠ "java/lang/invoke/MethodHandle" ∧ yX4_isSeen.cls ≠ "java/lang/invoke/VarHandle" ∧ (parseMethodDescriptor yX4_isSeen.desc).map (fun d => d.parameters.length) = some 1 from by decide +kernel) rfl rfl ⟨Nat.le_of_ble_eq_true rfl, Nat.le_of_ble_eq_true rfl⟩ rfl (lv_room (Nat.le_of_ble_eq_true rfl)) dX4_through_2 ⟨Nat.zero_le _, Nat.zero_le _⟩ (fun r_1 hr_1 => ?_)
  obtain rfl : r_1 = 1 := hr_1.elim (fun h => h.1) (fun h => absurd hs h.2)
  refine lv_if_eq (tgt := 14) hx hb dX4_through_5 (by decide) (fun c_5 => absurd c_5 (by decide)) (fun c_5 => ?_)
  refine lv_aload_n hx hb dX4_through_8 rfl (lv_at hl 0 rfl) ?_
  refine lv_iload_n hx hb dX4_through_9 rfl (lv_at hl 1 rfl) ?_
  refine r_callv (As := [.int k]) (rest := []) C w hml hl.1 (q_takeSu l D cI cZ cN cO A mm d n _ k ok hk hsm hq hlen hrm) kM_X4_168 kI_X4_take kS_X4_take kD_X4_take (show yX4_take.cls = RX4 ∧ yX4_take.cls ≠ "java/lang/invoke/MethodHandle" ∧ yX4_take.cls ≠ "java/lang/invoke/VarHandle" ∧ (parseMethodDescriptor yX4_take.desc).map (fun d => d.parameters.length) = some 1 from by decide +kernel) rfl rfl ⟨Nat.le_of_ble_eq_true rfl, Nat.le_of_ble_eq_true rfl⟩ rfl (lv_room (Nat.le_of_ble_eq_true rfl)) dX4_through_10 ⟨Nat.zero_le _, Nat.zero_le _⟩ (fun H locs w ok => ?_)
  exact W.vret hx hb hr (fun t ht hW => ⟨⟨(), rfl, trivial, ⟨by rw [ht]; exact w.1, va_K.moved hW.alike hK, w.2.1⟩, ok⟩, w.2.2.F ht⟩) w.2.2.2.2 dX4_through_13
set_option maxHeartbeats 4000000 in
set_option maxRecDepth 100000 in
theorem q_thBq (l : Launch) (D : va_G) (cI cZ cN cO : ClassId) (A : Nat → Prop) (mm : Nat) (d : Nat → Nat) (n : Nat) (σ : RS) (k : Int32) (j : Nat) (ok : rOK n σ) (hk : vp_in k n) (hs : rSeen n k σ) (hns : ¬ rSame n k σ) (hj : j < n) (hm : rMv k σ j) (hlt : ∀ i, i < j → ¬ rMv k σ i) (hc1 : ¬ σ.2 22 ((31 : Int32) * k + nI j).toNatClampNeg < 1) (hq : ¬ σ.2 27 (σ.2 16 k.toNatClampNeg).toNatClampNeg < 10) : Met l yX4_through (.code yX4_through cX4_through 4 none :: gw) ({ frames := 3, cells := 0, slots := 0, locals := 76 }) (va_Pc (.ref mm :: [.int k]) (rH D cI cZ cN cO A mm d σ)) (va_Qv (fun _ : Unit => True) (fun _ t => rH D cI cZ cN cO A mm d (rEnds k (rTkB n k j σ)) t ∧ rOK n (rEnds k (rTkB n k j σ))) A) 0 0 A := by
  refine Met.ofW (cc := cX4_through) (maxL := 4) (ret := none) (by decide) rfl ?_
  intro p e s m args below meth c s₁ B hml hv
  obtain ⟨rfl, hP, hK, hD⟩ := hv
  have hx := B.exec
  have hb := B.bytes
  have hr := B.returns
  have hts := atoms_spec (ws := (.code yX4_through cX4_through 4 none :: gw)) B.pre
  have hg : ∀ w ∈ gw, w.before _ s = true := fun w h => hts w (List.mem_cons_of_mem _ h)
  have hown : s.vm.findClass RX4 = some m.cls := findClass_of_methodNamed B.named
  have hlocks := B.notSynchronized
  have C : Cx p c cX4_through s m _ RX4 D (gTy cI cZ cN cO) := ⟨hx, hb, hown, hg, hK⟩
  have w : rWd D cI cZ A s.heap mm d σ s.heap [] := ⟨hP, hD, va_S.rf⟩
  have hl := lv_entry ([.ref mm, .int k]) (n := 4) (Nat.le_of_ble_eq_true rfl)
  rw [lg_entry_eq]
  generalize (lg_sl ([.ref mm, .int k]) ++ List.replicate (4 - (lg_sl ([.ref mm, .int k])).length) Slot.unset).toArray = ls at hl ⊢
  have hl : lv_has ls 4 [(0, .ref mm), (1, .int k)] := hl
  refine lv_aload_n hx hb dX4_through_0 rfl (lv_at hl 0 rfl) ?_
  refine lv_iload_n hx hb dX4_through_1 rfl (lv_at hl 1 rfl) ?_
  refine r_callp (As := [.int k]) (rest := []) C w hml hl.1 (q_isSeen l D cI cZ cN cO A mm d n _ k ok hk) kM_X4_165 kI_X4_isSeen kS_X4_isSeen kD_X4_isSeen (show yX4_isSeen.cls = RX4 ∧ yX4_isSeen.cls ≠ "java/lang/invoke/MethodHandle" ∧ yX4_isSeen.cls ≠ "java/lang/invoke/VarHandle" ∧ (parseMethodDescriptor yX4_isSeen.desc).map (fun d => d.parameters.length) = some 1 from by decide +kernel) rfl rfl ⟨Nat.le_of_ble_eq_true rfl, Nat.le_of_ble_eq_true rfl⟩ rfl (lv_room (Nat.le_of_ble_eq_true rfl)) dX4_through_2 ⟨Nat.zero_le _, Nat.zero_le _⟩ (fun r_1 hr_1 => ?_)
  obtain rfl : r_1 = 1 := hr_1.elim (fun h => h.1) (fun h => absurd hs h.2)
  refine lv_if_eq (tgt := 14) hx hb dX4_through_5 (by decide) (fun c_5 => absurd c_5 (by decide)) (fun c_5 => ?_)
  refine lv_aload_n hx hb dX4_through_8 rfl (lv_at hl 0 rfl) ?_
  refine lv_iload_n hx hb dX4_through_9 rfl (lv_at hl 1 rfl) ?_
  refine r_callv (As := [.int k]) (rest := []) C w hml hl.1 (q_takeBq l D cI cZ cN cO A mm d n _ k j ok hk hns hj hm hlt hc1 hq) kM_X4_168 kI_X4_take kS_X4_take kD_X4_take (show yX4_take.cls = RX4 ∧ yX4_take.cls ≠ "java/lang/invoke/MethodHandle" ∧ yX4_take.cls ≠ "java/lang/invoke/VarHandle" ∧ (parseMethodDescriptor yX4_take.desc).map (fun d => d.parameters.length) = some 1 from by decide +kernel) rfl rfl ⟨Nat.le_of_ble_eq_true rfl, Nat.le_of_ble_eq_true rfl⟩ rfl (lv_room (Nat.le_of_ble_eq_true rfl)) dX4_through_10 ⟨Nat.zero_le _, Nat.zero_le _⟩ (fun H locs w ok => ?_)
  exact W.vret hx hb hr (fun t ht hW => ⟨⟨(), rfl, trivial, ⟨by rw [ht]; exact w.1, va_K.moved hW.alike hK, w.2.1⟩, ok⟩, w.2.2.F ht⟩) w.2.2.2.2 dX4_through_13
set_option maxHeartbeats 4000000 in
set_option maxRecDepth 100000 in
theorem q_thBu (l : Launch) (D : va_G) (cI cZ cN cO : ClassId) (A : Nat → Prop) (mm : Nat) (d : Nat → Nat) (n : Nat) (σ : RS) (k : Int32) (j : Nat) (ok : rOK n σ) (hk : vp_in k n) (hs : rSeen n k σ) (hns : ¬ rSame n k σ) (hj : j < n) (hm : rMv k σ j) (hlt : ∀ i, i < j → ¬ rMv k σ i) (hc1 : ¬ σ.2 22 ((31 : Int32) * k + nI j).toNatClampNeg < 1) (hq : σ.2 27 (σ.2 16 k.toNatClampNeg).toNatClampNeg < 10) (hlen : vp_in (σ.2 19 k.toNatClampNeg + 1) 512) (hrm : rRm σ n) : Met l yX4_through (.code yX4_through cX4_through 4 none :: gw) ({ frames := 3, cells := 0, slots := 0, locals := 76 }) (va_Pc (.ref mm :: [.int k]) (rH D cI cZ cN cO A mm d σ)) (va_Qv (fun _ : Unit => True) (fun _ t => rH D cI cZ cN cO A mm d (rWr n k (σ.2 16 k.toNatClampNeg) (rTkB n k j σ)) t ∧ rOK n (rWr n k (σ.2 16 k.toNatClampNeg) (rTkB n k j σ))) A) 0 0 A := by
  refine Met.ofW (cc := cX4_through) (maxL := 4) (ret := none) (by decide) rfl ?_
  intro p e s m args below meth c s₁ B hml hv
  obtain ⟨rfl, hP, hK, hD⟩ := hv
  have hx := B.exec
  have hb := B.bytes
  have hr := B.returns
  have hts := atoms_spec (ws := (.code yX4_through cX4_through 4 none :: gw)) B.pre
  have hg : ∀ w ∈ gw, w.before _ s = true := fun w h => hts w (List.mem_cons_of_mem _ h)
  have hown : s.vm.findClass RX4 = some m.cls := findClass_of_methodNamed B.named
  have hlocks := B.notSynchronized
  have C : Cx p c cX4_through s m _ RX4 D (gTy cI cZ cN cO) := ⟨hx, hb, hown, hg, hK⟩
  have w : rWd D cI cZ A s.heap mm d σ s.heap [] := ⟨hP, hD, va_S.rf⟩
  have hl := lv_entry ([.ref mm, .int k]) (n := 4) (Nat.le_of_ble_eq_true rfl)
  rw [lg_entry_eq]
  generalize (lg_sl ([.ref mm, .int k]) ++ List.replicate (4 - (lg_sl ([.ref mm, .int k])).length) Slot.unset).toArray = ls at hl ⊢
  have hl : lv_has ls 4 [(0, .ref mm), (1, .int k)] := hl
  refine lv_aload_n hx hb dX4_through_0 rfl (lv_at hl 0 rfl) ?_
  refine lv_iload_n hx hb dX4_through_1 rfl (lv_at hl 1 rfl) ?_
  refine r_callp (As := [.int k]) (rest := []) C w hml hl.1 (q_isSeen l D cI cZ cN cO A mm d n _ k ok hk) kM_X4_165 kI_X4_isSeen kS_X4_isSeen kD_X4_isSeen (show yX4_isSeen.cls = RX4 ∧ yX4_isSeen.cls ≠ "java/lang/invoke/MethodHandle" ∧ yX4_isSeen.cls ≠ "java/lang/invoke/VarHandle" ∧ (parseMethodDescriptor yX4_isSeen.desc).map (fun d => d.parameters.length) = some 1 from by decide +kernel) rfl rfl ⟨Nat.le_of_ble_eq_true rfl, Nat.le_of_ble_eq_true rfl⟩ rfl (lv_room (Nat.le_of_ble_eq_true rfl)) dX4_through_2 ⟨Nat.zero_le _, Nat.zero_le _⟩ (fun r_1 hr_1 => ?_)
  obtain rfl : r_1 = 1 := hr_1.elim (fun h => h.1) (fun h => absurd hs h.2)
  refine lv_if_eq (tgt := 14) hx hb dX4_through_5 (by decide) (fun c_5 => absurd c_5 (by decide)) (fun c_5 => ?_)
  refine lv_aload_n hx hb dX4_through_8 rfl (lv_at hl 0 rfl) ?_
  refine lv_iload_n hx hb dX4_through_9 rfl (lv_at hl 1 rfl) ?_
  refine r_callv (As := [.int k]) (rest := []) C w hml hl.1 (q_takeBu l D cI cZ cN cO A mm d n _ k j ok hk hns hj hm hlt hc1 hq hlen hrm) kM_X4_168 kI_X4_take kS_X4_take kD_X4_take (show yX4_take.cls = RX4 ∧ yX4_take.cls ≠ "java/lang/invoke/MethodHandle" ∧ yX4_take.cls ≠ "java/lang/invoke/VarHandle" ∧ (parseMethodDescriptor yX4_take.desc).map (fun d => d.parameters.length) = some 1 from by decide +kernel) rfl rfl ⟨Nat.le_of_ble_eq_true rfl, Nat.le_of_ble_eq_true rfl⟩ rfl (lv_room (Nat.le_of_ble_eq_true rfl)) dX4_through_10 ⟨Nat.zero_le _, Nat.zero_le _⟩ (fun H locs w ok => ?_)
  exact W.vret hx hb hr (fun t ht hW => ⟨⟨(), rfl, trivial, ⟨by rw [ht]; exact w.1, va_K.moved hW.alike hK, w.2.1⟩, ok⟩, w.2.2.F ht⟩) w.2.2.2.2 dX4_through_13
set_option maxHeartbeats 4000000 in
set_option maxRecDepth 100000 in
/-- through(k) -/
theorem q_through (l : Launch) (D : va_G) (cI cZ cN cO : ClassId) (A : Nat → Prop) (mm : Nat) (d : Nat → Nat) (n : Nat) (σ : RS) (k : Int32) (ok : rOK n σ) (hk : vp_in k n) (ht : rThOk n k σ) : Met l yX4_through (.code yX4_through cX4_through 4 none :: gw) ({ frames := 3, cells := 0, slots := 0, locals := 76 }) (va_Pc (.ref mm :: [.int k]) (rH D cI cZ cN cO A mm d σ)) (va_Qv (fun _ : Unit => True) (fun _ t => rH D cI cZ cN cO A mm d (rThr n k σ) t ∧ rOK n (rThr n k σ)) A) 0 0 A := by
  obtain ⟨h1, h2, h3⟩ := ht
  by_cases hs : rSeen n k σ
  · by_cases hm : rSame n k σ
    · by_cases hq : σ.2 27 (σ.2 16 k.toNatClampNeg).toNatClampNeg < 10
      · rw [show rThr n k σ = _ from (by unfold rThr; rw [cif_pos hs, cif_pos hm, cif_pos hq])]
        exact q_thSu l D cI cZ cN cO A mm d n σ k ok hk hs hm hq (h2 hs hq).1 (h2 hs hq).2
      · rw [show rThr n k σ = _ from (by unfold rThr; rw [cif_pos hs, cif_pos hm, cif_neg hq])]
        exact q_thSq l D cI cZ cN cO A mm d n σ k ok hk hs hm hq
    · obtain ⟨g1, g2, g3⟩ := lst_of (P := rMv k σ) (n := n) (hs.2.elim (fun h => absurd h hm) id)
      by_cases hq : σ.2 27 (σ.2 16 k.toNatClampNeg).toNatClampNeg < 10
      · rw [show rThr n k σ = _ from (by unfold rThr; rw [cif_pos hs, cif_neg hm, cif_pos hq])]
        exact q_thBu l D cI cZ cN cO A mm d n σ k _ ok hk hs hm g1 g2 g3 (h1 hs hm) hq (h2 hs hq).1 (h2 hs hq).2
      · rw [show rThr n k σ = _ from (by unfold rThr; rw [cif_pos hs, cif_neg hm, cif_neg hq])]
        exact q_thBq l D cI cZ cN cO A mm d n σ k _ ok hk hs hm g1 g2 g3 (h1 hs hm) hq
  · rw [show rThr n k σ = _ from (by unfold rThr; rw [cif_neg hs])]
    exact q_thN l D cI cZ cN cO A mm d n σ k ok hk hs (h3 hs)
