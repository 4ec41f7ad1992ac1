theorem rRm.st {σ : RS} {m : Nat} (h : rRm σ m) {k i : Nat} {v : Int32} (hk : k ≠ 7) : rRm (rA σ k i v) m := by
  have e : (rA σ k i v).2 7 = σ.2 7 := by show va_up σ.2 k _ 7 = _; simp only [va_up, if_neg (Ne.symm hk)]
  unfold rRm; rw [e]; exact h
theorem rRm.put {σ : RS} {m : Nat} (h : rRm σ m) {k : Nat} {v : Int32} (hk : k ≠ 9) : rRm (rI σ k v) m := by
  have e : (rI σ k v).1 9 = σ.1 9 := by show va_up σ.1 k v 9 = _; simp only [va_up, if_neg (Ne.symm hk)]
  unfold rRm; rw [e]; exact h
def rZero (q : Nat) (k : Int32) (i : Nat) (σ : RS) : RS := rA σ q ((31 : Int32) * k + nI i).toNatClampNeg 0
theorem rRm.zero {σ : RS} {m : Nat} (h : rRm σ m) {q : Nat} (hq : q ≠ 7) (k : Int32) : ∀ i, rRm (itr (rZero q k) i σ) m := by
  intro i
  induction i with
  | zero => exact h
  | succ i ih => exact ih.st hq
def rCol (n : Nat) (k : Int32) (σ : RS) : RS := rToC n k (itr (rZero 21 k) n (rA (rA σ 14 k.toNatClampNeg 1) 32 (σ.2 16 k.toNatClampNeg).toNatClampNeg (σ.2 32 (σ.2 16 k.toNatClampNeg).toNatClampNeg + 1)))
def rBeg (n : Nat) (k a b c : Int32) (σ : RS) : RS := rCol n k (itr (rZero 25 k) n (rA (rA (rA (rA (rA (rA (rA (rA (rA (rI (rI σ 12 (σ.1 12 + 1)) 37 (σ.1 37 + 1)) 26 (σ.1 37 + 1).toNatClampNeg k) 27 (σ.1 37 + 1).toNatClampNeg a) 28 (σ.1 37 + 1).toNatClampNeg b) 29 (σ.1 37 + 1).toNatClampNeg c) 30 (σ.1 37 + 1).toNatClampNeg (σ.1 12 + 1)) 31 (σ.1 37 + 1).toNatClampNeg (-1)) 33 (σ.1 37 + 1).toNatClampNeg (-1)) 16 k.toNatClampNeg (σ.1 37 + 1)) 24 k.toNatClampNeg 0))
theorem vp_in.inc {x M : Int32} {N : Nat} (h : vp_in x (N + 1)) (hM : M = nI N) (hN : N + 1 < 2 ^ 31) (hne : ¬ x = M) : vp_in (x + 1) (N + 1) := by
  obtain ⟨j, hj, rfl⟩ := vp_in_of h hN
  have hj2 : j ≠ N := fun e => hne (by rw [hM, e])
  rw [nI_1]; exact vp_in_nI (by omega) hN
/-- NODE k's two last collects are alike -/
def rSame (n : Nat) (k : Int32) (σ : RS) : Prop := ∀ i, i < n → σ.2 23 ((31 : Int32) * k + nI i).toNatClampNeg = σ.2 22 ((31 : Int32) * k + nI i).toNatClampNeg
/-- NODE i moved twice, as k sees it -/
def rMv (k : Int32) (σ : RS) (i : Nat) : Prop := (2 : Int32) ≤ σ.2 25 ((31 : Int32) * k + nI i).toNatClampNeg + (if σ.2 23 ((31 : Int32) * k + nI i).toNatClampNeg = σ.2 22 ((31 : Int32) * k + nI i).toNatClampNeg then 0 else 1)
def rSeen (n : Nat) (k : Int32) (σ : RS) : Prop := ¬ σ.2 24 k.toNatClampNeg = 0 ∧ (rSame n k σ ∨ ∃ i, i < n ∧ rMv k σ i)
def rEnds (k : Int32) (σ : RS) : RS := rA (rA (rA (rA σ 31 (σ.2 16 k.toNatClampNeg).toNatClampNeg (σ.1 12)) 14 k.toNatClampNeg 0) 17 k.toNatClampNeg 0) 16 k.toNatClampNeg 0
set_option maxHeartbeats 4000000 in
set_option maxRecDepth 100000 in
theorem ql_collect {p : Program} {l : Launch} {e : Env} {R : Room} {s : State} {m : MethodId} {args : Array Value} {below : List Frame} {meth : Method} {c : Code} {cells slots : Nat} {Q : State → Prop} {D : va_G} {cI cZ cN cO : ClassId} {A : Nat → Prop} {H0 : Heap} {mm : Nat} {d : Nat → Nat} {n : Nat} (C : Cx p c cX4_collect s m args RX4 D (gTy cI cZ cN cO)) (hml : c.maxLocals = 3) {σ : RS} {k : Int32} (hn : n ≤ 31) (hk : vp_in k n) (kk : ∀ (H : Heap) (locs : List Loc), rWd D cI cZ A H0 mm d (itr (rZero 21 k) n σ) H locs → rOK n (itr (rZero 21 k) n σ) → ∀ ls : Array Slot, lv_has ls 3 [(2, .int (nI n)), (0, .ref mm), (1, .int k)] → W p l e R s m args below meth c H locs cells slots Q (F0 m 50 ls [])) : ∀ (fu i : Nat), i + fu = n → ∀ (H : Heap) (locs : List Loc), rWd D cI cZ A H0 mm d (itr (rZero 21 k) i σ) H locs → rOK n (itr (rZero 21 k) i σ) → ∀ ls : Array Slot, lv_has ls 3 [(2, .int (nI i)), (0, .ref mm), (1, .int k)] → W p l e R s m args below meth c H locs cells slots Q (F0 m 24 ls []) := by
  intro fu
  induction fu with
  | zero =>
    intro i hik
    intro H locs w ok ls hl
    have hx := C.1
    have hb := C.2.1
    have hi : n = i := by omega
    subst hi
    refine lv_iload_n hx hb dX4_collect_24 rfl (lv_at hl 0 rfl) ?_
    refine lv_aload_n hx hb dX4_collect_25 rfl (lv_at hl 1 rfl) ?_
    refine r_get_0 C w dX4_collect_26 ?_
    rw [ok.nn]
    refine lv_icmp_ge (tgt := 50) hx hb dX4_collect_29 (by decide) (fun c_29 => ?_) (fun c_29 => absurd (Int32.le_refl _) c_29)
    exact kk _ _ w ok ls (lv_sub hl [0, 1, 2] rfl)
  | succ fu ih =>
    intro i hik
    intro H locs w ok ls hl
    have hx := C.1
    have hb := C.2.1
    have hi : i < n := by omega
    refine lv_iload_n hx hb dX4_collect_24 rfl (lv_at hl 0 rfl) ?_
    refine lv_aload_n hx hb dX4_collect_25 rfl (lv_at hl 1 rfl) ?_
    refine r_get_0 C w dX4_collect_26 ?_
    rw [ok.nn]
    refine lv_icmp_ge (tgt := 50) hx hb dX4_collect_29 (by decide) (fun c_29 => absurd c_29 (nI_ge hi (by omega))) (fun c_29 => ?_)
    refine lv_aload_n hx hb dX4_collect_32 rfl (lv_at hl 1 rfl) ?_
    refine r_get_21 C w dX4_collect_33 ?_
    refine lv_bipush (v := 31) hx hb dX4_collect_36 (by decide) ?_
    refine lv_iload_n hx hb dX4_collect_38 rfl (lv_at hl 2 rfl) ?_
    refine lv_imul hx hb dX4_collect_39 ?_
    refine lv_topi (fun t_1 et_1 => ?_)
    refine lv_iload_n hx hb dX4_collect_40 rfl (lv_at hl 0 rfl) ?_
    refine lv_iadd hx hb dX4_collect_41 ?_
    refine lv_topi (fun t_2 et_2 => ?_)
    refine lv_iconst (v := 0) hx hb dX4_collect_42 (by decide) ?_
    refine r_st_21 C w (by rw [et_2, et_1]; exact gIx (c := 31) (N := 31) rfl (by decide) (ok.n31 hk) (vp_in_nI (by omega) (by omega))) dX4_collect_43 (fun H locs w => ?_)
    have ok : rOK n _ := rOK.st ok (k := 21) (i := t_2.toNatClampNeg) (v := 0) (fun b hb => by cases hb; exact (by unfold vp_in; decide +kernel))
    obtain ⟨x_3, ex_3⟩ : ∃ y : Int32, y = (nI i) + 1 := ⟨_, rfl⟩
    refine lv_iinc (v := x_3) (lv' := [(2, _), (0, _), (1, _)]) C.1 C.2.1 dX4_collect_44 hl (k := 0) rfl (by rw [ex_3]; rfl) (by decide) rfl (fun ls hl => ?_)
    refine lv_goto (tgt := 24) hx hb dX4_collect_47 (by decide) ?_
    subst et_2 et_1
    have hx2 : x_3 = nI (i + 1) := by rw [ex_3]; exact nI_1 i
    rw [hx2] at hl
    exact ih (i + 1) (by omega) _ _ w ok ls (lv_sub hl [0, 1, 2] rfl)
set_option maxHeartbeats 4000000 in
set_option maxRecDepth 100000 in
/-- collect(k) -/
theorem q_collect (l : Launch) (D : va_G) (cI cZ cN cO : ClassId) (A : Nat → Prop) (mm : Nat) (d : Nat → Nat) (n : Nat) (σ : RS) (k : Int32) (ok : rOK n σ) (hk : vp_in k n) (hrm : rRm σ n) : Met l yX4_collect (.code yX4_collect cX4_collect 3 none :: gw) ({ frames := 2, cells := 0, slots := 0, locals := 51 }) (va_Pc (.ref mm :: [.int k]) (rH D cI cZ cN cO A mm d σ)) (va_Qv (fun _ : Unit => True) (fun _ t => rH D cI cZ cN cO A mm d (rCol n k σ) t ∧ rOK n (rCol n k σ)) A) 0 0 A := by
  refine Met.ofW (cc := cX4_collect) (maxL := 3) (ret := none) (by decide) rfl ?_
  intro p e s m args below meth c s₁ B hml hv
  obtain ⟨rfl, hP, hK, hD⟩ := hv
  have hx := B.exec
  have hb := B.bytes
  have hr := B.returns
  have hts := atoms_spec (ws := (.code yX4_collect cX4_collect 3 none :: gw)) B.pre
  have hg : ∀ w ∈ gw, w.before _ s = true := fun w h => hts w (List.mem_cons_of_mem _ h)
  have hown : s.vm.findClass RX4 = some m.cls := findClass_of_methodNamed B.named
  have hlocks := B.notSynchronized
  have C : Cx p c cX4_collect s m _ RX4 D (gTy cI cZ cN cO) := ⟨hx, hb, hown, hg, hK⟩
  have w : rWd D cI cZ A s.heap mm d σ s.heap [] := ⟨hP, hD, va_S.rf⟩
  have hl := lv_entry ([.ref mm, .int k]) (n := 3) (Nat.le_of_ble_eq_true rfl)
  rw [lg_entry_eq]
  generalize (lg_sl ([.ref mm, .int k]) ++ List.replicate (3 - (lg_sl ([.ref mm, .int k])).length) Slot.unset).toArray = ls at hl ⊢
  have hl : lv_has ls 3 [(0, .ref mm), (1, .int k)] := hl
  refine lv_aload_n hx hb dX4_collect_0 rfl (lv_at hl 0 rfl) ?_
  refine r_get_14 C w dX4_collect_1 ?_
  refine lv_iload_n hx hb dX4_collect_4 rfl (lv_at hl 1 rfl) ?_
  refine lv_iconst (v := 1) hx hb dX4_collect_5 (by decide) ?_
  refine r_st_14 C w (ok.n31 hk) dX4_collect_6 (fun H locs w => ?_)
  have ok : rOK n _ := rOK.st ok (k := 14) (i := k.toNatClampNeg) (v := 1) (fun b hb => by cases hb)
  refine lv_aload_n hx hb dX4_collect_7 rfl (lv_at hl 0 rfl) ?_
  refine r_get_32 C w dX4_collect_8 ?_
  refine lv_aload_n hx hb dX4_collect_11 rfl (lv_at hl 0 rfl) ?_
  refine r_get_16 C w dX4_collect_12 ?_
  refine lv_iload_n hx hb dX4_collect_15 rfl (lv_at hl 1 rfl) ?_
  refine r_ld_16 C w (ok.n31 hk) dX4_collect_16 ?_
  refine lv_topi (fun t_1 et_1 => ?_)
  refine lv_dup2_11 hx hb dX4_collect_17 rfl rfl ?_
  refine r_ld_32 C w (show vp_in t_1 512 from by rw [et_1]; exact ok.at 16 rfl _) dX4_collect_18 ?_
  refine lv_topi (fun t_2 et_2 => ?_)
  refine lv_iconst (v := 1) hx hb dX4_collect_19 (by decide) ?_
  refine lv_iadd hx hb dX4_collect_20 ?_
  refine lv_topi (fun t_3 et_3 => ?_)
  refine r_st_32 C w (show vp_in t_1 512 from by rw [et_1]; exact ok.at 16 rfl _) dX4_collect_21 (fun H locs w => ?_)
  have ok : rOK n _ := rOK.st ok (k := 32) (i := t_1.toNatClampNeg) (v := t_3) (fun b hb => by cases hb)
  refine lv_iconst (v := 0) hx hb dX4_collect_22 (by decide) ?_
  refine lv_istore_n (lv' := [(2, _), (0, _), (1, _)]) C.1 C.2.1 dX4_collect_23 rfl hl (by decide) rfl (fun ls hl => ?_)
  subst et_3 et_2 et_1
  rw [← nI_0] at hl
  refine ql_collect C hml ok.2.1 hk ?_ n 0 (by omega) _ _ w ok ls (lv_sub hl [0, 1, 2] rfl)
  intro H locs w ok ls hl
  refine lv_aload_n hx hb dX4_collect_50 rfl (lv_at hl 1 rfl) ?_
  refine lv_iload_n hx hb dX4_collect_51 rfl (lv_at hl 2 rfl) ?_
  refine lv_iconst (v := 0) hx hb dX4_collect_52 (by decide) ?_
  refine lv_aload_n hx hb dX4_collect_53 rfl (lv_at hl 1 rfl) ?_
  refine r_get_21 C w dX4_collect_54 ?_
  refine r_callv (As := [.int k, .int 0, .ref ((d 21))]) (rest := []) C w hml hl.1 (q_toC l D cI cZ cN cO A mm d n _ k ok hk (((hrm.st (by decide)).st (by decide)).zero (by decide) k n)) kM_X4_125 kI_X4_toAll kS_X4_toAll kD_X4_toAll (show yX4_toAll.cls = RX4 ∧ yX4_toAll.cls ≠ "java/lang/invoke/MethodHandle" ∧ yX4_toAll.cls ≠ "java/lang/invoke/VarHandle" ∧ (parseMethodDescriptor yX4_toAll.desc).map (fun d => d.parameters.length) = some 3 from by decide +kernel) rfl rfl ⟨Nat.le_of_ble_eq_true rfl, Nat.le_of_ble_eq_true rfl⟩ rfl (lv_room (Nat.le_of_ble_eq_true rfl)) dX4_collect_57 ⟨Nat.zero_le _, Nat.zero_le _⟩ (fun H locs w ok => ?_)
  exact W.vret hx hb hr (fun t ht hW => ⟨⟨(), rfl, trivial, ⟨by rw [ht]; exact w.1, va_K.moved hW.alike hK, w.2.1⟩, ok⟩, w.2.2.F ht⟩) w.2.2.2.2 dX4_collect_60
set_option maxHeartbeats 4000000 in
set_option maxRecDepth 100000 in
theorem ql_begin {p : Program} {l : Launch} {e : Env} {R : Room} {s : State} {m : MethodId} {args : Array Value} {below : List Frame} {meth : Method} {c : Code} {cells slots : Nat} {Q : State → Prop} {D : va_G} {cI cZ cN cO : ClassId} {A : Nat → Prop} {H0 : Heap} {mm : Nat} {d : Nat → Nat} {n : Nat} (C : Cx p c cX4_begin s m args RX4 D (gTy cI cZ cN cO)) (hml : c.maxLocals = 7) {σ : RS} {k o a1 b2 c3 : Int32} (hn : n ≤ 31) (hk : vp_in k n) (kk : ∀ (H : Heap) (locs : List Loc), rWd D cI cZ A H0 mm d (itr (rZero 25 k) n σ) H locs → rOK n (itr (rZero 25 k) n σ) → ∀ ls : Array Slot, lv_has ls 7 [(6, .int (nI n)), (5, .int o), (4, .int c3), (0, .ref mm), (1, .int k), (2, .int a1), (3, .int b2)] → W p l e R s m args below meth c H locs cells slots Q (F0 m 173 ls [])) : ∀ (fu i : Nat), i + fu = n → ∀ (H : Heap) (locs : List Loc), rWd D cI cZ A H0 mm d (itr (rZero 25 k) i σ) H locs → rOK n (itr (rZero 25 k) i σ) → ∀ ls : Array Slot, lv_has ls 7 [(6, .int (nI i)), (5, .int o), (4, .int c3), (0, .ref mm), (1, .int k), (2, .int a1), (3, .int b2)] → W p l e R s m args below meth c H locs cells slots Q (F0 m 145 ls []) := by
  intro fu
  induction fu with
  | zero =>
    intro i hik
    intro H locs w ok ls hl
    have hx := C.1
    have hb := C.2.1
    have hi : n = i := by omega
    subst hi
    refine lv_iload hx hb dX4_begin_145 (lv_at hl 0 rfl) ?_
    refine lv_aload_n hx hb dX4_begin_147 rfl (lv_at hl 3 rfl) ?_
    refine r_get_0 C w dX4_begin_148 ?_
    rw [ok.nn]
    refine lv_icmp_ge (tgt := 173) hx hb dX4_begin_151 (by decide) (fun c_151 => ?_) (fun c_151 => absurd (Int32.le_refl _) c_151)
    exact kk _ _ w ok ls (lv_sub hl [0, 1, 2, 3, 4, 5, 6] rfl)
  | succ fu ih =>
    intro i hik
    intro H locs w ok ls hl
    have hx := C.1
    have hb := C.2.1
    have hi : i < n := by omega
    refine lv_iload hx hb dX4_begin_145 (lv_at hl 0 rfl) ?_
    refine lv_aload_n hx hb dX4_begin_147 rfl (lv_at hl 3 rfl) ?_
    refine r_get_0 C w dX4_begin_148 ?_
    rw [ok.nn]
    refine lv_icmp_ge (tgt := 173) hx hb dX4_begin_151 (by decide) (fun c_151 => absurd c_151 (nI_ge hi (by omega))) (fun c_151 => ?_)
    refine lv_aload_n hx hb dX4_begin_154 rfl (lv_at hl 3 rfl) ?_
    refine r_get_25 C w dX4_begin_155 ?_
    refine lv_bipush (v := 31) hx hb dX4_begin_158 (by decide) ?_
    refine lv_iload_n hx hb dX4_begin_160 rfl (lv_at hl 4 rfl) ?_
    refine lv_imul hx hb dX4_begin_161 ?_
    refine lv_topi (fun t_1 et_1 => ?_)
    refine lv_iload hx hb dX4_begin_162 (lv_at hl 0 rfl) ?_
    refine lv_iadd hx hb dX4_begin_164 ?_
    refine lv_topi (fun t_2 et_2 => ?_)
    refine lv_iconst (v := 0) hx hb dX4_begin_165 (by decide) ?_
    refine r_st_25 C w (by rw [et_2, et_1]; exact gIx (c := 31) (N := 31) rfl (by decide) (ok.n31 hk) (vp_in_nI (by omega) (by omega))) dX4_begin_166 (fun H locs w => ?_)
    have ok : rOK n _ := rOK.st ok (k := 25) (i := t_2.toNatClampNeg) (v := 0) (fun b hb => by cases hb)
    obtain ⟨x_3, ex_3⟩ : ∃ y : Int32, y = (nI i) + 1 := ⟨_, rfl⟩
    refine lv_iinc (v := x_3) (lv' := [(6, _), (5, _), (4, _), (0, _), (1, _), (2, _), (3, _)]) C.1 C.2.1 dX4_begin_167 hl (k := 0) rfl (by rw [ex_3]; rfl) (by decide) rfl (fun ls hl => ?_)
    refine lv_goto (tgt := 145) hx hb dX4_begin_170 (by decide) ?_
    subst et_2 et_1
    have hx2 : x_3 = nI (i + 1) := by rw [ex_3]; exact nI_1 i
    rw [hx2] at hl
    exact ih (i + 1) (by omega) _ _ w ok ls (lv_sub hl [0, 1, 2, 3, 4, 5, 6] rfl)
set_option maxHeartbeats 4000000 in
set_option maxRecDepth 100000 in
theorem q_begin_no (l : Launch) (D : va_G) (cI cZ cN cO : ClassId) (A : Nat → Prop) (mm : Nat) (d : Nat → Nat) (n : Nat) (σ : RS) (k a1 b2 c3 : Int32) (ok : rOK n σ) (hk : vp_in k n) (hno : ¬ (σ.2 13 k.toNatClampNeg = 0 ∧ σ.2 14 k.toNatClampNeg = 0 ∧ ¬ σ.1 37 = 511 ∧ ¬ 2000 < σ.1 9 + nI n)) : Met l yX4_begin (.code yX4_begin cX4_begin 7 (some .int) :: gw) ({ frames := 3, cells := 0, slots := 0, locals := 73 }) (va_Pc (.ref mm :: [.int k, .int a1, .int b2, .int c3]) (rH D cI cZ cN cO A mm d σ)) (va_Qi (fun (r : Int32) (_ : Unit) => r = -1) (fun _ t => rH D cI cZ cN cO A mm d (σ) t ∧ rOK n (σ)) A) 0 0 A := by
  refine Met.ofW (cc := cX4_begin) (maxL := 7) (ret := (some .int)) (by decide) rfl ?_
  intro p e s m args below meth c s₁ B hml hv
  obtain ⟨rfl, hP, hK, hD⟩ := hv
  have hx := B.exec
  have hb := B.bytes
  have hr := B.returns
  have hts := atoms_spec (ws := (.code yX4_begin cX4_begin 7 (some .int) :: gw)) B.pre
  have hg : ∀ w ∈ gw, w.before _ s = true := fun w h => hts w (List.mem_cons_of_mem _ h)
  have hown : s.vm.findClass RX4 = some m.cls := findClass_of_methodNamed B.named
  have hlocks := B.notSynchronized
  have C : Cx p c cX4_begin s m _ RX4 D (gTy cI cZ cN cO) := ⟨hx, hb, hown, hg, hK⟩
  have w : rWd D cI cZ A s.heap mm d σ s.heap [] := ⟨hP, hD, va_S.rf⟩
  have hl := lv_entry ([.ref mm, .int k, .int a1, .int b2, .int c3]) (n := 7) (Nat.le_of_ble_eq_true rfl)
  rw [lg_entry_eq]
  generalize (lg_sl ([.ref mm, .int k, .int a1, .int b2, .int c3]) ++ List.replicate (7 - (lg_sl ([.ref mm, .int k, .int a1, .int b2, .int c3])).length) Slot.unset).toArray = ls at hl ⊢
  have hl : lv_has ls 7 [(0, .ref mm), (1, .int k), (2, .int a1), (3, .int b2), (4, .int c3)] := hl
  refine lv_aload_n hx hb dX4_begin_0 rfl (lv_at hl 0 rfl) ?_
  refine r_get_13 C w dX4_begin_1 ?_
  refine lv_iload_n hx hb dX4_begin_4 rfl (lv_at hl 1 rfl) ?_
  refine r_ld_13 C w (ok.n31 hk) dX4_begin_5 ?_
  refine lv_topi (fun t_1 et_1 => ?_)
  refine lv_if_ne (tgt := 39) hx hb dX4_begin_6 (by decide) (fun c_6 => ?_) (fun c_6 => ?_)
  · refine lv_iconst (v := (-1)) hx hb dX4_begin_39 (by decide) ?_
    exact W.iret hx hb hr (fun t ht hW => ⟨⟨_, (), rfl, rfl, ⟨by rw [ht]; exact w.1, va_K.moved hW.alike hK, w.2.1⟩, ok⟩, w.2.2.F ht⟩) w.2.2.2.2 dX4_begin_40
  · refine lv_aload_n hx hb dX4_begin_9 rfl (lv_at hl 0 rfl) ?_
    refine r_get_14 C w dX4_begin_10 ?_
    refine lv_iload_n hx hb dX4_begin_13 rfl (lv_at hl 1 rfl) ?_
    refine r_ld_14 C w (ok.n31 hk) dX4_begin_14 ?_
    refine lv_topi (fun t_2 et_2 => ?_)
    refine lv_if_ne (tgt := 39) hx hb dX4_begin_15 (by decide) (fun c_15 => ?_) (fun c_15 => ?_)
    · refine lv_iconst (v := (-1)) hx hb dX4_begin_39 (by decide) ?_
      exact W.iret hx hb hr (fun t ht hW => ⟨⟨_, (), rfl, rfl, ⟨by rw [ht]; exact w.1, va_K.moved hW.alike hK, w.2.1⟩, ok⟩, w.2.2.F ht⟩) w.2.2.2.2 dX4_begin_40
    · refine lv_aload_n hx hb dX4_begin_18 rfl (lv_at hl 0 rfl) ?_
      refine r_get_37 C w dX4_begin_19 ?_
      refine lv_topi (fun t_3 et_3 => ?_)
      refine lv_sipush (v := 511) hx hb dX4_begin_22 (by decide) ?_
      refine lv_icmp_eq (tgt := 39) hx hb dX4_begin_25 (by decide) (fun c_25 => ?_) (fun c_25 => ?_)
      · refine lv_iconst (v := (-1)) hx hb dX4_begin_39 (by decide) ?_
        exact W.iret hx hb hr (fun t ht hW => ⟨⟨_, (), rfl, rfl, ⟨by rw [ht]; exact w.1, va_K.moved hW.alike hK, w.2.1⟩, ok⟩, w.2.2.F ht⟩) w.2.2.2.2 dX4_begin_40
      · refine lv_aload_n hx hb dX4_begin_28 rfl (lv_at hl 0 rfl) ?_
        refine lv_aload_n hx hb dX4_begin_29 rfl (lv_at hl 0 rfl) ?_
        refine r_get_0 C w dX4_begin_30 ?_
        rw [ok.nn]
        refine r_callp (As := [.int (nI n)]) (rest := []) C w hml hl.1 (q_hasRoom l D cI cZ cN cO A mm d n _ (nI n) ok ) kM_X4_132 kI_X4_hasRoom kS_X4_hasRoom kD_X4_hasRoom (show yX4_hasRoom.cls = RX4 ∧ yX4_hasRoom.cls ≠ "java/lang/invoke/MethodHandle" ∧ yX4_hasRoom.cls ≠ "java/lang/invoke/VarHandle" ∧ (parseMethodDescriptor yX4_hasRoom.desc).map (fun d => d.parameters.length) = some 1 from by decide +kernel) rfl rfl ⟨Nat.le_of_ble_eq_true rfl, Nat.le_of_ble_eq_true rfl⟩ rfl (lv_room (Nat.le_of_ble_eq_true rfl)) dX4_begin_33 ⟨Nat.zero_le _, Nat.zero_le _⟩ (fun r_4 hr_4 => ?_)
        refine lv_if_ne (tgt := 41) hx hb dX4_begin_36 (by decide) (fun c_36 => absurd ⟨by rw [← et_1]; exact c_6, by rw [← et_2]; exact c_15, by rw [← et_3]; exact c_25, ite_ne0 hr_4 c_36⟩ hno) (fun c_36 => ?_)
        refine lv_iconst (v := (-1)) hx hb dX4_begin_39 (by decide) ?_
        exact W.iret hx hb hr (fun t ht hW => ⟨⟨_, (), rfl, rfl, ⟨by rw [ht]; exact w.1, va_K.moved hW.alike hK, w.2.1⟩, ok⟩, w.2.2.F ht⟩) w.2.2.2.2 dX4_begin_40
set_option maxHeartbeats 4000000 in
set_option maxRecDepth 100000 in
theorem q_begin_go (l : Launch) (D : va_G) (cI cZ cN cO : ClassId) (A : Nat → Prop) (mm : Nat) (d : Nat → Nat) (n : Nat) (σ : RS) (k a1 b2 c3 : Int32) (ok : rOK n σ) (hk : vp_in k n) (hgo : σ.2 13 k.toNatClampNeg = 0 ∧ σ.2 14 k.toNatClampNeg = 0 ∧ ¬ σ.1 37 = 511 ∧ ¬ 2000 < σ.1 9 + nI n) (hrm : rRm σ n) : Met l yX4_begin (.code yX4_begin cX4_begin 7 (some .int) :: gw) ({ frames := 3, cells := 0, slots := 0, locals := 73 }) (va_Pc (.ref mm :: [.int k, .int a1, .int b2, .int c3]) (rH D cI cZ cN cO A mm d σ)) (va_Qi (fun (r : Int32) (_ : Unit) => r = σ.1 37 + 1) (fun _ t => rH D cI cZ cN cO A mm d (rBeg n k a1 b2 c3 σ) t ∧ rOK n (rBeg n k a1 b2 c3 σ)) A) 0 0 A := by
  refine Met.ofW (cc := cX4_begin) (maxL := 7) (ret := (some .int)) (by decide) rfl ?_
  intro p e s m args below meth c s₁ B hml hv
  obtain ⟨rfl, hP, hK, hD⟩ := hv
  have hx := B.exec
  have hb := B.bytes
  have hr := B.returns
  have hts := atoms_spec (ws := (.code yX4_begin cX4_begin 7 (some .int) :: gw)) B.pre
  have hg : ∀ w ∈ gw, w.before _ s = true := fun w h => hts w (List.mem_cons_of_mem _ h)
  have hown : s.vm.findClass RX4 = some m.cls := findClass_of_methodNamed B.named
  have hlocks := B.notSynchronized
  have C : Cx p c cX4_begin s m _ RX4 D (gTy cI cZ cN cO) := ⟨hx, hb, hown, hg, hK⟩
  have w : rWd D cI cZ A s.heap mm d σ s.heap [] := ⟨hP, hD, va_S.rf⟩
  have hl := lv_entry ([.ref mm, .int k, .int a1, .int b2, .int c3]) (n := 7) (Nat.le_of_ble_eq_true rfl)
  rw [lg_entry_eq]
  generalize (lg_sl ([.ref mm, .int k, .int a1, .int b2, .int c3]) ++ List.replicate (7 - (lg_sl ([.ref mm, .int k, .int a1, .int b2, .int c3])).length) Slot.unset).toArray = ls at hl ⊢
  have hl : lv_has ls 7 [(0, .ref mm), (1, .int k), (2, .int a1), (3, .int b2), (4, .int c3)] := hl
  refine lv_aload_n hx hb dX4_begin_0 rfl (lv_at hl 0 rfl) ?_
  refine r_get_13 C w dX4_begin_1 ?_
  refine lv_iload_n hx hb dX4_begin_4 rfl (lv_at hl 1 rfl) ?_
  refine r_ld_13 C w (ok.n31 hk) dX4_begin_5 ?_
  refine lv_topi (fun t_1 et_1 => ?_)
  refine lv_if_ne (tgt := 39) hx hb dX4_begin_6 (by decide) (fun c_6 => absurd (by rw [et_1]; exact hgo.1) c_6) (fun c_6 => ?_)
  refine lv_aload_n hx hb dX4_begin_9 rfl (lv_at hl 0 rfl) ?_
  refine r_get_14 C w dX4_begin_10 ?_
  refine lv_iload_n hx hb dX4_begin_13 rfl (lv_at hl 1 rfl) ?_
  refine r_ld_14 C w (ok.n31 hk) dX4_begin_14 ?_
  refine lv_topi (fun t_2 et_2 => ?_)
  refine lv_if_ne (tgt := 39) hx hb dX4_begin_15 (by decide) (fun c_15 => absurd (by rw [et_2]; exact hgo.2.1) c_15) (fun c_15 => ?_)
  refine lv_aload_n hx hb dX4_begin_18 rfl (lv_at hl 0 rfl) ?_
  refine r_get_37 C w dX4_begin_19 ?_
  refine lv_topi (fun t_3 et_3 => ?_)
  refine lv_sipush (v := 511) hx hb dX4_begin_22 (by decide) ?_
  refine lv_icmp_eq (tgt := 39) hx hb dX4_begin_25 (by decide) (fun c_25 => absurd (by rw [← et_3]; exact c_25) hgo.2.2.1) (fun c_25 => ?_)
  refine lv_aload_n hx hb dX4_begin_28 rfl (lv_at hl 0 rfl) ?_
  refine lv_aload_n hx hb dX4_begin_29 rfl (lv_at hl 0 rfl) ?_
  refine r_get_0 C w dX4_begin_30 ?_
  rw [ok.nn]
  refine r_callp (As := [.int (nI n)]) (rest := []) C w hml hl.1 (q_hasRoom l D cI cZ cN cO A mm d n _ (nI n) ok ) kM_X4_132 kI_X4_hasRoom kS_X4_hasRoom kD_X4_hasRoom (show yX4_hasRoom.cls = RX4 ∧ yX4_hasRoom.cls ≠ "java/lang/invoke/MethodHandle" ∧ yX4_hasRoom.cls ≠ "java/lang/invoke/VarHandle" ∧ (parseMethodDescriptor yX4_hasRoom.desc).map (fun d => d.parameters.length) = some 1 from by decide +kernel) rfl rfl ⟨Nat.le_of_ble_eq_true rfl, Nat.le_of_ble_eq_true rfl⟩ rfl (lv_room (Nat.le_of_ble_eq_true rfl)) dX4_begin_33 ⟨Nat.zero_le _, Nat.zero_le _⟩ (fun r_4 hr_4 => ?_)
  refine lv_if_ne (tgt := 41) hx hb dX4_begin_36 (by decide) (fun c_36 => ?_) (fun c_36 => absurd hgo.2.2.2 (ite_eq0 hr_4 c_36))
  refine lv_aload_n hx hb dX4_begin_41 rfl (lv_at hl 0 rfl) ?_
  refine lv_dup hx hb dX4_begin_42 rfl ?_
  refine r_get_12 C w dX4_begin_43 ?_
  refine lv_topi (fun t_5 et_5 => ?_)
  refine lv_iconst (v := 1) hx hb dX4_begin_46 (by decide) ?_
  refine lv_iadd hx hb dX4_begin_47 ?_
  refine lv_topi (fun t_6 et_6 => ?_)
  refine r_put_12 C w dX4_begin_48 (fun H locs w => ?_)
  have ok : rOK n _ := rOK.put ok (k := 12) (v := t_6) (by decide) (fun h => absurd h (by decide)) (fun h => absurd h (by decide))
  refine lv_aload_n hx hb dX4_begin_51 rfl (lv_at hl 0 rfl) ?_
  refine lv_dup hx hb dX4_begin_52 rfl ?_
  refine r_get_37 C w dX4_begin_53 ?_
  refine lv_topi (fun t_7 et_7 => ?_)
  refine lv_iconst (v := 1) hx hb dX4_begin_56 (by decide) ?_
  refine lv_iadd hx hb dX4_begin_57 ?_
  refine lv_topi (fun t_8 et_8 => ?_)
  refine r_put_37 C w dX4_begin_58 (fun H locs w => ?_)
  have ok : rOK n _ := rOK.put ok (k := 37) (v := t_8) (by decide) (fun h => absurd h (by decide)) (fun _ => (by rw [et_8, et_7]; exact vp_in.inc ok.2.2.2.2.1 (by decide +kernel) (by decide) hgo.2.2.1))
  refine lv_aload_n hx hb dX4_begin_61 rfl (lv_at hl 0 rfl) ?_
  refine r_get_37 C w dX4_begin_62 ?_
  refine lv_topi (fun t_9 et_9 => ?_)
  have hO : vp_in t_9 512 := by rw [et_9]; exact ok.2.2.2.2.1
  refine lv_istore (lv' := [(5, _), (0, _), (1, _), (2, _), (3, _), (4, _)]) C.1 C.2.1 dX4_begin_65 hl (by decide) rfl (fun ls hl => ?_)
  refine lv_aload_n hx hb dX4_begin_67 rfl (lv_at hl 1 rfl) ?_
  refine r_get_26 C w dX4_begin_68 ?_
  refine lv_iload hx hb dX4_begin_71 (lv_at hl 0 rfl) ?_
  refine lv_iload_n hx hb dX4_begin_73 rfl (lv_at hl 2 rfl) ?_
  refine r_st_26 C w hO dX4_begin_74 (fun H locs w => ?_)
  have ok : rOK n _ := rOK.st ok (k := 26) (i := t_9.toNatClampNeg) (v := k) (fun b hb => by cases hb; exact hk)
  refine lv_aload_n hx hb dX4_begin_75 rfl (lv_at hl 1 rfl) ?_
  refine r_get_27 C w dX4_begin_76 ?_
  refine lv_iload hx hb dX4_begin_79 (lv_at hl 0 rfl) ?_
  refine lv_iload_n hx hb dX4_begin_81 rfl (lv_at hl 3 rfl) ?_
  refine r_st_27 C w hO dX4_begin_82 (fun H locs w => ?_)
  have ok : rOK n _ := rOK.st ok (k := 27) (i := t_9.toNatClampNeg) (v := a1) (fun b hb => by cases hb)
  refine lv_aload_n hx hb dX4_begin_83 rfl (lv_at hl 1 rfl) ?_
  refine r_get_28 C w dX4_begin_84 ?_
  refine lv_iload hx hb dX4_begin_87 (lv_at hl 0 rfl) ?_
  refine lv_iload_n hx hb dX4_begin_89 rfl (lv_at hl 4 rfl) ?_
  refine r_st_28 C w hO dX4_begin_90 (fun H locs w => ?_)
  have ok : rOK n _ := rOK.st ok (k := 28) (i := t_9.toNatClampNeg) (v := b2) (fun b hb => by cases hb)
  refine lv_aload_n hx hb dX4_begin_91 rfl (lv_at hl 1 rfl) ?_
  refine r_get_29 C w dX4_begin_92 ?_
  refine lv_iload hx hb dX4_begin_95 (lv_at hl 0 rfl) ?_
  refine lv_iload hx hb dX4_begin_97 (lv_at hl 5 rfl) ?_
  refine r_st_29 C w hO dX4_begin_99 (fun H locs w => ?_)
  have ok : rOK n _ := rOK.st ok (k := 29) (i := t_9.toNatClampNeg) (v := c3) (fun b hb => by cases hb)
  refine lv_aload_n hx hb dX4_begin_100 rfl (lv_at hl 1 rfl) ?_
  refine r_get_30 C w dX4_begin_101 ?_
  refine lv_iload hx hb dX4_begin_104 (lv_at hl 0 rfl) ?_
  refine lv_aload_n hx hb dX4_begin_106 rfl (lv_at hl 1 rfl) ?_
  refine r_get_12 C w dX4_begin_107 ?_
  refine lv_topi (fun t_10 et_10 => ?_)
  refine r_st_30 C w hO dX4_begin_110 (fun H locs w => ?_)
  have ok : rOK n _ := rOK.st ok (k := 30) (i := t_9.toNatClampNeg) (v := t_10) (fun b hb => by cases hb)
  refine lv_aload_n hx hb dX4_begin_111 rfl (lv_at hl 1 rfl) ?_
  refine r_get_31 C w dX4_begin_112 ?_
  refine lv_iload hx hb dX4_begin_115 (lv_at hl 0 rfl) ?_
  refine lv_iconst (v := (-1)) hx hb dX4_begin_117 (by decide) ?_
  refine r_st_31 C w hO dX4_begin_118 (fun H locs w => ?_)
  have ok : rOK n _ := rOK.st ok (k := 31) (i := t_9.toNatClampNeg) (v := (-1)) (fun b hb => by cases hb)
  refine lv_aload_n hx hb dX4_begin_119 rfl (lv_at hl 1 rfl) ?_
  refine r_get_33 C w dX4_begin_120 ?_
  refine lv_iload hx hb dX4_begin_123 (lv_at hl 0 rfl) ?_
  refine lv_iconst (v := (-1)) hx hb dX4_begin_125 (by decide) ?_
  refine r_st_33 C w hO dX4_begin_126 (fun H locs w => ?_)
  have ok : rOK n _ := rOK.st ok (k := 33) (i := t_9.toNatClampNeg) (v := (-1)) (fun b hb => by cases hb)
  refine lv_aload_n hx hb dX4_begin_127 rfl (lv_at hl 1 rfl) ?_
  refine r_get_16 C w dX4_begin_128 ?_
  refine lv_iload_n hx hb dX4_begin_131 rfl (lv_at hl 2 rfl) ?_
  refine lv_iload hx hb dX4_begin_132 (lv_at hl 0 rfl) ?_
  refine r_st_16 C w (ok.n31 hk) dX4_begin_134 (fun H locs w => ?_)
  have ok : rOK n _ := rOK.st ok (k := 16) (i := k.toNatClampNeg) (v := t_9) (fun b hb => by cases hb; exact hO)
  refine lv_aload_n hx hb dX4_begin_135 rfl (lv_at hl 1 rfl) ?_
  refine r_get_24 C w dX4_begin_136 ?_
  refine lv_iload_n hx hb dX4_begin_139 rfl (lv_at hl 2 rfl) ?_
  refine lv_iconst (v := 0) hx hb dX4_begin_140 (by decide) ?_
  refine r_st_24 (v := 0) C w rfl (ok.n31 hk) dX4_begin_141 (fun H locs w => ?_)
  have ok : rOK n _ := rOK.st ok (k := 24) (i := k.toNatClampNeg) (v := 0) (fun b hb => by cases hb)
  refine lv_iconst (v := 0) hx hb dX4_begin_142 (by decide) ?_
  refine lv_istore (lv' := [(6, _), (5, _), (0, _), (1, _), (2, _), (3, _), (4, _)]) C.1 C.2.1 dX4_begin_143 hl (by decide) rfl (fun ls hl => ?_)
  subst et_10 et_9 et_8 et_7 et_6 et_5
  rw [← nI_0] at hl
  refine ql_begin C hml ok.2.1 hk ?_ n 0 (by omega) _ _ w ok ls (lv_sub hl [0, 1, 6, 2, 3, 4, 5] rfl)
  intro H locs w ok ls hl
  refine lv_aload_n hx hb dX4_begin_173 rfl (lv_at hl 3 rfl) ?_
  refine lv_iload_n hx hb dX4_begin_174 rfl (lv_at hl 4 rfl) ?_
  refine r_callv (As := [.int k]) (rest := []) C w hml hl.1 (q_collect l D cI cZ cN cO A mm d n _ k ok hk (rRm.zero (rRm.st (rRm.st (rRm.st (rRm.st (rRm.st (rRm.st (rRm.st (rRm.st (rRm.st (rRm.put (rRm.put hrm (by decide)) (by decide)) (by decide)) (by decide)) (by decide)) (by decide)) (by decide)) (by decide)) (by decide)) (by decide)) (by decide)) (by decide) k n)) kM_X4_139 kI_X4_collect kS_X4_collect kD_X4_collect (show yX4_collect.cls = RX4 ∧ yX4_collect.cls ≠ "java/lang/invoke/MethodHandle" ∧ yX4_collect.cls ≠ "java/lang/invoke/VarHandle" ∧ (parseMethodDescriptor yX4_collect.desc).map (fun d => d.parameters.length) = some 1 from by decide +kernel) rfl rfl ⟨Nat.le_of_ble_eq_true rfl, Nat.le_of_ble_eq_true rfl⟩ rfl (lv_room (Nat.le_of_ble_eq_true rfl)) dX4_begin_175 ⟨Nat.zero_le _, Nat.zero_le _⟩ (fun H locs w ok => ?_)
  refine lv_iload hx hb dX4_begin_178 (lv_at hl 1 rfl) ?_
  exact W.iret hx hb hr (fun t ht hW => ⟨⟨_, (), rfl, rfl, ⟨by rw [ht]; exact w.1, va_K.moved hW.alike hK, w.2.1⟩, ok⟩, w.2.2.F ht⟩) w.2.2.2.2 dX4_begin_180
