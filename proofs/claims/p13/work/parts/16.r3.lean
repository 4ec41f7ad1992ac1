def rVec (q : Nat) (k : Int32) (j i : Nat) (σ : RS) : RS := rA σ 6 ((31 : Int32) * nI j + nI i).toNatClampNeg (σ.2 q ((31 : Int32) * k + nI i).toNatClampNeg)
def rOneC (k : Int32) (i : Nat) (σ : RS) : RS := rSend σ (fr (σ.2 7)) 0 k (nI i) (σ.2 15 k.toNatClampNeg)
def rOneS (n q : Nat) (k : Int32) (i : Nat) (σ : RS) : RS := itr (rVec q k (fr (σ.2 7))) n (rSend σ (fr (σ.2 7)) 2 k (nI i) (σ.2 15 k.toNatClampNeg))
def rTo (k : Int32) (σ : RS) : RS := rA (rA σ 15 k.toNatClampNeg (σ.2 15 k.toNatClampNeg + 1)) 17 k.toNatClampNeg 0
def rToC (n : Nat) (k : Int32) (σ : RS) : RS := itr (rOneC k) n (rTo k σ)
def rToS (n q : Nat) (k : Int32) (σ : RS) : RS := itr (rOneS n q k) n (rTo k σ)
theorem rVec_7 (q : Nat) (k : Int32) (j m : Nat) (σ : RS) : (itr (rVec q k j) m σ).2 7 = σ.2 7 ∧ (itr (rVec q k j) m σ).1 = σ.1 := by
  induction m with
  | zero => exact ⟨rfl, rfl⟩
  | succ m ih => exact ⟨ih.1, ih.2⟩
/-- room for m messages more: in the slots, and in the row -/
def rRm (σ : RS) (m : Nat) : Prop := cn (σ.2 7) 2001 + m ≤ 2001 ∧ ∃ mn : Nat, σ.1 9 = nI mn ∧ mn + m ≤ 2000
theorem rRm.free {σ : RS} {m : Nat} (h : rRm σ (m + 1)) : fr (σ.2 7) < 2001 ∧ σ.2 7 (fr (σ.2 7)) = 0 ∧ ∀ j, j < fr (σ.2 7) → ¬ σ.2 7 j = 0 := fr_spec (by have := h.1; omega)
theorem rRm.inc {σ : RS} {m : Nat} (h : rRm σ (m + 1)) : vp_in (σ.1 9 + 1) 2001 := by
  obtain ⟨-, mn, h1, h2⟩ := h
  rw [h1, nI_1]; exact vp_in_nI (by omega) (by omega)
theorem rRm.send {σ : RS} {m : Nat} (h : rRm σ (m + 1)) (a b c r : Int32) : rRm (rSend σ (fr (σ.2 7)) a b c r) m := by
  obtain ⟨hf, hz, -⟩ := h.free
  obtain ⟨h1, mn, h2, h3⟩ := h
  refine ⟨?_, mn + 1, ?_, by omega⟩
  · show cn (upd (σ.2 7) (nI (fr (σ.2 7))).toNatClampNeg 1) 2001 + m ≤ 2001
    rw [nI_clamp (by omega), cn_set hz (by decide), if_pos hf]; omega
  · show σ.1 9 + 1 = _; rw [h2]; exact nI_1 mn
theorem rRm.vec {σ : RS} {m : Nat} (h : rRm σ m) (q : Nat) (k : Int32) (j i : Nat) : rRm (itr (rVec q k j) i σ) m := by
  obtain ⟨e1, e2⟩ := rVec_7 q k j i σ
  unfold rRm; rw [e1, e2]; exact h
theorem rRm.to {σ : RS} {m : Nat} (h : rRm σ m) (k : Int32) : rRm (rTo k σ) m := h
theorem rRm.le {σ : RS} {m k : Nat} (h : rRm σ m) (hk : k ≤ m) : rRm σ k := ⟨by have := h.1; omega, by obtain ⟨mn, h1, h2⟩ := h.2; exact ⟨mn, h1, by omega⟩⟩
set_option maxHeartbeats 4000000 in
set_option maxRecDepth 100000 in
theorem ql_vec21 {p : Program} {l : Launch} {e : Env} {R : Room} {s : State} {m : MethodId} {args : Array Value} {below : List Frame} {meth : Method} {c : Code} {cells slots : Nat} {Q : State → Prop} {D : va_G} {cI cZ cN cO : ClassId} {A : Nat → Prop} {H0 : Heap} {mm : Nat} {d : Nat → Nat} {n : Nat} (C : Cx p c cX4_toAll s m args RX4 D (gTy cI cZ cN cO)) (hml : c.maxLocals = 7) {σ : RS} {k to : Int32} (j : Nat) (hn : n ≤ 31) (hk : vp_in k n) (hj : j < 2001) (kk : ∀ (H : Heap) (locs : List Loc), rWd D cI cZ A H0 mm d (itr (rVec 21 k j) n σ) H locs → rOK n (itr (rVec 21 k j) n σ) → ∀ ls : Array Slot, lv_has ls 7 [(6, .int (nI n)), (5, .int (nI j)), (4, .int to), (0, .ref mm), (1, .int k), (2, .int 2), (3, .ref ((d 21)))] → W p l e R s m args below meth c H locs cells slots Q (F0 m 90 ls [])) : ∀ (fu i : Nat), i + fu = n → ∀ (H : Heap) (locs : List Loc), rWd D cI cZ A H0 mm d (itr (rVec 21 k j) i σ) H locs → rOK n (itr (rVec 21 k j) i σ) → ∀ ls : Array Slot, lv_has ls 7 [(6, .int (nI i)), (5, .int (nI j)), (4, .int to), (0, .ref mm), (1, .int k), (2, .int 2), (3, .ref ((d 21)))] → W p l e R s m args below meth c H locs cells slots Q (F0 m 48 ls []) := by
  intro fu
  induction fu with
  | zero =>
    intro i hik
    intro H locs w ok ls hl
    have hx := C.1
    have hb := C.2.1
    have hi : n = i := by omega
    subst hi
    refine lv_iload hx hb dX4_toAll_48 (lv_at hl 0 rfl) ?_
    refine lv_aload_n hx hb dX4_toAll_50 rfl (lv_at hl 3 rfl) ?_
    refine r_get_0 C w dX4_toAll_51 ?_
    rw [ok.nn]
    refine lv_icmp_ge (tgt := 90) hx hb dX4_toAll_54 (by decide) (fun c_54 => ?_) (fun c_54 => absurd (Int32.le_refl _) c_54)
    exact kk _ _ w ok ls (lv_sub hl [0, 1, 2, 3, 4, 5, 6] rfl)
  | succ fu ih =>
    intro i hik
    intro H locs w ok ls hl
    have hx := C.1
    have hb := C.2.1
    have hi : i < n := by omega
    refine lv_iload hx hb dX4_toAll_48 (lv_at hl 0 rfl) ?_
    refine lv_aload_n hx hb dX4_toAll_50 rfl (lv_at hl 3 rfl) ?_
    refine r_get_0 C w dX4_toAll_51 ?_
    rw [ok.nn]
    refine lv_icmp_ge (tgt := 90) hx hb dX4_toAll_54 (by decide) (fun c_54 => absurd c_54 (nI_ge hi (by omega))) (fun c_54 => ?_)
    refine lv_iload_n hx hb dX4_toAll_57 rfl (lv_at hl 5 rfl) ?_
    refine lv_iconst (v := 2) hx hb dX4_toAll_58 (by decide) ?_
    refine lv_icmp_ne (tgt := 90) hx hb dX4_toAll_59 (by decide) (fun c_59 => absurd rfl c_59) (fun c_59 => ?_)
    refine lv_aload_n hx hb dX4_toAll_62 rfl (lv_at hl 3 rfl) ?_
    refine r_get_6 C w dX4_toAll_63 ?_
    refine lv_bipush (v := 31) hx hb dX4_toAll_66 (by decide) ?_
    refine lv_iload hx hb dX4_toAll_68 (lv_at hl 1 rfl) ?_
    refine lv_imul hx hb dX4_toAll_70 ?_
    refine lv_topi (fun t_1 et_1 => ?_)
    refine lv_iload hx hb dX4_toAll_71 (lv_at hl 0 rfl) ?_
    refine lv_iadd hx hb dX4_toAll_73 ?_
    refine lv_topi (fun t_2 et_2 => ?_)
    refine lv_aload_n hx hb dX4_toAll_74 rfl (lv_at hl 6 rfl) ?_
    refine lv_bipush (v := 31) hx hb dX4_toAll_75 (by decide) ?_
    refine lv_iload_n hx hb dX4_toAll_77 rfl (lv_at hl 4 rfl) ?_
    refine lv_imul hx hb dX4_toAll_78 ?_
    refine lv_topi (fun t_3 et_3 => ?_)
    refine lv_iload hx hb dX4_toAll_79 (lv_at hl 0 rfl) ?_
    refine lv_iadd hx hb dX4_toAll_81 ?_
    refine lv_topi (fun t_4 et_4 => ?_)
    refine r_ld_21 C w (by rw [et_4, et_3]; exact gIx (c := 31) (N := 31) rfl (by decide) (ok.n31 hk) (vp_in_nI (by omega) (by omega))) dX4_toAll_82 ?_
    refine lv_topi (fun tv etv => ?_)
    have hv : vp_in tv 512 := by rw [etv]; exact ok.at 21 rfl _
    refine r_st_6 C w (by rw [et_2, et_1]; exact gIx (c := 31) (N := 2001) rfl (by decide) (vp_in_nI hj (by omega)) (vp_in_nI (by omega) (by omega))) dX4_toAll_83 (fun H locs w => ?_)
    have ok : rOK n _ := rOK.st ok (k := 6) (i := t_2.toNatClampNeg) (v := tv) (fun b hb => by cases hb; exact hv)
    obtain ⟨x_5, ex_5⟩ : ∃ y : Int32, y = (nI i) + 1 := ⟨_, rfl⟩
    refine lv_iinc (v := x_5) (lv' := [(6, _), (5, _), (4, _), (0, _), (1, _), (2, _), (3, _)]) C.1 C.2.1 dX4_toAll_84 hl (k := 0) rfl (by rw [ex_5]; rfl) (by decide) rfl (fun ls hl => ?_)
    refine lv_goto (tgt := 48) hx hb dX4_toAll_87 (by decide) ?_
    subst etv et_4 et_3 et_2 et_1
    have hx2 : x_5 = nI (i + 1) := by rw [ex_5]; exact nI_1 i
    rw [hx2] at hl
    exact ih (i + 1) (by omega) _ _ w ok ls (lv_sub hl [0, 1, 2, 3, 4, 5, 6] rfl)
set_option maxHeartbeats 4000000 in
set_option maxRecDepth 100000 in
theorem ql_vec22 {p : Program} {l : Launch} {e : Env} {R : Room} {s : State} {m : MethodId} {args : Array Value} {below : List Frame} {meth : Method} {c : Code} {cells slots : Nat} {Q : State → Prop} {D : va_G} {cI cZ cN cO : ClassId} {A : Nat → Prop} {H0 : Heap} {mm : Nat} {d : Nat → Nat} {n : Nat} (C : Cx p c cX4_toAll s m args RX4 D (gTy cI cZ cN cO)) (hml : c.maxLocals = 7) {σ : RS} {k to : Int32} (j : Nat) (hn : n ≤ 31) (hk : vp_in k n) (hj : j < 2001) (kk : ∀ (H : Heap) (locs : List Loc), rWd D cI cZ A H0 mm d (itr (rVec 22 k j) n σ) H locs → rOK n (itr (rVec 22 k j) n σ) → ∀ ls : Array Slot, lv_has ls 7 [(6, .int (nI n)), (5, .int (nI j)), (4, .int to), (0, .ref mm), (1, .int k), (2, .int 2), (3, .ref ((d 22)))] → W p l e R s m args below meth c H locs cells slots Q (F0 m 90 ls [])) : ∀ (fu i : Nat), i + fu = n → ∀ (H : Heap) (locs : List Loc), rWd D cI cZ A H0 mm d (itr (rVec 22 k j) i σ) H locs → rOK n (itr (rVec 22 k j) i σ) → ∀ ls : Array Slot, lv_has ls 7 [(6, .int (nI i)), (5, .int (nI j)), (4, .int to), (0, .ref mm), (1, .int k), (2, .int 2), (3, .ref ((d 22)))] → W p l e R s m args below meth c H locs cells slots Q (F0 m 48 ls []) := by
  intro fu
  induction fu with
  | zero =>
    intro i hik
    intro H locs w ok ls hl
    have hx := C.1
    have hb := C.2.1
    have hi : n = i := by omega
    subst hi
    refine lv_iload hx hb dX4_toAll_48 (lv_at hl 0 rfl) ?_
    refine lv_aload_n hx hb dX4_toAll_50 rfl (lv_at hl 3 rfl) ?_
    refine r_get_0 C w dX4_toAll_51 ?_
    rw [ok.nn]
    refine lv_icmp_ge (tgt := 90) hx hb dX4_toAll_54 (by decide) (fun c_54 => ?_) (fun c_54 => absurd (Int32.le_refl _) c_54)
    exact kk _ _ w ok ls (lv_sub hl [0, 1, 2, 3, 4, 5, 6] rfl)
  | succ fu ih =>
    intro i hik
    intro H locs w ok ls hl
    have hx := C.1
    have hb := C.2.1
    have hi : i < n := by omega
    refine lv_iload hx hb dX4_toAll_48 (lv_at hl 0 rfl) ?_
    refine lv_aload_n hx hb dX4_toAll_50 rfl (lv_at hl 3 rfl) ?_
    refine r_get_0 C w dX4_toAll_51 ?_
    rw [ok.nn]
    refine lv_icmp_ge (tgt := 90) hx hb dX4_toAll_54 (by decide) (fun c_54 => absurd c_54 (nI_ge hi (by omega))) (fun c_54 => ?_)
    refine lv_iload_n hx hb dX4_toAll_57 rfl (lv_at hl 5 rfl) ?_
    refine lv_iconst (v := 2) hx hb dX4_toAll_58 (by decide) ?_
    refine lv_icmp_ne (tgt := 90) hx hb dX4_toAll_59 (by decide) (fun c_59 => absurd rfl c_59) (fun c_59 => ?_)
    refine lv_aload_n hx hb dX4_toAll_62 rfl (lv_at hl 3 rfl) ?_
    refine r_get_6 C w dX4_toAll_63 ?_
    refine lv_bipush (v := 31) hx hb dX4_toAll_66 (by decide) ?_
    refine lv_iload hx hb dX4_toAll_68 (lv_at hl 1 rfl) ?_
    refine lv_imul hx hb dX4_toAll_70 ?_
    refine lv_topi (fun t_1 et_1 => ?_)
    refine lv_iload hx hb dX4_toAll_71 (lv_at hl 0 rfl) ?_
    refine lv_iadd hx hb dX4_toAll_73 ?_
    refine lv_topi (fun t_2 et_2 => ?_)
    refine lv_aload_n hx hb dX4_toAll_74 rfl (lv_at hl 6 rfl) ?_
    refine lv_bipush (v := 31) hx hb dX4_toAll_75 (by decide) ?_
    refine lv_iload_n hx hb dX4_toAll_77 rfl (lv_at hl 4 rfl) ?_
    refine lv_imul hx hb dX4_toAll_78 ?_
    refine lv_topi (fun t_3 et_3 => ?_)
    refine lv_iload hx hb dX4_toAll_79 (lv_at hl 0 rfl) ?_
    refine lv_iadd hx hb dX4_toAll_81 ?_
    refine lv_topi (fun t_4 et_4 => ?_)
    refine r_ld_22 C w (by rw [et_4, et_3]; exact gIx (c := 31) (N := 31) rfl (by decide) (ok.n31 hk) (vp_in_nI (by omega) (by omega))) dX4_toAll_82 ?_
    refine lv_topi (fun tv etv => ?_)
    have hv : vp_in tv 512 := by rw [etv]; exact ok.at 22 rfl _
    refine r_st_6 C w (by rw [et_2, et_1]; exact gIx (c := 31) (N := 2001) rfl (by decide) (vp_in_nI hj (by omega)) (vp_in_nI (by omega) (by omega))) dX4_toAll_83 (fun H locs w => ?_)
    have ok : rOK n _ := rOK.st ok (k := 6) (i := t_2.toNatClampNeg) (v := tv) (fun b hb => by cases hb; exact hv)
    obtain ⟨x_5, ex_5⟩ : ∃ y : Int32, y = (nI i) + 1 := ⟨_, rfl⟩
    refine lv_iinc (v := x_5) (lv' := [(6, _), (5, _), (4, _), (0, _), (1, _), (2, _), (3, _)]) C.1 C.2.1 dX4_toAll_84 hl (k := 0) rfl (by rw [ex_5]; rfl) (by decide) rfl (fun ls hl => ?_)
    refine lv_goto (tgt := 48) hx hb dX4_toAll_87 (by decide) ?_
    subst etv et_4 et_3 et_2 et_1
    have hx2 : x_5 = nI (i + 1) := by rw [ex_5]; exact nI_1 i
    rw [hx2] at hl
    exact ih (i + 1) (by omega) _ _ w ok ls (lv_sub hl [0, 1, 2, 3, 4, 5, 6] rfl)
set_option maxHeartbeats 4000000 in
set_option maxRecDepth 100000 in
theorem ql_toC {p : Program} {l : Launch} {e : Env} {R : Room} {s : State} {m : MethodId} {args : Array Value} {below : List Frame} {meth : Method} {c : Code} {cells slots : Nat} {Q : State → Prop} {D : va_G} {cI cZ cN cO : ClassId} {A : Nat → Prop} {H0 : Heap} {mm : Nat} {d : Nat → Nat} {n : Nat} (C : Cx p c cX4_toAll s m args RX4 D (gTy cI cZ cN cO)) (hml : c.maxLocals = 7) {σ : RS} {k : Int32} (hn : n ≤ 31) (hn3 : 3 ≤ n) (hk : vp_in k n) (hRf : 1 ≤ R.frames) (hRl : 25 ≤ R.locals) (hRc : cells + 0 ≤ R.cells) (hRs : slots + 0 ≤ R.slots) (kk : ∀ (H : Heap) (locs : List Loc), rWd D cI cZ A H0 mm d (itr (rOneC k) n σ) H locs → rOK n (itr (rOneC k) n σ) → (rRm (itr (rOneC k) n σ) (n - n)) → ∀ ls : Array Slot, lv_has ls 7 [(4, .int (nI n)), (0, .ref mm), (1, .int k), (2, .int 0), (3, .ref ((d 21)))] → W p l e R s m args below meth c H locs cells slots Q (F0 m 96 ls [])) : ∀ (fu i : Nat), i + fu = n → ∀ (H : Heap) (locs : List Loc), rWd D cI cZ A H0 mm d (itr (rOneC k) i σ) H locs → rOK n (itr (rOneC k) i σ) → (rRm (itr (rOneC k) i σ) (n - i)) → ∀ ls : Array Slot, lv_has ls 7 [(4, .int (nI i)), (0, .ref mm), (1, .int k), (2, .int 0), (3, .ref ((d 21)))] → W p l e R s m args below meth c H locs cells slots Q (F0 m 20 ls []) := by
  intro fu
  induction fu with
  | zero =>
    intro i hik
    intro H locs w ok hI ls hl
    have hx := C.1
    have hb := C.2.1
    have hi : n = i := by omega
    subst hi
    refine lv_iload hx hb dX4_toAll_20 (lv_at hl 0 rfl) ?_
    refine lv_aload_n hx hb dX4_toAll_22 rfl (lv_at hl 1 rfl) ?_
    refine r_get_0 C w dX4_toAll_23 ?_
    rw [ok.nn]
    refine lv_icmp_ge (tgt := 96) hx hb dX4_toAll_26 (by decide) (fun c_26 => ?_) (fun c_26 => absurd (Int32.le_refl _) c_26)
    exact kk _ _ w ok hI ls (lv_sub hl [0, 1, 2, 3, 4] rfl)
  | succ fu ih =>
    intro i hik
    intro H locs w ok hI ls hl
    have hx := C.1
    have hb := C.2.1
    have hi : i < n := by omega
    refine lv_iload hx hb dX4_toAll_20 (lv_at hl 0 rfl) ?_
    refine lv_aload_n hx hb dX4_toAll_22 rfl (lv_at hl 1 rfl) ?_
    refine r_get_0 C w dX4_toAll_23 ?_
    rw [ok.nn]
    refine lv_icmp_ge (tgt := 96) hx hb dX4_toAll_26 (by decide) (fun c_26 => absurd c_26 (nI_ge hi (by omega))) (fun c_26 => ?_)
    refine lv_aload_n hx hb dX4_toAll_29 rfl (lv_at hl 1 rfl) ?_
    refine lv_iload_n hx hb dX4_toAll_30 rfl (lv_at hl 3 rfl) ?_
    refine lv_iload_n hx hb dX4_toAll_31 rfl (lv_at hl 2 rfl) ?_
    refine lv_iload hx hb dX4_toAll_32 (lv_at hl 0 rfl) ?_
    refine lv_aload_n hx hb dX4_toAll_34 rfl (lv_at hl 1 rfl) ?_
    refine r_get_15 C w dX4_toAll_35 ?_
    refine lv_iload_n hx hb dX4_toAll_38 rfl (lv_at hl 2 rfl) ?_
    refine r_ld_15 C w (ok.n31 hk) dX4_toAll_39 ?_
    refine lv_topi (fun t_1 et_1 => ?_)
    have hI : rRm _ ((n - (i + 1)) + 1) := hI.le (by omega)
    refine r_calli (As := [.int 0, .int k, .int (nI i), .int t_1]) (rest := []) C w hml hl.1 (q_send l D cI cZ cN cO A mm d n _ (fr _) 0 k (nI i) t_1 ok hI.free.1 hI.free.2.1 hI.free.2.2 hk (vp_in_nI hi (by omega)) hI.inc) kM_X4_121 kI_X4_send kS_X4_send kD_X4_send (show yX4_send.cls = RX4 ∧ yX4_send.cls ≠ "java/lang/invoke/MethodHandle" ∧ yX4_send.cls ≠ "java/lang/invoke/VarHandle" ∧ (parseMethodDescriptor yX4_send.desc).map (fun d => d.parameters.length) = some 4 from by decide +kernel) rfl rfl ⟨(by show 0 + 1 ≤ R.frames; omega), (by show 8 + (6 + 11) + 0 ≤ R.locals; omega)⟩ rfl (lv_room (Nat.le_of_ble_eq_true rfl)) dX4_toAll_40 ⟨hRc, hRs⟩ (fun r_2 H locs hr_2 w ok => ?_)
    rw [hr_2]
    refine lv_istore (lv' := [(5, _), (4, _), (0, _), (1, _), (2, _), (3, _)]) C.1 C.2.1 dX4_toAll_43 hl (by decide) rfl (fun ls hl => ?_)
    refine lv_iconst (v := 0) hx hb dX4_toAll_45 (by decide) ?_
    refine lv_istore (lv' := [(6, _), (5, _), (4, _), (0, _), (1, _), (2, _), (3, _)]) C.1 C.2.1 dX4_toAll_46 hl (by decide) rfl (fun ls hl => ?_)
    refine lv_iload hx hb dX4_toAll_48 (lv_at hl 0 rfl) ?_
    refine lv_aload_n hx hb dX4_toAll_50 rfl (lv_at hl 3 rfl) ?_
    refine r_get_0 C w dX4_toAll_51 ?_
    rw [ok.nn]
    refine lv_icmp_ge (tgt := 90) hx hb dX4_toAll_54 (by decide) (fun c_54 => absurd c_54 (by rw [← nI_0]; exact nI_ge (by omega) (by omega))) (fun c_54 => ?_)
    refine lv_iload_n hx hb dX4_toAll_57 rfl (lv_at hl 5 rfl) ?_
    refine lv_iconst (v := 2) hx hb dX4_toAll_58 (by decide) ?_
    refine lv_icmp_ne (tgt := 90) hx hb dX4_toAll_59 (by decide) (fun c_59 => ?_) (fun c_59 => absurd c_59 (by decide))
    obtain ⟨x_3, ex_3⟩ : ∃ y : Int32, y = (nI i) + 1 := ⟨_, rfl⟩
    refine lv_iinc (v := x_3) (lv' := [(4, _), (6, _), (5, _), (0, _), (1, _), (2, _), (3, _)]) C.1 C.2.1 dX4_toAll_90 hl (k := 2) rfl (by rw [ex_3]; rfl) (by decide) rfl (fun ls hl => ?_)
    refine lv_goto (tgt := 20) hx hb dX4_toAll_93 (by decide) ?_
    subst et_1
    have hx2 : x_3 = nI (i + 1) := by rw [ex_3]; exact nI_1 i
    rw [hx2] at hl
    exact ih (i + 1) (by omega) _ _ w ok (hI.send _ _ _ _) ls (lv_sub hl [0, 3, 4, 5, 6] rfl)
set_option maxHeartbeats 4000000 in
set_option maxRecDepth 100000 in
theorem q_toC (l : Launch) (D : va_G) (cI cZ cN cO : ClassId) (A : Nat → Prop) (mm : Nat) (d : Nat → Nat) (n : Nat) (σ : RS) (k : Int32) (ok : rOK n σ) (hk : vp_in k n) (hrm : rRm σ n) : Met l yX4_toAll (.code yX4_toAll cX4_toAll 7 none :: gw) ({ frames := 1, cells := 0, slots := 0, locals := 25 }) (va_Pc (.ref mm :: [.int k, .int 0, .ref ((d 21))]) (rH D cI cZ cN cO A mm d σ)) (va_Qv (fun _ : Unit => True) (fun _ t => rH D cI cZ cN cO A mm d (rToC n k σ) t ∧ rOK n (rToC n k σ)) A) 0 0 A := by
  refine Met.ofW (cc := cX4_toAll) (maxL := 7) (ret := none) (by decide) rfl ?_
  intro p e s m args below meth c s₁ B hml hv
  obtain ⟨rfl, hP, hK, hD⟩ := hv
  have hx := B.exec
  have hb := B.bytes
  have hr := B.returns
  have hts := atoms_spec (ws := (.code yX4_toAll cX4_toAll 7 none :: gw)) B.pre
  have hg : ∀ w ∈ gw, w.before _ s = true := fun w h => hts w (List.mem_cons_of_mem _ h)
  have hown : s.vm.findClass RX4 = some m.cls := findClass_of_methodNamed B.named
  have hlocks := B.notSynchronized
  have C : Cx p c cX4_toAll s m _ RX4 D (gTy cI cZ cN cO) := ⟨hx, hb, hown, hg, hK⟩
  have w : rWd D cI cZ A s.heap mm d σ s.heap [] := ⟨hP, hD, va_S.rf⟩
  have hl := lv_entry ([.ref mm, .int k, .int 0, .ref ((d 21))]) (n := 7) (Nat.le_of_ble_eq_true rfl)
  rw [lg_entry_eq]
  generalize (lg_sl ([.ref mm, .int k, .int 0, .ref ((d 21))]) ++ List.replicate (7 - (lg_sl ([.ref mm, .int k, .int 0, .ref ((d 21))])).length) Slot.unset).toArray = ls at hl ⊢
  have hl : lv_has ls 7 [(0, .ref mm), (1, .int k), (2, .int 0), (3, .ref ((d 21)))] := hl
  refine lv_aload_n hx hb dX4_toAll_0 rfl (lv_at hl 0 rfl) ?_
  refine r_get_15 C w dX4_toAll_1 ?_
  refine lv_iload_n hx hb dX4_toAll_4 rfl (lv_at hl 1 rfl) ?_
  refine lv_dup2_11 hx hb dX4_toAll_5 rfl rfl ?_
  refine r_ld_15 C w (ok.n31 hk) dX4_toAll_6 ?_
  refine lv_topi (fun t_1 et_1 => ?_)
  refine lv_iconst (v := 1) hx hb dX4_toAll_7 (by decide) ?_
  refine lv_iadd hx hb dX4_toAll_8 ?_
  refine lv_topi (fun t_2 et_2 => ?_)
  refine r_st_15 C w (ok.n31 hk) dX4_toAll_9 (fun H locs w => ?_)
  have ok : rOK n _ := rOK.st ok (k := 15) (i := k.toNatClampNeg) (v := t_2) (fun b hb => by cases hb)
  refine lv_aload_n hx hb dX4_toAll_10 rfl (lv_at hl 0 rfl) ?_
  refine r_get_17 C w dX4_toAll_11 ?_
  refine lv_iload_n hx hb dX4_toAll_14 rfl (lv_at hl 1 rfl) ?_
  refine lv_iconst (v := 0) hx hb dX4_toAll_15 (by decide) ?_
  refine r_st_17 C w (ok.n31 hk) dX4_toAll_16 (fun H locs w => ?_)
  have ok : rOK n _ := rOK.st ok (k := 17) (i := k.toNatClampNeg) (v := 0) (fun b hb => by cases hb)
  refine lv_iconst (v := 0) hx hb dX4_toAll_17 (by decide) ?_
  refine lv_istore (lv' := [(4, _), (0, _), (1, _), (2, _), (3, _)]) C.1 C.2.1 dX4_toAll_18 hl (by decide) rfl (fun ls hl => ?_)
  subst et_2 et_1
  rw [← nI_0] at hl
  refine ql_toC C hml ok.2.1 ok.1 hk (Nat.le_of_ble_eq_true rfl) (Nat.le_of_ble_eq_true rfl) (Nat.zero_le _) (Nat.zero_le _) ?_ n 0 (by omega) _ _ w ok (hrm.to k) ls (lv_sub hl [0, 1, 2, 3, 4] rfl)
  intro H locs w ok _ ls hl
  exact W.vret hx hb hr (fun t ht hW => ⟨⟨(), rfl, trivial, ⟨by rw [ht]; exact w.1, va_K.moved hW.alike hK, w.2.1⟩, ok⟩, w.2.2.F ht⟩) w.2.2.2.2 dX4_toAll_96
set_option maxHeartbeats 4000000 in
set_option maxRecDepth 100000 in
theorem ql_toS21 {p : Program} {l : Launch} {e : Env} {R : Room} {s : State} {m : MethodId} {args : Array Value} {below : List Frame} {meth : Method} {c : Code} {cells slots : Nat} {Q : State → Prop} {D : va_G} {cI cZ cN cO : ClassId} {A : Nat → Prop} {H0 : Heap} {mm : Nat} {d : Nat → Nat} {n : Nat} (C : Cx p c cX4_toAll s m args RX4 D (gTy cI cZ cN cO)) (hml : c.maxLocals = 7) {σ : RS} {k : Int32} (hn : n ≤ 31) (hn3 : 3 ≤ n) (hk : vp_in k n) (hRf : 1 ≤ R.frames) (hRl : 25 ≤ R.locals) (hRc : cells + 0 ≤ R.cells) (hRs : slots + 0 ≤ R.slots) (kk : ∀ (H : Heap) (locs : List Loc), rWd D cI cZ A H0 mm d (itr (rOneS n 21 k) n σ) H locs → rOK n (itr (rOneS n 21 k) n σ) → (rRm (itr (rOneS n 21 k) n σ) (n - n)) → ∀ ls : Array Slot, lv_has ls 7 [(4, .int (nI n)), (0, .ref mm), (1, .int k), (2, .int 2), (3, .ref ((d 21)))] → W p l e R s m args below meth c H locs cells slots Q (F0 m 96 ls [])) : ∀ (fu i : Nat), i + fu = n → ∀ (H : Heap) (locs : List Loc), rWd D cI cZ A H0 mm d (itr (rOneS n 21 k) i σ) H locs → rOK n (itr (rOneS n 21 k) i σ) → (rRm (itr (rOneS n 21 k) i σ) (n - i)) → ∀ ls : Array Slot, lv_has ls 7 [(4, .int (nI i)), (0, .ref mm), (1, .int k), (2, .int 2), (3, .ref ((d 21)))] → W p l e R s m args below meth c H locs cells slots Q (F0 m 20 ls []) := by
  intro fu
  induction fu with
  | zero =>
    intro i hik
    intro H locs w ok hI ls hl
    have hx := C.1
    have hb := C.2.1
    have hi : n = i := by omega
    subst hi
    refine lv_iload hx hb dX4_toAll_20 (lv_at hl 0 rfl) ?_
    refine lv_aload_n hx hb dX4_toAll_22 rfl (lv_at hl 1 rfl) ?_
    refine r_get_0 C w dX4_toAll_23 ?_
    rw [ok.nn]
    refine lv_icmp_ge (tgt := 96) hx hb dX4_toAll_26 (by decide) (fun c_26 => ?_) (fun c_26 => absurd (Int32.le_refl _) c_26)
    exact kk _ _ w ok hI ls (lv_sub hl [0, 1, 2, 3, 4] rfl)
  | succ fu ih =>
    intro i hik
    intro H locs w ok hI ls hl
    have hx := C.1
    have hb := C.2.1
    have hi : i < n := by omega
    refine lv_iload hx hb dX4_toAll_20 (lv_at hl 0 rfl) ?_
    refine lv_aload_n hx hb dX4_toAll_22 rfl (lv_at hl 1 rfl) ?_
    refine r_get_0 C w dX4_toAll_23 ?_
    rw [ok.nn]
    refine lv_icmp_ge (tgt := 96) hx hb dX4_toAll_26 (by decide) (fun c_26 => absurd c_26 (nI_ge hi (by omega))) (fun c_26 => ?_)
    refine lv_aload_n hx hb dX4_toAll_29 rfl (lv_at hl 1 rfl) ?_
    refine lv_iload_n hx hb dX4_toAll_30 rfl (lv_at hl 3 rfl) ?_
    refine lv_iload_n hx hb dX4_toAll_31 rfl (lv_at hl 2 rfl) ?_
    refine lv_iload hx hb dX4_toAll_32 (lv_at hl 0 rfl) ?_
    refine lv_aload_n hx hb dX4_toAll_34 rfl (lv_at hl 1 rfl) ?_
    refine r_get_15 C w dX4_toAll_35 ?_
    refine lv_iload_n hx hb dX4_toAll_38 rfl (lv_at hl 2 rfl) ?_
    refine r_ld_15 C w (ok.n31 hk) dX4_toAll_39 ?_
    refine lv_topi (fun t_1 et_1 => ?_)
    have hI : rRm _ ((n - (i + 1)) + 1) := hI.le (by omega)
    refine r_calli (As := [.int 2, .int k, .int (nI i), .int t_1]) (rest := []) C w hml hl.1 (q_send l D cI cZ cN cO A mm d n _ (fr _) 2 k (nI i) t_1 ok hI.free.1 hI.free.2.1 hI.free.2.2 hk (vp_in_nI hi (by omega)) hI.inc) kM_X4_121 kI_X4_send kS_X4_send kD_X4_send (show yX4_send.cls = RX4 ∧ yX4_send.cls ≠ "java/lang/invoke/MethodHandle" ∧ yX4_send.cls ≠ "java/lang/invoke/VarHandle" ∧ (parseMethodDescriptor yX4_send.desc).map (fun d => d.parameters.length) = some 4 from by decide +kernel) rfl rfl ⟨(by show 0 + 1 ≤ R.frames; omega), (by show 8 + (6 + 11) + 0 ≤ R.locals; omega)⟩ rfl (lv_room (Nat.le_of_ble_eq_true rfl)) dX4_toAll_40 ⟨hRc, hRs⟩ (fun r_2 H locs hr_2 w ok => ?_)
    rw [hr_2]
    refine lv_istore (lv' := [(5, _), (4, _), (0, _), (1, _), (2, _), (3, _)]) C.1 C.2.1 dX4_toAll_43 hl (by decide) rfl (fun ls hl => ?_)
    refine lv_iconst (v := 0) hx hb dX4_toAll_45 (by decide) ?_
    refine lv_istore (lv' := [(6, _), (5, _), (4, _), (0, _), (1, _), (2, _), (3, _)]) C.1 C.2.1 dX4_toAll_46 hl (by decide) rfl (fun ls hl => ?_)
    rw [← nI_0] at hl
    refine ql_vec21 C hml _ hn hk hI.free.1 ?_ n 0 (by omega) _ _ w ok ls (lv_sub hl [0, 1, 2, 3, 4, 5, 6] rfl)
    intro H locs w ok ls hl
    obtain ⟨x_3, ex_3⟩ : ∃ y : Int32, y = (nI i) + 1 := ⟨_, rfl⟩
    refine lv_iinc (v := x_3) (lv' := [(4, _), (6, _), (5, _), (0, _), (1, _), (2, _), (3, _)]) C.1 C.2.1 dX4_toAll_90 hl (k := 2) rfl (by rw [ex_3]; rfl) (by decide) rfl (fun ls hl => ?_)
    refine lv_goto (tgt := 20) hx hb dX4_toAll_93 (by decide) ?_
    subst et_1
    have hx2 : x_3 = nI (i + 1) := by rw [ex_3]; exact nI_1 i
    rw [hx2] at hl
    exact ih (i + 1) (by omega) _ _ w ok ((hI.send _ _ _ _).vec _ _ _ _) ls (lv_sub hl [0, 3, 4, 5, 6] rfl)
set_option maxHeartbeats 4000000 in
set_option maxRecDepth 100000 in
theorem q_toS21 (l : Launch) (D : va_G) (cI cZ cN cO : ClassId) (A : Nat → Prop) (mm : Nat) (d : Nat → Nat) (n : Nat) (σ : RS) (k : Int32) (ok : rOK n σ) (hk : vp_in k n) (hrm : rRm σ n) : Met l yX4_toAll (.code yX4_toAll cX4_toAll 7 none :: gw) ({ frames := 1, cells := 0, slots := 0, locals := 25 }) (va_Pc (.ref mm :: [.int k, .int 2, .ref ((d 21))]) (rH D cI cZ cN cO A mm d σ)) (va_Qv (fun _ : Unit => True) (fun _ t => rH D cI cZ cN cO A mm d (rToS n 21 k σ) t ∧ rOK n (rToS n 21 k σ)) A) 0 0 A := by
  refine Met.ofW (cc := cX4_toAll) (maxL := 7) (ret := none) (by decide) rfl ?_
  intro p e s m args below meth c s₁ B hml hv
  obtain ⟨rfl, hP, hK, hD⟩ := hv
  have hx := B.exec
  have hb := B.bytes
  have hr := B.returns
  have hts := atoms_spec (ws := (.code yX4_toAll cX4_toAll 7 none :: gw)) B.pre
  have hg : ∀ w ∈ gw, w.before _ s = true := fun w h => hts w (List.mem_cons_of_mem _ h)
  have hown : s.vm.findClass RX4 = some m.cls := findClass_of_methodNamed B.named
  have hlocks := B.notSynchronized
  have C : Cx p c cX4_toAll s m _ RX4 D (gTy cI cZ cN cO) := ⟨hx, hb, hown, hg, hK⟩
  have w : rWd D cI cZ A s.heap mm d σ s.heap [] := ⟨hP, hD, va_S.rf⟩
  have hl := lv_entry ([.ref mm, .int k, .int 2, .ref ((d 21))]) (n := 7) (Nat.le_of_ble_eq_true rfl)
  rw [lg_entry_eq]
  generalize (lg_sl ([.ref mm, .int k, .int 2, .ref ((d 21))]) ++ List.replicate (7 - (lg_sl ([.ref mm, .int k, .int 2, .ref ((d 21))])).length) Slot.unset).toArray = ls at hl ⊢
  have hl : lv_has ls 7 [(0, .ref mm), (1, .int k), (2, .int 2), (3, .ref ((d 21)))] := hl
  refine lv_aload_n hx hb dX4_toAll_0 rfl (lv_at hl 0 rfl) ?_
  refine r_get_15 C w dX4_toAll_1 ?_
  refine lv_iload_n hx hb dX4_toAll_4 rfl (lv_at hl 1 rfl) ?_
  refine lv_dup2_11 hx hb dX4_toAll_5 rfl rfl ?_
  refine r_ld_15 C w (ok.n31 hk) dX4_toAll_6 ?_
  refine lv_topi (fun t_1 et_1 => ?_)
  refine lv_iconst (v := 1) hx hb dX4_toAll_7 (by decide) ?_
  refine lv_iadd hx hb dX4_toAll_8 ?_
  refine lv_topi (fun t_2 et_2 => ?_)
  refine r_st_15 C w (ok.n31 hk) dX4_toAll_9 (fun H locs w => ?_)
  have ok : rOK n _ := rOK.st ok (k := 15) (i := k.toNatClampNeg) (v := t_2) (fun b hb => by cases hb)
  refine lv_aload_n hx hb dX4_toAll_10 rfl (lv_at hl 0 rfl) ?_
  refine r_get_17 C w dX4_toAll_11 ?_
  refine lv_iload_n hx hb dX4_toAll_14 rfl (lv_at hl 1 rfl) ?_
  refine lv_iconst (v := 0) hx hb dX4_toAll_15 (by decide) ?_
  refine r_st_17 C w (ok.n31 hk) dX4_toAll_16 (fun H locs w => ?_)
  have ok : rOK n _ := rOK.st ok (k := 17) (i := k.toNatClampNeg) (v := 0) (fun b hb => by cases hb)
  refine lv_iconst (v := 0) hx hb dX4_toAll_17 (by decide) ?_
  refine lv_istore (lv' := [(4, _), (0, _), (1, _), (2, _), (3, _)]) C.1 C.2.1 dX4_toAll_18 hl (by decide) rfl (fun ls hl => ?_)
  subst et_2 et_1
  rw [← nI_0] at hl
  refine ql_toS21 C hml ok.2.1 ok.1 hk (Nat.le_of_ble_eq_true rfl) (Nat.le_of_ble_eq_true rfl) (Nat.zero_le _) (Nat.zero_le _) ?_ n 0 (by omega) _ _ w ok (hrm.to k) ls (lv_sub hl [0, 1, 2, 3, 4] rfl)
  intro H locs w ok _ ls hl
  exact W.vret hx hb hr (fun t ht hW => ⟨⟨(), rfl, trivial, ⟨by rw [ht]; exact w.1, va_K.moved hW.alike hK, w.2.1⟩, ok⟩, w.2.2.F ht⟩) w.2.2.2.2 dX4_toAll_96
set_option maxHeartbeats 4000000 in
set_option maxRecDepth 100000 in
theorem ql_toS22 {p : Program} {l : Launch} {e : Env} {R : Room} {s : State} {m : MethodId} {args : Array Value} {below : List Frame} {meth : Method} {c : Code} {cells slots : Nat} {Q : State → Prop} {D : va_G} {cI cZ cN cO : ClassId} {A : Nat → Prop} {H0 : Heap} {mm : Nat} {d : Nat → Nat} {n : Nat} (C : Cx p c cX4_toAll s m args RX4 D (gTy cI cZ cN cO)) (hml : c.maxLocals = 7) {σ : RS} {k : Int32} (hn : n ≤ 31) (hn3 : 3 ≤ n) (hk : vp_in k n) (hRf : 1 ≤ R.frames) (hRl : 25 ≤ R.locals) (hRc : cells + 0 ≤ R.cells) (hRs : slots + 0 ≤ R.slots) (kk : ∀ (H : Heap) (locs : List Loc), rWd D cI cZ A H0 mm d (itr (rOneS n 22 k) n σ) H locs → rOK n (itr (rOneS n 22 k) n σ) → (rRm (itr (rOneS n 22 k) n σ) (n - n)) → ∀ ls : Array Slot, lv_has ls 7 [(4, .int (nI n)), (0, .ref mm), (1, .int k), (2, .int 2), (3, .ref ((d 22)))] → W p l e R s m args below meth c H locs cells slots Q (F0 m 96 ls [])) : ∀ (fu i : Nat), i + fu = n → ∀ (H : Heap) (locs : List Loc), rWd D cI cZ A H0 mm d (itr (rOneS n 22 k) i σ) H locs → rOK n (itr (rOneS n 22 k) i σ) → (rRm (itr (rOneS n 22 k) i σ) (n - i)) → ∀ ls : Array Slot, lv_has ls 7 [(4, .int (nI i)), (0, .ref mm), (1, .int k), (2, .int 2), (3, .ref ((d 22)))] → W p l e R s m args below meth c H locs cells slots Q (F0 m 20 ls []) := by
  intro fu
  induction fu with
  | zero =>
    intro i hik
    intro H locs w ok hI ls hl
    have hx := C.1
    have hb := C.2.1
    have hi : n = i := by omega
    subst hi
    refine lv_iload hx hb dX4_toAll_20 (lv_at hl 0 rfl) ?_
    refine lv_aload_n hx hb dX4_toAll_22 rfl (lv_at hl 1 rfl) ?_
    refine r_get_0 C w dX4_toAll_23 ?_
    rw [ok.nn]
    refine lv_icmp_ge (tgt := 96) hx hb dX4_toAll_26 (by decide) (fun c_26 => ?_) (fun c_26 => absurd (Int32.le_refl _) c_26)
    exact kk _ _ w ok hI ls (lv_sub hl [0, 1, 2, 3, 4] rfl)
  | succ fu ih =>
    intro i hik
    intro H locs w ok hI ls hl
    have hx := C.1
    have hb := C.2.1
    have hi : i < n := by omega
    refine lv_iload hx hb dX4_toAll_20 (lv_at hl 0 rfl) ?_
    refine lv_aload_n hx hb dX4_toAll_22 rfl (lv_at hl 1 rfl) ?_
    refine r_get_0 C w dX4_toAll_23 ?_
    rw [ok.nn]
    refine lv_icmp_ge (tgt := 96) hx hb dX4_toAll_26 (by decide) (fun c_26 => absurd c_26 (nI_ge hi (by omega))) (fun c_26 => ?_)
    refine lv_aload_n hx hb dX4_toAll_29 rfl (lv_at hl 1 rfl) ?_
    refine lv_iload_n hx hb dX4_toAll_30 rfl (lv_at hl 3 rfl) ?_
    refine lv_iload_n hx hb dX4_toAll_31 rfl (lv_at hl 2 rfl) ?_
    refine lv_iload hx hb dX4_toAll_32 (lv_at hl 0 rfl) ?_
    refine lv_aload_n hx hb dX4_toAll_34 rfl (lv_at hl 1 rfl) ?_
    refine r_get_15 C w dX4_toAll_35 ?_
    refine lv_iload_n hx hb dX4_toAll_38 rfl (lv_at hl 2 rfl) ?_
    refine r_ld_15 C w (ok.n31 hk) dX4_toAll_39 ?_
    refine lv_topi (fun t_1 et_1 => ?_)
    have hI : rRm _ ((n - (i + 1)) + 1) := hI.le (by omega)
    refine r_calli (As := [.int 2, .int k, .int (nI i), .int t_1]) (rest := []) C w hml hl.1 (q_send l D cI cZ cN cO A mm d n _ (fr _) 2 k (nI i) t_1 ok hI.free.1 hI.free.2.1 hI.free.2.2 hk (vp_in_nI hi (by omega)) hI.inc) kM_X4_121 kI_X4_send kS_X4_send kD_X4_send (show yX4_send.cls = RX4 ∧ yX4_send.cls ≠ "java/lang/invoke/MethodHandle" ∧ yX4_send.cls ≠ "java/lang/invoke/VarHandle" ∧ (parseMethodDescriptor yX4_send.desc).map (fun d => d.parameters.length) = some 4 from by decide +kernel) rfl rfl ⟨(by show 0 + 1 ≤ R.frames; omega), (by show 8 + (6 + 11) + 0 ≤ R.locals; omega)⟩ rfl (lv_room (Nat.le_of_ble_eq_true rfl)) dX4_toAll_40 ⟨hRc, hRs⟩ (fun r_2 H locs hr_2 w ok => ?_)
    rw [hr_2]
    refine lv_istore (lv' := [(5, _), (4, _), (0, _), (1, _), (2, _), (3, _)]) C.1 C.2.1 dX4_toAll_43 hl (by decide) rfl (fun ls hl => ?_)
    refine lv_iconst (v := 0) hx hb dX4_toAll_45 (by decide) ?_
    refine lv_istore (lv' := [(6, _), (5, _), (4, _), (0, _), (1, _), (2, _), (3, _)]) C.1 C.2.1 dX4_toAll_46 hl (by decide) rfl (fun ls hl => ?_)
    rw [← nI_0] at hl
    refine ql_vec22 C hml _ hn hk hI.free.1 ?_ n 0 (by omega) _ _ w ok ls (lv_sub hl [0, 1, 2, 3, 4, 5, 6] rfl)
    intro H locs w ok ls hl
    obtain ⟨x_3, ex_3⟩ : ∃ y : Int32, y = (nI i) + 1 := ⟨_, rfl⟩
    refine lv_iinc (v := x_3) (lv' := [(4, _), (6, _), (5, _), (0, _), (1, _), (2, _), (3, _)]) C.1 C.2.1 dX4_toAll_90 hl (k := 2) rfl (by rw [ex_3]; rfl) (by decide) rfl (fun ls hl => ?_)
    refine lv_goto (tgt := 20) hx hb dX4_toAll_93 (by decide) ?_
    subst et_1
    have hx2 : x_3 = nI (i + 1) := by rw [ex_3]; exact nI_1 i
    rw [hx2] at hl
    exact ih (i + 1) (by omega) _ _ w ok ((hI.send _ _ _ _).vec _ _ _ _) ls (lv_sub hl [0, 3, 4, 5, 6] rfl)
set_option maxHeartbeats 4000000 in
set_option maxRecDepth 100000 in
theorem q_toS22 (l : Launch) (D : va_G) (cI cZ cN cO : ClassId) (A : Nat → Prop) (mm : Nat) (d : Nat → Nat) (n : Nat) (σ : RS) (k : Int32) (ok : rOK n σ) (hk : vp_in k n) (hrm : rRm σ n) : Met l yX4_toAll (.code yX4_toAll cX4_toAll 7 none :: gw) ({ frames := 1, cells := 0, slots := 0, locals := 25 }) (va_Pc (.ref mm :: [.int k, .int 2, .ref ((d 22))]) (rH D cI cZ cN cO A mm d σ)) (va_Qv (fun _ : Unit => True) (fun _ t => rH D cI cZ cN cO A mm d (rToS n 22 k σ) t ∧ rOK n (rToS n 22 k σ)) A) 0 0 A := by
  refine Met.ofW (cc := cX4_toAll) (maxL := 7) (ret := none) (by decide) rfl ?_
  intro p e s m args below meth c s₁ B hml hv
  obtain ⟨rfl, hP, hK, hD⟩ := hv
  have hx := B.exec
  have hb := B.bytes
  have hr := B.returns
  have hts := atoms_spec (ws := (.code yX4_toAll cX4_toAll 7 none :: gw)) B.pre
  have hg : ∀ w ∈ gw, w.before _ s = true := fun w h => hts w (List.mem_cons_of_mem _ h)
  have hown : s.vm.findClass RX4 = some m.cls := findClass_of_methodNamed B.named
  have hlocks := B.notSynchronized
  have C : Cx p c cX4_toAll s m _ RX4 D (gTy cI cZ cN cO) := ⟨hx, hb, hown, hg, hK⟩
  have w : rWd D cI cZ A s.heap mm d σ s.heap [] := ⟨hP, hD, va_S.rf⟩
  have hl := lv_entry ([.ref mm, .int k, .int 2, .ref ((d 22))]) (n := 7) (Nat.le_of_ble_eq_true rfl)
  rw [lg_entry_eq]
  generalize (lg_sl ([.ref mm, .int k, .int 2, .ref ((d 22))]) ++ List.replicate (7 - (lg_sl ([.ref mm, .int k, .int 2, .ref ((d 22))])).length) Slot.unset).toArray = ls at hl ⊢
  have hl : lv_has ls 7 [(0, .ref mm), (1, .int k), (2, .int 2), (3, .ref ((d 22)))] := hl
  refine lv_aload_n hx hb dX4_toAll_0 rfl (lv_at hl 0 rfl) ?_
  refine r_get_15 C w dX4_toAll_1 ?_
  refine lv_iload_n hx hb dX4_toAll_4 rfl (lv_at hl 1 rfl) ?_
  refine lv_dup2_11 hx hb dX4_toAll_5 rfl rfl ?_
  refine r_ld_15 C w (ok.n31 hk) dX4_toAll_6 ?_
  refine lv_topi (fun t_1 et_1 => ?_)
  refine lv_iconst (v := 1) hx hb dX4_toAll_7 (by decide) ?_
  refine lv_iadd hx hb dX4_toAll_8 ?_
  refine lv_topi (fun t_2 et_2 => ?_)
  refine r_st_15 C w (ok.n31 hk) dX4_toAll_9 (fun H locs w => ?_)
  have ok : rOK n _ := rOK.st ok (k := 15) (i := k.toNatClampNeg) (v := t_2) (fun b hb => by cases hb)
  refine lv_aload_n hx hb dX4_toAll_10 rfl (lv_at hl 0 rfl) ?_
  refine r_get_17 C w dX4_toAll_11 ?_
  refine lv_iload_n hx hb dX4_toAll_14 rfl (lv_at hl 1 rfl) ?_
  refine lv_iconst (v := 0) hx hb dX4_toAll_15 (by decide) ?_
  refine r_st_17 C w (ok.n31 hk) dX4_toAll_16 (fun H locs w => ?_)
  have ok : rOK n _ := rOK.st ok (k := 17) (i := k.toNatClampNeg) (v := 0) (fun b hb => by cases hb)
  refine lv_iconst (v := 0) hx hb dX4_toAll_17 (by decide) ?_
  refine lv_istore (lv' := [(4, _), (0, _), (1, _), (2, _), (3, _)]) C.1 C.2.1 dX4_toAll_18 hl (by decide) rfl (fun ls hl => ?_)
  subst et_2 et_1
  rw [← nI_0] at hl
  refine ql_toS22 C hml ok.2.1 ok.1 hk (Nat.le_of_ble_eq_true rfl) (Nat.le_of_ble_eq_true rfl) (Nat.zero_le _) (Nat.zero_le _) ?_ n 0 (by omega) _ _ w ok (hrm.to k) ls (lv_sub hl [0, 1, 2, 3, 4] rfl)
  intro H locs w ok _ ls hl
  exact W.vret hx hb hr (fun t ht hW => ⟨⟨(), rfl, trivial, ⟨by rw [ht]; exact w.1, va_K.moved hW.alike hK, w.2.1⟩, ok⟩, w.2.2.F ht⟩) w.2.2.2.2 dX4_toAll_96
