theorem isN_31 {n : Nat} {k : Int32} (hn : n ≤ 31) (h : isN n k) : vp_in k 31 := by
  have h1 := isN_in (by omega) h
  rw [vp_in_iff] at h1 ⊢
  omega
theorem gIdx (j i : Nat) : (31 : Int32) * nI j + nI i = nI (31 * j + i) := by
  rw [show (31 : Int32) = nI 31 from by decide +kernel, nI_mul, nI_add]
theorem gIdxIn {j i : Nat} (hj : j < 31) (hi : i < 31) : vp_in ((31 : Int32) * nI j + nI i) 961 := by
  rw [gIdx]; exact vp_in_nI (by omega) (by omega)
set_option maxHeartbeats 4000000 in
set_option maxRecDepth 100000 in
theorem c_X4_isNode (l : Launch) (dC : Nat → ClassId) (dI : Nat → Nat → Nat) (cI cZ cN cO : ClassId) (m0 d2 d3 d4 d5 d6 d7 d8 d13 d14 d15 d16 d17 d18 d19 d20 d21 d22 d23 d24 d25 d26 d27 d28 d29 d30 d31 d32 d33 d34 d35 d36 d39 n : Nat) (th p0 : Int32)  : Met l yX4_isNode (.code yX4_isNode cX4_isNode 2 (some .boolean) :: gw) ({ frames := 0, cells := 0, slots := 0, locals := 0 }) (va_Pc [.ref m0, .int p0] (fun U => va_P (dC, dI) vwCl [(m0, .inr (4, [.int (nI n), .int th, .ref d2, .ref d3, .ref d4, .ref d5, .ref d6, .ref d7, .ref d8, .int 0, .int 0, .int 0, .int 0, .ref d13, .ref d14, .ref d15, .ref d16, .ref d17, .ref d18, .ref d19, .ref d20, .ref d21, .ref d22, .ref d23, .ref d24, .ref d25, .ref d26, .ref d27, .ref d28, .ref d29, .ref d30, .ref d31, .ref d32, .ref d33, .ref d34, .ref d35, .ref d36, .int 0, .int 0, .ref d39, .int 0]))] U.heap ∧ va_K (dC, dI) vwCl (gTy cI cZ cN cO) U)) (vp_Si (fun r => r = if isN n p0 then 1 else 0)) 0 0 (fun _ => False) := by
  refine Met.ofW (cc := cX4_isNode) (maxL := 2) (ret := (some .boolean)) (by decide) rfl ?_
  intro p e s m args below meth c s₁ B hml hv
  obtain ⟨rfl, hP, hK⟩ := hv
  have hx := B.exec
  have hb := B.bytes
  have hr := B.returns
  have hts := atoms_spec (ws := (.code yX4_isNode cX4_isNode 2 (some .boolean) :: gw)) B.pre
  have hg : ∀ w ∈ gw, w.before _ s = true := fun w h => hts w (List.mem_cons_of_mem _ h)
  have hown : s.vm.findClass RX4 = some m.cls := findClass_of_methodNamed B.named
  have hlocks := B.notSynchronized
  have hl := lv_entry ([.ref m0, .int p0]) (n := 2) (Nat.le_of_ble_eq_true rfl)
  rw [lg_entry_eq]
  generalize (lg_sl ([.ref m0, .int p0]) ++ List.replicate (2 - (lg_sl ([.ref m0, .int p0])).length) Slot.unset).toArray = ls at hl ⊢
  have hl : lv_has ls 2 [(0, .ref m0), (1, .int p0)] := hl
  refine lv_iload_n hx hb dX4_isNode_0 rfl (lv_at hl 1 rfl) ?_
  refine lv_if_lt (tgt := 16) hx hb dX4_isNode_1 (by decide) (fun c_1 => ?_) (fun c_1 => ?_)
  · refine lv_iconst (v := 0) hx hb dX4_isNode_16 (by decide) ?_
    exact W.zret (v := 0) (ty := .boolean) hx hb hr rfl (fun t ht hW => ⟨_, rfl, (by first | exact (if_pos ⟨by assumption, by assumption⟩).symm | exact (if_neg (fun h => h.1 (by assumption))).symm | exact (if_neg (fun h => h.2 (by assumption))).symm), ht⟩) (fun _ h => by cases h) dX4_isNode_17
  · refine lv_iload_n hx hb dX4_isNode_4 rfl (lv_at hl 1 rfl) ?_
    refine lv_aload_n hx hb dX4_isNode_5 rfl (lv_at hl 0 rfl) ?_
    refine va_get (D := (dC, dI)) (ci := 4) (v := .int (nI n)) (C := RX4) (T := TX4) (N := 41) hx hb hg inX4 hown hK hP 0 rfl rfl 0 (by decide) (hg _ kF_X4_108) (fun _ h9 => h9) rfl dX4_isNode_6 ?_
    refine lv_icmp_ge (tgt := 16) hx hb dX4_isNode_9 (by decide) (fun c_9 => ?_) (fun c_9 => ?_)
    · refine lv_iconst (v := 0) hx hb dX4_isNode_16 (by decide) ?_
      exact W.zret (v := 0) (ty := .boolean) hx hb hr rfl (fun t ht hW => ⟨_, rfl, (by first | exact (if_pos ⟨by assumption, by assumption⟩).symm | exact (if_neg (fun h => h.1 (by assumption))).symm | exact (if_neg (fun h => h.2 (by assumption))).symm), ht⟩) (fun _ h => by cases h) dX4_isNode_17
    · refine lv_iconst (v := 1) hx hb dX4_isNode_12 (by decide) ?_
      refine lv_goto (tgt := 17) hx hb dX4_isNode_13 (by decide) ?_
      exact W.zret (v := 1) (ty := .boolean) hx hb hr rfl (fun t ht hW => ⟨_, rfl, (by first | exact (if_pos ⟨by assumption, by assumption⟩).symm | exact (if_neg (fun h => h.1 (by assumption))).symm | exact (if_neg (fun h => h.2 (by assumption))).symm), ht⟩) (fun _ h => by cases h) dX4_isNode_17
set_option maxHeartbeats 4000000 in
set_option maxRecDepth 100000 in
theorem c_X4_isOperation (l : Launch) (dC : Nat → ClassId) (dI : Nat → Nat → Nat) (cI cZ cN cO : ClassId) (m0 d2 d3 d4 d5 d6 d7 d8 d13 d14 d15 d16 d17 d18 d19 d20 d21 d22 d23 d24 d25 d26 d27 d28 d29 d30 d31 d32 d33 d34 d35 d36 d39 n : Nat) (th p0 : Int32)  : Met l yX4_isOperation (.code yX4_isOperation cX4_isOperation 2 (some .boolean) :: gw) ({ frames := 0, cells := 0, slots := 0, locals := 0 }) (va_Pc [.ref m0, .int p0] (fun U => va_P (dC, dI) vwCl [(m0, .inr (4, [.int (nI n), .int th, .ref d2, .ref d3, .ref d4, .ref d5, .ref d6, .ref d7, .ref d8, .int 0, .int 0, .int 0, .int 0, .ref d13, .ref d14, .ref d15, .ref d16, .ref d17, .ref d18, .ref d19, .ref d20, .ref d21, .ref d22, .ref d23, .ref d24, .ref d25, .ref d26, .ref d27, .ref d28, .ref d29, .ref d30, .ref d31, .ref d32, .ref d33, .ref d34, .ref d35, .ref d36, .int 0, .int 0, .ref d39, .int 0]))] U.heap ∧ va_K (dC, dI) vwCl (gTy cI cZ cN cO) U)) (vp_Si (fun r => r = 0)) 0 0 (fun _ => False) := by
  refine Met.ofW (cc := cX4_isOperation) (maxL := 2) (ret := (some .boolean)) (by decide) rfl ?_
  intro p e s m args below meth c s₁ B hml hv
  obtain ⟨rfl, hP, hK⟩ := hv
  have hx := B.exec
  have hb := B.bytes
  have hr := B.returns
  have hts := atoms_spec (ws := (.code yX4_isOperation cX4_isOperation 2 (some .boolean) :: gw)) B.pre
  have hg : ∀ w ∈ gw, w.before _ s = true := fun w h => hts w (List.mem_cons_of_mem _ h)
  have hown : s.vm.findClass RX4 = some m.cls := findClass_of_methodNamed B.named
  have hlocks := B.notSynchronized
  have hl := lv_entry ([.ref m0, .int p0]) (n := 2) (Nat.le_of_ble_eq_true rfl)
  rw [lg_entry_eq]
  generalize (lg_sl ([.ref m0, .int p0]) ++ List.replicate (2 - (lg_sl ([.ref m0, .int p0])).length) Slot.unset).toArray = ls at hl ⊢
  have hl : lv_has ls 2 [(0, .ref m0), (1, .int p0)] := hl
  refine lv_iload_n hx hb dX4_isOperation_0 rfl (lv_at hl 1 rfl) ?_
  refine lv_iconst (v := 1) hx hb dX4_isOperation_1 (by decide) ?_
  refine lv_icmp_lt (tgt := 17) hx hb dX4_isOperation_2 (by decide) (fun c_2 => ?_) (fun c_2 => ?_)
  · refine lv_iconst (v := 0) hx hb dX4_isOperation_17 (by decide) ?_
    exact W.zret (v := 0) (ty := .boolean) hx hb hr rfl (fun t ht hW => ⟨_, rfl, rfl, ht⟩) (fun _ h => by cases h) dX4_isOperation_18
  · refine lv_iload_n hx hb dX4_isOperation_5 rfl (lv_at hl 1 rfl) ?_
    refine lv_aload_n hx hb dX4_isOperation_6 rfl (lv_at hl 0 rfl) ?_
    refine va_get (D := (dC, dI)) (ci := 4) (v := .int 0) (C := RX4) (T := TX4) (N := 41) hx hb hg inX4 hown hK hP 0 rfl rfl 37 (by decide) (hg _ kF_X4_129) (fun _ h9 => h9) rfl dX4_isOperation_7 ?_
    refine lv_icmp_gt (tgt := 17) hx hb dX4_isOperation_10 (by decide) (fun c_10 => ?_) (fun c_10 => absurd (Int32.lt_of_lt_of_le (by decide) (Int32.not_lt.mp c_2)) c_10)
    refine lv_iconst (v := 0) hx hb dX4_isOperation_17 (by decide) ?_
    exact W.zret (v := 0) (ty := .boolean) hx hb hr rfl (fun t ht hW => ⟨_, rfl, rfl, ht⟩) (fun _ h => by cases h) dX4_isOperation_18
set_option maxHeartbeats 4000000 in
set_option maxRecDepth 100000 in
theorem c_X4_hasRoom (l : Launch) (dC : Nat → ClassId) (dI : Nat → Nat → Nat) (cI cZ cN cO : ClassId) (m0 d2 d3 d4 d5 d6 d7 d8 d13 d14 d15 d16 d17 d18 d19 d20 d21 d22 d23 d24 d25 d26 d27 d28 d29 d30 d31 d32 d33 d34 d35 d36 d39 n : Nat) (th mn p0 : Int32)  : Met l yX4_hasRoom (.code yX4_hasRoom cX4_hasRoom 2 (some .boolean) :: gw) ({ frames := 0, cells := 0, slots := 0, locals := 0 }) (va_Pc [.ref m0, .int p0] (fun U => va_P (dC, dI) vwCl [(m0, .inr (4, [.int (nI n), .int th, .ref d2, .ref d3, .ref d4, .ref d5, .ref d6, .ref d7, .ref d8, .int mn, .int 0, .int 0, .int 0, .ref d13, .ref d14, .ref d15, .ref d16, .ref d17, .ref d18, .ref d19, .ref d20, .ref d21, .ref d22, .ref d23, .ref d24, .ref d25, .ref d26, .ref d27, .ref d28, .ref d29, .ref d30, .ref d31, .ref d32, .ref d33, .ref d34, .ref d35, .ref d36, .int 0, .int 0, .ref d39, .int 0]))] U.heap ∧ va_K (dC, dI) vwCl (gTy cI cZ cN cO) U)) (vp_Si (fun r => r = if (¬ 2000 < mn + p0) then 1 else 0)) 0 0 (fun _ => False) := by
  refine Met.ofW (cc := cX4_hasRoom) (maxL := 2) (ret := (some .boolean)) (by decide) rfl ?_
  intro p e s m args below meth c s₁ B hml hv
  obtain ⟨rfl, hP, hK⟩ := hv
  have hx := B.exec
  have hb := B.bytes
  have hr := B.returns
  have hts := atoms_spec (ws := (.code yX4_hasRoom cX4_hasRoom 2 (some .boolean) :: gw)) B.pre
  have hg : ∀ w ∈ gw, w.before _ s = true := fun w h => hts w (List.mem_cons_of_mem _ h)
  have hown : s.vm.findClass RX4 = some m.cls := findClass_of_methodNamed B.named
  have hlocks := B.notSynchronized
  have hl := lv_entry ([.ref m0, .int p0]) (n := 2) (Nat.le_of_ble_eq_true rfl)
  rw [lg_entry_eq]
  generalize (lg_sl ([.ref m0, .int p0]) ++ List.replicate (2 - (lg_sl ([.ref m0, .int p0])).length) Slot.unset).toArray = ls at hl ⊢
  have hl : lv_has ls 2 [(0, .ref m0), (1, .int p0)] := hl
  refine lv_aload_n hx hb dX4_hasRoom_0 rfl (lv_at hl 0 rfl) ?_
  refine va_get (D := (dC, dI)) (ci := 4) (v := .int mn) (C := RX4) (T := TX4) (N := 41) hx hb hg inX4 hown hK hP 0 rfl rfl 9 (by decide) (hg _ kF_X4_115) (fun _ h9 => h9) rfl dX4_hasRoom_1 ?_
  refine lv_iload_n hx hb dX4_hasRoom_4 rfl (lv_at hl 1 rfl) ?_
  refine lv_iadd hx hb dX4_hasRoom_5 ?_
  refine lv_topi (fun t_1 et_1 => ?_)
  refine lv_sipush (v := 2000) hx hb dX4_hasRoom_6 (by decide) ?_
  refine lv_icmp_gt (tgt := 16) hx hb dX4_hasRoom_9 (by decide) (fun c_9 => ?_) (fun c_9 => ?_)
  · refine lv_iconst (v := 0) hx hb dX4_hasRoom_16 (by decide) ?_
    exact W.zret (v := 0) (ty := .boolean) hx hb hr rfl (fun t ht hW => ⟨_, rfl, (by first | exact (if_pos (by rw [← et_1]; assumption)).symm | exact (if_neg (fun h => h (by rw [← et_1]; assumption))).symm), ht⟩) (fun _ h => by cases h) dX4_hasRoom_17
  · refine lv_iconst (v := 1) hx hb dX4_hasRoom_12 (by decide) ?_
    refine lv_goto (tgt := 17) hx hb dX4_hasRoom_13 (by decide) ?_
    exact W.zret (v := 1) (ty := .boolean) hx hb hr rfl (fun t ht hW => ⟨_, rfl, (by first | exact (if_pos (by rw [← et_1]; assumption)).symm | exact (if_neg (fun h => h (by rw [← et_1]; assumption))).symm), ht⟩) (fun _ h => by cases h) dX4_hasRoom_17
set_option maxHeartbeats 4000000 in
set_option maxRecDepth 100000 in
theorem c_X4_thrown (l : Launch) (dC : Nat → ClassId) (dI : Nat → Nat → Nat) (cI cZ cN cO : ClassId) (m0 : Nat) (fs : List Value) (th : Int32) (hfs : fs[1]? = some (.int th)) : Met l yX4_thrown (.code yX4_thrown cX4_thrown 1 (some .int) :: gw) ({ frames := 0, cells := 0, slots := 0, locals := 0 }) (va_Pc [.ref m0] (fun U => va_P (dC, dI) vwCl [(m0, .inr (4, fs))] U.heap ∧ va_K (dC, dI) vwCl (gTy cI cZ cN cO) U)) (vp_Si (fun r => r = th)) 0 0 (fun _ => False) := by
  refine Met.ofW (cc := cX4_thrown) (maxL := 1) (ret := (some .int)) (by decide) rfl ?_
  intro p e s m args below meth c s₁ B hml hv
  obtain ⟨rfl, hP, hK⟩ := hv
  have hx := B.exec
  have hb := B.bytes
  have hr := B.returns
  have hts := atoms_spec (ws := (.code yX4_thrown cX4_thrown 1 (some .int) :: gw)) B.pre
  have hg : ∀ w ∈ gw, w.before _ s = true := fun w h => hts w (List.mem_cons_of_mem _ h)
  have hown : s.vm.findClass RX4 = some m.cls := findClass_of_methodNamed B.named
  have hlocks := B.notSynchronized
  have hl := lv_entry ([.ref m0]) (n := 1) (Nat.le_of_ble_eq_true rfl)
  rw [lg_entry_eq]
  generalize (lg_sl ([.ref m0]) ++ List.replicate (1 - (lg_sl ([.ref m0])).length) Slot.unset).toArray = ls at hl ⊢
  have hl : lv_has ls 1 [(0, .ref m0)] := hl
  refine lv_aload_n hx hb dX4_thrown_0 rfl (lv_at hl 0 rfl) ?_
  refine va_get (D := (dC, dI)) (ci := 4) (v := .int th) (C := RX4) (T := TX4) (N := 41) hx hb hg inX4 hown hK hP 0 rfl rfl 1 (by decide) (hg _ kF_X4_112) (fun _ h9 => h9) hfs dX4_thrown_1 ?_
  exact W.iret (v := th) hx hb hr (fun t ht hW => ⟨_, rfl, rfl, ht⟩) (fun _ h => by cases h) dX4_thrown_4
set_option maxHeartbeats 4000000 in
set_option maxRecDepth 100000 in
theorem c_X4_told (l : Launch) (dC : Nat → ClassId) (dI : Nat → Nat → Nat) (cI cZ cN cO : ClassId) (m0 d2 d3 d4 d5 d6 d7 d8 d13 d14 d15 d16 d17 d18 d19 d20 d21 d22 d23 d24 d25 d26 d27 d28 d29 d30 d31 d32 d33 d34 d35 d36 d39 n : Nat) (p0 p1 : Int32) (sz : Nat)  : Met l yX4_told (.code yX4_told cX4_told 3 (some .int) :: gw) ({ frames := 1, cells := 0, slots := 0, locals := 21 }) (va_Pc [.ref m0, .int p0, .int p1] (fun U => U.heap.size = sz ∧ va_P (dC, dI) vwCl [(m0, .inr (4, [.int (nI n), .int 0, .ref d2, .ref d3, .ref d4, .ref d5, .ref d6, .ref d7, .ref d8, .int 0, .int 0, .int 0, .int 0, .ref d13, .ref d14, .ref d15, .ref d16, .ref d17, .ref d18, .ref d19, .ref d20, .ref d21, .ref d22, .ref d23, .ref d24, .ref d25, .ref d26, .ref d27, .ref d28, .ref d29, .ref d30, .ref d31, .ref d32, .ref d33, .ref d34, .ref d35, .ref d36, .int 0, .int 0, .ref d39, .int 0]))] U.heap ∧ va_K (dC, dI) vwCl (gTy cI cZ cN cO) U ∧ va_D (fun _ => True) [(m0, .inr (4, [.int (nI n), .int 0, .ref d2, .ref d3, .ref d4, .ref d5, .ref d6, .ref d7, .ref d8, .int 0, .int 0, .int 0, .int 0, .ref d13, .ref d14, .ref d15, .ref d16, .ref d17, .ref d18, .ref d19, .ref d20, .ref d21, .ref d22, .ref d23, .ref d24, .ref d25, .ref d26, .ref d27, .ref d28, .ref d29, .ref d30, .ref d31, .ref d32, .ref d33, .ref d34, .ref d35, .ref d36, .int 0, .int 0, .ref d39, .int 0]))])) (va_Qi (fun (r : Int32) (_ : Unit) => r = -1) (fun (_ : Unit) (t : State) => va_P (dC, dI) vwCl [] t.heap ∧ va_K (dC, dI) vwCl (gTy cI cZ cN cO) t ∧ va_D (va_A [(m0, .inr (4, [.int (nI n), .int 0, .ref d2, .ref d3, .ref d4, .ref d5, .ref d6, .ref d7, .ref d8, .int 0, .int 0, .int 0, .int 0, .ref d13, .ref d14, .ref d15, .ref d16, .ref d17, .ref d18, .ref d19, .ref d20, .ref d21, .ref d22, .ref d23, .ref d24, .ref d25, .ref d26, .ref d27, .ref d28, .ref d29, .ref d30, .ref d31, .ref d32, .ref d33, .ref d34, .ref d35, .ref d36, .int 0, .int 0, .ref d39, .int 0]))] sz) []) (va_A [(m0, .inr (4, [.int (nI n), .int 0, .ref d2, .ref d3, .ref d4, .ref d5, .ref d6, .ref d7, .ref d8, .int 0, .int 0, .int 0, .int 0, .ref d13, .ref d14, .ref d15, .ref d16, .ref d17, .ref d18, .ref d19, .ref d20, .ref d21, .ref d22, .ref d23, .ref d24, .ref d25, .ref d26, .ref d27, .ref d28, .ref d29, .ref d30, .ref d31, .ref d32, .ref d33, .ref d34, .ref d35, .ref d36, .int 0, .int 0, .ref d39, .int 0]))] sz)) (0) (0) (va_A [(m0, .inr (4, [.int (nI n), .int 0, .ref d2, .ref d3, .ref d4, .ref d5, .ref d6, .ref d7, .ref d8, .int 0, .int 0, .int 0, .int 0, .ref d13, .ref d14, .ref d15, .ref d16, .ref d17, .ref d18, .ref d19, .ref d20, .ref d21, .ref d22, .ref d23, .ref d24, .ref d25, .ref d26, .ref d27, .ref d28, .ref d29, .ref d30, .ref d31, .ref d32, .ref d33, .ref d34, .ref d35, .ref d36, .int 0, .int 0, .ref d39, .int 0]))] sz) := by
  refine Met.ofW (cc := cX4_told) (maxL := 3) (ret := (some .int)) (by decide) rfl ?_
  intro p e s m args below meth c s₁ B hml hv
  obtain ⟨rfl, hsz, hP, hK, hD0⟩ := hv
  have hx := B.exec
  have hb := B.bytes
  have hr := B.returns
  have hts := atoms_spec (ws := (.code yX4_told cX4_told 3 (some .int) :: gw)) B.pre
  have hg : ∀ w ∈ gw, w.before _ s = true := fun w h => hts w (List.mem_cons_of_mem _ h)
  have hown : s.vm.findClass RX4 = some m.cls := findClass_of_methodNamed B.named
  have hlocks := B.notSynchronized
  subst hsz
  have hD := hD0.self (sz := s.heap.size)
  generalize hAe : va_A [(m0, .inr (4, [.int (nI n), .int 0, .ref d2, .ref d3, .ref d4, .ref d5, .ref d6, .ref d7, .ref d8, .int 0, .int 0, .int 0, .int 0, .ref d13, .ref d14, .ref d15, .ref d16, .ref d17, .ref d18, .ref d19, .ref d20, .ref d21, .ref d22, .ref d23, .ref d24, .ref d25, .ref d26, .ref d27, .ref d28, .ref d29, .ref d30, .ref d31, .ref d32, .ref d33, .ref d34, .ref d35, .ref d36, .int 0, .int 0, .ref d39, .int 0]))] s.heap.size = A at hD ⊢
  have hA : ∀ q : Nat, s.heap.size ≤ q → A q := fun q h => by rw [← hAe]; exact Or.inr h
  have hS : va_S A s.heap s.heap [] := va_S.rf
  obtain ⟨H, eH⟩ : ∃ z, z = s.heap := ⟨_, rfl⟩
  obtain ⟨locs, elocs⟩ : ∃ z : List Loc, z = [] := ⟨_, rfl⟩
  have hP : va_P (dC, dI) vwCl [(m0, .inr (4, [.int (nI n), .int 0, .ref d2, .ref d3, .ref d4, .ref d5, .ref d6, .ref d7, .ref d8, .int 0, .int 0, .int 0, .int 0, .ref d13, .ref d14, .ref d15, .ref d16, .ref d17, .ref d18, .ref d19, .ref d20, .ref d21, .ref d22, .ref d23, .ref d24, .ref d25, .ref d26, .ref d27, .ref d28, .ref d29, .ref d30, .ref d31, .ref d32, .ref d33, .ref d34, .ref d35, .ref d36, .int 0, .int 0, .ref d39, .int 0]))] H := by rw [eH]; exact hP
  have hS : va_S A s.heap H locs := by rw [eH, elocs]; exact hS
  have hl := lv_entry ([.ref m0, .int p0, .int p1]) (n := 3) (Nat.le_of_ble_eq_true rfl)
  rw [lg_entry_eq]
  generalize (lg_sl ([.ref m0, .int p0, .int p1]) ++ List.replicate (3 - (lg_sl ([.ref m0, .int p0, .int p1])).length) Slot.unset).toArray = ls at hl ⊢
  have hl : lv_has ls 3 [(0, .ref m0), (1, .int p0), (2, .int p1)] := hl
  rw [← elocs]
  suffices hgoal : ∀ HH, H = HH → W p l e (headSpec (.code yX4_told cX4_told 3 (some .int) :: gw) ({ frames := 1, cells := 0, slots := 0, locals := 21 })).room s m _ below meth c HH locs 0 0 _ (F0 m 0 ls []) from hgoal _ eH
  rintro _ rfl
  refine lv_aload_n hx hb dX4_told_0 rfl (lv_at hl 0 rfl) ?_
  refine lv_iconst (v := 0) hx hb dX4_told_1 (by decide) ?_
  refine va_put (D := (dC, dI)) (ci := 4) (v := .int 0) (ty := .int) (C := RX4) (T := TX4) (N := 41) hx hb hg inX4 tyX4 tyX4_ok nmX4 hown hK hP hD hS 0 rfl rfl 1 (by decide) (hg _ kF_X4_112) (fun _ h9 => h9) rfl (by decide +kernel) rfl rfl (Nat.le_of_ble_eq_true rfl) dX4_told_2 (fun H locs hP hD hS => ?_)
  have hP : va_P (dC, dI) vwCl [(m0, .inr (4, [.int (nI n), .int 0, .ref d2, .ref d3, .ref d4, .ref d5, .ref d6, .ref d7, .ref d8, .int 0, .int 0, .int 0, .int 0, .ref d13, .ref d14, .ref d15, .ref d16, .ref d17, .ref d18, .ref d19, .ref d20, .ref d21, .ref d22, .ref d23, .ref d24, .ref d25, .ref d26, .ref d27, .ref d28, .ref d29, .ref d30, .ref d31, .ref d32, .ref d33, .ref d34, .ref d35, .ref d36, .int 0, .int 0, .ref d39, .int 0]))] H := hP
  have hD : va_D A [(m0, .inr (4, [.int (nI n), .int 0, .ref d2, .ref d3, .ref d4, .ref d5, .ref d6, .ref d7, .ref d8, .int 0, .int 0, .int 0, .int 0, .ref d13, .ref d14, .ref d15, .ref d16, .ref d17, .ref d18, .ref d19, .ref d20, .ref d21, .ref d22, .ref d23, .ref d24, .ref d25, .ref d26, .ref d27, .ref d28, .ref d29, .ref d30, .ref d31, .ref d32, .ref d33, .ref d34, .ref d35, .ref d36, .int 0, .int 0, .ref d39, .int 0]))] := hD
  refine lv_aload_n hx hb dX4_told_5 rfl (lv_at hl 0 rfl) ?_
  refine lv_iload_n hx hb dX4_told_6 rfl (lv_at hl 1 rfl) ?_
  have hPc := hP.sub (ws' := [(m0, .inr (4, [.int (nI n), .int 0, .ref d2, .ref d3, .ref d4, .ref d5, .ref d6, .ref d7, .ref d8, .int 0, .int 0, .int 0, .int 0, .ref d13, .ref d14, .ref d15, .ref d16, .ref d17, .ref d18, .ref d19, .ref d20, .ref d21, .ref d22, .ref d23, .ref d24, .ref d25, .ref d26, .ref d27, .ref d28, .ref d29, .ref d30, .ref d31, .ref d32, .ref d33, .ref d34, .ref d35, .ref d36, .int 0, .int 0, .ref d39, .int 0]))]) [0] rfl
  refine vp_callSi (W.runV (As := [.int p0]) (rest := []) ⟨hx, hb, hml, hown, hg⟩ (c_X4_isOperation l dC dI cI cZ cN cO m0 d2 d3 d4 d5 d6 d7 d8 d13 d14 d15 d16 d17 d18 d19 d20 d21 d22 d23 d24 d25 d26 d27 d28 d29 d30 d31 d32 d33 d34 d35 d36 d39 n 0 p0) (cwV 1 hg (gw_V kM_X4_198 kI_X4_isOperation kS_X4_isOperation kN_X4 kD_X4_isOperation) rfl rfl rfl (by decide +kernel) ⟨Nat.le_of_ble_eq_true rfl, Nat.le_of_ble_eq_true rfl⟩) ⟨fun a U g mk q => by obtain ⟨q0, qP, qK⟩ := q; exact ⟨q0, qP, va_K.moved (u := U) (U := U.calling g mk a) (Vm.Alike.refl U.vm) qK⟩, va_recv hK hP (ci := 4) (q0 := 0) rfl rfl, fun U hU hW => ⟨rfl, by rw [hU]; exact hPc, va_K.moved hW.alike hK⟩⟩ rfl rfl hl.1 rfl (lv_room (Nat.le_of_ble_eq_true rfl)) dX4_told_7 ⟨Nat.zero_le _, Nat.zero_le _⟩) (fun r_1 hr_1 => ?_)
  refine lv_if_ne (tgt := 15) hx hb dX4_told_10 (by decide) (fun c_10 => absurd hr_1 c_10) (fun c_10 => ?_)
  refine lv_iconst (v := (-1)) hx hb dX4_told_13 (by decide) ?_
  have hP9 := hP.sub (ws' := []) [] rfl
  have hD9 := hD.sub (ws' := []) [] (by decide) rfl
  refine W.widen (k := 0) (n := 0) (by omega) (by omega) ?_
  exact W.iret (v := (-1)) hx hb hr (fun t ht hW => ⟨⟨_, (), rfl, rfl, by rw [ht]; exact hP9, va_K.moved hW.alike hK, hD9⟩, hS.F ht⟩) hS.2.2 dX4_told_14
set_option maxHeartbeats 4000000 in
set_option maxRecDepth 100000 in
theorem c_X4_view (l : Launch) (dC : Nat → ClassId) (dI : Nat → Nat → Nat) (cI cZ cN cO : ClassId) (m0 d2 d3 d4 d5 d6 d7 d8 d13 d14 d15 d16 d17 d18 d19 d20 d21 d22 d23 d24 d25 d26 d27 d28 d29 d30 d31 d32 d33 d34 d35 d36 d39 n : Nat) (p0 p1 : Int32) (sz : Nat)  : Met l yX4_view (.code yX4_view cX4_view 3 (some .int) :: gw) ({ frames := 1, cells := 0, slots := 0, locals := 21 }) (va_Pc [.ref m0, .int p0, .int p1] (fun U => U.heap.size = sz ∧ va_P (dC, dI) vwCl [(m0, .inr (4, [.int (nI n), .int 0, .ref d2, .ref d3, .ref d4, .ref d5, .ref d6, .ref d7, .ref d8, .int 0, .int 0, .int 0, .int 0, .ref d13, .ref d14, .ref d15, .ref d16, .ref d17, .ref d18, .ref d19, .ref d20, .ref d21, .ref d22, .ref d23, .ref d24, .ref d25, .ref d26, .ref d27, .ref d28, .ref d29, .ref d30, .ref d31, .ref d32, .ref d33, .ref d34, .ref d35, .ref d36, .int 0, .int 0, .ref d39, .int 0]))] U.heap ∧ va_K (dC, dI) vwCl (gTy cI cZ cN cO) U ∧ va_D (fun _ => True) [(m0, .inr (4, [.int (nI n), .int 0, .ref d2, .ref d3, .ref d4, .ref d5, .ref d6, .ref d7, .ref d8, .int 0, .int 0, .int 0, .int 0, .ref d13, .ref d14, .ref d15, .ref d16, .ref d17, .ref d18, .ref d19, .ref d20, .ref d21, .ref d22, .ref d23, .ref d24, .ref d25, .ref d26, .ref d27, .ref d28, .ref d29, .ref d30, .ref d31, .ref d32, .ref d33, .ref d34, .ref d35, .ref d36, .int 0, .int 0, .ref d39, .int 0]))])) (va_Qi (fun (r : Int32) (_ : Unit) => r = -1) (fun (_ : Unit) (t : State) => va_P (dC, dI) vwCl [] t.heap ∧ va_K (dC, dI) vwCl (gTy cI cZ cN cO) t ∧ va_D (va_A [(m0, .inr (4, [.int (nI n), .int 0, .ref d2, .ref d3, .ref d4, .ref d5, .ref d6, .ref d7, .ref d8, .int 0, .int 0, .int 0, .int 0, .ref d13, .ref d14, .ref d15, .ref d16, .ref d17, .ref d18, .ref d19, .ref d20, .ref d21, .ref d22, .ref d23, .ref d24, .ref d25, .ref d26, .ref d27, .ref d28, .ref d29, .ref d30, .ref d31, .ref d32, .ref d33, .ref d34, .ref d35, .ref d36, .int 0, .int 0, .ref d39, .int 0]))] sz) []) (va_A [(m0, .inr (4, [.int (nI n), .int 0, .ref d2, .ref d3, .ref d4, .ref d5, .ref d6, .ref d7, .ref d8, .int 0, .int 0, .int 0, .int 0, .ref d13, .ref d14, .ref d15, .ref d16, .ref d17, .ref d18, .ref d19, .ref d20, .ref d21, .ref d22, .ref d23, .ref d24, .ref d25, .ref d26, .ref d27, .ref d28, .ref d29, .ref d30, .ref d31, .ref d32, .ref d33, .ref d34, .ref d35, .ref d36, .int 0, .int 0, .ref d39, .int 0]))] sz)) (0) (0) (va_A [(m0, .inr (4, [.int (nI n), .int 0, .ref d2, .ref d3, .ref d4, .ref d5, .ref d6, .ref d7, .ref d8, .int 0, .int 0, .int 0, .int 0, .ref d13, .ref d14, .ref d15, .ref d16, .ref d17, .ref d18, .ref d19, .ref d20, .ref d21, .ref d22, .ref d23, .ref d24, .ref d25, .ref d26, .ref d27, .ref d28, .ref d29, .ref d30, .ref d31, .ref d32, .ref d33, .ref d34, .ref d35, .ref d36, .int 0, .int 0, .ref d39, .int 0]))] sz) := by
  refine Met.ofW (cc := cX4_view) (maxL := 3) (ret := (some .int)) (by decide) rfl ?_
  intro p e s m args below meth c s₁ B hml hv
  obtain ⟨rfl, hsz, hP, hK, hD0⟩ := hv
  have hx := B.exec
  have hb := B.bytes
  have hr := B.returns
  have hts := atoms_spec (ws := (.code yX4_view cX4_view 3 (some .int) :: gw)) B.pre
  have hg : ∀ w ∈ gw, w.before _ s = true := fun w h => hts w (List.mem_cons_of_mem _ h)
  have hown : s.vm.findClass RX4 = some m.cls := findClass_of_methodNamed B.named
  have hlocks := B.notSynchronized
  subst hsz
  have hD := hD0.self (sz := s.heap.size)
  generalize hAe : va_A [(m0, .inr (4, [.int (nI n), .int 0, .ref d2, .ref d3, .ref d4, .ref d5, .ref d6, .ref d7, .ref d8, .int 0, .int 0, .int 0, .int 0, .ref d13, .ref d14, .ref d15, .ref d16, .ref d17, .ref d18, .ref d19, .ref d20, .ref d21, .ref d22, .ref d23, .ref d24, .ref d25, .ref d26, .ref d27, .ref d28, .ref d29, .ref d30, .ref d31, .ref d32, .ref d33, .ref d34, .ref d35, .ref d36, .int 0, .int 0, .ref d39, .int 0]))] s.heap.size = A at hD ⊢
  have hA : ∀ q : Nat, s.heap.size ≤ q → A q := fun q h => by rw [← hAe]; exact Or.inr h
  have hS : va_S A s.heap s.heap [] := va_S.rf
  obtain ⟨H, eH⟩ : ∃ z, z = s.heap := ⟨_, rfl⟩
  obtain ⟨locs, elocs⟩ : ∃ z : List Loc, z = [] := ⟨_, rfl⟩
  have hP : va_P (dC, dI) vwCl [(m0, .inr (4, [.int (nI n), .int 0, .ref d2, .ref d3, .ref d4, .ref d5, .ref d6, .ref d7, .ref d8, .int 0, .int 0, .int 0, .int 0, .ref d13, .ref d14, .ref d15, .ref d16, .ref d17, .ref d18, .ref d19, .ref d20, .ref d21, .ref d22, .ref d23, .ref d24, .ref d25, .ref d26, .ref d27, .ref d28, .ref d29, .ref d30, .ref d31, .ref d32, .ref d33, .ref d34, .ref d35, .ref d36, .int 0, .int 0, .ref d39, .int 0]))] H := by rw [eH]; exact hP
  have hS : va_S A s.heap H locs := by rw [eH, elocs]; exact hS
  have hl := lv_entry ([.ref m0, .int p0, .int p1]) (n := 3) (Nat.le_of_ble_eq_true rfl)
  rw [lg_entry_eq]
  generalize (lg_sl ([.ref m0, .int p0, .int p1]) ++ List.replicate (3 - (lg_sl ([.ref m0, .int p0, .int p1])).length) Slot.unset).toArray = ls at hl ⊢
  have hl : lv_has ls 3 [(0, .ref m0), (1, .int p0), (2, .int p1)] := hl
  rw [← elocs]
  suffices hgoal : ∀ HH, H = HH → W p l e (headSpec (.code yX4_view cX4_view 3 (some .int) :: gw) ({ frames := 1, cells := 0, slots := 0, locals := 21 })).room s m _ below meth c HH locs 0 0 _ (F0 m 0 ls []) from hgoal _ eH
  rintro _ rfl
  refine lv_aload_n hx hb dX4_view_0 rfl (lv_at hl 0 rfl) ?_
  refine lv_iconst (v := 0) hx hb dX4_view_1 (by decide) ?_
  refine va_put (D := (dC, dI)) (ci := 4) (v := .int 0) (ty := .int) (C := RX4) (T := TX4) (N := 41) hx hb hg inX4 tyX4 tyX4_ok nmX4 hown hK hP hD hS 0 rfl rfl 1 (by decide) (hg _ kF_X4_112) (fun _ h9 => h9) rfl (by decide +kernel) rfl rfl (Nat.le_of_ble_eq_true rfl) dX4_view_2 (fun H locs hP hD hS => ?_)
  have hP : va_P (dC, dI) vwCl [(m0, .inr (4, [.int (nI n), .int 0, .ref d2, .ref d3, .ref d4, .ref d5, .ref d6, .ref d7, .ref d8, .int 0, .int 0, .int 0, .int 0, .ref d13, .ref d14, .ref d15, .ref d16, .ref d17, .ref d18, .ref d19, .ref d20, .ref d21, .ref d22, .ref d23, .ref d24, .ref d25, .ref d26, .ref d27, .ref d28, .ref d29, .ref d30, .ref d31, .ref d32, .ref d33, .ref d34, .ref d35, .ref d36, .int 0, .int 0, .ref d39, .int 0]))] H := hP
  have hD : va_D A [(m0, .inr (4, [.int (nI n), .int 0, .ref d2, .ref d3, .ref d4, .ref d5, .ref d6, .ref d7, .ref d8, .int 0, .int 0, .int 0, .int 0, .ref d13, .ref d14, .ref d15, .ref d16, .ref d17, .ref d18, .ref d19, .ref d20, .ref d21, .ref d22, .ref d23, .ref d24, .ref d25, .ref d26, .ref d27, .ref d28, .ref d29, .ref d30, .ref d31, .ref d32, .ref d33, .ref d34, .ref d35, .ref d36, .int 0, .int 0, .ref d39, .int 0]))] := hD
  refine lv_aload_n hx hb dX4_view_5 rfl (lv_at hl 0 rfl) ?_
  refine lv_iload_n hx hb dX4_view_6 rfl (lv_at hl 1 rfl) ?_
  have hPc := hP.sub (ws' := [(m0, .inr (4, [.int (nI n), .int 0, .ref d2, .ref d3, .ref d4, .ref d5, .ref d6, .ref d7, .ref d8, .int 0, .int 0, .int 0, .int 0, .ref d13, .ref d14, .ref d15, .ref d16, .ref d17, .ref d18, .ref d19, .ref d20, .ref d21, .ref d22, .ref d23, .ref d24, .ref d25, .ref d26, .ref d27, .ref d28, .ref d29, .ref d30, .ref d31, .ref d32, .ref d33, .ref d34, .ref d35, .ref d36, .int 0, .int 0, .ref d39, .int 0]))]) [0] rfl
  refine vp_callSi (W.runV (As := [.int p0]) (rest := []) ⟨hx, hb, hml, hown, hg⟩ (c_X4_isOperation l dC dI cI cZ cN cO m0 d2 d3 d4 d5 d6 d7 d8 d13 d14 d15 d16 d17 d18 d19 d20 d21 d22 d23 d24 d25 d26 d27 d28 d29 d30 d31 d32 d33 d34 d35 d36 d39 n 0 p0) (cwV 1 hg (gw_V kM_X4_198 kI_X4_isOperation kS_X4_isOperation kN_X4 kD_X4_isOperation) rfl rfl rfl (by decide +kernel) ⟨Nat.le_of_ble_eq_true rfl, Nat.le_of_ble_eq_true rfl⟩) ⟨fun a U g mk q => by obtain ⟨q0, qP, qK⟩ := q; exact ⟨q0, qP, va_K.moved (u := U) (U := U.calling g mk a) (Vm.Alike.refl U.vm) qK⟩, va_recv hK hP (ci := 4) (q0 := 0) rfl rfl, fun U hU hW => ⟨rfl, by rw [hU]; exact hPc, va_K.moved hW.alike hK⟩⟩ rfl rfl hl.1 rfl (lv_room (Nat.le_of_ble_eq_true rfl)) dX4_view_7 ⟨Nat.zero_le _, Nat.zero_le _⟩) (fun r_1 hr_1 => ?_)
  refine lv_if_eq (tgt := 44) hx hb dX4_view_10 (by decide) (fun c_10 => ?_) (fun c_10 => absurd hr_1 c_10)
  refine lv_iconst (v := (-1)) hx hb dX4_view_44 (by decide) ?_
  have hP9 := hP.sub (ws' := []) [] rfl
  have hD9 := hD.sub (ws' := []) [] (by decide) rfl
  refine W.widen (k := 0) (n := 0) (by omega) (by omega) ?_
  exact W.iret (v := (-1)) hx hb hr (fun t ht hW => ⟨⟨_, (), rfl, rfl, by rw [ht]; exact hP9, va_K.moved hW.alike hK, hD9⟩, hS.F ht⟩) hS.2.2 dX4_view_45
set_option maxHeartbeats 4000000 in
set_option maxRecDepth 100000 in
theorem c_X4_message (l : Launch) (dC : Nat → ClassId) (dI : Nat → Nat → Nat) (cI cZ cN cO : ClassId) (m0 d2 d3 d4 d5 d6 d7 d8 d13 d14 d15 d16 d17 d18 d19 d20 d21 d22 d23 d24 d25 d26 d27 d28 d29 d30 d31 d32 d33 d34 d35 d36 d39 n : Nat) (p0 p1 : Int32) (sz : Nat)  : Met l yX4_message (.code yX4_message cX4_message 4 (some .int) :: gw) ({ frames := 1, cells := 0, slots := 0, locals := 21 }) (va_Pc [.ref m0, .int p0, .int p1] (fun U => U.heap.size = sz ∧ va_P (dC, dI) vwCl [(m0, .inr (4, [.int (nI n), .int 0, .ref d2, .ref d3, .ref d4, .ref d5, .ref d6, .ref d7, .ref d8, .int 0, .int 0, .int 0, .int 0, .ref d13, .ref d14, .ref d15, .ref d16, .ref d17, .ref d18, .ref d19, .ref d20, .ref d21, .ref d22, .ref d23, .ref d24, .ref d25, .ref d26, .ref d27, .ref d28, .ref d29, .ref d30, .ref d31, .ref d32, .ref d33, .ref d34, .ref d35, .ref d36, .int 0, .int 0, .ref d39, .int 0]))] U.heap ∧ va_K (dC, dI) vwCl (gTy cI cZ cN cO) U ∧ va_D (fun _ => True) [(m0, .inr (4, [.int (nI n), .int 0, .ref d2, .ref d3, .ref d4, .ref d5, .ref d6, .ref d7, .ref d8, .int 0, .int 0, .int 0, .int 0, .ref d13, .ref d14, .ref d15, .ref d16, .ref d17, .ref d18, .ref d19, .ref d20, .ref d21, .ref d22, .ref d23, .ref d24, .ref d25, .ref d26, .ref d27, .ref d28, .ref d29, .ref d30, .ref d31, .ref d32, .ref d33, .ref d34, .ref d35, .ref d36, .int 0, .int 0, .ref d39, .int 0]))])) (va_Qi (fun (r : Int32) (_ : Unit) => r = -1) (fun (_ : Unit) (t : State) => va_P (dC, dI) vwCl [] t.heap ∧ va_K (dC, dI) vwCl (gTy cI cZ cN cO) t ∧ va_D (va_A [(m0, .inr (4, [.int (nI n), .int 0, .ref d2, .ref d3, .ref d4, .ref d5, .ref d6, .ref d7, .ref d8, .int 0, .int 0, .int 0, .int 0, .ref d13, .ref d14, .ref d15, .ref d16, .ref d17, .ref d18, .ref d19, .ref d20, .ref d21, .ref d22, .ref d23, .ref d24, .ref d25, .ref d26, .ref d27, .ref d28, .ref d29, .ref d30, .ref d31, .ref d32, .ref d33, .ref d34, .ref d35, .ref d36, .int 0, .int 0, .ref d39, .int 0]))] sz) []) (va_A [(m0, .inr (4, [.int (nI n), .int 0, .ref d2, .ref d3, .ref d4, .ref d5, .ref d6, .ref d7, .ref d8, .int 0, .int 0, .int 0, .int 0, .ref d13, .ref d14, .ref d15, .ref d16, .ref d17, .ref d18, .ref d19, .ref d20, .ref d21, .ref d22, .ref d23, .ref d24, .ref d25, .ref d26, .ref d27, .ref d28, .ref d29, .ref d30, .ref d31, .ref d32, .ref d33, .ref d34, .ref d35, .ref d36, .int 0, .int 0, .ref d39, .int 0]))] sz)) (0) (0) (va_A [(m0, .inr (4, [.int (nI n), .int 0, .ref d2, .ref d3, .ref d4, .ref d5, .ref d6, .ref d7, .ref d8, .int 0, .int 0, .int 0, .int 0, .ref d13, .ref d14, .ref d15, .ref d16, .ref d17, .ref d18, .ref d19, .ref d20, .ref d21, .ref d22, .ref d23, .ref d24, .ref d25, .ref d26, .ref d27, .ref d28, .ref d29, .ref d30, .ref d31, .ref d32, .ref d33, .ref d34, .ref d35, .ref d36, .int 0, .int 0, .ref d39, .int 0]))] sz) := by
  refine Met.ofW (cc := cX4_message) (maxL := 4) (ret := (some .int)) (by decide) rfl ?_
  intro p e s m args below meth c s₁ B hml hv
  obtain ⟨rfl, hsz, hP, hK, hD0⟩ := hv
  have hx := B.exec
  have hb := B.bytes
  have hr := B.returns
  have hts := atoms_spec (ws := (.code yX4_message cX4_message 4 (some .int) :: gw)) B.pre
  have hg : ∀ w ∈ gw, w.before _ s = true := fun w h => hts w (List.mem_cons_of_mem _ h)
  have hown : s.vm.findClass RX4 = some m.cls := findClass_of_methodNamed B.named
  have hlocks := B.notSynchronized
  subst hsz
  have hD := hD0.self (sz := s.heap.size)
  generalize hAe : va_A [(m0, .inr (4, [.int (nI n), .int 0, .ref d2, .ref d3, .ref d4, .ref d5, .ref d6, .ref d7, .ref d8, .int 0, .int 0, .int 0, .int 0, .ref d13, .ref d14, .ref d15, .ref d16, .ref d17, .ref d18, .ref d19, .ref d20, .ref d21, .ref d22, .ref d23, .ref d24, .ref d25, .ref d26, .ref d27, .ref d28, .ref d29, .ref d30, .ref d31, .ref d32, .ref d33, .ref d34, .ref d35, .ref d36, .int 0, .int 0, .ref d39, .int 0]))] s.heap.size = A at hD ⊢
  have hA : ∀ q : Nat, s.heap.size ≤ q → A q := fun q h => by rw [← hAe]; exact Or.inr h
  have hS : va_S A s.heap s.heap [] := va_S.rf
  obtain ⟨H, eH⟩ : ∃ z, z = s.heap := ⟨_, rfl⟩
  obtain ⟨locs, elocs⟩ : ∃ z : List Loc, z = [] := ⟨_, rfl⟩
  have hP : va_P (dC, dI) vwCl [(m0, .inr (4, [.int (nI n), .int 0, .ref d2, .ref d3, .ref d4, .ref d5, .ref d6, .ref d7, .ref d8, .int 0, .int 0, .int 0, .int 0, .ref d13, .ref d14, .ref d15, .ref d16, .ref d17, .ref d18, .ref d19, .ref d20, .ref d21, .ref d22, .ref d23, .ref d24, .ref d25, .ref d26, .ref d27, .ref d28, .ref d29, .ref d30, .ref d31, .ref d32, .ref d33, .ref d34, .ref d35, .ref d36, .int 0, .int 0, .ref d39, .int 0]))] H := by rw [eH]; exact hP
  have hS : va_S A s.heap H locs := by rw [eH, elocs]; exact hS
  have hl := lv_entry ([.ref m0, .int p0, .int p1]) (n := 4) (Nat.le_of_ble_eq_true rfl)
  rw [lg_entry_eq]
  generalize (lg_sl ([.ref m0, .int p0, .int p1]) ++ List.replicate (4 - (lg_sl ([.ref m0, .int p0, .int p1])).length) Slot.unset).toArray = ls at hl ⊢
  have hl : lv_has ls 4 [(0, .ref m0), (1, .int p0), (2, .int p1)] := hl
  rw [← elocs]
  suffices hgoal : ∀ HH, H = HH → W p l e (headSpec (.code yX4_message cX4_message 4 (some .int) :: gw) ({ frames := 1, cells := 0, slots := 0, locals := 21 })).room s m _ below meth c HH locs 0 0 _ (F0 m 0 ls []) from hgoal _ eH
  rintro _ rfl
  refine lv_aload_n hx hb dX4_message_0 rfl (lv_at hl 0 rfl) ?_
  refine lv_iconst (v := 0) hx hb dX4_message_1 (by decide) ?_
  refine va_put (D := (dC, dI)) (ci := 4) (v := .int 0) (ty := .int) (C := RX4) (T := TX4) (N := 41) hx hb hg inX4 tyX4 tyX4_ok nmX4 hown hK hP hD hS 0 rfl rfl 1 (by decide) (hg _ kF_X4_112) (fun _ h9 => h9) rfl (by decide +kernel) rfl rfl (Nat.le_of_ble_eq_true rfl) dX4_message_2 (fun H locs hP hD hS => ?_)
  have hP : va_P (dC, dI) vwCl [(m0, .inr (4, [.int (nI n), .int 0, .ref d2, .ref d3, .ref d4, .ref d5, .ref d6, .ref d7, .ref d8, .int 0, .int 0, .int 0, .int 0, .ref d13, .ref d14, .ref d15, .ref d16, .ref d17, .ref d18, .ref d19, .ref d20, .ref d21, .ref d22, .ref d23, .ref d24, .ref d25, .ref d26, .ref d27, .ref d28, .ref d29, .ref d30, .ref d31, .ref d32, .ref d33, .ref d34, .ref d35, .ref d36, .int 0, .int 0, .ref d39, .int 0]))] H := hP
  have hD : va_D A [(m0, .inr (4, [.int (nI n), .int 0, .ref d2, .ref d3, .ref d4, .ref d5, .ref d6, .ref d7, .ref d8, .int 0, .int 0, .int 0, .int 0, .ref d13, .ref d14, .ref d15, .ref d16, .ref d17, .ref d18, .ref d19, .ref d20, .ref d21, .ref d22, .ref d23, .ref d24, .ref d25, .ref d26, .ref d27, .ref d28, .ref d29, .ref d30, .ref d31, .ref d32, .ref d33, .ref d34, .ref d35, .ref d36, .int 0, .int 0, .ref d39, .int 0]))] := hD
  refine lv_iload_n hx hb dX4_message_5 rfl (lv_at hl 1 rfl) ?_
  refine lv_if_lt (tgt := 17) hx hb dX4_message_6 (by decide) (fun c_6 => ?_) (fun c_6 => ?_)
  · refine lv_iconst (v := (-1)) hx hb dX4_message_17 (by decide) ?_
    have hP9 := hP.sub (ws' := []) [] rfl
    have hD9 := hD.sub (ws' := []) [] (by decide) rfl
    refine W.widen (k := 0) (n := 0) (by omega) (by omega) ?_
    exact W.iret (v := (-1)) hx hb hr (fun t ht hW => ⟨⟨_, (), rfl, rfl, by rw [ht]; exact hP9, va_K.moved hW.alike hK, hD9⟩, hS.F ht⟩) hS.2.2 dX4_message_18
  · refine lv_iload_n hx hb dX4_message_9 rfl (lv_at hl 1 rfl) ?_
    refine lv_aload_n hx hb dX4_message_10 rfl (lv_at hl 0 rfl) ?_
    refine va_get (D := (dC, dI)) (ci := 4) (v := .int 0) (C := RX4) (T := TX4) (N := 41) hx hb hg inX4 hown hK hP 0 rfl rfl 9 (by decide) (hg _ kF_X4_115) (fun _ h9 => h9) rfl dX4_message_11 ?_
    refine lv_icmp_lt (tgt := 19) hx hb dX4_message_14 (by decide) (fun c_14 => absurd c_14 (Int32.not_lt.mpr (Int32.not_lt.mp c_6))) (fun c_14 => ?_)
    refine lv_iconst (v := (-1)) hx hb dX4_message_17 (by decide) ?_
    have hP9 := hP.sub (ws' := []) [] rfl
    have hD9 := hD.sub (ws' := []) [] (by decide) rfl
    refine W.widen (k := 0) (n := 0) (by omega) (by omega) ?_
    exact W.iret (v := (-1)) hx hb hr (fun t ht hW => ⟨⟨_, (), rfl, rfl, by rw [ht]; exact hP9, va_K.moved hW.alike hK, hD9⟩, hS.F ht⟩) hS.2.2 dX4_message_18
set_option maxHeartbeats 4000000 in
set_option maxRecDepth 100000 in
theorem c_X4_vector (l : Launch) (dC : Nat → ClassId) (dI : Nat → Nat → Nat) (cI cZ cN cO : ClassId) (m0 d2 d3 d4 d5 d6 d7 d8 d13 d14 d15 d16 d17 d18 d19 d20 d21 d22 d23 d24 d25 d26 d27 d28 d29 d30 d31 d32 d33 d34 d35 d36 d39 n : Nat) (p0 p1 : Int32) (sz : Nat)  : Met l yX4_vector (.code yX4_vector cX4_vector 4 (some .int) :: gw) ({ frames := 1, cells := 0, slots := 0, locals := 21 }) (va_Pc [.ref m0, .int p0, .int p1] (fun U => U.heap.size = sz ∧ va_P (dC, dI) vwCl [(m0, .inr (4, [.int (nI n), .int 0, .ref d2, .ref d3, .ref d4, .ref d5, .ref d6, .ref d7, .ref d8, .int 0, .int 0, .int 0, .int 0, .ref d13, .ref d14, .ref d15, .ref d16, .ref d17, .ref d18, .ref d19, .ref d20, .ref d21, .ref d22, .ref d23, .ref d24, .ref d25, .ref d26, .ref d27, .ref d28, .ref d29, .ref d30, .ref d31, .ref d32, .ref d33, .ref d34, .ref d35, .ref d36, .int 0, .int 0, .ref d39, .int 0]))] U.heap ∧ va_K (dC, dI) vwCl (gTy cI cZ cN cO) U ∧ va_D (fun _ => True) [(m0, .inr (4, [.int (nI n), .int 0, .ref d2, .ref d3, .ref d4, .ref d5, .ref d6, .ref d7, .ref d8, .int 0, .int 0, .int 0, .int 0, .ref d13, .ref d14, .ref d15, .ref d16, .ref d17, .ref d18, .ref d19, .ref d20, .ref d21, .ref d22, .ref d23, .ref d24, .ref d25, .ref d26, .ref d27, .ref d28, .ref d29, .ref d30, .ref d31, .ref d32, .ref d33, .ref d34, .ref d35, .ref d36, .int 0, .int 0, .ref d39, .int 0]))])) (va_Qi (fun (r : Int32) (_ : Unit) => r = -1) (fun (_ : Unit) (t : State) => va_P (dC, dI) vwCl [] t.heap ∧ va_K (dC, dI) vwCl (gTy cI cZ cN cO) t ∧ va_D (va_A [(m0, .inr (4, [.int (nI n), .int 0, .ref d2, .ref d3, .ref d4, .ref d5, .ref d6, .ref d7, .ref d8, .int 0, .int 0, .int 0, .int 0, .ref d13, .ref d14, .ref d15, .ref d16, .ref d17, .ref d18, .ref d19, .ref d20, .ref d21, .ref d22, .ref d23, .ref d24, .ref d25, .ref d26, .ref d27, .ref d28, .ref d29, .ref d30, .ref d31, .ref d32, .ref d33, .ref d34, .ref d35, .ref d36, .int 0, .int 0, .ref d39, .int 0]))] sz) []) (va_A [(m0, .inr (4, [.int (nI n), .int 0, .ref d2, .ref d3, .ref d4, .ref d5, .ref d6, .ref d7, .ref d8, .int 0, .int 0, .int 0, .int 0, .ref d13, .ref d14, .ref d15, .ref d16, .ref d17, .ref d18, .ref d19, .ref d20, .ref d21, .ref d22, .ref d23, .ref d24, .ref d25, .ref d26, .ref d27, .ref d28, .ref d29, .ref d30, .ref d31, .ref d32, .ref d33, .ref d34, .ref d35, .ref d36, .int 0, .int 0, .ref d39, .int 0]))] sz)) (0) (0) (va_A [(m0, .inr (4, [.int (nI n), .int 0, .ref d2, .ref d3, .ref d4, .ref d5, .ref d6, .ref d7, .ref d8, .int 0, .int 0, .int 0, .int 0, .ref d13, .ref d14, .ref d15, .ref d16, .ref d17, .ref d18, .ref d19, .ref d20, .ref d21, .ref d22, .ref d23, .ref d24, .ref d25, .ref d26, .ref d27, .ref d28, .ref d29, .ref d30, .ref d31, .ref d32, .ref d33, .ref d34, .ref d35, .ref d36, .int 0, .int 0, .ref d39, .int 0]))] sz) := by
  refine Met.ofW (cc := cX4_vector) (maxL := 4) (ret := (some .int)) (by decide) rfl ?_
  intro p e s m args below meth c s₁ B hml hv
  obtain ⟨rfl, hsz, hP, hK, hD0⟩ := hv
  have hx := B.exec
  have hb := B.bytes
  have hr := B.returns
  have hts := atoms_spec (ws := (.code yX4_vector cX4_vector 4 (some .int) :: gw)) B.pre
  have hg : ∀ w ∈ gw, w.before _ s = true := fun w h => hts w (List.mem_cons_of_mem _ h)
  have hown : s.vm.findClass RX4 = some m.cls := findClass_of_methodNamed B.named
  have hlocks := B.notSynchronized
  subst hsz
  have hD := hD0.self (sz := s.heap.size)
  generalize hAe : va_A [(m0, .inr (4, [.int (nI n), .int 0, .ref d2, .ref d3, .ref d4, .ref d5, .ref d6, .ref d7, .ref d8, .int 0, .int 0, .int 0, .int 0, .ref d13, .ref d14, .ref d15, .ref d16, .ref d17, .ref d18, .ref d19, .ref d20, .ref d21, .ref d22, .ref d23, .ref d24, .ref d25, .ref d26, .ref d27, .ref d28, .ref d29, .ref d30, .ref d31, .ref d32, .ref d33, .ref d34, .ref d35, .ref d36, .int 0, .int 0, .ref d39, .int 0]))] s.heap.size = A at hD ⊢
  have hA : ∀ q : Nat, s.heap.size ≤ q → A q := fun q h => by rw [← hAe]; exact Or.inr h
  have hS : va_S A s.heap s.heap [] := va_S.rf
  obtain ⟨H, eH⟩ : ∃ z, z = s.heap := ⟨_, rfl⟩
  obtain ⟨locs, elocs⟩ : ∃ z : List Loc, z = [] := ⟨_, rfl⟩
  have hP : va_P (dC, dI) vwCl [(m0, .inr (4, [.int (nI n), .int 0, .ref d2, .ref d3, .ref d4, .ref d5, .ref d6, .ref d7, .ref d8, .int 0, .int 0, .int 0, .int 0, .ref d13, .ref d14, .ref d15, .ref d16, .ref d17, .ref d18, .ref d19, .ref d20, .ref d21, .ref d22, .ref d23, .ref d24, .ref d25, .ref d26, .ref d27, .ref d28, .ref d29, .ref d30, .ref d31, .ref d32, .ref d33, .ref d34, .ref d35, .ref d36, .int 0, .int 0, .ref d39, .int 0]))] H := by rw [eH]; exact hP
  have hS : va_S A s.heap H locs := by rw [eH, elocs]; exact hS
  have hl := lv_entry ([.ref m0, .int p0, .int p1]) (n := 4) (Nat.le_of_ble_eq_true rfl)
  rw [lg_entry_eq]
  generalize (lg_sl ([.ref m0, .int p0, .int p1]) ++ List.replicate (4 - (lg_sl ([.ref m0, .int p0, .int p1])).length) Slot.unset).toArray = ls at hl ⊢
  have hl : lv_has ls 4 [(0, .ref m0), (1, .int p0), (2, .int p1)] := hl
  rw [← elocs]
  suffices hgoal : ∀ HH, H = HH → W p l e (headSpec (.code yX4_vector cX4_vector 4 (some .int) :: gw) ({ frames := 1, cells := 0, slots := 0, locals := 21 })).room s m _ below meth c HH locs 0 0 _ (F0 m 0 ls []) from hgoal _ eH
  rintro _ rfl
  refine lv_aload_n hx hb dX4_vector_0 rfl (lv_at hl 0 rfl) ?_
  refine lv_iconst (v := 0) hx hb dX4_vector_1 (by decide) ?_
  refine va_put (D := (dC, dI)) (ci := 4) (v := .int 0) (ty := .int) (C := RX4) (T := TX4) (N := 41) hx hb hg inX4 tyX4 tyX4_ok nmX4 hown hK hP hD hS 0 rfl rfl 1 (by decide) (hg _ kF_X4_112) (fun _ h9 => h9) rfl (by decide +kernel) rfl rfl (Nat.le_of_ble_eq_true rfl) dX4_vector_2 (fun H locs hP hD hS => ?_)
  have hP : va_P (dC, dI) vwCl [(m0, .inr (4, [.int (nI n), .int 0, .ref d2, .ref d3, .ref d4, .ref d5, .ref d6, .ref d7, .ref d8, .int 0, .int 0, .int 0, .int 0, .ref d13, .ref d14, .ref d15, .ref d16, .ref d17, .ref d18, .ref d19, .ref d20, .ref d21, .ref d22, .ref d23, .ref d24, .ref d25, .ref d26, .ref d27, .ref d28, .ref d29, .ref d30, .ref d31, .ref d32, .ref d33, .ref d34, .ref d35, .ref d36, .int 0, .int 0, .ref d39, .int 0]))] H := hP
  have hD : va_D A [(m0, .inr (4, [.int (nI n), .int 0, .ref d2, .ref d3, .ref d4, .ref d5, .ref d6, .ref d7, .ref d8, .int 0, .int 0, .int 0, .int 0, .ref d13, .ref d14, .ref d15, .ref d16, .ref d17, .ref d18, .ref d19, .ref d20, .ref d21, .ref d22, .ref d23, .ref d24, .ref d25, .ref d26, .ref d27, .ref d28, .ref d29, .ref d30, .ref d31, .ref d32, .ref d33, .ref d34, .ref d35, .ref d36, .int 0, .int 0, .ref d39, .int 0]))] := hD
  refine lv_iload_n hx hb dX4_vector_5 rfl (lv_at hl 1 rfl) ?_
  refine lv_if_lt (tgt := 25) hx hb dX4_vector_6 (by decide) (fun c_6 => ?_) (fun c_6 => ?_)
  · refine lv_iconst (v := (-1)) hx hb dX4_vector_25 (by decide) ?_
    have hP9 := hP.sub (ws' := []) [] rfl
    have hD9 := hD.sub (ws' := []) [] (by decide) rfl
    refine W.widen (k := 0) (n := 0) (by omega) (by omega) ?_
    exact W.iret (v := (-1)) hx hb hr (fun t ht hW => ⟨⟨_, (), rfl, rfl, by rw [ht]; exact hP9, va_K.moved hW.alike hK, hD9⟩, hS.F ht⟩) hS.2.2 dX4_vector_26
  · refine lv_iload_n hx hb dX4_vector_9 rfl (lv_at hl 1 rfl) ?_
    refine lv_aload_n hx hb dX4_vector_10 rfl (lv_at hl 0 rfl) ?_
    refine va_get (D := (dC, dI)) (ci := 4) (v := .int 0) (C := RX4) (T := TX4) (N := 41) hx hb hg inX4 hown hK hP 0 rfl rfl 9 (by decide) (hg _ kF_X4_115) (fun _ h9 => h9) rfl dX4_vector_11 ?_
    refine lv_icmp_ge (tgt := 25) hx hb dX4_vector_14 (by decide) (fun c_14 => ?_) (fun c_14 => absurd (Int32.not_lt.mp c_6) c_14)
    refine lv_iconst (v := (-1)) hx hb dX4_vector_25 (by decide) ?_
    have hP9 := hP.sub (ws' := []) [] rfl
    have hD9 := hD.sub (ws' := []) [] (by decide) rfl
    refine W.widen (k := 0) (n := 0) (by omega) (by omega) ?_
    exact W.iret (v := (-1)) hx hb hr (fun t ht hW => ⟨⟨_, (), rfl, rfl, by rw [ht]; exact hP9, va_K.moved hW.alike hK, hD9⟩, hS.F ht⟩) hS.2.2 dX4_vector_26
set_option maxHeartbeats 4000000 in
set_option maxRecDepth 100000 in
theorem c_X4_astray (l : Launch) (dC : Nat → ClassId) (dI : Nat → Nat → Nat) (cI cZ cN cO : ClassId) (m0 d2 d3 d4 d5 d6 d7 d8 d13 d14 d15 d16 d17 d18 d19 d20 d21 d22 d23 d24 d25 d26 d27 d28 d29 d30 d31 d32 d33 d34 d35 d36 d39 n : Nat) (p0 p1 : Int32) (sz : Nat)  : Met l yX4_astray (.code yX4_astray cX4_astray 7 (some .int) :: gw) ({ frames := 1, cells := 0, slots := 0, locals := 21 }) (va_Pc [.ref m0] (fun U => U.heap.size = sz ∧ va_P (dC, dI) vwCl [(m0, .inr (4, [.int (nI n), .int 0, .ref d2, .ref d3, .ref d4, .ref d5, .ref d6, .ref d7, .ref d8, .int 0, .int 0, .int 0, .int 0, .ref d13, .ref d14, .ref d15, .ref d16, .ref d17, .ref d18, .ref d19, .ref d20, .ref d21, .ref d22, .ref d23, .ref d24, .ref d25, .ref d26, .ref d27, .ref d28, .ref d29, .ref d30, .ref d31, .ref d32, .ref d33, .ref d34, .ref d35, .ref d36, .int 0, .int 0, .ref d39, .int 0]))] U.heap ∧ va_K (dC, dI) vwCl (gTy cI cZ cN cO) U ∧ va_D (fun _ => True) [(m0, .inr (4, [.int (nI n), .int 0, .ref d2, .ref d3, .ref d4, .ref d5, .ref d6, .ref d7, .ref d8, .int 0, .int 0, .int 0, .int 0, .ref d13, .ref d14, .ref d15, .ref d16, .ref d17, .ref d18, .ref d19, .ref d20, .ref d21, .ref d22, .ref d23, .ref d24, .ref d25, .ref d26, .ref d27, .ref d28, .ref d29, .ref d30, .ref d31, .ref d32, .ref d33, .ref d34, .ref d35, .ref d36, .int 0, .int 0, .ref d39, .int 0]))])) (va_Qi (fun (r : Int32) (_ : Unit) => r = 0) (fun (_ : Unit) (t : State) => va_P (dC, dI) vwCl [] t.heap ∧ va_K (dC, dI) vwCl (gTy cI cZ cN cO) t ∧ va_D (va_A [(m0, .inr (4, [.int (nI n), .int 0, .ref d2, .ref d3, .ref d4, .ref d5, .ref d6, .ref d7, .ref d8, .int 0, .int 0, .int 0, .int 0, .ref d13, .ref d14, .ref d15, .ref d16, .ref d17, .ref d18, .ref d19, .ref d20, .ref d21, .ref d22, .ref d23, .ref d24, .ref d25, .ref d26, .ref d27, .ref d28, .ref d29, .ref d30, .ref d31, .ref d32, .ref d33, .ref d34, .ref d35, .ref d36, .int 0, .int 0, .ref d39, .int 0]))] sz) []) (va_A [(m0, .inr (4, [.int (nI n), .int 0, .ref d2, .ref d3, .ref d4, .ref d5, .ref d6, .ref d7, .ref d8, .int 0, .int 0, .int 0, .int 0, .ref d13, .ref d14, .ref d15, .ref d16, .ref d17, .ref d18, .ref d19, .ref d20, .ref d21, .ref d22, .ref d23, .ref d24, .ref d25, .ref d26, .ref d27, .ref d28, .ref d29, .ref d30, .ref d31, .ref d32, .ref d33, .ref d34, .ref d35, .ref d36, .int 0, .int 0, .ref d39, .int 0]))] sz)) (0) (0) (va_A [(m0, .inr (4, [.int (nI n), .int 0, .ref d2, .ref d3, .ref d4, .ref d5, .ref d6, .ref d7, .ref d8, .int 0, .int 0, .int 0, .int 0, .ref d13, .ref d14, .ref d15, .ref d16, .ref d17, .ref d18, .ref d19, .ref d20, .ref d21, .ref d22, .ref d23, .ref d24, .ref d25, .ref d26, .ref d27, .ref d28, .ref d29, .ref d30, .ref d31, .ref d32, .ref d33, .ref d34, .ref d35, .ref d36, .int 0, .int 0, .ref d39, .int 0]))] sz) := by
  refine Met.ofW (cc := cX4_astray) (maxL := 7) (ret := (some .int)) (by decide) rfl ?_
  intro p e s m args below meth c s₁ B hml hv
  obtain ⟨rfl, hsz, hP, hK, hD0⟩ := hv
  have hx := B.exec
  have hb := B.bytes
  have hr := B.returns
  have hts := atoms_spec (ws := (.code yX4_astray cX4_astray 7 (some .int) :: gw)) B.pre
  have hg : ∀ w ∈ gw, w.before _ s = true := fun w h => hts w (List.mem_cons_of_mem _ h)
  have hown : s.vm.findClass RX4 = some m.cls := findClass_of_methodNamed B.named
  have hlocks := B.notSynchronized
  subst hsz
  have hD := hD0.self (sz := s.heap.size)
  generalize hAe : va_A [(m0, .inr (4, [.int (nI n), .int 0, .ref d2, .ref d3, .ref d4, .ref d5, .ref d6, .ref d7, .ref d8, .int 0, .int 0, .int 0, .int 0, .ref d13, .ref d14, .ref d15, .ref d16, .ref d17, .ref d18, .ref d19, .ref d20, .ref d21, .ref d22, .ref d23, .ref d24, .ref d25, .ref d26, .ref d27, .ref d28, .ref d29, .ref d30, .ref d31, .ref d32, .ref d33, .ref d34, .ref d35, .ref d36, .int 0, .int 0, .ref d39, .int 0]))] s.heap.size = A at hD ⊢
  have hA : ∀ q : Nat, s.heap.size ≤ q → A q := fun q h => by rw [← hAe]; exact Or.inr h
  have hS : va_S A s.heap s.heap [] := va_S.rf
  obtain ⟨H, eH⟩ : ∃ z, z = s.heap := ⟨_, rfl⟩
  obtain ⟨locs, elocs⟩ : ∃ z : List Loc, z = [] := ⟨_, rfl⟩
  have hP : va_P (dC, dI) vwCl [(m0, .inr (4, [.int (nI n), .int 0, .ref d2, .ref d3, .ref d4, .ref d5, .ref d6, .ref d7, .ref d8, .int 0, .int 0, .int 0, .int 0, .ref d13, .ref d14, .ref d15, .ref d16, .ref d17, .ref d18, .ref d19, .ref d20, .ref d21, .ref d22, .ref d23, .ref d24, .ref d25, .ref d26, .ref d27, .ref d28, .ref d29, .ref d30, .ref d31, .ref d32, .ref d33, .ref d34, .ref d35, .ref d36, .int 0, .int 0, .ref d39, .int 0]))] H := by rw [eH]; exact hP
  have hS : va_S A s.heap H locs := by rw [eH, elocs]; exact hS
  have hl := lv_entry ([.ref m0]) (n := 7) (Nat.le_of_ble_eq_true rfl)
  rw [lg_entry_eq]
  generalize (lg_sl ([.ref m0]) ++ List.replicate (7 - (lg_sl ([.ref m0])).length) Slot.unset).toArray = ls at hl ⊢
  have hl : lv_has ls 7 [(0, .ref m0)] := hl
  rw [← elocs]
  suffices hgoal : ∀ HH, H = HH → W p l e (headSpec (.code yX4_astray cX4_astray 7 (some .int) :: gw) ({ frames := 1, cells := 0, slots := 0, locals := 21 })).room s m _ below meth c HH locs 0 0 _ (F0 m 0 ls []) from hgoal _ eH
  rintro _ rfl
  refine lv_aload_n hx hb dX4_astray_0 rfl (lv_at hl 0 rfl) ?_
  refine lv_iconst (v := 0) hx hb dX4_astray_1 (by decide) ?_
  refine va_put (D := (dC, dI)) (ci := 4) (v := .int 0) (ty := .int) (C := RX4) (T := TX4) (N := 41) hx hb hg inX4 tyX4 tyX4_ok nmX4 hown hK hP hD hS 0 rfl rfl 1 (by decide) (hg _ kF_X4_112) (fun _ h9 => h9) rfl (by decide +kernel) rfl rfl (Nat.le_of_ble_eq_true rfl) dX4_astray_2 (fun H locs hP hD hS => ?_)
  have hP : va_P (dC, dI) vwCl [(m0, .inr (4, [.int (nI n), .int 0, .ref d2, .ref d3, .ref d4, .ref d5, .ref d6, .ref d7, .ref d8, .int 0, .int 0, .int 0, .int 0, .ref d13, .ref d14, .ref d15, .ref d16, .ref d17, .ref d18, .ref d19, .ref d20, .ref d21, .ref d22, .ref d23, .ref d24, .ref d25, .ref d26, .ref d27, .ref d28, .ref d29, .ref d30, .ref d31, .ref d32, .ref d33, .ref d34, .ref d35, .ref d36, .int 0, .int 0, .ref d39, .int 0]))] H := hP
  have hD : va_D A [(m0, .inr (4, [.int (nI n), .int 0, .ref d2, .ref d3, .ref d4, .ref d5, .ref d6, .ref d7, .ref d8, .int 0, .int 0, .int 0, .int 0, .ref d13, .ref d14, .ref d15, .ref d16, .ref d17, .ref d18, .ref d19, .ref d20, .ref d21, .ref d22, .ref d23, .ref d24, .ref d25, .ref d26, .ref d27, .ref d28, .ref d29, .ref d30, .ref d31, .ref d32, .ref d33, .ref d34, .ref d35, .ref d36, .int 0, .int 0, .ref d39, .int 0]))] := hD
  refine lv_iconst (v := 0) hx hb dX4_astray_5 (by decide) ?_
  refine lv_istore_n (lv' := [(1, .int 0), (0, .ref m0)]) hx hb dX4_astray_6 rfl hl (by decide) rfl (fun ls hl => ?_)
  refine lv_iconst (v := 1) hx hb dX4_astray_7 (by decide) ?_
  refine lv_istore_n (lv' := [(2, .int 1), (1, .int 0), (0, .ref m0)]) hx hb dX4_astray_8 rfl hl (by decide) rfl (fun ls hl => ?_)
  refine lv_iload_n hx hb dX4_astray_9 rfl (lv_at hl 0 rfl) ?_
  refine lv_aload_n hx hb dX4_astray_10 rfl (lv_at hl 2 rfl) ?_
  refine va_get (D := (dC, dI)) (ci := 4) (v := .int 0) (C := RX4) (T := TX4) (N := 41) hx hb hg inX4 hown hK hP 0 rfl rfl 37 (by decide) (hg _ kF_X4_129) (fun _ h9 => h9) rfl dX4_astray_11 ?_
  refine lv_icmp_gt (tgt := 224) hx hb dX4_astray_14 (by decide) (fun c_14 => ?_) (fun c_14 => absurd (by decide) c_14)
  refine lv_iload_n hx hb dX4_astray_224 rfl (lv_at hl 1 rfl) ?_
  have hP9 := hP.sub (ws' := []) [] rfl
  have hD9 := hD.sub (ws' := []) [] (by decide) rfl
  refine W.widen (k := 0) (n := 0) (by omega) (by omega) ?_
  exact W.iret (v := 0) hx hb hr (fun t ht hW => ⟨⟨_, (), rfl, rfl, by rw [ht]; exact hP9, va_K.moved hW.alike hK, hD9⟩, hS.F ht⟩) hS.2.2 dX4_astray_225
set_option maxHeartbeats 4000000 in
set_option maxRecDepth 100000 in
theorem c_X4_node_no (l : Launch) (dC : Nat → ClassId) (dI : Nat → Nat → Nat) (cI cZ cN cO : ClassId) (m0 d2 d3 d4 d5 d6 d7 d8 d13 d14 d15 d16 d17 d18 d19 d20 d21 d22 d23 d24 d25 d26 d27 d28 d29 d30 d31 d32 d33 d34 d35 d36 d39 n : Nat) (p0 p1 : Int32) (sz : Nat) (hno : ¬ isN n p0) : Met l yX4_node (.code yX4_node cX4_node 3 (some .int) :: gw) ({ frames := 1, cells := 0, slots := 0, locals := 21 }) (va_Pc [.ref m0, .int p0, .int p1] (fun U => U.heap.size = sz ∧ va_P (dC, dI) vwCl [(m0, .inr (4, [.int (nI n), .int 0, .ref d2, .ref d3, .ref d4, .ref d5, .ref d6, .ref d7, .ref d8, .int 0, .int 0, .int 0, .int 0, .ref d13, .ref d14, .ref d15, .ref d16, .ref d17, .ref d18, .ref d19, .ref d20, .ref d21, .ref d22, .ref d23, .ref d24, .ref d25, .ref d26, .ref d27, .ref d28, .ref d29, .ref d30, .ref d31, .ref d32, .ref d33, .ref d34, .ref d35, .ref d36, .int 0, .int 0, .ref d39, .int 0]))] U.heap ∧ va_K (dC, dI) vwCl (gTy cI cZ cN cO) U ∧ va_D (fun _ => True) [(m0, .inr (4, [.int (nI n), .int 0, .ref d2, .ref d3, .ref d4, .ref d5, .ref d6, .ref d7, .ref d8, .int 0, .int 0, .int 0, .int 0, .ref d13, .ref d14, .ref d15, .ref d16, .ref d17, .ref d18, .ref d19, .ref d20, .ref d21, .ref d22, .ref d23, .ref d24, .ref d25, .ref d26, .ref d27, .ref d28, .ref d29, .ref d30, .ref d31, .ref d32, .ref d33, .ref d34, .ref d35, .ref d36, .int 0, .int 0, .ref d39, .int 0]))])) (va_Qi (fun (r : Int32) (_ : Unit) => r = -1) (fun (_ : Unit) (t : State) => va_P (dC, dI) vwCl [] t.heap ∧ va_K (dC, dI) vwCl (gTy cI cZ cN cO) t ∧ va_D (va_A [(m0, .inr (4, [.int (nI n), .int 0, .ref d2, .ref d3, .ref d4, .ref d5, .ref d6, .ref d7, .ref d8, .int 0, .int 0, .int 0, .int 0, .ref d13, .ref d14, .ref d15, .ref d16, .ref d17, .ref d18, .ref d19, .ref d20, .ref d21, .ref d22, .ref d23, .ref d24, .ref d25, .ref d26, .ref d27, .ref d28, .ref d29, .ref d30, .ref d31, .ref d32, .ref d33, .ref d34, .ref d35, .ref d36, .int 0, .int 0, .ref d39, .int 0]))] sz) []) (va_A [(m0, .inr (4, [.int (nI n), .int 0, .ref d2, .ref d3, .ref d4, .ref d5, .ref d6, .ref d7, .ref d8, .int 0, .int 0, .int 0, .int 0, .ref d13, .ref d14, .ref d15, .ref d16, .ref d17, .ref d18, .ref d19, .ref d20, .ref d21, .ref d22, .ref d23, .ref d24, .ref d25, .ref d26, .ref d27, .ref d28, .ref d29, .ref d30, .ref d31, .ref d32, .ref d33, .ref d34, .ref d35, .ref d36, .int 0, .int 0, .ref d39, .int 0]))] sz)) (0) (0) (va_A [(m0, .inr (4, [.int (nI n), .int 0, .ref d2, .ref d3, .ref d4, .ref d5, .ref d6, .ref d7, .ref d8, .int 0, .int 0, .int 0, .int 0, .ref d13, .ref d14, .ref d15, .ref d16, .ref d17, .ref d18, .ref d19, .ref d20, .ref d21, .ref d22, .ref d23, .ref d24, .ref d25, .ref d26, .ref d27, .ref d28, .ref d29, .ref d30, .ref d31, .ref d32, .ref d33, .ref d34, .ref d35, .ref d36, .int 0, .int 0, .ref d39, .int 0]))] sz) := by
  refine Met.ofW (cc := cX4_node) (maxL := 3) (ret := (some .int)) (by decide) rfl ?_
  intro p e s m args below meth c s₁ B hml hv
  obtain ⟨rfl, hsz, hP, hK, hD0⟩ := hv
  have hx := B.exec
  have hb := B.bytes
  have hr := B.returns
  have hts := atoms_spec (ws := (.code yX4_node cX4_node 3 (some .int) :: gw)) B.pre
  have hg : ∀ w ∈ gw, w.before _ s = true := fun w h => hts w (List.mem_cons_of_mem _ h)
  have hown : s.vm.findClass RX4 = some m.cls := findClass_of_methodNamed B.named
  have hlocks := B.notSynchronized
  subst hsz
  have hD := hD0.self (sz := s.heap.size)
  generalize hAe : va_A [(m0, .inr (4, [.int (nI n), .int 0, .ref d2, .ref d3, .ref d4, .ref d5, .ref d6, .ref d7, .ref d8, .int 0, .int 0, .int 0, .int 0, .ref d13, .ref d14, .ref d15, .ref d16, .ref d17, .ref d18, .ref d19, .ref d20, .ref d21, .ref d22, .ref d23, .ref d24, .ref d25, .ref d26, .ref d27, .ref d28, .ref d29, .ref d30, .ref d31, .ref d32, .ref d33, .ref d34, .ref d35, .ref d36, .int 0, .int 0, .ref d39, .int 0]))] s.heap.size = A at hD ⊢
  have hA : ∀ q : Nat, s.heap.size ≤ q → A q := fun q h => by rw [← hAe]; exact Or.inr h
  have hS : va_S A s.heap s.heap [] := va_S.rf
  obtain ⟨H, eH⟩ : ∃ z, z = s.heap := ⟨_, rfl⟩
  obtain ⟨locs, elocs⟩ : ∃ z : List Loc, z = [] := ⟨_, rfl⟩
  have hP : va_P (dC, dI) vwCl [(m0, .inr (4, [.int (nI n), .int 0, .ref d2, .ref d3, .ref d4, .ref d5, .ref d6, .ref d7, .ref d8, .int 0, .int 0, .int 0, .int 0, .ref d13, .ref d14, .ref d15, .ref d16, .ref d17, .ref d18, .ref d19, .ref d20, .ref d21, .ref d22, .ref d23, .ref d24, .ref d25, .ref d26, .ref d27, .ref d28, .ref d29, .ref d30, .ref d31, .ref d32, .ref d33, .ref d34, .ref d35, .ref d36, .int 0, .int 0, .ref d39, .int 0]))] H := by rw [eH]; exact hP
  have hS : va_S A s.heap H locs := by rw [eH, elocs]; exact hS
  have hl := lv_entry ([.ref m0, .int p0, .int p1]) (n := 3) (Nat.le_of_ble_eq_true rfl)
  rw [lg_entry_eq]
  generalize (lg_sl ([.ref m0, .int p0, .int p1]) ++ List.replicate (3 - (lg_sl ([.ref m0, .int p0, .int p1])).length) Slot.unset).toArray = ls at hl ⊢
  have hl : lv_has ls 3 [(0, .ref m0), (1, .int p0), (2, .int p1)] := hl
  rw [← elocs]
  suffices hgoal : ∀ HH, H = HH → W p l e (headSpec (.code yX4_node cX4_node 3 (some .int) :: gw) ({ frames := 1, cells := 0, slots := 0, locals := 21 })).room s m _ below meth c HH locs 0 0 _ (F0 m 0 ls []) from hgoal _ eH
  rintro _ rfl
  refine lv_aload_n hx hb dX4_node_0 rfl (lv_at hl 0 rfl) ?_
  refine lv_iconst (v := 0) hx hb dX4_node_1 (by decide) ?_
  refine va_put (D := (dC, dI)) (ci := 4) (v := .int 0) (ty := .int) (C := RX4) (T := TX4) (N := 41) hx hb hg inX4 tyX4 tyX4_ok nmX4 hown hK hP hD hS 0 rfl rfl 1 (by decide) (hg _ kF_X4_112) (fun _ h9 => h9) rfl (by decide +kernel) rfl rfl (Nat.le_of_ble_eq_true rfl) dX4_node_2 (fun H locs hP hD hS => ?_)
  have hP : va_P (dC, dI) vwCl [(m0, .inr (4, [.int (nI n), .int 0, .ref d2, .ref d3, .ref d4, .ref d5, .ref d6, .ref d7, .ref d8, .int 0, .int 0, .int 0, .int 0, .ref d13, .ref d14, .ref d15, .ref d16, .ref d17, .ref d18, .ref d19, .ref d20, .ref d21, .ref d22, .ref d23, .ref d24, .ref d25, .ref d26, .ref d27, .ref d28, .ref d29, .ref d30, .ref d31, .ref d32, .ref d33, .ref d34, .ref d35, .ref d36, .int 0, .int 0, .ref d39, .int 0]))] H := hP
  have hD : va_D A [(m0, .inr (4, [.int (nI n), .int 0, .ref d2, .ref d3, .ref d4, .ref d5, .ref d6, .ref d7, .ref d8, .int 0, .int 0, .int 0, .int 0, .ref d13, .ref d14, .ref d15, .ref d16, .ref d17, .ref d18, .ref d19, .ref d20, .ref d21, .ref d22, .ref d23, .ref d24, .ref d25, .ref d26, .ref d27, .ref d28, .ref d29, .ref d30, .ref d31, .ref d32, .ref d33, .ref d34, .ref d35, .ref d36, .int 0, .int 0, .ref d39, .int 0]))] := hD
  refine lv_aload_n hx hb dX4_node_5 rfl (lv_at hl 0 rfl) ?_
  refine lv_iload_n hx hb dX4_node_6 rfl (lv_at hl 1 rfl) ?_
  have hPc := hP.sub (ws' := [(m0, .inr (4, [.int (nI n), .int 0, .ref d2, .ref d3, .ref d4, .ref d5, .ref d6, .ref d7, .ref d8, .int 0, .int 0, .int 0, .int 0, .ref d13, .ref d14, .ref d15, .ref d16, .ref d17, .ref d18, .ref d19, .ref d20, .ref d21, .ref d22, .ref d23, .ref d24, .ref d25, .ref d26, .ref d27, .ref d28, .ref d29, .ref d30, .ref d31, .ref d32, .ref d33, .ref d34, .ref d35, .ref d36, .int 0, .int 0, .ref d39, .int 0]))]) [0] rfl
  refine vp_callSi (W.runV (As := [.int p0]) (rest := []) ⟨hx, hb, hml, hown, hg⟩ (c_X4_isNode l dC dI cI cZ cN cO m0 d2 d3 d4 d5 d6 d7 d8 d13 d14 d15 d16 d17 d18 d19 d20 d21 d22 d23 d24 d25 d26 d27 d28 d29 d30 d31 d32 d33 d34 d35 d36 d39 n 0 p0) (cwV 1 hg (gw_V kM_X4_143 kI_X4_isNode kS_X4_isNode kN_X4 kD_X4_isNode) rfl rfl rfl (by decide +kernel) ⟨Nat.le_of_ble_eq_true rfl, Nat.le_of_ble_eq_true rfl⟩) ⟨fun a U g mk q => by obtain ⟨q0, qP, qK⟩ := q; exact ⟨q0, qP, va_K.moved (u := U) (U := U.calling g mk a) (Vm.Alike.refl U.vm) qK⟩, va_recv hK hP (ci := 4) (q0 := 0) rfl rfl, fun U hU hW => ⟨rfl, by rw [hU]; exact hPc, va_K.moved hW.alike hK⟩⟩ rfl rfl hl.1 rfl (lv_room (Nat.le_of_ble_eq_true rfl)) dX4_node_7 ⟨Nat.zero_le _, Nat.zero_le _⟩) (fun r_1 hr_1 => ?_)
  refine lv_if_ne (tgt := 15) hx hb dX4_node_10 (by decide) (fun c_10 => absurd (ite_ne0 hr_1 c_10) hno) (fun c_10 => ?_)
  refine lv_iconst (v := (-1)) hx hb dX4_node_13 (by decide) ?_
  have hP9 := hP.sub (ws' := []) [] rfl
  have hD9 := hD.sub (ws' := []) [] (by decide) rfl
  refine W.widen (k := 0) (n := 0) (by omega) (by omega) ?_
  exact W.iret (v := (-1)) hx hb hr (fun t ht hW => ⟨⟨_, (), rfl, rfl, by rw [ht]; exact hP9, va_K.moved hW.alike hK, hD9⟩, hS.F ht⟩) hS.2.2 dX4_node_14
set_option maxHeartbeats 4000000 in
set_option maxRecDepth 100000 in
theorem c_X4_node_yes (l : Launch) (dC : Nat → ClassId) (dI : Nat → Nat → Nat) (cI cZ cN cO : ClassId) (m0 d2 d3 d4 d5 d6 d7 d8 d13 d14 d15 d16 d17 d18 d19 d20 d21 d22 d23 d24 d25 d26 d27 d28 d29 d30 d31 d32 d33 d34 d35 d36 d39 n : Nat) (p0 p1 : Int32) (sz : Nat) (hn : n ≤ 31) (hy : isN n p0) : Met l yX4_node (.code yX4_node cX4_node 3 (some .int) :: gw) ({ frames := 1, cells := 0, slots := 0, locals := 21 }) (va_Pc [.ref m0, .int p0, .int p1] (fun U => U.heap.size = sz ∧ va_P (dC, dI) vwCl [(m0, .inr (4, [.int (nI n), .int 0, .ref d2, .ref d3, .ref d4, .ref d5, .ref d6, .ref d7, .ref d8, .int 0, .int 0, .int 0, .int 0, .ref d13, .ref d14, .ref d15, .ref d16, .ref d17, .ref d18, .ref d19, .ref d20, .ref d21, .ref d22, .ref d23, .ref d24, .ref d25, .ref d26, .ref d27, .ref d28, .ref d29, .ref d30, .ref d31, .ref d32, .ref d33, .ref d34, .ref d35, .ref d36, .int 0, .int 0, .ref d39, .int 0])), (d13, .inl (cZ, 31, .inl ((fun _ => 0)))), (d14, .inl (cI, 31, .inl ((fun _ => 0)))), (d15, .inl (cI, 31, .inl ((fun _ => 0)))), (d16, .inl (cI, 31, .inl ((fun _ => 0)))), (d17, .inl (cI, 31, .inl ((fun _ => 0)))), (d19, .inl (cI, 31, .inl ((fun _ => 0))))] U.heap ∧ va_K (dC, dI) vwCl (gTy cI cZ cN cO) U ∧ va_D (fun _ => True) [(m0, .inr (4, [.int (nI n), .int 0, .ref d2, .ref d3, .ref d4, .ref d5, .ref d6, .ref d7, .ref d8, .int 0, .int 0, .int 0, .int 0, .ref d13, .ref d14, .ref d15, .ref d16, .ref d17, .ref d18, .ref d19, .ref d20, .ref d21, .ref d22, .ref d23, .ref d24, .ref d25, .ref d26, .ref d27, .ref d28, .ref d29, .ref d30, .ref d31, .ref d32, .ref d33, .ref d34, .ref d35, .ref d36, .int 0, .int 0, .ref d39, .int 0])), (d13, .inl (cZ, 31, .inl ((fun _ => 0)))), (d14, .inl (cI, 31, .inl ((fun _ => 0)))), (d15, .inl (cI, 31, .inl ((fun _ => 0)))), (d16, .inl (cI, 31, .inl ((fun _ => 0)))), (d17, .inl (cI, 31, .inl ((fun _ => 0)))), (d19, .inl (cI, 31, .inl ((fun _ => 0))))])) (va_Qi (fun (r : Int32) (_ : Unit) => r = fNode p1) (fun (_ : Unit) (t : State) => va_P (dC, dI) vwCl [] t.heap ∧ va_K (dC, dI) vwCl (gTy cI cZ cN cO) t ∧ va_D (va_A [(m0, .inr (4, [.int (nI n), .int 0, .ref d2, .ref d3, .ref d4, .ref d5, .ref d6, .ref d7, .ref d8, .int 0, .int 0, .int 0, .int 0, .ref d13, .ref d14, .ref d15, .ref d16, .ref d17, .ref d18, .ref d19, .ref d20, .ref d21, .ref d22, .ref d23, .ref d24, .ref d25, .ref d26, .ref d27, .ref d28, .ref d29, .ref d30, .ref d31, .ref d32, .ref d33, .ref d34, .ref d35, .ref d36, .int 0, .int 0, .ref d39, .int 0])), (d13, .inl (cZ, 31, .inl ((fun _ => 0)))), (d14, .inl (cI, 31, .inl ((fun _ => 0)))), (d15, .inl (cI, 31, .inl ((fun _ => 0)))), (d16, .inl (cI, 31, .inl ((fun _ => 0)))), (d17, .inl (cI, 31, .inl ((fun _ => 0)))), (d19, .inl (cI, 31, .inl ((fun _ => 0))))] sz) []) (va_A [(m0, .inr (4, [.int (nI n), .int 0, .ref d2, .ref d3, .ref d4, .ref d5, .ref d6, .ref d7, .ref d8, .int 0, .int 0, .int 0, .int 0, .ref d13, .ref d14, .ref d15, .ref d16, .ref d17, .ref d18, .ref d19, .ref d20, .ref d21, .ref d22, .ref d23, .ref d24, .ref d25, .ref d26, .ref d27, .ref d28, .ref d29, .ref d30, .ref d31, .ref d32, .ref d33, .ref d34, .ref d35, .ref d36, .int 0, .int 0, .ref d39, .int 0])), (d13, .inl (cZ, 31, .inl ((fun _ => 0)))), (d14, .inl (cI, 31, .inl ((fun _ => 0)))), (d15, .inl (cI, 31, .inl ((fun _ => 0)))), (d16, .inl (cI, 31, .inl ((fun _ => 0)))), (d17, .inl (cI, 31, .inl ((fun _ => 0)))), (d19, .inl (cI, 31, .inl ((fun _ => 0))))] sz)) (0) (0) (va_A [(m0, .inr (4, [.int (nI n), .int 0, .ref d2, .ref d3, .ref d4, .ref d5, .ref d6, .ref d7, .ref d8, .int 0, .int 0, .int 0, .int 0, .ref d13, .ref d14, .ref d15, .ref d16, .ref d17, .ref d18, .ref d19, .ref d20, .ref d21, .ref d22, .ref d23, .ref d24, .ref d25, .ref d26, .ref d27, .ref d28, .ref d29, .ref d30, .ref d31, .ref d32, .ref d33, .ref d34, .ref d35, .ref d36, .int 0, .int 0, .ref d39, .int 0])), (d13, .inl (cZ, 31, .inl ((fun _ => 0)))), (d14, .inl (cI, 31, .inl ((fun _ => 0)))), (d15, .inl (cI, 31, .inl ((fun _ => 0)))), (d16, .inl (cI, 31, .inl ((fun _ => 0)))), (d17, .inl (cI, 31, .inl ((fun _ => 0)))), (d19, .inl (cI, 31, .inl ((fun _ => 0))))] sz) := by
  refine Met.ofW (cc := cX4_node) (maxL := 3) (ret := (some .int)) (by decide) rfl ?_
  intro p e s m args below meth c s₁ B hml hv
  obtain ⟨rfl, hsz, hP, hK, hD0⟩ := hv
  have hx := B.exec
  have hb := B.bytes
  have hr := B.returns
  have hts := atoms_spec (ws := (.code yX4_node cX4_node 3 (some .int) :: gw)) B.pre
  have hg : ∀ w ∈ gw, w.before _ s = true := fun w h => hts w (List.mem_cons_of_mem _ h)
  have hown : s.vm.findClass RX4 = some m.cls := findClass_of_methodNamed B.named
  have hlocks := B.notSynchronized
  subst hsz
  have hD := hD0.self (sz := s.heap.size)
  generalize hAe : va_A [(m0, .inr (4, [.int (nI n), .int 0, .ref d2, .ref d3, .ref d4, .ref d5, .ref d6, .ref d7, .ref d8, .int 0, .int 0, .int 0, .int 0, .ref d13, .ref d14, .ref d15, .ref d16, .ref d17, .ref d18, .ref d19, .ref d20, .ref d21, .ref d22, .ref d23, .ref d24, .ref d25, .ref d26, .ref d27, .ref d28, .ref d29, .ref d30, .ref d31, .ref d32, .ref d33, .ref d34, .ref d35, .ref d36, .int 0, .int 0, .ref d39, .int 0])), (d13, .inl (cZ, 31, .inl ((fun _ => 0)))), (d14, .inl (cI, 31, .inl ((fun _ => 0)))), (d15, .inl (cI, 31, .inl ((fun _ => 0)))), (d16, .inl (cI, 31, .inl ((fun _ => 0)))), (d17, .inl (cI, 31, .inl ((fun _ => 0)))), (d19, .inl (cI, 31, .inl ((fun _ => 0))))] s.heap.size = A at hD ⊢
  have hA : ∀ q : Nat, s.heap.size ≤ q → A q := fun q h => by rw [← hAe]; exact Or.inr h
  have hS : va_S A s.heap s.heap [] := va_S.rf
  obtain ⟨H, eH⟩ : ∃ z, z = s.heap := ⟨_, rfl⟩
  obtain ⟨locs, elocs⟩ : ∃ z : List Loc, z = [] := ⟨_, rfl⟩
  have hP : va_P (dC, dI) vwCl [(m0, .inr (4, [.int (nI n), .int 0, .ref d2, .ref d3, .ref d4, .ref d5, .ref d6, .ref d7, .ref d8, .int 0, .int 0, .int 0, .int 0, .ref d13, .ref d14, .ref d15, .ref d16, .ref d17, .ref d18, .ref d19, .ref d20, .ref d21, .ref d22, .ref d23, .ref d24, .ref d25, .ref d26, .ref d27, .ref d28, .ref d29, .ref d30, .ref d31, .ref d32, .ref d33, .ref d34, .ref d35, .ref d36, .int 0, .int 0, .ref d39, .int 0])), (d13, .inl (cZ, 31, .inl ((fun _ => 0)))), (d14, .inl (cI, 31, .inl ((fun _ => 0)))), (d15, .inl (cI, 31, .inl ((fun _ => 0)))), (d16, .inl (cI, 31, .inl ((fun _ => 0)))), (d17, .inl (cI, 31, .inl ((fun _ => 0)))), (d19, .inl (cI, 31, .inl ((fun _ => 0))))] H := by rw [eH]; exact hP
  have hS : va_S A s.heap H locs := by rw [eH, elocs]; exact hS
  have hl := lv_entry ([.ref m0, .int p0, .int p1]) (n := 3) (Nat.le_of_ble_eq_true rfl)
  rw [lg_entry_eq]
  generalize (lg_sl ([.ref m0, .int p0, .int p1]) ++ List.replicate (3 - (lg_sl ([.ref m0, .int p0, .int p1])).length) Slot.unset).toArray = ls at hl ⊢
  have hl : lv_has ls 3 [(0, .ref m0), (1, .int p0), (2, .int p1)] := hl
  rw [← elocs]
  suffices hgoal : ∀ HH, H = HH → W p l e (headSpec (.code yX4_node cX4_node 3 (some .int) :: gw) ({ frames := 1, cells := 0, slots := 0, locals := 21 })).room s m _ below meth c HH locs 0 0 _ (F0 m 0 ls []) from hgoal _ eH
  rintro _ rfl
  refine lv_aload_n hx hb dX4_node_0 rfl (lv_at hl 0 rfl) ?_
  refine lv_iconst (v := 0) hx hb dX4_node_1 (by decide) ?_
  refine va_put (D := (dC, dI)) (ci := 4) (v := .int 0) (ty := .int) (C := RX4) (T := TX4) (N := 41) hx hb hg inX4 tyX4 tyX4_ok nmX4 hown hK hP hD hS 0 rfl rfl 1 (by decide) (hg _ kF_X4_112) (fun _ h9 => h9) rfl (by decide +kernel) rfl rfl (Nat.le_of_ble_eq_true rfl) dX4_node_2 (fun H locs hP hD hS => ?_)
  have hP : va_P (dC, dI) vwCl [(m0, .inr (4, [.int (nI n), .int 0, .ref d2, .ref d3, .ref d4, .ref d5, .ref d6, .ref d7, .ref d8, .int 0, .int 0, .int 0, .int 0, .ref d13, .ref d14, .ref d15, .ref d16, .ref d17, .ref d18, .ref d19, .ref d20, .ref d21, .ref d22, .ref d23, .ref d24, .ref d25, .ref d26, .ref d27, .ref d28, .ref d29, .ref d30, .ref d31, .ref d32, .ref d33, .ref d34, .ref d35, .ref d36, .int 0, .int 0, .ref d39, .int 0])), (d13, .inl (cZ, 31, .inl ((fun _ => 0)))), (d14, .inl (cI, 31, .inl ((fun _ => 0)))), (d15, .inl (cI, 31, .inl ((fun _ => 0)))), (d16, .inl (cI, 31, .inl ((fun _ => 0)))), (d17, .inl (cI, 31, .inl ((fun _ => 0)))), (d19, .inl (cI, 31, .inl ((fun _ => 0))))] H := hP
  have hD : va_D A [(m0, .inr (4, [.int (nI n), .int 0, .ref d2, .ref d3, .ref d4, .ref d5, .ref d6, .ref d7, .ref d8, .int 0, .int 0, .int 0, .int 0, .ref d13, .ref d14, .ref d15, .ref d16, .ref d17, .ref d18, .ref d19, .ref d20, .ref d21, .ref d22, .ref d23, .ref d24, .ref d25, .ref d26, .ref d27, .ref d28, .ref d29, .ref d30, .ref d31, .ref d32, .ref d33, .ref d34, .ref d35, .ref d36, .int 0, .int 0, .ref d39, .int 0])), (d13, .inl (cZ, 31, .inl ((fun _ => 0)))), (d14, .inl (cI, 31, .inl ((fun _ => 0)))), (d15, .inl (cI, 31, .inl ((fun _ => 0)))), (d16, .inl (cI, 31, .inl ((fun _ => 0)))), (d17, .inl (cI, 31, .inl ((fun _ => 0)))), (d19, .inl (cI, 31, .inl ((fun _ => 0))))] := hD
  refine lv_aload_n hx hb dX4_node_5 rfl (lv_at hl 0 rfl) ?_
  refine lv_iload_n hx hb dX4_node_6 rfl (lv_at hl 1 rfl) ?_
  have hPc := hP.sub (ws' := [(m0, .inr (4, [.int (nI n), .int 0, .ref d2, .ref d3, .ref d4, .ref d5, .ref d6, .ref d7, .ref d8, .int 0, .int 0, .int 0, .int 0, .ref d13, .ref d14, .ref d15, .ref d16, .ref d17, .ref d18, .ref d19, .ref d20, .ref d21, .ref d22, .ref d23, .ref d24, .ref d25, .ref d26, .ref d27, .ref d28, .ref d29, .ref d30, .ref d31, .ref d32, .ref d33, .ref d34, .ref d35, .ref d36, .int 0, .int 0, .ref d39, .int 0]))]) [0] rfl
  refine vp_callSi (W.runV (As := [.int p0]) (rest := []) ⟨hx, hb, hml, hown, hg⟩ (c_X4_isNode l dC dI cI cZ cN cO m0 d2 d3 d4 d5 d6 d7 d8 d13 d14 d15 d16 d17 d18 d19 d20 d21 d22 d23 d24 d25 d26 d27 d28 d29 d30 d31 d32 d33 d34 d35 d36 d39 n 0 p0) (cwV 1 hg (gw_V kM_X4_143 kI_X4_isNode kS_X4_isNode kN_X4 kD_X4_isNode) rfl rfl rfl (by decide +kernel) ⟨Nat.le_of_ble_eq_true rfl, Nat.le_of_ble_eq_true rfl⟩) ⟨fun a U g mk q => by obtain ⟨q0, qP, qK⟩ := q; exact ⟨q0, qP, va_K.moved (u := U) (U := U.calling g mk a) (Vm.Alike.refl U.vm) qK⟩, va_recv hK hP (ci := 4) (q0 := 0) rfl rfl, fun U hU hW => ⟨rfl, by rw [hU]; exact hPc, va_K.moved hW.alike hK⟩⟩ rfl rfl hl.1 rfl (lv_room (Nat.le_of_ble_eq_true rfl)) dX4_node_7 ⟨Nat.zero_le _, Nat.zero_le _⟩) (fun r_1 hr_1 => ?_)
  refine lv_if_ne (tgt := 15) hx hb dX4_node_10 (by decide) (fun c_10 => ?_) (fun c_10 => absurd hy (ite_eq0 hr_1 c_10))
  refine lv_iload_n hx hb dX4_node_15 rfl (lv_at hl 2 rfl) ?_
  rcases gSw p1 5 5 rfl (by decide) with hsw | ⟨j, hj, hjx⟩
  · refine lv_tableOut (tgt := 119) hx hb dX4_node_16 hsw (by decide) ?_
    refine lv_iconst (v := (-1)) hx hb dX4_node_119 (by decide) ?_
    have hP9 := hP.sub (ws' := []) [] rfl
    have hD9 := hD.sub (ws' := []) [] (by decide) rfl
    refine W.widen (k := 0) (n := 0) (by omega) (by omega) ?_
    exact W.iret (v := (-1)) hx hb hr (fun t ht hW => ⟨⟨_, (), rfl, (by first | exact (if_pos hsw).symm | decide +kernel | (rw [nI_0]; decide +kernel)), by rw [ht]; exact hP9, va_K.moved hW.alike hK, hD9⟩, hS.F ht⟩) hS.2.2 dX4_node_120
  · rcases (show j = 0 ∨ j = 1 ∨ j = 2 ∨ j = 3 ∨ j = 4 ∨ j = 5 by omega) with hj0 | hj0 | hj0 | hj0 | hj0 | hj0
    · rw [hj0] at hjx
      subst hjx
      refine lv_tableIn (off := 40) (tgt := 56) hx hb dX4_node_16 (by decide +kernel) (by decide +kernel) (by decide +kernel) (by decide) ?_
      refine lv_aload_n hx hb dX4_node_56 rfl (lv_at hl 0 rfl) ?_
      refine va_get (D := (dC, dI)) (ci := 4) (v := .ref d13) (C := RX4) (T := TX4) (N := 41) hx hb hg inX4 hown hK hP 0 rfl rfl 13 (by decide) (hg _ kF_X4_33) (fun _ h9 => h9) rfl dX4_node_57 ?_
      refine lv_iload_n hx hb dX4_node_60 rfl (lv_at hl 1 rfl) ?_
      refine va_zald hx hb hK hP 1 1 rfl rfl (isN_31 hn hy) dX4_node_61 ?_
      refine lv_topi (fun t_2 et_2 => ?_)
      refine lv_if_eq (tgt := 69) hx hb dX4_node_62 (by decide) (fun c_62 => ?_) (fun c_62 => absurd (by assumption) c_62)
      refine lv_iconst (v := 1) hx hb dX4_node_69 (by decide) ?_
      have hP9 := hP.sub (ws' := []) [] rfl
      have hD9 := hD.sub (ws' := []) [] (by decide) rfl
      refine W.widen (k := 0) (n := 0) (by omega) (by omega) ?_
      exact W.iret (v := 1) hx hb hr (fun t ht hW => ⟨⟨_, (), rfl, (by first | exact (if_pos hsw).symm | decide +kernel | (rw [nI_0]; decide +kernel)), by rw [ht]; exact hP9, va_K.moved hW.alike hK, hD9⟩, hS.F ht⟩) hS.2.2 dX4_node_70
    · rw [hj0] at hjx
      subst hjx
      refine lv_tableIn (off := 55) (tgt := 71) hx hb dX4_node_16 (by decide +kernel) (by decide +kernel) (by decide +kernel) (by decide) ?_
      refine lv_aload_n hx hb dX4_node_71 rfl (lv_at hl 0 rfl) ?_
      refine va_get (D := (dC, dI)) (ci := 4) (v := .ref d14) (C := RX4) (T := TX4) (N := 41) hx hb hg inX4 hown hK hP 0 rfl rfl 14 (by decide) (hg _ kF_X4_36) (fun _ h9 => h9) rfl dX4_node_72 ?_
      refine lv_iload_n hx hb dX4_node_75 rfl (lv_at hl 1 rfl) ?_
      refine va_iald hx hb hK hP 2 0 rfl rfl (isN_31 hn hy) dX4_node_76 ?_
      refine lv_topi (fun t_3 et_3 => ?_)
      have hP9 := hP.sub (ws' := []) [] rfl
      have hD9 := hD.sub (ws' := []) [] (by decide) rfl
      refine W.widen (k := 0) (n := 0) (by omega) (by omega) ?_
      exact W.iret (v := t_3) hx hb hr (fun t ht hW => ⟨⟨_, (), rfl, (by first | exact (if_pos hsw).symm | decide +kernel | (rw [et_3]; decide +kernel)), by rw [ht]; exact hP9, va_K.moved hW.alike hK, hD9⟩, hS.F ht⟩) hS.2.2 dX4_node_77
    · rw [hj0] at hjx
      subst hjx
      refine lv_tableIn (off := 62) (tgt := 78) hx hb dX4_node_16 (by decide +kernel) (by decide +kernel) (by decide +kernel) (by decide) ?_
      refine lv_aload_n hx hb dX4_node_78 rfl (lv_at hl 0 rfl) ?_
      refine va_get (D := (dC, dI)) (ci := 4) (v := .ref d15) (C := RX4) (T := TX4) (N := 41) hx hb hg inX4 hown hK hP 0 rfl rfl 15 (by decide) (hg _ kF_X4_39) (fun _ h9 => h9) rfl dX4_node_79 ?_
      refine lv_iload_n hx hb dX4_node_82 rfl (lv_at hl 1 rfl) ?_
      refine va_iald hx hb hK hP 3 0 rfl rfl (isN_31 hn hy) dX4_node_83 ?_
      refine lv_topi (fun t_4 et_4 => ?_)
      have hP9 := hP.sub (ws' := []) [] rfl
      have hD9 := hD.sub (ws' := []) [] (by decide) rfl
      refine W.widen (k := 0) (n := 0) (by omega) (by omega) ?_
      exact W.iret (v := t_4) hx hb hr (fun t ht hW => ⟨⟨_, (), rfl, (by first | exact (if_pos hsw).symm | decide +kernel | (rw [et_4]; decide +kernel)), by rw [ht]; exact hP9, va_K.moved hW.alike hK, hD9⟩, hS.F ht⟩) hS.2.2 dX4_node_84
    · rw [hj0] at hjx
      subst hjx
      refine lv_tableIn (off := 69) (tgt := 85) hx hb dX4_node_16 (by decide +kernel) (by decide +kernel) (by decide +kernel) (by decide) ?_
      refine lv_aload_n hx hb dX4_node_85 rfl (lv_at hl 0 rfl) ?_
      refine va_get (D := (dC, dI)) (ci := 4) (v := .ref d16) (C := RX4) (T := TX4) (N := 41) hx hb hg inX4 hown hK hP 0 rfl rfl 16 (by decide) (hg _ kF_X4_42) (fun _ h9 => h9) rfl dX4_node_86 ?_
      refine lv_iload_n hx hb dX4_node_89 rfl (lv_at hl 1 rfl) ?_
      refine va_iald hx hb hK hP 4 0 rfl rfl (isN_31 hn hy) dX4_node_90 ?_
      refine lv_topi (fun t_5 et_5 => ?_)
      have hP9 := hP.sub (ws' := []) [] rfl
      have hD9 := hD.sub (ws' := []) [] (by decide) rfl
      refine W.widen (k := 0) (n := 0) (by omega) (by omega) ?_
      exact W.iret (v := t_5) hx hb hr (fun t ht hW => ⟨⟨_, (), rfl, (by first | exact (if_pos hsw).symm | decide +kernel | (rw [et_5]; decide +kernel)), by rw [ht]; exact hP9, va_K.moved hW.alike hK, hD9⟩, hS.F ht⟩) hS.2.2 dX4_node_91
    · rw [hj0] at hjx
      subst hjx
      refine lv_tableIn (off := 76) (tgt := 92) hx hb dX4_node_16 (by decide +kernel) (by decide +kernel) (by decide +kernel) (by decide) ?_
      refine lv_aload_n hx hb dX4_node_92 rfl (lv_at hl 0 rfl) ?_
      refine va_get (D := (dC, dI)) (ci := 4) (v := .ref d14) (C := RX4) (T := TX4) (N := 41) hx hb hg inX4 hown hK hP 0 rfl rfl 14 (by decide) (hg _ kF_X4_36) (fun _ h9 => h9) rfl dX4_node_93 ?_
      refine lv_iload_n hx hb dX4_node_96 rfl (lv_at hl 1 rfl) ?_
      refine va_iald hx hb hK hP 2 0 rfl rfl (isN_31 hn hy) dX4_node_97 ?_
      refine lv_topi (fun t_6 et_6 => ?_)
      refine lv_if_ne (tgt := 105) hx hb dX4_node_98 (by decide) (fun c_98 => absurd (by assumption) c_98) (fun c_98 => ?_)
      refine lv_iconst (v := 0) hx hb dX4_node_101 (by decide) ?_
      refine lv_goto (tgt := 111) hx hb dX4_node_102 (by decide) ?_
      have hP9 := hP.sub (ws' := []) [] rfl
      have hD9 := hD.sub (ws' := []) [] (by decide) rfl
      refine W.widen (k := 0) (n := 0) (by omega) (by omega) ?_
      exact W.iret (v := 0) hx hb hr (fun t ht hW => ⟨⟨_, (), rfl, (by first | exact (if_pos hsw).symm | decide +kernel | (rw [nI_0]; decide +kernel)), by rw [ht]; exact hP9, va_K.moved hW.alike hK, hD9⟩, hS.F ht⟩) hS.2.2 dX4_node_111
    · rw [hj0] at hjx
      subst hjx
      refine lv_tableIn (off := 96) (tgt := 112) hx hb dX4_node_16 (by decide +kernel) (by decide +kernel) (by decide +kernel) (by decide) ?_
      refine lv_aload_n hx hb dX4_node_112 rfl (lv_at hl 0 rfl) ?_
      refine va_get (D := (dC, dI)) (ci := 4) (v := .ref d19) (C := RX4) (T := TX4) (N := 41) hx hb hg inX4 hown hK hP 0 rfl rfl 19 (by decide) (hg _ kF_X4_51) (fun _ h9 => h9) rfl dX4_node_113 ?_
      refine lv_iload_n hx hb dX4_node_116 rfl (lv_at hl 1 rfl) ?_
      refine va_iald hx hb hK hP 6 0 rfl rfl (isN_31 hn hy) dX4_node_117 ?_
      refine lv_topi (fun t_7 et_7 => ?_)
      have hP9 := hP.sub (ws' := []) [] rfl
      have hD9 := hD.sub (ws' := []) [] (by decide) rfl
      refine W.widen (k := 0) (n := 0) (by omega) (by omega) ?_
      exact W.iret (v := t_7) hx hb hr (fun t ht hW => ⟨⟨_, (), rfl, (by first | exact (if_pos hsw).symm | decide +kernel | (rw [et_7]; decide +kernel)), by rw [ht]; exact hP9, va_K.moved hW.alike hK, hD9⟩, hS.F ht⟩) hS.2.2 dX4_node_118
set_option maxHeartbeats 4000000 in
set_option maxRecDepth 100000 in
theorem c_X4_kept_no (l : Launch) (dC : Nat → ClassId) (dI : Nat → Nat → Nat) (cI cZ cN cO : ClassId) (m0 d2 d3 d4 d5 d6 d7 d8 d13 d14 d15 d16 d17 d18 d19 d20 d21 d22 d23 d24 d25 d26 d27 d28 d29 d30 d31 d32 d33 d34 d35 d36 d39 n : Nat) (p0 p1 : Int32) (sz : Nat) (hno : ¬ (isN n p0 ∧ isN n p1)) : Met l yX4_kept (.code yX4_kept cX4_kept 3 (some .int) :: gw) ({ frames := 1, cells := 0, slots := 0, locals := 21 }) (va_Pc [.ref m0, .int p0, .int p1] (fun U => U.heap.size = sz ∧ va_P (dC, dI) vwCl [(m0, .inr (4, [.int (nI n), .int 0, .ref d2, .ref d3, .ref d4, .ref d5, .ref d6, .ref d7, .ref d8, .int 0, .int 0, .int 0, .int 0, .ref d13, .ref d14, .ref d15, .ref d16, .ref d17, .ref d18, .ref d19, .ref d20, .ref d21, .ref d22, .ref d23, .ref d24, .ref d25, .ref d26, .ref d27, .ref d28, .ref d29, .ref d30, .ref d31, .ref d32, .ref d33, .ref d34, .ref d35, .ref d36, .int 0, .int 0, .ref d39, .int 0]))] U.heap ∧ va_K (dC, dI) vwCl (gTy cI cZ cN cO) U ∧ va_D (fun _ => True) [(m0, .inr (4, [.int (nI n), .int 0, .ref d2, .ref d3, .ref d4, .ref d5, .ref d6, .ref d7, .ref d8, .int 0, .int 0, .int 0, .int 0, .ref d13, .ref d14, .ref d15, .ref d16, .ref d17, .ref d18, .ref d19, .ref d20, .ref d21, .ref d22, .ref d23, .ref d24, .ref d25, .ref d26, .ref d27, .ref d28, .ref d29, .ref d30, .ref d31, .ref d32, .ref d33, .ref d34, .ref d35, .ref d36, .int 0, .int 0, .ref d39, .int 0]))])) (va_Qi (fun (r : Int32) (_ : Unit) => r = -1) (fun (_ : Unit) (t : State) => va_P (dC, dI) vwCl [] t.heap ∧ va_K (dC, dI) vwCl (gTy cI cZ cN cO) t ∧ va_D (va_A [(m0, .inr (4, [.int (nI n), .int 0, .ref d2, .ref d3, .ref d4, .ref d5, .ref d6, .ref d7, .ref d8, .int 0, .int 0, .int 0, .int 0, .ref d13, .ref d14, .ref d15, .ref d16, .ref d17, .ref d18, .ref d19, .ref d20, .ref d21, .ref d22, .ref d23, .ref d24, .ref d25, .ref d26, .ref d27, .ref d28, .ref d29, .ref d30, .ref d31, .ref d32, .ref d33, .ref d34, .ref d35, .ref d36, .int 0, .int 0, .ref d39, .int 0]))] sz) []) (va_A [(m0, .inr (4, [.int (nI n), .int 0, .ref d2, .ref d3, .ref d4, .ref d5, .ref d6, .ref d7, .ref d8, .int 0, .int 0, .int 0, .int 0, .ref d13, .ref d14, .ref d15, .ref d16, .ref d17, .ref d18, .ref d19, .ref d20, .ref d21, .ref d22, .ref d23, .ref d24, .ref d25, .ref d26, .ref d27, .ref d28, .ref d29, .ref d30, .ref d31, .ref d32, .ref d33, .ref d34, .ref d35, .ref d36, .int 0, .int 0, .ref d39, .int 0]))] sz)) (0) (0) (va_A [(m0, .inr (4, [.int (nI n), .int 0, .ref d2, .ref d3, .ref d4, .ref d5, .ref d6, .ref d7, .ref d8, .int 0, .int 0, .int 0, .int 0, .ref d13, .ref d14, .ref d15, .ref d16, .ref d17, .ref d18, .ref d19, .ref d20, .ref d21, .ref d22, .ref d23, .ref d24, .ref d25, .ref d26, .ref d27, .ref d28, .ref d29, .ref d30, .ref d31, .ref d32, .ref d33, .ref d34, .ref d35, .ref d36, .int 0, .int 0, .ref d39, .int 0]))] sz) := by
  refine Met.ofW (cc := cX4_kept) (maxL := 3) (ret := (some .int)) (by decide) rfl ?_
  intro p e s m args below meth c s₁ B hml hv
  obtain ⟨rfl, hsz, hP, hK, hD0⟩ := hv
  have hx := B.exec
  have hb := B.bytes
  have hr := B.returns
  have hts := atoms_spec (ws := (.code yX4_kept cX4_kept 3 (some .int) :: gw)) B.pre
  have hg : ∀ w ∈ gw, w.before _ s = true := fun w h => hts w (List.mem_cons_of_mem _ h)
  have hown : s.vm.findClass RX4 = some m.cls := findClass_of_methodNamed B.named
  have hlocks := B.notSynchronized
  subst hsz
  have hD := hD0.self (sz := s.heap.size)
  generalize hAe : va_A [(m0, .inr (4, [.int (nI n), .int 0, .ref d2, .ref d3, .ref d4, .ref d5, .ref d6, .ref d7, .ref d8, .int 0, .int 0, .int 0, .int 0, .ref d13, .ref d14, .ref d15, .ref d16, .ref d17, .ref d18, .ref d19, .ref d20, .ref d21, .ref d22, .ref d23, .ref d24, .ref d25, .ref d26, .ref d27, .ref d28, .ref d29, .ref d30, .ref d31, .ref d32, .ref d33, .ref d34, .ref d35, .ref d36, .int 0, .int 0, .ref d39, .int 0]))] s.heap.size = A at hD ⊢
  have hA : ∀ q : Nat, s.heap.size ≤ q → A q := fun q h => by rw [← hAe]; exact Or.inr h
  have hS : va_S A s.heap s.heap [] := va_S.rf
  obtain ⟨H, eH⟩ : ∃ z, z = s.heap := ⟨_, rfl⟩
  obtain ⟨locs, elocs⟩ : ∃ z : List Loc, z = [] := ⟨_, rfl⟩
  have hP : va_P (dC, dI) vwCl [(m0, .inr (4, [.int (nI n), .int 0, .ref d2, .ref d3, .ref d4, .ref d5, .ref d6, .ref d7, .ref d8, .int 0, .int 0, .int 0, .int 0, .ref d13, .ref d14, .ref d15, .ref d16, .ref d17, .ref d18, .ref d19, .ref d20, .ref d21, .ref d22, .ref d23, .ref d24, .ref d25, .ref d26, .ref d27, .ref d28, .ref d29, .ref d30, .ref d31, .ref d32, .ref d33, .ref d34, .ref d35, .ref d36, .int 0, .int 0, .ref d39, .int 0]))] H := by rw [eH]; exact hP
  have hS : va_S A s.heap H locs := by rw [eH, elocs]; exact hS
  have hl := lv_entry ([.ref m0, .int p0, .int p1]) (n := 3) (Nat.le_of_ble_eq_true rfl)
  rw [lg_entry_eq]
  generalize (lg_sl ([.ref m0, .int p0, .int p1]) ++ List.replicate (3 - (lg_sl ([.ref m0, .int p0, .int p1])).length) Slot.unset).toArray = ls at hl ⊢
  have hl : lv_has ls 3 [(0, .ref m0), (1, .int p0), (2, .int p1)] := hl
  rw [← elocs]
  suffices hgoal : ∀ HH, H = HH → W p l e (headSpec (.code yX4_kept cX4_kept 3 (some .int) :: gw) ({ frames := 1, cells := 0, slots := 0, locals := 21 })).room s m _ below meth c HH locs 0 0 _ (F0 m 0 ls []) from hgoal _ eH
  rintro _ rfl
  refine lv_aload_n hx hb dX4_kept_0 rfl (lv_at hl 0 rfl) ?_
  refine lv_iconst (v := 0) hx hb dX4_kept_1 (by decide) ?_
  refine va_put (D := (dC, dI)) (ci := 4) (v := .int 0) (ty := .int) (C := RX4) (T := TX4) (N := 41) hx hb hg inX4 tyX4 tyX4_ok nmX4 hown hK hP hD hS 0 rfl rfl 1 (by decide) (hg _ kF_X4_112) (fun _ h9 => h9) rfl (by decide +kernel) rfl rfl (Nat.le_of_ble_eq_true rfl) dX4_kept_2 (fun H locs hP hD hS => ?_)
  have hP : va_P (dC, dI) vwCl [(m0, .inr (4, [.int (nI n), .int 0, .ref d2, .ref d3, .ref d4, .ref d5, .ref d6, .ref d7, .ref d8, .int 0, .int 0, .int 0, .int 0, .ref d13, .ref d14, .ref d15, .ref d16, .ref d17, .ref d18, .ref d19, .ref d20, .ref d21, .ref d22, .ref d23, .ref d24, .ref d25, .ref d26, .ref d27, .ref d28, .ref d29, .ref d30, .ref d31, .ref d32, .ref d33, .ref d34, .ref d35, .ref d36, .int 0, .int 0, .ref d39, .int 0]))] H := hP
  have hD : va_D A [(m0, .inr (4, [.int (nI n), .int 0, .ref d2, .ref d3, .ref d4, .ref d5, .ref d6, .ref d7, .ref d8, .int 0, .int 0, .int 0, .int 0, .ref d13, .ref d14, .ref d15, .ref d16, .ref d17, .ref d18, .ref d19, .ref d20, .ref d21, .ref d22, .ref d23, .ref d24, .ref d25, .ref d26, .ref d27, .ref d28, .ref d29, .ref d30, .ref d31, .ref d32, .ref d33, .ref d34, .ref d35, .ref d36, .int 0, .int 0, .ref d39, .int 0]))] := hD
  refine lv_aload_n hx hb dX4_kept_5 rfl (lv_at hl 0 rfl) ?_
  refine lv_iload_n hx hb dX4_kept_6 rfl (lv_at hl 1 rfl) ?_
  have hPc := hP.sub (ws' := [(m0, .inr (4, [.int (nI n), .int 0, .ref d2, .ref d3, .ref d4, .ref d5, .ref d6, .ref d7, .ref d8, .int 0, .int 0, .int 0, .int 0, .ref d13, .ref d14, .ref d15, .ref d16, .ref d17, .ref d18, .ref d19, .ref d20, .ref d21, .ref d22, .ref d23, .ref d24, .ref d25, .ref d26, .ref d27, .ref d28, .ref d29, .ref d30, .ref d31, .ref d32, .ref d33, .ref d34, .ref d35, .ref d36, .int 0, .int 0, .ref d39, .int 0]))]) [0] rfl
  refine vp_callSi (W.runV (As := [.int p0]) (rest := []) ⟨hx, hb, hml, hown, hg⟩ (c_X4_isNode l dC dI cI cZ cN cO m0 d2 d3 d4 d5 d6 d7 d8 d13 d14 d15 d16 d17 d18 d19 d20 d21 d22 d23 d24 d25 d26 d27 d28 d29 d30 d31 d32 d33 d34 d35 d36 d39 n 0 p0) (cwV 1 hg (gw_V kM_X4_143 kI_X4_isNode kS_X4_isNode kN_X4 kD_X4_isNode) rfl rfl rfl (by decide +kernel) ⟨Nat.le_of_ble_eq_true rfl, Nat.le_of_ble_eq_true rfl⟩) ⟨fun a U g mk q => by obtain ⟨q0, qP, qK⟩ := q; exact ⟨q0, qP, va_K.moved (u := U) (U := U.calling g mk a) (Vm.Alike.refl U.vm) qK⟩, va_recv hK hP (ci := 4) (q0 := 0) rfl rfl, fun U hU hW => ⟨rfl, by rw [hU]; exact hPc, va_K.moved hW.alike hK⟩⟩ rfl rfl hl.1 rfl (lv_room (Nat.le_of_ble_eq_true rfl)) dX4_kept_7 ⟨Nat.zero_le _, Nat.zero_le _⟩) (fun r_1 hr_1 => ?_)
  refine lv_if_eq (tgt := 35) hx hb dX4_kept_10 (by decide) (fun c_10 => ?_) (fun c_10 => ?_)
  · refine lv_iconst (v := (-1)) hx hb dX4_kept_35 (by decide) ?_
    have hP9 := hP.sub (ws' := []) [] rfl
    have hD9 := hD.sub (ws' := []) [] (by decide) rfl
    refine W.widen (k := 0) (n := 0) (by omega) (by omega) ?_
    exact W.iret (v := (-1)) hx hb hr (fun t ht hW => ⟨⟨_, (), rfl, rfl, by rw [ht]; exact hP9, va_K.moved hW.alike hK, hD9⟩, hS.F ht⟩) hS.2.2 dX4_kept_36
  · refine lv_aload_n hx hb dX4_kept_13 rfl (lv_at hl 0 rfl) ?_
    refine lv_iload_n hx hb dX4_kept_14 rfl (lv_at hl 2 rfl) ?_
    have hPc := hP.sub (ws' := [(m0, .inr (4, [.int (nI n), .int 0, .ref d2, .ref d3, .ref d4, .ref d5, .ref d6, .ref d7, .ref d8, .int 0, .int 0, .int 0, .int 0, .ref d13, .ref d14, .ref d15, .ref d16, .ref d17, .ref d18, .ref d19, .ref d20, .ref d21, .ref d22, .ref d23, .ref d24, .ref d25, .ref d26, .ref d27, .ref d28, .ref d29, .ref d30, .ref d31, .ref d32, .ref d33, .ref d34, .ref d35, .ref d36, .int 0, .int 0, .ref d39, .int 0]))]) [0] rfl
    refine vp_callSi (W.runV (As := [.int p1]) (rest := []) ⟨hx, hb, hml, hown, hg⟩ (c_X4_isNode l dC dI cI cZ cN cO m0 d2 d3 d4 d5 d6 d7 d8 d13 d14 d15 d16 d17 d18 d19 d20 d21 d22 d23 d24 d25 d26 d27 d28 d29 d30 d31 d32 d33 d34 d35 d36 d39 n 0 p1) (cwV 1 hg (gw_V kM_X4_143 kI_X4_isNode kS_X4_isNode kN_X4 kD_X4_isNode) rfl rfl rfl (by decide +kernel) ⟨Nat.le_of_ble_eq_true rfl, Nat.le_of_ble_eq_true rfl⟩) ⟨fun a U g mk q => by obtain ⟨q0, qP, qK⟩ := q; exact ⟨q0, qP, va_K.moved (u := U) (U := U.calling g mk a) (Vm.Alike.refl U.vm) qK⟩, va_recv hK hP (ci := 4) (q0 := 0) rfl rfl, fun U hU hW => ⟨rfl, by rw [hU]; exact hPc, va_K.moved hW.alike hK⟩⟩ rfl rfl hl.1 rfl (lv_room (Nat.le_of_ble_eq_true rfl)) dX4_kept_15 ⟨Nat.zero_le _, Nat.zero_le _⟩) (fun r_2 hr_2 => ?_)
    refine lv_if_eq (tgt := 35) hx hb dX4_kept_18 (by decide) (fun c_18 => ?_) (fun c_18 => absurd ⟨ite_ne0 hr_1 c_10, ite_ne0 hr_2 c_18⟩ hno)
    refine lv_iconst (v := (-1)) hx hb dX4_kept_35 (by decide) ?_
    have hP9 := hP.sub (ws' := []) [] rfl
    have hD9 := hD.sub (ws' := []) [] (by decide) rfl
    refine W.widen (k := 0) (n := 0) (by omega) (by omega) ?_
    exact W.iret (v := (-1)) hx hb hr (fun t ht hW => ⟨⟨_, (), rfl, rfl, by rw [ht]; exact hP9, va_K.moved hW.alike hK, hD9⟩, hS.F ht⟩) hS.2.2 dX4_kept_36
set_option maxHeartbeats 4000000 in
set_option maxRecDepth 100000 in
theorem c_X4_kept_yes (l : Launch) (dC : Nat → ClassId) (dI : Nat → Nat → Nat) (cI cZ cN cO : ClassId) (m0 d2 d3 d4 d5 d6 d7 d8 d13 d14 d15 d16 d17 d18 d19 d20 d21 d22 d23 d24 d25 d26 d27 d28 d29 d30 d31 d32 d33 d34 d35 d36 d39 n : Nat) (p0 p1 : Int32) (sz : Nat) (hn : n ≤ 31) (hy : isN n p0) (hy1 : isN n p1) : Met l yX4_kept (.code yX4_kept cX4_kept 3 (some .int) :: gw) ({ frames := 1, cells := 0, slots := 0, locals := 21 }) (va_Pc [.ref m0, .int p0, .int p1] (fun U => U.heap.size = sz ∧ va_P (dC, dI) vwCl [(m0, .inr (4, [.int (nI n), .int 0, .ref d2, .ref d3, .ref d4, .ref d5, .ref d6, .ref d7, .ref d8, .int 0, .int 0, .int 0, .int 0, .ref d13, .ref d14, .ref d15, .ref d16, .ref d17, .ref d18, .ref d19, .ref d20, .ref d21, .ref d22, .ref d23, .ref d24, .ref d25, .ref d26, .ref d27, .ref d28, .ref d29, .ref d30, .ref d31, .ref d32, .ref d33, .ref d34, .ref d35, .ref d36, .int 0, .int 0, .ref d39, .int 0])), (d18, .inl (cI, 961, .inl ((fun _ => 0))))] U.heap ∧ va_K (dC, dI) vwCl (gTy cI cZ cN cO) U ∧ va_D (fun _ => True) [(m0, .inr (4, [.int (nI n), .int 0, .ref d2, .ref d3, .ref d4, .ref d5, .ref d6, .ref d7, .ref d8, .int 0, .int 0, .int 0, .int 0, .ref d13, .ref d14, .ref d15, .ref d16, .ref d17, .ref d18, .ref d19, .ref d20, .ref d21, .ref d22, .ref d23, .ref d24, .ref d25, .ref d26, .ref d27, .ref d28, .ref d29, .ref d30, .ref d31, .ref d32, .ref d33, .ref d34, .ref d35, .ref d36, .int 0, .int 0, .ref d39, .int 0])), (d18, .inl (cI, 961, .inl ((fun _ => 0))))])) (va_Qi (fun (r : Int32) (_ : Unit) => r = 0) (fun (_ : Unit) (t : State) => va_P (dC, dI) vwCl [] t.heap ∧ va_K (dC, dI) vwCl (gTy cI cZ cN cO) t ∧ va_D (va_A [(m0, .inr (4, [.int (nI n), .int 0, .ref d2, .ref d3, .ref d4, .ref d5, .ref d6, .ref d7, .ref d8, .int 0, .int 0, .int 0, .int 0, .ref d13, .ref d14, .ref d15, .ref d16, .ref d17, .ref d18, .ref d19, .ref d20, .ref d21, .ref d22, .ref d23, .ref d24, .ref d25, .ref d26, .ref d27, .ref d28, .ref d29, .ref d30, .ref d31, .ref d32, .ref d33, .ref d34, .ref d35, .ref d36, .int 0, .int 0, .ref d39, .int 0])), (d18, .inl (cI, 961, .inl ((fun _ => 0))))] sz) []) (va_A [(m0, .inr (4, [.int (nI n), .int 0, .ref d2, .ref d3, .ref d4, .ref d5, .ref d6, .ref d7, .ref d8, .int 0, .int 0, .int 0, .int 0, .ref d13, .ref d14, .ref d15, .ref d16, .ref d17, .ref d18, .ref d19, .ref d20, .ref d21, .ref d22, .ref d23, .ref d24, .ref d25, .ref d26, .ref d27, .ref d28, .ref d29, .ref d30, .ref d31, .ref d32, .ref d33, .ref d34, .ref d35, .ref d36, .int 0, .int 0, .ref d39, .int 0])), (d18, .inl (cI, 961, .inl ((fun _ => 0))))] sz)) (0) (0) (va_A [(m0, .inr (4, [.int (nI n), .int 0, .ref d2, .ref d3, .ref d4, .ref d5, .ref d6, .ref d7, .ref d8, .int 0, .int 0, .int 0, .int 0, .ref d13, .ref d14, .ref d15, .ref d16, .ref d17, .ref d18, .ref d19, .ref d20, .ref d21, .ref d22, .ref d23, .ref d24, .ref d25, .ref d26, .ref d27, .ref d28, .ref d29, .ref d30, .ref d31, .ref d32, .ref d33, .ref d34, .ref d35, .ref d36, .int 0, .int 0, .ref d39, .int 0])), (d18, .inl (cI, 961, .inl ((fun _ => 0))))] sz) := by
  refine Met.ofW (cc := cX4_kept) (maxL := 3) (ret := (some .int)) (by decide) rfl ?_
  intro p e s m args below meth c s₁ B hml hv
  obtain ⟨rfl, hsz, hP, hK, hD0⟩ := hv
  have hx := B.exec
  have hb := B.bytes
  have hr := B.returns
  have hts := atoms_spec (ws := (.code yX4_kept cX4_kept 3 (some .int) :: gw)) B.pre
  have hg : ∀ w ∈ gw, w.before _ s = true := fun w h => hts w (List.mem_cons_of_mem _ h)
  have hown : s.vm.findClass RX4 = some m.cls := findClass_of_methodNamed B.named
  have hlocks := B.notSynchronized
  subst hsz
  have hD := hD0.self (sz := s.heap.size)
  generalize hAe : va_A [(m0, .inr (4, [.int (nI n), .int 0, .ref d2, .ref d3, .ref d4, .ref d5, .ref d6, .ref d7, .ref d8, .int 0, .int 0, .int 0, .int 0, .ref d13, .ref d14, .ref d15, .ref d16, .ref d17, .ref d18, .ref d19, .ref d20, .ref d21, .ref d22, .ref d23, .ref d24, .ref d25, .ref d26, .ref d27, .ref d28, .ref d29, .ref d30, .ref d31, .ref d32, .ref d33, .ref d34, .ref d35, .ref d36, .int 0, .int 0, .ref d39, .int 0])), (d18, .inl (cI, 961, .inl ((fun _ => 0))))] s.heap.size = A at hD ⊢
  have hA : ∀ q : Nat, s.heap.size ≤ q → A q := fun q h => by rw [← hAe]; exact Or.inr h
  have hS : va_S A s.heap s.heap [] := va_S.rf
  obtain ⟨H, eH⟩ : ∃ z, z = s.heap := ⟨_, rfl⟩
  obtain ⟨locs, elocs⟩ : ∃ z : List Loc, z = [] := ⟨_, rfl⟩
  have hP : va_P (dC, dI) vwCl [(m0, .inr (4, [.int (nI n), .int 0, .ref d2, .ref d3, .ref d4, .ref d5, .ref d6, .ref d7, .ref d8, .int 0, .int 0, .int 0, .int 0, .ref d13, .ref d14, .ref d15, .ref d16, .ref d17, .ref d18, .ref d19, .ref d20, .ref d21, .ref d22, .ref d23, .ref d24, .ref d25, .ref d26, .ref d27, .ref d28, .ref d29, .ref d30, .ref d31, .ref d32, .ref d33, .ref d34, .ref d35, .ref d36, .int 0, .int 0, .ref d39, .int 0])), (d18, .inl (cI, 961, .inl ((fun _ => 0))))] H := by rw [eH]; exact hP
  have hS : va_S A s.heap H locs := by rw [eH, elocs]; exact hS
  have hl := lv_entry ([.ref m0, .int p0, .int p1]) (n := 3) (Nat.le_of_ble_eq_true rfl)
  rw [lg_entry_eq]
  generalize (lg_sl ([.ref m0, .int p0, .int p1]) ++ List.replicate (3 - (lg_sl ([.ref m0, .int p0, .int p1])).length) Slot.unset).toArray = ls at hl ⊢
  have hl : lv_has ls 3 [(0, .ref m0), (1, .int p0), (2, .int p1)] := hl
  rw [← elocs]
  suffices hgoal : ∀ HH, H = HH → W p l e (headSpec (.code yX4_kept cX4_kept 3 (some .int) :: gw) ({ frames := 1, cells := 0, slots := 0, locals := 21 })).room s m _ below meth c HH locs 0 0 _ (F0 m 0 ls []) from hgoal _ eH
  rintro _ rfl
  refine lv_aload_n hx hb dX4_kept_0 rfl (lv_at hl 0 rfl) ?_
  refine lv_iconst (v := 0) hx hb dX4_kept_1 (by decide) ?_
  refine va_put (D := (dC, dI)) (ci := 4) (v := .int 0) (ty := .int) (C := RX4) (T := TX4) (N := 41) hx hb hg inX4 tyX4 tyX4_ok nmX4 hown hK hP hD hS 0 rfl rfl 1 (by decide) (hg _ kF_X4_112) (fun _ h9 => h9) rfl (by decide +kernel) rfl rfl (Nat.le_of_ble_eq_true rfl) dX4_kept_2 (fun H locs hP hD hS => ?_)
  have hP : va_P (dC, dI) vwCl [(m0, .inr (4, [.int (nI n), .int 0, .ref d2, .ref d3, .ref d4, .ref d5, .ref d6, .ref d7, .ref d8, .int 0, .int 0, .int 0, .int 0, .ref d13, .ref d14, .ref d15, .ref d16, .ref d17, .ref d18, .ref d19, .ref d20, .ref d21, .ref d22, .ref d23, .ref d24, .ref d25, .ref d26, .ref d27, .ref d28, .ref d29, .ref d30, .ref d31, .ref d32, .ref d33, .ref d34, .ref d35, .ref d36, .int 0, .int 0, .ref d39, .int 0])), (d18, .inl (cI, 961, .inl ((fun _ => 0))))] H := hP
  have hD : va_D A [(m0, .inr (4, [.int (nI n), .int 0, .ref d2, .ref d3, .ref d4, .ref d5, .ref d6, .ref d7, .ref d8, .int 0, .int 0, .int 0, .int 0, .ref d13, .ref d14, .ref d15, .ref d16, .ref d17, .ref d18, .ref d19, .ref d20, .ref d21, .ref d22, .ref d23, .ref d24, .ref d25, .ref d26, .ref d27, .ref d28, .ref d29, .ref d30, .ref d31, .ref d32, .ref d33, .ref d34, .ref d35, .ref d36, .int 0, .int 0, .ref d39, .int 0])), (d18, .inl (cI, 961, .inl ((fun _ => 0))))] := hD
  refine lv_aload_n hx hb dX4_kept_5 rfl (lv_at hl 0 rfl) ?_
  refine lv_iload_n hx hb dX4_kept_6 rfl (lv_at hl 1 rfl) ?_
  have hPc := hP.sub (ws' := [(m0, .inr (4, [.int (nI n), .int 0, .ref d2, .ref d3, .ref d4, .ref d5, .ref d6, .ref d7, .ref d8, .int 0, .int 0, .int 0, .int 0, .ref d13, .ref d14, .ref d15, .ref d16, .ref d17, .ref d18, .ref d19, .ref d20, .ref d21, .ref d22, .ref d23, .ref d24, .ref d25, .ref d26, .ref d27, .ref d28, .ref d29, .ref d30, .ref d31, .ref d32, .ref d33, .ref d34, .ref d35, .ref d36, .int 0, .int 0, .ref d39, .int 0]))]) [0] rfl
  refine vp_callSi (W.runV (As := [.int p0]) (rest := []) ⟨hx, hb, hml, hown, hg⟩ (c_X4_isNode l dC dI cI cZ cN cO m0 d2 d3 d4 d5 d6 d7 d8 d13 d14 d15 d16 d17 d18 d19 d20 d21 d22 d23 d24 d25 d26 d27 d28 d29 d30 d31 d32 d33 d34 d35 d36 d39 n 0 p0) (cwV 1 hg (gw_V kM_X4_143 kI_X4_isNode kS_X4_isNode kN_X4 kD_X4_isNode) rfl rfl rfl (by decide +kernel) ⟨Nat.le_of_ble_eq_true rfl, Nat.le_of_ble_eq_true rfl⟩) ⟨fun a U g mk q => by obtain ⟨q0, qP, qK⟩ := q; exact ⟨q0, qP, va_K.moved (u := U) (U := U.calling g mk a) (Vm.Alike.refl U.vm) qK⟩, va_recv hK hP (ci := 4) (q0 := 0) rfl rfl, fun U hU hW => ⟨rfl, by rw [hU]; exact hPc, va_K.moved hW.alike hK⟩⟩ rfl rfl hl.1 rfl (lv_room (Nat.le_of_ble_eq_true rfl)) dX4_kept_7 ⟨Nat.zero_le _, Nat.zero_le _⟩) (fun r_1 hr_1 => ?_)
  refine lv_if_eq (tgt := 35) hx hb dX4_kept_10 (by decide) (fun c_10 => absurd hy (ite_eq0 hr_1 c_10)) (fun c_10 => ?_)
  refine lv_aload_n hx hb dX4_kept_13 rfl (lv_at hl 0 rfl) ?_
  refine lv_iload_n hx hb dX4_kept_14 rfl (lv_at hl 2 rfl) ?_
  have hPc := hP.sub (ws' := [(m0, .inr (4, [.int (nI n), .int 0, .ref d2, .ref d3, .ref d4, .ref d5, .ref d6, .ref d7, .ref d8, .int 0, .int 0, .int 0, .int 0, .ref d13, .ref d14, .ref d15, .ref d16, .ref d17, .ref d18, .ref d19, .ref d20, .ref d21, .ref d22, .ref d23, .ref d24, .ref d25, .ref d26, .ref d27, .ref d28, .ref d29, .ref d30, .ref d31, .ref d32, .ref d33, .ref d34, .ref d35, .ref d36, .int 0, .int 0, .ref d39, .int 0]))]) [0] rfl
  refine vp_callSi (W.runV (As := [.int p1]) (rest := []) ⟨hx, hb, hml, hown, hg⟩ (c_X4_isNode l dC dI cI cZ cN cO m0 d2 d3 d4 d5 d6 d7 d8 d13 d14 d15 d16 d17 d18 d19 d20 d21 d22 d23 d24 d25 d26 d27 d28 d29 d30 d31 d32 d33 d34 d35 d36 d39 n 0 p1) (cwV 1 hg (gw_V kM_X4_143 kI_X4_isNode kS_X4_isNode kN_X4 kD_X4_isNode) rfl rfl rfl (by decide +kernel) ⟨Nat.le_of_ble_eq_true rfl, Nat.le_of_ble_eq_true rfl⟩) ⟨fun a U g mk q => by obtain ⟨q0, qP, qK⟩ := q; exact ⟨q0, qP, va_K.moved (u := U) (U := U.calling g mk a) (Vm.Alike.refl U.vm) qK⟩, va_recv hK hP (ci := 4) (q0 := 0) rfl rfl, fun U hU hW => ⟨rfl, by rw [hU]; exact hPc, va_K.moved hW.alike hK⟩⟩ rfl rfl hl.1 rfl (lv_room (Nat.le_of_ble_eq_true rfl)) dX4_kept_15 ⟨Nat.zero_le _, Nat.zero_le _⟩) (fun r_2 hr_2 => ?_)
  refine lv_if_eq (tgt := 35) hx hb dX4_kept_18 (by decide) (fun c_18 => absurd hy1 (ite_eq0 hr_2 c_18)) (fun c_18 => ?_)
  refine lv_aload_n hx hb dX4_kept_21 rfl (lv_at hl 0 rfl) ?_
  refine va_get (D := (dC, dI)) (ci := 4) (v := .ref d18) (C := RX4) (T := TX4) (N := 41) hx hb hg inX4 hown hK hP 0 rfl rfl 18 (by decide) (hg _ kF_X4_48) (fun _ h9 => h9) rfl dX4_kept_22 ?_
  refine lv_bipush (v := 31) hx hb dX4_kept_25 (by decide) ?_
  refine lv_iload_n hx hb dX4_kept_27 rfl (lv_at hl 1 rfl) ?_
  refine lv_imul hx hb dX4_kept_28 ?_
  refine lv_topi (fun t_3 et_3 => ?_)
  refine lv_iload_n hx hb dX4_kept_29 rfl (lv_at hl 2 rfl) ?_
  refine lv_iadd hx hb dX4_kept_30 ?_
  refine lv_topi (fun t_4 et_4 => ?_)
  refine va_iald hx hb hK hP 1 0 rfl rfl (by obtain ⟨j, hj, rfl⟩ := isN_of (by omega) hy; obtain ⟨i, hi, rfl⟩ := isN_of (by omega) hy1; simp only [*]; exact gIdxIn (by omega) (by omega)) dX4_kept_31 ?_
  refine lv_topi (fun t_5 et_5 => ?_)
  refine lv_goto (tgt := 36) hx hb dX4_kept_32 (by decide) ?_
  have hP9 := hP.sub (ws' := []) [] rfl
  have hD9 := hD.sub (ws' := []) [] (by decide) rfl
  refine W.widen (k := 0) (n := 0) (by omega) (by omega) ?_
  exact W.iret (v := t_5) hx hb hr (fun t ht hW => ⟨⟨_, (), rfl, et_5, by rw [ht]; exact hP9, va_K.moved hW.alike hK, hD9⟩, hS.F ht⟩) hS.2.2 dX4_kept_36
