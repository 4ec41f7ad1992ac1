def itr (f : Nat → RS → RS) : Nat → RS → RS
  | 0, σ => σ
  | i + 1, σ => f i (itr f i σ)
theorem rOK.nn {n : Nat} {σ : RS} (h : rOK n σ) : σ.1 0 = nI n := h.2.2.1
set_option maxHeartbeats 4000000 in
set_option maxRecDepth 100000 in
theorem q_isNode (l : Launch) (D : va_G) (cI cZ cN cO : ClassId) (A : Nat → Prop) (mm : Nat) (d : Nat → Nat) (n : Nat) (σ : RS) (k : Int32) (ok : rOK n σ)  : Met l yX4_isNode (.code yX4_isNode cX4_isNode 2 (some .boolean) :: gw) ({ frames := 0, cells := 0, slots := 0, locals := 0 }) (va_Pc (.ref mm :: [.int k]) (rH D cI cZ cN cO A mm d σ)) (vp_Si (fun r => r = if isN n k then 1 else 0)) 0 0 (fun _ => False) := by
  refine Met.ofW (cc := cX4_isNode) (maxL := 2) (ret := (some .boolean)) (by decide) rfl ?_
  intro p e s m args below meth c s₁ B hml hv
  obtain ⟨rfl, hP, hK, hD⟩ := hv
  have hx := B.exec
  have hb := B.bytes
  have hr := B.returns
  have hts := atoms_spec (ws := (.code yX4_isNode cX4_isNode 2 (some .boolean) :: gw)) B.pre
  have hg : ∀ w ∈ gw, w.before _ s = true := fun w h => hts w (List.mem_cons_of_mem _ h)
  have hown : s.vm.findClass RX4 = some m.cls := findClass_of_methodNamed B.named
  have hlocks := B.notSynchronized
  have C : Cx p c cX4_isNode s m _ RX4 D (gTy cI cZ cN cO) := ⟨hx, hb, hown, hg, hK⟩
  have w : rWd D cI cZ A s.heap mm d σ s.heap [] := ⟨hP, hD, va_S.rf⟩
  have hl := lv_entry ([.ref mm, .int k]) (n := 2) (Nat.le_of_ble_eq_true rfl)
  rw [lg_entry_eq]
  generalize (lg_sl ([.ref mm, .int k]) ++ List.replicate (2 - (lg_sl ([.ref mm, .int k])).length) Slot.unset).toArray = ls at hl ⊢
  have hl : lv_has ls 2 [(0, .ref mm), (1, .int k)] := hl
  refine lv_iload_n hx hb dX4_isNode_0 rfl (lv_at hl 1 rfl) ?_
  refine lv_if_lt (tgt := 16) hx hb dX4_isNode_1 (by decide) (fun c_1 => ?_) (fun c_1 => ?_)
  · refine lv_iconst (v := 0) hx hb dX4_isNode_16 (by decide) ?_
    exact W.zret (v := 0) (ty := .boolean) hx hb hr rfl (fun t ht hW => ⟨_, rfl, (by first | exact (if_pos ⟨by assumption, by assumption⟩).symm | exact (if_neg (fun h => h.1 (by assumption))).symm | exact (if_neg (fun h => h.2 (by assumption))).symm), ht⟩) (fun _ h => by cases h) dX4_isNode_17
  · refine lv_iload_n hx hb dX4_isNode_4 rfl (lv_at hl 1 rfl) ?_
    refine lv_aload_n hx hb dX4_isNode_5 rfl (lv_at hl 0 rfl) ?_
    refine r_get_0 C w dX4_isNode_6 ?_
    rw [ok.nn]
    refine lv_icmp_ge (tgt := 16) hx hb dX4_isNode_9 (by decide) (fun c_9 => ?_) (fun c_9 => ?_)
    · refine lv_iconst (v := 0) hx hb dX4_isNode_16 (by decide) ?_
      exact W.zret (v := 0) (ty := .boolean) hx hb hr rfl (fun t ht hW => ⟨_, rfl, (by first | exact (if_pos ⟨by assumption, by assumption⟩).symm | exact (if_neg (fun h => h.1 (by assumption))).symm | exact (if_neg (fun h => h.2 (by assumption))).symm), ht⟩) (fun _ h => by cases h) dX4_isNode_17
    · refine lv_iconst (v := 1) hx hb dX4_isNode_12 (by decide) ?_
      refine lv_goto (tgt := 17) hx hb dX4_isNode_13 (by decide) ?_
      exact W.zret (v := 1) (ty := .boolean) hx hb hr rfl (fun t ht hW => ⟨_, rfl, (by first | exact (if_pos ⟨by assumption, by assumption⟩).symm | exact (if_neg (fun h => h.1 (by assumption))).symm | exact (if_neg (fun h => h.2 (by assumption))).symm), ht⟩) (fun _ h => by cases h) dX4_isNode_17
set_option maxHeartbeats 4000000 in
set_option maxRecDepth 100000 in
theorem q_hasRoom (l : Launch) (D : va_G) (cI cZ cN cO : ClassId) (A : Nat → Prop) (mm : Nat) (d : Nat → Nat) (n : Nat) (σ : RS) (k : Int32) (ok : rOK n σ)  : Met l yX4_hasRoom (.code yX4_hasRoom cX4_hasRoom 2 (some .boolean) :: gw) ({ frames := 0, cells := 0, slots := 0, locals := 0 }) (va_Pc (.ref mm :: [.int k]) (rH D cI cZ cN cO A mm d σ)) (vp_Si (fun r => r = if ¬ 2000 < σ.1 9 + k then 1 else 0)) 0 0 (fun _ => False) := by
  refine Met.ofW (cc := cX4_hasRoom) (maxL := 2) (ret := (some .boolean)) (by decide) rfl ?_
  intro p e s m args below meth c s₁ B hml hv
  obtain ⟨rfl, hP, hK, hD⟩ := hv
  have hx := B.exec
  have hb := B.bytes
  have hr := B.returns
  have hts := atoms_spec (ws := (.code yX4_hasRoom cX4_hasRoom 2 (some .boolean) :: gw)) B.pre
  have hg : ∀ w ∈ gw, w.before _ s = true := fun w h => hts w (List.mem_cons_of_mem _ h)
  have hown : s.vm.findClass RX4 = some m.cls := findClass_of_methodNamed B.named
  have hlocks := B.notSynchronized
  have C : Cx p c cX4_hasRoom s m _ RX4 D (gTy cI cZ cN cO) := ⟨hx, hb, hown, hg, hK⟩
  have w : rWd D cI cZ A s.heap mm d σ s.heap [] := ⟨hP, hD, va_S.rf⟩
  have hl := lv_entry ([.ref mm, .int k]) (n := 2) (Nat.le_of_ble_eq_true rfl)
  rw [lg_entry_eq]
  generalize (lg_sl ([.ref mm, .int k]) ++ List.replicate (2 - (lg_sl ([.ref mm, .int k])).length) Slot.unset).toArray = ls at hl ⊢
  have hl : lv_has ls 2 [(0, .ref mm), (1, .int k)] := hl
  refine lv_aload_n hx hb dX4_hasRoom_0 rfl (lv_at hl 0 rfl) ?_
  refine r_get_9 C w dX4_hasRoom_1 ?_
  refine lv_topi (fun t_1 et_1 => ?_)
  refine lv_iload_n hx hb dX4_hasRoom_4 rfl (lv_at hl 1 rfl) ?_
  refine lv_iadd hx hb dX4_hasRoom_5 ?_
  refine lv_topi (fun t_2 et_2 => ?_)
  refine lv_sipush (v := 2000) hx hb dX4_hasRoom_6 (by decide) ?_
  refine lv_icmp_gt (tgt := 16) hx hb dX4_hasRoom_9 (by decide) (fun c_9 => ?_) (fun c_9 => ?_)
  · refine lv_iconst (v := 0) hx hb dX4_hasRoom_16 (by decide) ?_
    exact W.zret (v := 0) (ty := .boolean) hx hb hr rfl (fun t ht hW => ⟨_, rfl, (by first | exact (if_pos (by rw [← et_1, ← et_2]; assumption)).symm | exact (if_neg (fun h => h (by rw [← et_1, ← et_2]; assumption))).symm), ht⟩) (fun _ h => by cases h) dX4_hasRoom_17
  · refine lv_iconst (v := 1) hx hb dX4_hasRoom_12 (by decide) ?_
    refine lv_goto (tgt := 17) hx hb dX4_hasRoom_13 (by decide) ?_
    exact W.zret (v := 1) (ty := .boolean) hx hb hr rfl (fun t ht hW => ⟨_, rfl, (by first | exact (if_pos (by rw [← et_1, ← et_2]; assumption)).symm | exact (if_neg (fun h => h (by rw [← et_1, ← et_2]; assumption))).symm), ht⟩) (fun _ h => by cases h) dX4_hasRoom_17
set_option maxHeartbeats 4000000 in
set_option maxRecDepth 100000 in
theorem q_isOperation (l : Launch) (D : va_G) (cI cZ cN cO : ClassId) (A : Nat → Prop) (mm : Nat) (d : Nat → Nat) (n : Nat) (σ : RS) (k : Int32) (ok : rOK n σ)  : Met l yX4_isOperation (.code yX4_isOperation cX4_isOperation 2 (some .boolean) :: gw) ({ frames := 0, cells := 0, slots := 0, locals := 0 }) (va_Pc (.ref mm :: [.int k]) (rH D cI cZ cN cO A mm d σ)) (vp_Si (fun r => r = if (¬ k < 1 ∧ ¬ σ.1 37 < k) then 1 else 0)) 0 0 (fun _ => False) := by
  refine Met.ofW (cc := cX4_isOperation) (maxL := 2) (ret := (some .boolean)) (by decide) rfl ?_
  intro p e s m args below meth c s₁ B hml hv
  obtain ⟨rfl, hP, hK, hD⟩ := hv
  have hx := B.exec
  have hb := B.bytes
  have hr := B.returns
  have hts := atoms_spec (ws := (.code yX4_isOperation cX4_isOperation 2 (some .boolean) :: gw)) B.pre
  have hg : ∀ w ∈ gw, w.before _ s = true := fun w h => hts w (List.mem_cons_of_mem _ h)
  have hown : s.vm.findClass RX4 = some m.cls := findClass_of_methodNamed B.named
  have hlocks := B.notSynchronized
  have C : Cx p c cX4_isOperation s m _ RX4 D (gTy cI cZ cN cO) := ⟨hx, hb, hown, hg, hK⟩
  have w : rWd D cI cZ A s.heap mm d σ s.heap [] := ⟨hP, hD, va_S.rf⟩
  have hl := lv_entry ([.ref mm, .int k]) (n := 2) (Nat.le_of_ble_eq_true rfl)
  rw [lg_entry_eq]
  generalize (lg_sl ([.ref mm, .int k]) ++ List.replicate (2 - (lg_sl ([.ref mm, .int k])).length) Slot.unset).toArray = ls at hl ⊢
  have hl : lv_has ls 2 [(0, .ref mm), (1, .int k)] := hl
  refine lv_iload_n hx hb dX4_isOperation_0 rfl (lv_at hl 1 rfl) ?_
  refine lv_iconst (v := 1) hx hb dX4_isOperation_1 (by decide) ?_
  refine lv_icmp_lt (tgt := 17) hx hb dX4_isOperation_2 (by decide) (fun c_2 => ?_) (fun c_2 => ?_)
  · refine lv_iconst (v := 0) hx hb dX4_isOperation_17 (by decide) ?_
    exact W.zret (v := 0) (ty := .boolean) hx hb hr rfl (fun t ht hW => ⟨_, rfl, (by first | exact (if_pos ⟨by assumption, by rw [← et_1]; assumption⟩).symm | exact (if_neg (fun h => h.1 (by assumption))).symm | exact (if_neg (fun h => h.2 (by rw [← et_1]; assumption))).symm), ht⟩) (fun _ h => by cases h) dX4_isOperation_18
  · refine lv_iload_n hx hb dX4_isOperation_5 rfl (lv_at hl 1 rfl) ?_
    refine lv_aload_n hx hb dX4_isOperation_6 rfl (lv_at hl 0 rfl) ?_
    refine r_get_37 C w dX4_isOperation_7 ?_
    refine lv_topi (fun t_1 et_1 => ?_)
    refine lv_icmp_gt (tgt := 17) hx hb dX4_isOperation_10 (by decide) (fun c_10 => ?_) (fun c_10 => ?_)
    · refine lv_iconst (v := 0) hx hb dX4_isOperation_17 (by decide) ?_
      exact W.zret (v := 0) (ty := .boolean) hx hb hr rfl (fun t ht hW => ⟨_, rfl, (by first | exact (if_pos ⟨by assumption, by rw [← et_1]; assumption⟩).symm | exact (if_neg (fun h => h.1 (by assumption))).symm | exact (if_neg (fun h => h.2 (by rw [← et_1]; assumption))).symm), ht⟩) (fun _ h => by cases h) dX4_isOperation_18
    · refine lv_iconst (v := 1) hx hb dX4_isOperation_13 (by decide) ?_
      refine lv_goto (tgt := 18) hx hb dX4_isOperation_14 (by decide) ?_
      exact W.zret (v := 1) (ty := .boolean) hx hb hr rfl (fun t ht hW => ⟨_, rfl, (by first | exact (if_pos ⟨by assumption, by rw [← et_1]; assumption⟩).symm | exact (if_neg (fun h => h.1 (by assumption))).symm | exact (if_neg (fun h => h.2 (by rw [← et_1]; assumption))).symm), ht⟩) (fun _ h => by cases h) dX4_isOperation_18
set_option maxHeartbeats 4000000 in
set_option maxRecDepth 100000 in
theorem q_isQuery (l : Launch) (D : va_G) (cI cZ cN cO : ClassId) (A : Nat → Prop) (mm : Nat) (d : Nat → Nat) (n : Nat) (σ : RS) (k : Int32) (ok : rOK n σ) (hk : vp_in k 512) : Met l yX4_isQuery (.code yX4_isQuery cX4_isQuery 2 (some .boolean) :: gw) ({ frames := 0, cells := 0, slots := 0, locals := 0 }) (va_Pc (.ref mm :: [.int k]) (rH D cI cZ cN cO A mm d σ)) (vp_Si (fun r => r = if ¬ σ.2 27 k.toNatClampNeg < 10 then 1 else 0)) 0 0 (fun _ => False) := by
  refine Met.ofW (cc := cX4_isQuery) (maxL := 2) (ret := (some .boolean)) (by decide) rfl ?_
  intro p e s m args below meth c s₁ B hml hv
  obtain ⟨rfl, hP, hK, hD⟩ := hv
  have hx := B.exec
  have hb := B.bytes
  have hr := B.returns
  have hts := atoms_spec (ws := (.code yX4_isQuery cX4_isQuery 2 (some .boolean) :: gw)) B.pre
  have hg : ∀ w ∈ gw, w.before _ s = true := fun w h => hts w (List.mem_cons_of_mem _ h)
  have hown : s.vm.findClass RX4 = some m.cls := findClass_of_methodNamed B.named
  have hlocks := B.notSynchronized
  have C : Cx p c cX4_isQuery s m _ RX4 D (gTy cI cZ cN cO) := ⟨hx, hb, hown, hg, hK⟩
  have w : rWd D cI cZ A s.heap mm d σ s.heap [] := ⟨hP, hD, va_S.rf⟩
  have hl := lv_entry ([.ref mm, .int k]) (n := 2) (Nat.le_of_ble_eq_true rfl)
  rw [lg_entry_eq]
  generalize (lg_sl ([.ref mm, .int k]) ++ List.replicate (2 - (lg_sl ([.ref mm, .int k])).length) Slot.unset).toArray = ls at hl ⊢
  have hl : lv_has ls 2 [(0, .ref mm), (1, .int k)] := hl
  refine lv_aload_n hx hb dX4_isQuery_0 rfl (lv_at hl 0 rfl) ?_
  refine r_get_27 C w dX4_isQuery_1 ?_
  refine lv_iload_n hx hb dX4_isQuery_4 rfl (lv_at hl 1 rfl) ?_
  refine r_ld_27 C w hk dX4_isQuery_5 ?_
  refine lv_topi (fun t_1 et_1 => ?_)
  refine lv_bipush (v := 10) hx hb dX4_isQuery_6 (by decide) ?_
  refine lv_icmp_lt (tgt := 15) hx hb dX4_isQuery_8 (by decide) (fun c_8 => ?_) (fun c_8 => ?_)
  · refine lv_iconst (v := 0) hx hb dX4_isQuery_15 (by decide) ?_
    exact W.zret (v := 0) (ty := .boolean) hx hb hr rfl (fun t ht hW => ⟨_, rfl, (by first | exact (if_pos (by rw [← et_1]; assumption)).symm | exact (if_neg (fun h => h (by rw [← et_1]; assumption))).symm), ht⟩) (fun _ h => by cases h) dX4_isQuery_16
  · refine lv_iconst (v := 1) hx hb dX4_isQuery_11 (by decide) ?_
    refine lv_goto (tgt := 16) hx hb dX4_isQuery_12 (by decide) ?_
    exact W.zret (v := 1) (ty := .boolean) hx hb hr rfl (fun t ht hW => ⟨_, rfl, (by first | exact (if_pos (by rw [← et_1]; assumption)).symm | exact (if_neg (fun h => h (by rw [← et_1]; assumption))).symm), ht⟩) (fun _ h => by cases h) dX4_isQuery_16
