/-- the row's head and length, and the slot of a place -/
def hdN (σ : CS) : Nat := (σ.1 1 0 7).toNatClampNeg
def lnN (σ : CS) : Nat := (σ.1 1 0 8).toNatClampNeg
def slN (σ : CS) (j : Nat) : Nat := (σ.2.1 1 0 1 ((hdN σ + j) % 2000)).toNatClampNeg
theorem cOK.hdn {n bg : Nat} {σ : CS} (ok : cOK n bg σ) : σ.1 1 0 7 = nI (hdN σ) ∧ hdN σ < 2000 := by
  obtain ⟨j, hj, e⟩ := vp_in_of ok.hd (by decide)
  unfold hdN; rw [e, nI_clamp (by omega)]; exact ⟨rfl, hj⟩
theorem cOK.lnn {n bg : Nat} {σ : CS} (ok : cOK n bg σ) : σ.1 1 0 8 = nI (lnN σ) ∧ lnN σ < 2001 := by
  obtain ⟨j, hj, e⟩ := vp_in_of ok.ln (by decide)
  unfold lnN; rw [e, nI_clamp (by omega)]; exact ⟨rfl, hj⟩
theorem cOK.sln {n bg : Nat} {σ : CS} (ok : cOK n bg σ) (j : Nat) : σ.2.1 1 0 1 ((hdN σ + j) % 2000) = nI (slN σ j) ∧ slN σ j < 2000 := by
  obtain ⟨i, hi, e⟩ := vp_in_of (ok.sl ((hdN σ + j) % 2000)) (by decide)
  unfold slN; rw [e, nI_clamp (by omega)]; exact ⟨rfl, hi⟩
theorem nI_rem (a : Nat) (ha : a < 2 ^ 31) : nI a - nI a / 2000 * 2000 = nI (a % 2000) := by
  apply Int32.toInt_inj.mp
  rw [rem_toInt, nI_toInt ha, nI_toInt (by omega)]
  show Int.tmod (a : Int) 2000 = _
  rw [Int.tmod_eq_emod_of_nonneg (by omega)]; omega
theorem gRem {a : Nat} {x : Int32} (ha : a < 2 ^ 31) (e : x = nI a) : x - x / 2000 * 2000 = nI (a % 2000) := by rw [e]; exact nI_rem a ha
abbrev holds (σ : CS) (i : Int32) : Prop := ¬ i < 0 ∧ i < σ.1 1 0 8
theorem holds_nat {n bg : Nat} {σ : CS} (ok : cOK n bg σ) {i : Int32} (h : holds σ i) : ∃ j : Nat, j < lnN σ ∧ i = nI j := by
  obtain ⟨h1, h2⟩ := h
  obtain ⟨j, hj, rfl⟩ := nI_of h1
  obtain ⟨e, hl⟩ := ok.lnn
  rw [e, nI_ltI hj (by omega)] at h2
  exact ⟨j, h2, rfl⟩
set_option maxHeartbeats 4000000 in
set_option maxRecDepth 100000 in
theorem k_X2_holds (l : Launch) (D : va_G) (cI cZ cN cO : ClassId) (A : Nat → Prop) (E : CE) (n bg : Nat) (σ : CS) (i : Int32) (ok : cOK n bg σ)  : Met l yX2_holds (.code yX2_holds cX2_holds 2 (some .boolean) :: gw) ({ frames := 0, cells := 0, slots := 0, locals := 0 }) (va_Pc (.ref (E.1 2) :: [.int i]) (cH D cI cZ cN cO A E n bg σ)) (vp_Si (fun r => r = if holds σ i then 1 else 0)) 0 0 (fun _ => False) := by
  refine Met.ofW (cc := cX2_holds) (maxL := 2) (ret := (some .boolean)) (by decide) rfl ?_
  intro p e s m args below meth c s₁ B hml hv
  obtain ⟨rfl, hP, hK, hD⟩ := hv
  have hx := B.exec
  have hb := B.bytes
  have hr := B.returns
  have hts := atoms_spec (ws := (.code yX2_holds cX2_holds 2 (some .boolean) :: gw)) B.pre
  have hg : ∀ w ∈ gw, w.before _ s = true := fun w h => hts w (List.mem_cons_of_mem _ h)
  have hown : s.vm.findClass RX2 = some m.cls := findClass_of_methodNamed B.named
  have hlocks := B.notSynchronized
  have C : Cx p c cX2_holds s m _ RX2 D (gTy cI cZ cN cO) := ⟨hx, hb, hown, hg, hK⟩
  have w : cWd D cI cN cO A s.heap E n bg σ s.heap [] := ⟨hP, hD, va_S.rf⟩
  have hl := lv_entry ([.ref ((E.1 2)), .int i]) (n := 2) (Nat.le_of_ble_eq_true rfl)
  rw [lg_entry_eq]
  generalize (lg_sl ([.ref ((E.1 2)), .int i]) ++ List.replicate (2 - (lg_sl ([.ref ((E.1 2)), .int i])).length) Slot.unset).toArray = ls at hl ⊢
  have hl : lv_has ls 2 [(0, .ref ((E.1 2))), (1, .int i)] := hl
  refine lv_iload_n hx hb dX2_holds_0 rfl (lv_at hl 1 rfl) ?_
  refine lv_if_lt (tgt := 16) hx hb dX2_holds_1 (by decide) (fun c_1 => ?_) (fun c_1 => ?_)
  · refine lv_iconst (v := 0) hx hb dX2_holds_16 (by decide) ?_
    exact W.zret (v := 0) (ty := .boolean) hx hb hr rfl (fun t ht hW => ⟨_, rfl, (by rw [if_neg (fun h : holds σ i => h.1 c_1)]), ht⟩) (fun _ h => by cases h) dX2_holds_17
  · refine lv_iload_n hx hb dX2_holds_4 rfl (lv_at hl 1 rfl) ?_
    refine lv_aload_n hx hb dX2_holds_5 rfl (lv_at hl 0 rfl) ?_
    refine c_gX2_8 C w kF_X2_34 dX2_holds_6 ?_
    refine lv_topi (fun t_1 et_1 => ?_)
    refine lv_icmp_ge (tgt := 16) hx hb dX2_holds_9 (by decide) (fun c_9 => ?_) (fun c_9 => ?_)
    · refine lv_iconst (v := 0) hx hb dX2_holds_16 (by decide) ?_
      exact W.zret (v := 0) (ty := .boolean) hx hb hr rfl (fun t ht hW => ⟨_, rfl, (by rw [if_neg (fun h : holds σ i => absurd h.2 (Int32.not_lt.mpr (by rw [← et_1]; exact c_9)))]), ht⟩) (fun _ h => by cases h) dX2_holds_17
    · refine lv_iconst (v := 1) hx hb dX2_holds_12 (by decide) ?_
      refine lv_goto (tgt := 17) hx hb dX2_holds_13 (by decide) ?_
      exact W.zret (v := 1) (ty := .boolean) hx hb hr rfl (fun t ht hW => ⟨_, rfl, (by rw [if_pos (show holds σ i from ⟨c_1, Int32.not_le.mp (by rw [← et_1]; exact c_9)⟩)]), ht⟩) (fun _ h => by cases h) dX2_holds_17
set_option maxHeartbeats 4000000 in
set_option maxRecDepth 100000 in
theorem k_X2_hasRoom (l : Launch) (D : va_G) (cI cZ cN cO : ClassId) (A : Nat → Prop) (E : CE) (n bg : Nat) (σ : CS) (i : Int32) (ok : cOK n bg σ)  : Met l yX2_hasRoom (.code yX2_hasRoom cX2_hasRoom 2 (some .boolean) :: gw) ({ frames := 0, cells := 0, slots := 0, locals := 0 }) (va_Pc (.ref (E.1 2) :: [.int i]) (cH D cI cZ cN cO A E n bg σ)) (vp_Si (fun r => r = if 2000 < σ.1 1 0 8 + i then 0 else 1)) 0 0 (fun _ => False) := by
  refine Met.ofW (cc := cX2_hasRoom) (maxL := 2) (ret := (some .boolean)) (by decide) rfl ?_
  intro p e s m args below meth c s₁ B hml hv
  obtain ⟨rfl, hP, hK, hD⟩ := hv
  have hx := B.exec
  have hb := B.bytes
  have hr := B.returns
  have hts := atoms_spec (ws := (.code yX2_hasRoom cX2_hasRoom 2 (some .boolean) :: gw)) B.pre
  have hg : ∀ w ∈ gw, w.before _ s = true := fun w h => hts w (List.mem_cons_of_mem _ h)
  have hown : s.vm.findClass RX2 = some m.cls := findClass_of_methodNamed B.named
  have hlocks := B.notSynchronized
  have C : Cx p c cX2_hasRoom s m _ RX2 D (gTy cI cZ cN cO) := ⟨hx, hb, hown, hg, hK⟩
  have w : cWd D cI cN cO A s.heap E n bg σ s.heap [] := ⟨hP, hD, va_S.rf⟩
  have hl := lv_entry ([.ref ((E.1 2)), .int i]) (n := 2) (Nat.le_of_ble_eq_true rfl)
  rw [lg_entry_eq]
  generalize (lg_sl ([.ref ((E.1 2)), .int i]) ++ List.replicate (2 - (lg_sl ([.ref ((E.1 2)), .int i])).length) Slot.unset).toArray = ls at hl ⊢
  have hl : lv_has ls 2 [(0, .ref ((E.1 2))), (1, .int i)] := hl
  refine lv_aload_n hx hb dX2_hasRoom_0 rfl (lv_at hl 0 rfl) ?_
  refine c_gX2_8 C w kF_X2_34 dX2_hasRoom_1 ?_
  refine lv_topi (fun t_1 et_1 => ?_)
  refine lv_iload_n hx hb dX2_hasRoom_4 rfl (lv_at hl 1 rfl) ?_
  refine lv_iadd hx hb dX2_hasRoom_5 ?_
  refine lv_topi (fun t_2 et_2 => ?_)
  refine lv_sipush (v := 2000) hx hb dX2_hasRoom_6 (by decide) ?_
  refine lv_icmp_gt (tgt := 16) hx hb dX2_hasRoom_9 (by decide) (fun c_9 => ?_) (fun c_9 => ?_)
  · refine lv_iconst (v := 0) hx hb dX2_hasRoom_16 (by decide) ?_
    exact W.zret (v := 0) (ty := .boolean) hx hb hr rfl (fun t ht hW => ⟨_, rfl, (by rw [if_pos (by rw [← et_1, ← et_2]; exact c_9)]), ht⟩) (fun _ h => by cases h) dX2_hasRoom_17
  · refine lv_iconst (v := 1) hx hb dX2_hasRoom_12 (by decide) ?_
    refine lv_goto (tgt := 17) hx hb dX2_hasRoom_13 (by decide) ?_
    exact W.zret (v := 1) (ty := .boolean) hx hb hr rfl (fun t ht hW => ⟨_, rfl, (by rw [if_neg (by rw [← et_1, ← et_2]; exact c_9)]), ht⟩) (fun _ h => by cases h) dX2_hasRoom_17
set_option maxHeartbeats 4000000 in
set_option maxRecDepth 100000 in
theorem k_X2_slotOf (l : Launch) (D : va_G) (cI cZ cN cO : ClassId) (A : Nat → Prop) (E : CE) (n bg : Nat) (σ : CS) (j : Nat) (ok : cOK n bg σ) (hj : j ≤ 2000) : Met l yX2_slotOf (.code yX2_slotOf cX2_slotOf 2 (some .int) :: gw) ({ frames := 0, cells := 0, slots := 0, locals := 0 }) (va_Pc (.ref (E.1 2) :: [.int (nI j)]) (cH D cI cZ cN cO A E n bg σ)) (vp_Si (fun r => r = nI (slN σ j))) 0 0 (fun _ => False) := by
  refine Met.ofW (cc := cX2_slotOf) (maxL := 2) (ret := (some .int)) (by decide) rfl ?_
  intro p e s m args below meth c s₁ B hml hv
  obtain ⟨rfl, hP, hK, hD⟩ := hv
  have hx := B.exec
  have hb := B.bytes
  have hr := B.returns
  have hts := atoms_spec (ws := (.code yX2_slotOf cX2_slotOf 2 (some .int) :: gw)) B.pre
  have hg : ∀ w ∈ gw, w.before _ s = true := fun w h => hts w (List.mem_cons_of_mem _ h)
  have hown : s.vm.findClass RX2 = some m.cls := findClass_of_methodNamed B.named
  have hlocks := B.notSynchronized
  have C : Cx p c cX2_slotOf s m _ RX2 D (gTy cI cZ cN cO) := ⟨hx, hb, hown, hg, hK⟩
  have w : cWd D cI cN cO A s.heap E n bg σ s.heap [] := ⟨hP, hD, va_S.rf⟩
  have hl := lv_entry ([.ref ((E.1 2)), .int (nI j)]) (n := 2) (Nat.le_of_ble_eq_true rfl)
  rw [lg_entry_eq]
  generalize (lg_sl ([.ref ((E.1 2)), .int (nI j)]) ++ List.replicate (2 - (lg_sl ([.ref ((E.1 2)), .int (nI j)])).length) Slot.unset).toArray = ls at hl ⊢
  have hl : lv_has ls 2 [(0, .ref ((E.1 2))), (1, .int (nI j))] := hl
  refine lv_aload_n hx hb dX2_slotOf_0 rfl (lv_at hl 0 rfl) ?_
  refine c_gX2_1 C w kF_X2_9 dX2_slotOf_1 ?_
  refine lv_aload_n hx hb dX2_slotOf_4 rfl (lv_at hl 0 rfl) ?_
  refine c_gX2_7 C w kF_X2_37 dX2_slotOf_5 ?_
  refine lv_topi (fun t_1 et_1 => ?_)
  refine lv_iload_n hx hb dX2_slotOf_8 rfl (lv_at hl 1 rfl) ?_
  refine lv_iadd hx hb dX2_slotOf_9 ?_
  refine lv_topi (fun t_2 et_2 => ?_)
  refine lv_sipush (v := 2000) hx hb dX2_slotOf_10 (by decide) ?_
  have hrem : t_2 - t_2 / 2000 * 2000 = nI ((hdN σ + j) % 2000) := gRem (a := hdN σ + j) (by have := ok.hdn.2; omega) (by rw [et_2, et_1, ok.hdn.1, nI_add])
  refine lv_irem hx hb dX2_slotOf_13 (by decide) ?_
  rw [hrem]
  refine c_lR1 C w (vp_in_nI (Nat.mod_lt _ (by decide)) (by decide)) dX2_slotOf_14 ?_
  refine lv_topi (fun t_3 et_3 => ?_)
  exact W.iret hx hb hr (fun t ht hW => ⟨_, rfl, (by rw [et_3, nI_clamp (by omega)]; exact (ok.sln j).1), ht⟩) (fun _ h => by cases h) dX2_slotOf_15
