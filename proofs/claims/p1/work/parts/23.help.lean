theorem kW_L_update : Cond.codeWith yL_update cL_update 7 (some .int) [(0, 14, 17, 13), (0, 14, 21, 15)] ∈ gw := gw_of 326 (by decide +kernel) (by decide +kernel)
theorem kW_L_query : Cond.codeWith yL_query cL_query 6 (some .int) [(0, 12, 15, 13), (0, 12, 19, 15)] ∈ gw := gw_of 508 (by decide +kernel) (by decide +kernel)
theorem kW_L_deliver : Cond.codeWith yL_deliver cL_deliver 4 (some .int) [(0, 9, 12, 13)] ∈ gw := gw_of 516 (by decide +kernel) (by decide +kernel)
theorem kW_L_calm : Cond.codeWith yL_calm cL_calm 4 (some .int) [(0, 9, 12, 15)] ∈ gw := gw_of 601 (by decide +kernel) (by decide +kernel)
theorem kW_L_crash : Cond.codeWith yL_crash cL_crash 4 (some .int) [(0, 16, 19, 13)] ∈ gw := gw_of 609 (by decide +kernel) (by decide +kernel)
theorem gw_SW {own : String} {idx : Nat} {y : MethodName} {b : ByteArray} {n : Nat} {r : Option FieldType} {hh : List (Nat × Nat × Nat × Nat)} (h1 : Cond.methodLink own idx y ∈ gw) (h2 : Cond.static y ∈ gw) (h4 : Cond.initialized y.cls ∈ gw) (h : Cond.codeWith y b n r hh ∈ gw) : GoodIn gw (va_wsS own idx y (.codeWith y b n r hh :: gw)) := by
  intro w hw
  rcases List.mem_append.mp hw with q | q
  · simp only [List.mem_cons, List.not_mem_nil, or_false] at q
    rcases q with rfl | rfl | rfl
    · exact gw_good h1
    · exact gw_good h2
    · exact gw_good h4
  · exact gw_good ((List.mem_cons.mp q).elim (fun e => e ▸ h) id)
/-- the array kinds, and long[] -/
abbrev gTyL (cI cZ cN cO cL : ClassId) : List (ClassId × FieldType) := [(cI, .int), (cZ, .boolean), (cN, .object RX0), (cO, .object RX1), (cL, .long)]
set_option maxHeartbeats 4000000 in
set_option maxRecDepth 100000 in
/-- cell(script, 0) -/
theorem c_L_cell (l : Launch) (b L : Nat) (xs : Nat → Int32) (hL : L ≤ 6) : Met l yL_cell (.code yL_cell cL_cell 2 (some .int) :: gw) ({ frames := 0, cells := 0, slots := 0, locals := 0 }) (va_Pc [.ref b, .int 0] (fun U => va_X b L xs U U.heap)) (vp_Si (fun r => r = if L = 0 then 0 else xs 0)) 0 0 (fun _ => False) := by
  refine Met.ofW (cc := cL_cell) (maxL := 2) (ret := (some .int)) (by decide) rfl ?_
  intro p e s m args below meth c s₁ B hml hv
  obtain ⟨rfl, hX⟩ := hv
  have hx := B.exec
  have hb := B.bytes
  have hr := B.returns
  have hts := atoms_spec (ws := (.code yL_cell cL_cell 2 (some .int) :: gw)) B.pre
  have hg : ∀ w ∈ gw, w.before _ s = true := fun w h => hts w (List.mem_cons_of_mem _ h)
  have hown : s.vm.findClass RL = some m.cls := findClass_of_methodNamed B.named
  have hlocks := B.notSynchronized
  have hl := lv_entry ([.ref b, .int 0]) (n := 2) (Nat.le_of_ble_eq_true rfl)
  rw [lg_entry_eq]
  generalize (lg_sl ([.ref b, .int 0]) ++ List.replicate (2 - (lg_sl ([.ref b, .int 0])).length) Slot.unset).toArray = ls at hl ⊢
  have hl : lv_has ls 2 [(0, .ref b), (1, .int 0)] := hl
  have hbl : b < s.heap.size := by obtain ⟨scr, h1, -⟩ := hX; exact (Array.getElem?_eq_some_iff.mp h1).1
  have hS : va_S (fun _ => False) s.heap s.heap [] := va_S.rf
  refine lv_iload_n hx hb dL_cell_0 rfl (lv_at hl 1 rfl) ?_
  refine lv_aload_n hx hb dL_cell_1 rfl (lv_at hl 0 rfl) ?_
  refine va_slen hx hb hX hbl (fun h => h) hS dL_cell_2 ?_
  refine lv_icmp_ge (tgt := 12) hx hb dL_cell_3 (by decide) (fun c_3 => ?_) (fun c_3 => ?_)
  · have h0 : L = 0 := by
      rcases Nat.eq_zero_or_pos L with h | h
      · exact h
      · exact absurd c_3 (nI_nle h (by omega))
    refine lv_iconst (v := 0) hx hb dL_cell_12 (by decide) ?_
    exact W.iret (v := 0) hx hb hr (fun t ht hW => ⟨_, rfl, by rw [if_pos h0], ht⟩) (fun _ h => by cases h) dL_cell_13
  · have h0 : 0 < L := by
      rcases Nat.eq_zero_or_pos L with h | h
      · subst h; exact absurd (by decide +kernel) c_3
      · exact h
    refine lv_aload_n hx hb dL_cell_6 rfl (lv_at hl 0 rfl) ?_
    refine lv_iload_n hx hb dL_cell_7 rfl (lv_at hl 1 rfl) ?_
    refine va_sld hx hb hX hbl (fun h => h) hS (by have h := vp_in_nI (n := 0) (N := L) h0 (by omega); rw [nI_0] at h; exact h) dL_cell_8 ?_
    refine lv_goto (tgt := 13) hx hb dL_cell_9 (by decide) ?_
    exact W.iret (v := xs (0 : Int32).toNatClampNeg) hx hb hr (fun t ht hW => ⟨_, rfl, by rw [if_neg (by omega)]; rfl, ht⟩) (fun _ h => by cases h) dL_cell_13
set_option maxHeartbeats 4000000 in
set_option maxRecDepth 100000 in
theorem h_update_no (l : Launch) (dC : Nat → ClassId) (dI : Nat → Nat → Nat) (cI cZ cN cO : ClassId) (x na ro oa n : Nat) (fn : Nat → Option Nat) (p0 p1 p2 p3 : Int32) (oo sz sa : Nat) (hst : l.stackTraces = false) (hno : ¬ isN n p0) : Met l yL_update (.codeWith yL_update cL_update 7 (some .int) [(0, 14, 17, 13), (0, 14, 21, 15)] :: gw) ({ frames := 7, cells := 1, slots := 6, locals := 106 }) (va_Pc [.ref x, .int p0, .int p1, .int p2, .int p3, .ref oo] (fun U => U.heap.size = sz ∧ va_P (dC, dI) vwCl [(x, .inr (3, [.ref na, .ref ro, .ref oa, .int 0, .int 0, .int 0, .int 0, .int 0, .int 0])), (na, .inl (cN, n, .inr (.inr (.inr (.inr fn)))))] U.heap ∧ va_K (dC, dI) vwCl (gTy cI cZ cN cO) U ∧ vk_R RX3 39 "there is no such node" sa U ∧ gThB "java/lang/IndexOutOfBoundsException" U ∧ gThr (va_A [(x, .inr (3, [.ref na, .ref ro, .ref oa, .int 0, .int 0, .int 0, .int 0, .int 0, .int 0])), (na, .inl (cN, n, .inr (.inr (.inr (.inr fn)))))] sz) U U.heap)) (va_Qi (fun (r : Int32) (_ : Unit) => r = 1) (fun _ _ => True) (va_A [(x, .inr (3, [.ref na, .ref ro, .ref oa, .int 0, .int 0, .int 0, .int 0, .int 0, .int 0])), (na, .inl (cN, n, .inr (.inr (.inr (.inr fn)))))] sz)) 1 6 (va_A [(x, .inr (3, [.ref na, .ref ro, .ref oa, .int 0, .int 0, .int 0, .int 0, .int 0, .int 0])), (na, .inl (cN, n, .inr (.inr (.inr (.inr fn)))))] sz) := by
  refine va_MetW (cc := cL_update) (maxL := 7) (ret := (some .int)) (hh := [(0, 14, 17, 13), (0, 14, 21, 15)]) (by decide) rfl ?_
  intro p e s m args below meth c s₁ B hml hv
  obtain ⟨rfl, hsz, hP, hK, hR, hB, hT⟩ := hv
  have hx := B.exec
  have hb := B.bytes
  have hr := B.returns
  have hts := atoms_spec (ws := (.codeWith yL_update cL_update 7 (some .int) [(0, 14, 17, 13), (0, 14, 21, 15)] :: gw)) B.pre
  have hg : ∀ w ∈ gw, w.before _ s = true := fun w h => hts w (List.mem_cons_of_mem _ h)
  have htab := vx_table (x := yL_update) B (hts _ List.mem_cons_self)
  have hown : s.vm.findClass RL = some m.cls := findClass_of_methodNamed B.named
  have hlocks := B.notSynchronized
  subst hsz
  have hS : va_S (va_A [(x, .inr (3, [.ref na, .ref ro, .ref oa, .int 0, .int 0, .int 0, .int 0, .int 0, .int 0])), (na, .inl (cN, n, .inr (.inr (.inr (.inr fn)))))] s.heap.size) s.heap s.heap [] := va_S.rf
  have hl := lv_entry ([.ref x, .int p0, .int p1, .int p2, .int p3, .ref oo]) (n := 7) (Nat.le_of_ble_eq_true rfl)
  rw [lg_entry_eq]
  generalize (lg_sl ([.ref x, .int p0, .int p1, .int p2, .int p3, .ref oo]) ++ List.replicate (7 - (lg_sl ([.ref x, .int p0, .int p1, .int p2, .int p3, .ref oo])).length) Slot.unset).toArray = ls at hl ⊢
  have hl : lv_has ls 7 [(0, .ref x), (1, .int p0), (2, .int p1), (3, .int p2), (4, .int p3), (5, .ref oo)] := hl
  refine lv_aload hx hb dL_update_0 (lv_at hl 5 rfl) ?_
  refine lv_iconst (v := 0) hx hb dL_update_2 (by decide) ?_
  refine lv_aload_n hx hb dL_update_3 rfl (lv_at hl 0 rfl) ?_
  refine lv_iload_n hx hb dL_update_4 rfl (lv_at hl 1 rfl) ?_
  refine lv_iload_n hx hb dL_update_5 rfl (lv_at hl 2 rfl) ?_
  refine lv_iload_n hx hb dL_update_6 rfl (lv_at hl 3 rfl) ?_
  refine lv_iload hx hb dL_update_7 (lv_at hl 4 rfl) ?_
  refine vx_calli (vx_runV (As := [.int p0, .int p1, .int p2, .int p3]) (rest := [.int 0, .ref oo]) ⟨hx, hb, hml, hown, hg⟩ (x_X3_update_no l dC dI cI cZ cN cO x na ro oa n fn p0 p1 p2 p3 s.heap.size sa hst hno) (cwV 4 hg (gw_V kM_L_7 kI_X3_update kS_X3_update kN_X3 kD_X3_update) rfl rfl rfl (by decide +kernel) ⟨Nat.le_of_ble_eq_true rfl, Nat.le_of_ble_eq_true rfl⟩) ⟨fun a U g mk q => by obtain ⟨q0, q1, qP, qK, qR, qB, qT⟩ := q; exact ⟨q0, q1, qP, va_K.moved (u := U) (U := U.calling g mk a) (Vm.Alike.refl U.vm) qK, vk_R.same rfl qR, gThB.same (u := U) (U := U.calling g mk a) rfl qB, gThr.moved (u := U) (U := U.calling g mk a) (Vm.Alike.refl U.vm) qT⟩, va_recv hK hP (ci := 3) (q0 := 0) rfl rfl, fun U hU hW => ⟨rfl, by rw [hU], by rw [hU]; exact hP, va_K.moved hW.alike hK, vk_R.warm hW hR, gThB.warm hW hB, by rw [hU]; exact gThr.moved hW.alike hT⟩⟩ rfl rfl hl.1 rfl (lv_room (Nat.le_of_ble_eq_true rfl)) dL_update_9 ⟨Nat.le_of_ble_eq_true rfl, Nat.le_of_ble_eq_true rfl⟩) hS (fun q _ h => h) (fun q h => h) (fun q _ h => h) (fun E ce q9 u t H1 locs ht hvm hp hE hz hk hS hce hcv hcl => ?_) (fun r u t H1 locs ht hvm hp hB1 hz hk hS => hp.elim)
  subst hE
  refine vx_catch (own := RL) (name := "java/lang/IndexOutOfBoundsException") hown [] ⟨0, 14, 17, 13⟩ [⟨0, 14, 21, 15⟩] (by rw [htab]; rfl) (fun z hz => by cases hz) (by decide) (by decide) (hg _ kC_L_13) (hB.use _ (by simp [thB])) hce hcv hcl ?_
  refine lv_astore (lv' := [(6, .ref q9), (0, .ref x), (1, .int p0), (2, .int p1), (3, .int p2), (4, .int p3), (5, .ref oo)]) hx hb dL_update_17 hl (by decide) rfl (fun ls hl => ?_)
  refine lv_iconst (v := 1) hx hb dL_update_19 (by decide) ?_
  exact W.iret (v := 1) hx hb hr (fun t ht hW => ⟨⟨_, (), rfl, rfl, trivial⟩, hS.F ht⟩) hS.2.2 dL_update_20
set_option maxHeartbeats 4000000 in
set_option maxRecDepth 100000 in
theorem h_update_bad (l : Launch) (dC : Nat → ClassId) (dI : Nat → Nat → Nat) (cI cZ cN cO : ClassId) (x na ro oa n : Nat) (fn : Nat → Option Nat) (p0 p1 p2 p3 : Int32) (oo sz sa : Nat) (hst : l.stackTraces = false) (hy : isN n p0) (hbad : p1 < 0 ∨ ¬ p1 ≤ 3) : Met l yL_update (.codeWith yL_update cL_update 7 (some .int) [(0, 14, 17, 13), (0, 14, 21, 15)] :: gw) ({ frames := 7, cells := 1, slots := 6, locals := 106 }) (va_Pc [.ref x, .int p0, .int p1, .int p2, .int p3, .ref oo] (fun U => U.heap.size = sz ∧ va_P (dC, dI) vwCl [(x, .inr (3, [.ref na, .ref ro, .ref oa, .int 0, .int 0, .int 0, .int 0, .int 0, .int 0])), (na, .inl (cN, n, .inr (.inr (.inr (.inr fn)))))] U.heap ∧ va_K (dC, dI) vwCl (gTy cI cZ cN cO) U ∧ vk_R RX3 46 "the kind of an update is 0 .. 3" sa U ∧ gThB "java/lang/IllegalArgumentException" U ∧ gThr (va_A [(x, .inr (3, [.ref na, .ref ro, .ref oa, .int 0, .int 0, .int 0, .int 0, .int 0, .int 0])), (na, .inl (cN, n, .inr (.inr (.inr (.inr fn)))))] sz) U U.heap ∧ va_Nc "java/lang/IllegalArgumentException" "java/lang/IndexOutOfBoundsException" U)) (va_Qi (fun (r : Int32) (_ : Unit) => r = 2) (fun _ _ => True) (va_A [(x, .inr (3, [.ref na, .ref ro, .ref oa, .int 0, .int 0, .int 0, .int 0, .int 0, .int 0])), (na, .inl (cN, n, .inr (.inr (.inr (.inr fn)))))] sz)) 1 6 (va_A [(x, .inr (3, [.ref na, .ref ro, .ref oa, .int 0, .int 0, .int 0, .int 0, .int 0, .int 0])), (na, .inl (cN, n, .inr (.inr (.inr (.inr fn)))))] sz) := by
  refine va_MetW (cc := cL_update) (maxL := 7) (ret := (some .int)) (hh := [(0, 14, 17, 13), (0, 14, 21, 15)]) (by decide) rfl ?_
  intro p e s m args below meth c s₁ B hml hv
  obtain ⟨rfl, hsz, hP, hK, hR, hB, hT, hNc⟩ := hv
  have hx := B.exec
  have hb := B.bytes
  have hr := B.returns
  have hts := atoms_spec (ws := (.codeWith yL_update cL_update 7 (some .int) [(0, 14, 17, 13), (0, 14, 21, 15)] :: gw)) B.pre
  have hg : ∀ w ∈ gw, w.before _ s = true := fun w h => hts w (List.mem_cons_of_mem _ h)
  have htab := vx_table (x := yL_update) B (hts _ List.mem_cons_self)
  have hown : s.vm.findClass RL = some m.cls := findClass_of_methodNamed B.named
  have hlocks := B.notSynchronized
  subst hsz
  have hS : va_S (va_A [(x, .inr (3, [.ref na, .ref ro, .ref oa, .int 0, .int 0, .int 0, .int 0, .int 0, .int 0])), (na, .inl (cN, n, .inr (.inr (.inr (.inr fn)))))] s.heap.size) s.heap s.heap [] := va_S.rf
  have hl := lv_entry ([.ref x, .int p0, .int p1, .int p2, .int p3, .ref oo]) (n := 7) (Nat.le_of_ble_eq_true rfl)
  rw [lg_entry_eq]
  generalize (lg_sl ([.ref x, .int p0, .int p1, .int p2, .int p3, .ref oo]) ++ List.replicate (7 - (lg_sl ([.ref x, .int p0, .int p1, .int p2, .int p3, .ref oo])).length) Slot.unset).toArray = ls at hl ⊢
  have hl : lv_has ls 7 [(0, .ref x), (1, .int p0), (2, .int p1), (3, .int p2), (4, .int p3), (5, .ref oo)] := hl
  refine lv_aload hx hb dL_update_0 (lv_at hl 5 rfl) ?_
  refine lv_iconst (v := 0) hx hb dL_update_2 (by decide) ?_
  refine lv_aload_n hx hb dL_update_3 rfl (lv_at hl 0 rfl) ?_
  refine lv_iload_n hx hb dL_update_4 rfl (lv_at hl 1 rfl) ?_
  refine lv_iload_n hx hb dL_update_5 rfl (lv_at hl 2 rfl) ?_
  refine lv_iload_n hx hb dL_update_6 rfl (lv_at hl 3 rfl) ?_
  refine lv_iload hx hb dL_update_7 (lv_at hl 4 rfl) ?_
  refine vx_calli (vx_runV (As := [.int p0, .int p1, .int p2, .int p3]) (rest := [.int 0, .ref oo]) ⟨hx, hb, hml, hown, hg⟩ (x_X3_update_bad l dC dI cI cZ cN cO x na ro oa n fn p0 p1 p2 p3 s.heap.size sa hst hy hbad) (cwV 4 hg (gw_V kM_L_7 kI_X3_update kS_X3_update kN_X3 kD_X3_update) rfl rfl rfl (by decide +kernel) ⟨Nat.le_of_ble_eq_true rfl, Nat.le_of_ble_eq_true rfl⟩) ⟨fun a U g mk q => by obtain ⟨q0, q1, qP, qK, qR, qB, qT⟩ := q; exact ⟨q0, q1, qP, va_K.moved (u := U) (U := U.calling g mk a) (Vm.Alike.refl U.vm) qK, vk_R.same rfl qR, gThB.same (u := U) (U := U.calling g mk a) rfl qB, gThr.moved (u := U) (U := U.calling g mk a) (Vm.Alike.refl U.vm) qT⟩, va_recv hK hP (ci := 3) (q0 := 0) rfl rfl, fun U hU hW => ⟨rfl, by rw [hU], by rw [hU]; exact hP, va_K.moved hW.alike hK, vk_R.warm hW hR, gThB.warm hW hB, by rw [hU]; exact gThr.moved hW.alike hT⟩⟩ rfl rfl hl.1 rfl (lv_room (Nat.le_of_ble_eq_true rfl)) dL_update_9 ⟨Nat.le_of_ble_eq_true rfl, Nat.le_of_ble_eq_true rfl⟩) hS (fun q _ h => h) (fun q h => h) (fun q _ h => h) (fun E ce q9 u t H1 locs ht hvm hp hE hz hk hS hce hcv hcl => ?_) (fun r u t H1 locs ht hvm hp hB1 hz hk hS => hp.elim)
  subst hE
  refine vx_catch (own := RL) (name := "java/lang/IllegalArgumentException") hown [⟨0, 14, 17, 13⟩] ⟨0, 14, 21, 15⟩ [] (by rw [htab]; rfl) (fun z hz => by rw [List.mem_singleton] at hz; subst hz; exact Or.inr ⟨by decide, "java/lang/IndexOutOfBoundsException", hg _ kC_L_13, hNc⟩) (by decide) (by decide) (hg _ kC_L_15) (hB.use _ (by simp [thB])) hce hcv hcl ?_
  refine lv_astore (lv' := [(6, .ref q9), (0, .ref x), (1, .int p0), (2, .int p1), (3, .int p2), (4, .int p3), (5, .ref oo)]) hx hb dL_update_21 hl (by decide) rfl (fun ls hl => ?_)
  refine lv_iconst (v := 2) hx hb dL_update_23 (by decide) ?_
  exact W.iret (v := 2) hx hb hr (fun t ht hW => ⟨⟨_, (), rfl, rfl, trivial⟩, hS.F ht⟩) hS.2.2 dL_update_24
set_option maxHeartbeats 4000000 in
set_option maxRecDepth 100000 in
theorem h_query_no (l : Launch) (dC : Nat → ClassId) (dI : Nat → Nat → Nat) (cI cZ cN cO : ClassId) (x na ro oa n : Nat) (fn : Nat → Option Nat) (p0 p1 p2 : Int32) (oo sz sa : Nat) (hst : l.stackTraces = false) (hno : ¬ isN n p0) : Met l yL_query (.codeWith yL_query cL_query 6 (some .int) [(0, 12, 15, 13), (0, 12, 19, 15)] :: gw) ({ frames := 7, cells := 1, slots := 6, locals := 105 }) (va_Pc [.ref x, .int p0, .int p1, .int p2, .ref oo] (fun U => U.heap.size = sz ∧ va_P (dC, dI) vwCl [(x, .inr (3, [.ref na, .ref ro, .ref oa, .int 0, .int 0, .int 0, .int 0, .int 0, .int 0])), (na, .inl (cN, n, .inr (.inr (.inr (.inr fn)))))] U.heap ∧ va_K (dC, dI) vwCl (gTy cI cZ cN cO) U ∧ vk_R RX3 39 "there is no such node" sa U ∧ gThB "java/lang/IndexOutOfBoundsException" U ∧ gThr (va_A [(x, .inr (3, [.ref na, .ref ro, .ref oa, .int 0, .int 0, .int 0, .int 0, .int 0, .int 0])), (na, .inl (cN, n, .inr (.inr (.inr (.inr fn)))))] sz) U U.heap)) (va_Qi (fun (r : Int32) (_ : Unit) => r = 1) (fun _ _ => True) (va_A [(x, .inr (3, [.ref na, .ref ro, .ref oa, .int 0, .int 0, .int 0, .int 0, .int 0, .int 0])), (na, .inl (cN, n, .inr (.inr (.inr (.inr fn)))))] sz)) 1 6 (va_A [(x, .inr (3, [.ref na, .ref ro, .ref oa, .int 0, .int 0, .int 0, .int 0, .int 0, .int 0])), (na, .inl (cN, n, .inr (.inr (.inr (.inr fn)))))] sz) := by
  refine va_MetW (cc := cL_query) (maxL := 6) (ret := (some .int)) (hh := [(0, 12, 15, 13), (0, 12, 19, 15)]) (by decide) rfl ?_
  intro p e s m args below meth c s₁ B hml hv
  obtain ⟨rfl, hsz, hP, hK, hR, hB, hT⟩ := hv
  have hx := B.exec
  have hb := B.bytes
  have hr := B.returns
  have hts := atoms_spec (ws := (.codeWith yL_query cL_query 6 (some .int) [(0, 12, 15, 13), (0, 12, 19, 15)] :: gw)) B.pre
  have hg : ∀ w ∈ gw, w.before _ s = true := fun w h => hts w (List.mem_cons_of_mem _ h)
  have htab := vx_table (x := yL_query) B (hts _ List.mem_cons_self)
  have hown : s.vm.findClass RL = some m.cls := findClass_of_methodNamed B.named
  have hlocks := B.notSynchronized
  subst hsz
  have hS : va_S (va_A [(x, .inr (3, [.ref na, .ref ro, .ref oa, .int 0, .int 0, .int 0, .int 0, .int 0, .int 0])), (na, .inl (cN, n, .inr (.inr (.inr (.inr fn)))))] s.heap.size) s.heap s.heap [] := va_S.rf
  have hl := lv_entry ([.ref x, .int p0, .int p1, .int p2, .ref oo]) (n := 6) (Nat.le_of_ble_eq_true rfl)
  rw [lg_entry_eq]
  generalize (lg_sl ([.ref x, .int p0, .int p1, .int p2, .ref oo]) ++ List.replicate (6 - (lg_sl ([.ref x, .int p0, .int p1, .int p2, .ref oo])).length) Slot.unset).toArray = ls at hl ⊢
  have hl : lv_has ls 6 [(0, .ref x), (1, .int p0), (2, .int p1), (3, .int p2), (4, .ref oo)] := hl
  refine lv_aload hx hb dL_query_0 (lv_at hl 4 rfl) ?_
  refine lv_iconst (v := 0) hx hb dL_query_2 (by decide) ?_
  refine lv_aload_n hx hb dL_query_3 rfl (lv_at hl 0 rfl) ?_
  refine lv_iload_n hx hb dL_query_4 rfl (lv_at hl 1 rfl) ?_
  refine lv_iload_n hx hb dL_query_5 rfl (lv_at hl 2 rfl) ?_
  refine lv_iload_n hx hb dL_query_6 rfl (lv_at hl 3 rfl) ?_
  refine vx_calli (vx_runV (As := [.int p0, .int p1, .int p2]) (rest := [.int 0, .ref oo]) ⟨hx, hb, hml, hown, hg⟩ (x_X3_query_no l dC dI cI cZ cN cO x na ro oa n fn p0 p1 p2 s.heap.size sa hst hno) (cwV 3 hg (gw_V kM_L_17 kI_X3_query kS_X3_query kN_X3 kD_X3_query) rfl rfl rfl (by decide +kernel) ⟨Nat.le_of_ble_eq_true rfl, Nat.le_of_ble_eq_true rfl⟩) ⟨fun a U g mk q => by obtain ⟨q0, q1, qP, qK, qR, qB, qT⟩ := q; exact ⟨q0, q1, qP, va_K.moved (u := U) (U := U.calling g mk a) (Vm.Alike.refl U.vm) qK, vk_R.same rfl qR, gThB.same (u := U) (U := U.calling g mk a) rfl qB, gThr.moved (u := U) (U := U.calling g mk a) (Vm.Alike.refl U.vm) qT⟩, va_recv hK hP (ci := 3) (q0 := 0) rfl rfl, fun U hU hW => ⟨rfl, by rw [hU], by rw [hU]; exact hP, va_K.moved hW.alike hK, vk_R.warm hW hR, gThB.warm hW hB, by rw [hU]; exact gThr.moved hW.alike hT⟩⟩ rfl rfl hl.1 rfl (lv_room (Nat.le_of_ble_eq_true rfl)) dL_query_7 ⟨Nat.le_of_ble_eq_true rfl, Nat.le_of_ble_eq_true rfl⟩) hS (fun q _ h => h) (fun q h => h) (fun q _ h => h) (fun E ce q9 u t H1 locs ht hvm hp hE hz hk hS hce hcv hcl => ?_) (fun r u t H1 locs ht hvm hp hB1 hz hk hS => hp.elim)
  subst hE
  refine vx_catch (own := RL) (name := "java/lang/IndexOutOfBoundsException") hown [] ⟨0, 12, 15, 13⟩ [⟨0, 12, 19, 15⟩] (by rw [htab]; rfl) (fun z hz => by cases hz) (by decide) (by decide) (hg _ kC_L_13) (hB.use _ (by simp [thB])) hce hcv hcl ?_
  refine lv_astore (lv' := [(5, .ref q9), (0, .ref x), (1, .int p0), (2, .int p1), (3, .int p2), (4, .ref oo)]) hx hb dL_query_15 hl (by decide) rfl (fun ls hl => ?_)
  refine lv_iconst (v := 1) hx hb dL_query_17 (by decide) ?_
  exact W.iret (v := 1) hx hb hr (fun t ht hW => ⟨⟨_, (), rfl, rfl, trivial⟩, hS.F ht⟩) hS.2.2 dL_query_18
set_option maxHeartbeats 4000000 in
set_option maxRecDepth 100000 in
theorem h_query_bad (l : Launch) (dC : Nat → ClassId) (dI : Nat → Nat → Nat) (cI cZ cN cO : ClassId) (x na ro oa n : Nat) (fn : Nat → Option Nat) (p0 p1 p2 : Int32) (oo sz sa : Nat) (hst : l.stackTraces = false) (hy : isN n p0) (hbad : p1 < 10 ∨ ¬ p1 ≤ 15) : Met l yL_query (.codeWith yL_query cL_query 6 (some .int) [(0, 12, 15, 13), (0, 12, 19, 15)] :: gw) ({ frames := 7, cells := 1, slots := 6, locals := 105 }) (va_Pc [.ref x, .int p0, .int p1, .int p2, .ref oo] (fun U => U.heap.size = sz ∧ va_P (dC, dI) vwCl [(x, .inr (3, [.ref na, .ref ro, .ref oa, .int 0, .int 0, .int 0, .int 0, .int 0, .int 0])), (na, .inl (cN, n, .inr (.inr (.inr (.inr fn)))))] U.heap ∧ va_K (dC, dI) vwCl (gTy cI cZ cN cO) U ∧ vk_R RX3 53 "the kind of a query is 10 .. 15" sa U ∧ gThB "java/lang/IllegalArgumentException" U ∧ gThr (va_A [(x, .inr (3, [.ref na, .ref ro, .ref oa, .int 0, .int 0, .int 0, .int 0, .int 0, .int 0])), (na, .inl (cN, n, .inr (.inr (.inr (.inr fn)))))] sz) U U.heap ∧ va_Nc "java/lang/IllegalArgumentException" "java/lang/IndexOutOfBoundsException" U)) (va_Qi (fun (r : Int32) (_ : Unit) => r = 2) (fun _ _ => True) (va_A [(x, .inr (3, [.ref na, .ref ro, .ref oa, .int 0, .int 0, .int 0, .int 0, .int 0, .int 0])), (na, .inl (cN, n, .inr (.inr (.inr (.inr fn)))))] sz)) 1 6 (va_A [(x, .inr (3, [.ref na, .ref ro, .ref oa, .int 0, .int 0, .int 0, .int 0, .int 0, .int 0])), (na, .inl (cN, n, .inr (.inr (.inr (.inr fn)))))] sz) := by
  refine va_MetW (cc := cL_query) (maxL := 6) (ret := (some .int)) (hh := [(0, 12, 15, 13), (0, 12, 19, 15)]) (by decide) rfl ?_
  intro p e s m args below meth c s₁ B hml hv
  obtain ⟨rfl, hsz, hP, hK, hR, hB, hT, hNc⟩ := hv
  have hx := B.exec
  have hb := B.bytes
  have hr := B.returns
  have hts := atoms_spec (ws := (.codeWith yL_query cL_query 6 (some .int) [(0, 12, 15, 13), (0, 12, 19, 15)] :: gw)) B.pre
  have hg : ∀ w ∈ gw, w.before _ s = true := fun w h => hts w (List.mem_cons_of_mem _ h)
  have htab := vx_table (x := yL_query) B (hts _ List.mem_cons_self)
  have hown : s.vm.findClass RL = some m.cls := findClass_of_methodNamed B.named
  have hlocks := B.notSynchronized
  subst hsz
  have hS : va_S (va_A [(x, .inr (3, [.ref na, .ref ro, .ref oa, .int 0, .int 0, .int 0, .int 0, .int 0, .int 0])), (na, .inl (cN, n, .inr (.inr (.inr (.inr fn)))))] s.heap.size) s.heap s.heap [] := va_S.rf
  have hl := lv_entry ([.ref x, .int p0, .int p1, .int p2, .ref oo]) (n := 6) (Nat.le_of_ble_eq_true rfl)
  rw [lg_entry_eq]
  generalize (lg_sl ([.ref x, .int p0, .int p1, .int p2, .ref oo]) ++ List.replicate (6 - (lg_sl ([.ref x, .int p0, .int p1, .int p2, .ref oo])).length) Slot.unset).toArray = ls at hl ⊢
  have hl : lv_has ls 6 [(0, .ref x), (1, .int p0), (2, .int p1), (3, .int p2), (4, .ref oo)] := hl
  refine lv_aload hx hb dL_query_0 (lv_at hl 4 rfl) ?_
  refine lv_iconst (v := 0) hx hb dL_query_2 (by decide) ?_
  refine lv_aload_n hx hb dL_query_3 rfl (lv_at hl 0 rfl) ?_
  refine lv_iload_n hx hb dL_query_4 rfl (lv_at hl 1 rfl) ?_
  refine lv_iload_n hx hb dL_query_5 rfl (lv_at hl 2 rfl) ?_
  refine lv_iload_n hx hb dL_query_6 rfl (lv_at hl 3 rfl) ?_
  refine vx_calli (vx_runV (As := [.int p0, .int p1, .int p2]) (rest := [.int 0, .ref oo]) ⟨hx, hb, hml, hown, hg⟩ (x_X3_query_bad l dC dI cI cZ cN cO x na ro oa n fn p0 p1 p2 s.heap.size sa hst hy hbad) (cwV 3 hg (gw_V kM_L_17 kI_X3_query kS_X3_query kN_X3 kD_X3_query) rfl rfl rfl (by decide +kernel) ⟨Nat.le_of_ble_eq_true rfl, Nat.le_of_ble_eq_true rfl⟩) ⟨fun a U g mk q => by obtain ⟨q0, q1, qP, qK, qR, qB, qT⟩ := q; exact ⟨q0, q1, qP, va_K.moved (u := U) (U := U.calling g mk a) (Vm.Alike.refl U.vm) qK, vk_R.same rfl qR, gThB.same (u := U) (U := U.calling g mk a) rfl qB, gThr.moved (u := U) (U := U.calling g mk a) (Vm.Alike.refl U.vm) qT⟩, va_recv hK hP (ci := 3) (q0 := 0) rfl rfl, fun U hU hW => ⟨rfl, by rw [hU], by rw [hU]; exact hP, va_K.moved hW.alike hK, vk_R.warm hW hR, gThB.warm hW hB, by rw [hU]; exact gThr.moved hW.alike hT⟩⟩ rfl rfl hl.1 rfl (lv_room (Nat.le_of_ble_eq_true rfl)) dL_query_7 ⟨Nat.le_of_ble_eq_true rfl, Nat.le_of_ble_eq_true rfl⟩) hS (fun q _ h => h) (fun q h => h) (fun q _ h => h) (fun E ce q9 u t H1 locs ht hvm hp hE hz hk hS hce hcv hcl => ?_) (fun r u t H1 locs ht hvm hp hB1 hz hk hS => hp.elim)
  subst hE
  refine vx_catch (own := RL) (name := "java/lang/IllegalArgumentException") hown [⟨0, 12, 15, 13⟩] ⟨0, 12, 19, 15⟩ [] (by rw [htab]; rfl) (fun z hz => by rw [List.mem_singleton] at hz; subst hz; exact Or.inr ⟨by decide, "java/lang/IndexOutOfBoundsException", hg _ kC_L_13, hNc⟩) (by decide) (by decide) (hg _ kC_L_15) (hB.use _ (by simp [thB])) hce hcv hcl ?_
  refine lv_astore (lv' := [(5, .ref q9), (0, .ref x), (1, .int p0), (2, .int p1), (3, .int p2), (4, .ref oo)]) hx hb dL_query_19 hl (by decide) rfl (fun ls hl => ?_)
  refine lv_iconst (v := 2) hx hb dL_query_21 (by decide) ?_
  exact W.iret (v := 2) hx hb hr (fun t ht hW => ⟨⟨_, (), rfl, rfl, trivial⟩, hS.F ht⟩) hS.2.2 dL_query_22
set_option maxHeartbeats 4000000 in
set_option maxRecDepth 100000 in
theorem h_deliver (l : Launch) (dC : Nat → ClassId) (dI : Nat → Nat → Nat) (cI cZ cN cO : ClassId) (x na ro oa b1 b2 b3 b4 b5 b6 n : Nat) (p0 : Int32) (oo sz sa : Nat) (hst : l.stackTraces = false)  : Met l yL_deliver (.codeWith yL_deliver cL_deliver 4 (some .int) [(0, 9, 12, 13)] :: gw) ({ frames := 7, cells := 1, slots := 6, locals := 103 }) (va_Pc [.ref x, .int p0, .ref oo] (fun U => U.heap.size = sz ∧ va_P (dC, dI) vwCl [(x, .inr (3, [.ref na, .ref ro, .ref oa, .int 0, .int 0, .int 0, .int 0, .int 0, .int 0])), (ro, .inr (2, [.int (nI n), .ref b1, .ref b2, .ref b3, .ref b4, .ref b5, .ref b6, .int 0, .int 0, .int 0]))] U.heap ∧ va_K (dC, dI) vwCl (gTy cI cZ cN cO) U ∧ vk_R RX3 58 "there is no such message" sa U ∧ gThB "java/lang/IndexOutOfBoundsException" U ∧ gThr (va_A [(x, .inr (3, [.ref na, .ref ro, .ref oa, .int 0, .int 0, .int 0, .int 0, .int 0, .int 0])), (ro, .inr (2, [.int (nI n), .ref b1, .ref b2, .ref b3, .ref b4, .ref b5, .ref b6, .int 0, .int 0, .int 0]))] sz) U U.heap)) (va_Qi (fun (r : Int32) (_ : Unit) => r = 1) (fun _ _ => True) (va_A [(x, .inr (3, [.ref na, .ref ro, .ref oa, .int 0, .int 0, .int 0, .int 0, .int 0, .int 0])), (ro, .inr (2, [.int (nI n), .ref b1, .ref b2, .ref b3, .ref b4, .ref b5, .ref b6, .int 0, .int 0, .int 0]))] sz)) 1 6 (va_A [(x, .inr (3, [.ref na, .ref ro, .ref oa, .int 0, .int 0, .int 0, .int 0, .int 0, .int 0])), (ro, .inr (2, [.int (nI n), .ref b1, .ref b2, .ref b3, .ref b4, .ref b5, .ref b6, .int 0, .int 0, .int 0]))] sz) := by
  refine va_MetW (cc := cL_deliver) (maxL := 4) (ret := (some .int)) (hh := [(0, 9, 12, 13)]) (by decide) rfl ?_
  intro p e s m args below meth c s₁ B hml hv
  obtain ⟨rfl, hsz, hP, hK, hR, hB, hT⟩ := hv
  have hx := B.exec
  have hb := B.bytes
  have hr := B.returns
  have hts := atoms_spec (ws := (.codeWith yL_deliver cL_deliver 4 (some .int) [(0, 9, 12, 13)] :: gw)) B.pre
  have hg : ∀ w ∈ gw, w.before _ s = true := fun w h => hts w (List.mem_cons_of_mem _ h)
  have htab := vx_table (x := yL_deliver) B (hts _ List.mem_cons_self)
  have hown : s.vm.findClass RL = some m.cls := findClass_of_methodNamed B.named
  have hlocks := B.notSynchronized
  subst hsz
  have hS : va_S (va_A [(x, .inr (3, [.ref na, .ref ro, .ref oa, .int 0, .int 0, .int 0, .int 0, .int 0, .int 0])), (ro, .inr (2, [.int (nI n), .ref b1, .ref b2, .ref b3, .ref b4, .ref b5, .ref b6, .int 0, .int 0, .int 0]))] s.heap.size) s.heap s.heap [] := va_S.rf
  have hl := lv_entry ([.ref x, .int p0, .ref oo]) (n := 4) (Nat.le_of_ble_eq_true rfl)
  rw [lg_entry_eq]
  generalize (lg_sl ([.ref x, .int p0, .ref oo]) ++ List.replicate (4 - (lg_sl ([.ref x, .int p0, .ref oo])).length) Slot.unset).toArray = ls at hl ⊢
  have hl : lv_has ls 4 [(0, .ref x), (1, .int p0), (2, .ref oo)] := hl
  refine lv_aload_n hx hb dL_deliver_0 rfl (lv_at hl 2 rfl) ?_
  refine lv_iconst (v := 0) hx hb dL_deliver_1 (by decide) ?_
  refine lv_aload_n hx hb dL_deliver_2 rfl (lv_at hl 0 rfl) ?_
  refine lv_iload_n hx hb dL_deliver_3 rfl (lv_at hl 1 rfl) ?_
  refine vx_calli (vx_runV (As := [.int p0]) (rest := [.int 0, .ref oo]) ⟨hx, hb, hml, hown, hg⟩ (x_X3_deliver l dC dI cI cZ cN cO x na ro oa b1 b2 b3 b4 b5 b6 n p0 s.heap.size sa hst ) (cwV 1 hg (gw_V kM_L_21 kI_X3_deliver kS_X3_deliver kN_X3 kD_X3_deliver) rfl rfl rfl (by decide +kernel) ⟨Nat.le_of_ble_eq_true rfl, Nat.le_of_ble_eq_true rfl⟩) ⟨fun a U g mk q => by obtain ⟨q0, q1, qP, qK, qR, qB, qT⟩ := q; exact ⟨q0, q1, qP, va_K.moved (u := U) (U := U.calling g mk a) (Vm.Alike.refl U.vm) qK, vk_R.same rfl qR, gThB.same (u := U) (U := U.calling g mk a) rfl qB, gThr.moved (u := U) (U := U.calling g mk a) (Vm.Alike.refl U.vm) qT⟩, va_recv hK hP (ci := 3) (q0 := 0) rfl rfl, fun U hU hW => ⟨rfl, by rw [hU], by rw [hU]; exact hP, va_K.moved hW.alike hK, vk_R.warm hW hR, gThB.warm hW hB, by rw [hU]; exact gThr.moved hW.alike hT⟩⟩ rfl rfl hl.1 rfl (lv_room (Nat.le_of_ble_eq_true rfl)) dL_deliver_4 ⟨Nat.le_of_ble_eq_true rfl, Nat.le_of_ble_eq_true rfl⟩) hS (fun q _ h => h) (fun q h => h) (fun q _ h => h) (fun E ce q9 u t H1 locs ht hvm hp hE hz hk hS hce hcv hcl => ?_) (fun r u t H1 locs ht hvm hp hB1 hz hk hS => hp.elim)
  subst hE
  refine vx_catch (own := RL) (name := "java/lang/IndexOutOfBoundsException") hown [] ⟨0, 9, 12, 13⟩ [] (by rw [htab]; rfl) (fun z hz => by cases hz) (by decide) (by decide) (hg _ kC_L_13) (hB.use _ (by simp [thB])) hce hcv hcl ?_
  refine lv_astore_n (lv' := [(3, .ref q9), (0, .ref x), (1, .int p0), (2, .ref oo)]) hx hb dL_deliver_12 rfl hl (by decide) rfl (fun ls hl => ?_)
  refine lv_iconst (v := 1) hx hb dL_deliver_13 (by decide) ?_
  exact W.iret (v := 1) hx hb hr (fun t ht hW => ⟨⟨_, (), rfl, rfl, trivial⟩, hS.F ht⟩) hS.2.2 dL_deliver_14
set_option maxHeartbeats 4000000 in
set_option maxRecDepth 100000 in
theorem h_calm_bad (l : Launch) (dC : Nat → ClassId) (dI : Nat → Nat → Nat) (cI cZ cN cO : ClassId) (x na ro oa b1 b2 b3 b4 b5 b6 n : Nat) (p0 : Int32) (oo sz sa : Nat) (hst : l.stackTraces = false) (hbad : p0 < 0 ∨ ¬ p0 ≤ 2000) : Met l yL_calm (.codeWith yL_calm cL_calm 4 (some .int) [(0, 9, 12, 15)] :: gw) ({ frames := 7, cells := 1, slots := 6, locals := 104 }) (va_Pc [.ref x, .int p0, .ref oo] (fun U => U.heap.size = sz ∧ va_P (dC, dI) vwCl [(x, .inr (3, [.ref na, .ref ro, .ref oa, .int 0, .int 0, .int 0, .int 0, .int 0, .int 0]))] U.heap ∧ va_K (dC, dI) vwCl (gTy cI cZ cN cO) U ∧ vk_R RX3 64 "calm takes 0 .. 2,000 messages" sa U ∧ gThB "java/lang/IllegalArgumentException" U ∧ gThr (va_A [(x, .inr (3, [.ref na, .ref ro, .ref oa, .int 0, .int 0, .int 0, .int 0, .int 0, .int 0]))] sz) U U.heap)) (va_Qi (fun (r : Int32) (_ : Unit) => r = 1) (fun _ _ => True) (va_A [(x, .inr (3, [.ref na, .ref ro, .ref oa, .int 0, .int 0, .int 0, .int 0, .int 0, .int 0]))] sz)) 1 6 (va_A [(x, .inr (3, [.ref na, .ref ro, .ref oa, .int 0, .int 0, .int 0, .int 0, .int 0, .int 0]))] sz) := by
  refine va_MetW (cc := cL_calm) (maxL := 4) (ret := (some .int)) (hh := [(0, 9, 12, 15)]) (by decide) rfl ?_
  intro p e s m args below meth c s₁ B hml hv
  obtain ⟨rfl, hsz, hP, hK, hR, hB, hT⟩ := hv
  have hx := B.exec
  have hb := B.bytes
  have hr := B.returns
  have hts := atoms_spec (ws := (.codeWith yL_calm cL_calm 4 (some .int) [(0, 9, 12, 15)] :: gw)) B.pre
  have hg : ∀ w ∈ gw, w.before _ s = true := fun w h => hts w (List.mem_cons_of_mem _ h)
  have htab := vx_table (x := yL_calm) B (hts _ List.mem_cons_self)
  have hown : s.vm.findClass RL = some m.cls := findClass_of_methodNamed B.named
  have hlocks := B.notSynchronized
  subst hsz
  have hS : va_S (va_A [(x, .inr (3, [.ref na, .ref ro, .ref oa, .int 0, .int 0, .int 0, .int 0, .int 0, .int 0]))] s.heap.size) s.heap s.heap [] := va_S.rf
  have hl := lv_entry ([.ref x, .int p0, .ref oo]) (n := 4) (Nat.le_of_ble_eq_true rfl)
  rw [lg_entry_eq]
  generalize (lg_sl ([.ref x, .int p0, .ref oo]) ++ List.replicate (4 - (lg_sl ([.ref x, .int p0, .ref oo])).length) Slot.unset).toArray = ls at hl ⊢
  have hl : lv_has ls 4 [(0, .ref x), (1, .int p0), (2, .ref oo)] := hl
  refine lv_aload_n hx hb dL_calm_0 rfl (lv_at hl 2 rfl) ?_
  refine lv_iconst (v := 0) hx hb dL_calm_1 (by decide) ?_
  refine lv_aload_n hx hb dL_calm_2 rfl (lv_at hl 0 rfl) ?_
  refine lv_iload_n hx hb dL_calm_3 rfl (lv_at hl 1 rfl) ?_
  refine vx_calli (vx_runV (As := [.int p0]) (rest := [.int 0, .ref oo]) ⟨hx, hb, hml, hown, hg⟩ (x_X3_calm_bad l dC dI cI cZ cN cO x na ro oa b1 b2 b3 b4 b5 b6 n p0 s.heap.size sa hst hbad) (cwV 1 hg (gw_V kM_L_25 kI_X3_calm kS_X3_calm kN_X3 kD_X3_calm) rfl rfl rfl (by decide +kernel) ⟨Nat.le_of_ble_eq_true rfl, Nat.le_of_ble_eq_true rfl⟩) ⟨fun a U g mk q => by obtain ⟨q0, q1, qP, qK, qR, qB, qT⟩ := q; exact ⟨q0, q1, qP, va_K.moved (u := U) (U := U.calling g mk a) (Vm.Alike.refl U.vm) qK, vk_R.same rfl qR, gThB.same (u := U) (U := U.calling g mk a) rfl qB, gThr.moved (u := U) (U := U.calling g mk a) (Vm.Alike.refl U.vm) qT⟩, va_recv hK hP (ci := 3) (q0 := 0) rfl rfl, fun U hU hW => ⟨rfl, by rw [hU], by rw [hU]; exact hP, va_K.moved hW.alike hK, vk_R.warm hW hR, gThB.warm hW hB, by rw [hU]; exact gThr.moved hW.alike hT⟩⟩ rfl rfl hl.1 rfl (lv_room (Nat.le_of_ble_eq_true rfl)) dL_calm_4 ⟨Nat.le_of_ble_eq_true rfl, Nat.le_of_ble_eq_true rfl⟩) hS (fun q _ h => h) (fun q h => h) (fun q _ h => h) (fun E ce q9 u t H1 locs ht hvm hp hE hz hk hS hce hcv hcl => ?_) (fun r u t H1 locs ht hvm hp hB1 hz hk hS => hp.elim)
  subst hE
  refine vx_catch (own := RL) (name := "java/lang/IllegalArgumentException") hown [] ⟨0, 9, 12, 15⟩ [] (by rw [htab]; rfl) (fun z hz => by cases hz) (by decide) (by decide) (hg _ kC_L_15) (hB.use _ (by simp [thB])) hce hcv hcl ?_
  refine lv_astore_n (lv' := [(3, .ref q9), (0, .ref x), (1, .int p0), (2, .ref oo)]) hx hb dL_calm_12 rfl hl (by decide) rfl (fun ls hl => ?_)
  refine lv_iconst (v := 1) hx hb dL_calm_13 (by decide) ?_
  exact W.iret (v := 1) hx hb hr (fun t ht hW => ⟨⟨_, (), rfl, rfl, trivial⟩, hS.F ht⟩) hS.2.2 dL_calm_14
set_option maxHeartbeats 4000000 in
set_option maxRecDepth 100000 in
theorem h_crash_no (l : Launch) (dC : Nat → ClassId) (dI : Nat → Nat → Nat) (cI cZ cN cO : ClassId) (x na ro oa n : Nat) (fn : Nat → Option Nat) (p0 : Int32) (oo sz sa : Nat) (hst : l.stackTraces = false) (hno : ¬ isN n p0) : Met l yL_crash (.codeWith yL_crash cL_crash 4 (some .int) [(0, 16, 19, 13)] :: gw) ({ frames := 7, cells := 1, slots := 6, locals := 104 }) (va_Pc [.ref x, .int p0, .ref oo] (fun U => U.heap.size = sz ∧ va_P (dC, dI) vwCl [(x, .inr (3, [.ref na, .ref ro, .ref oa, .int 0, .int 0, .int 0, .int 0, .int 0, .int 0])), (na, .inl (cN, n, .inr (.inr (.inr (.inr fn)))))] U.heap ∧ va_K (dC, dI) vwCl (gTy cI cZ cN cO) U ∧ vk_R RX3 39 "there is no such node" sa U ∧ gThB "java/lang/IndexOutOfBoundsException" U ∧ gThr (va_A [(x, .inr (3, [.ref na, .ref ro, .ref oa, .int 0, .int 0, .int 0, .int 0, .int 0, .int 0])), (na, .inl (cN, n, .inr (.inr (.inr (.inr fn)))))] sz) U U.heap)) (va_Qi (fun (r : Int32) (_ : Unit) => r = 1) (fun _ _ => True) (va_A [(x, .inr (3, [.ref na, .ref ro, .ref oa, .int 0, .int 0, .int 0, .int 0, .int 0, .int 0])), (na, .inl (cN, n, .inr (.inr (.inr (.inr fn)))))] sz)) 1 6 (va_A [(x, .inr (3, [.ref na, .ref ro, .ref oa, .int 0, .int 0, .int 0, .int 0, .int 0, .int 0])), (na, .inl (cN, n, .inr (.inr (.inr (.inr fn)))))] sz) := by
  refine va_MetW (cc := cL_crash) (maxL := 4) (ret := (some .int)) (hh := [(0, 16, 19, 13)]) (by decide) rfl ?_
  intro p e s m args below meth c s₁ B hml hv
  obtain ⟨rfl, hsz, hP, hK, hR, hB, hT⟩ := hv
  have hx := B.exec
  have hb := B.bytes
  have hr := B.returns
  have hts := atoms_spec (ws := (.codeWith yL_crash cL_crash 4 (some .int) [(0, 16, 19, 13)] :: gw)) B.pre
  have hg : ∀ w ∈ gw, w.before _ s = true := fun w h => hts w (List.mem_cons_of_mem _ h)
  have htab := vx_table (x := yL_crash) B (hts _ List.mem_cons_self)
  have hown : s.vm.findClass RL = some m.cls := findClass_of_methodNamed B.named
  have hlocks := B.notSynchronized
  subst hsz
  have hS : va_S (va_A [(x, .inr (3, [.ref na, .ref ro, .ref oa, .int 0, .int 0, .int 0, .int 0, .int 0, .int 0])), (na, .inl (cN, n, .inr (.inr (.inr (.inr fn)))))] s.heap.size) s.heap s.heap [] := va_S.rf
  have hl := lv_entry ([.ref x, .int p0, .ref oo]) (n := 4) (Nat.le_of_ble_eq_true rfl)
  rw [lg_entry_eq]
  generalize (lg_sl ([.ref x, .int p0, .ref oo]) ++ List.replicate (4 - (lg_sl ([.ref x, .int p0, .ref oo])).length) Slot.unset).toArray = ls at hl ⊢
  have hl : lv_has ls 4 [(0, .ref x), (1, .int p0), (2, .ref oo)] := hl
  refine lv_aload_n hx hb dL_crash_0 rfl (lv_at hl 2 rfl) ?_
  refine lv_iconst (v := 0) hx hb dL_crash_1 (by decide) ?_
  refine lv_aload_n hx hb dL_crash_2 rfl (lv_at hl 0 rfl) ?_
  refine lv_iload_n hx hb dL_crash_3 rfl (lv_at hl 1 rfl) ?_
  refine vx_calli (vx_runV (As := [.int p0]) (rest := [.int 0, .ref oo]) ⟨hx, hb, hml, hown, hg⟩ (x_X3_crash_no l dC dI cI cZ cN cO x na ro oa n fn p0 s.heap.size sa hst hno) (cwV 1 hg (gw_V kM_L_28 kI_X3_crash kS_X3_crash kN_X3 kD_X3_crash) rfl rfl rfl (by decide +kernel) ⟨Nat.le_of_ble_eq_true rfl, Nat.le_of_ble_eq_true rfl⟩) ⟨fun a U g mk q => by obtain ⟨q0, q1, qP, qK, qR, qB, qT⟩ := q; exact ⟨q0, q1, qP, va_K.moved (u := U) (U := U.calling g mk a) (Vm.Alike.refl U.vm) qK, vk_R.same rfl qR, gThB.same (u := U) (U := U.calling g mk a) rfl qB, gThr.moved (u := U) (U := U.calling g mk a) (Vm.Alike.refl U.vm) qT⟩, va_recv hK hP (ci := 3) (q0 := 0) rfl rfl, fun U hU hW => ⟨rfl, by rw [hU], by rw [hU]; exact hP, va_K.moved hW.alike hK, vk_R.warm hW hR, gThB.warm hW hB, by rw [hU]; exact gThr.moved hW.alike hT⟩⟩ rfl rfl hl.1 rfl (lv_room (Nat.le_of_ble_eq_true rfl)) dL_crash_4 ⟨Nat.le_of_ble_eq_true rfl, Nat.le_of_ble_eq_true rfl⟩) hS (fun q _ h => h) (fun q h => h) (fun q _ h => h) (fun E ce q9 u t H1 locs ht hvm hp hE hz hk hS hce hcv hcl => ?_) (fun r u t H1 locs ht hvm hp hB1 hz hk hS => hp.elim)
  subst hE
  refine vx_catch (own := RL) (name := "java/lang/IndexOutOfBoundsException") hown [] ⟨0, 16, 19, 13⟩ [] (by rw [htab]; rfl) (fun z hz => by cases hz) (by decide) (by decide) (hg _ kC_L_13) (hB.use _ (by simp [thB])) hce hcv hcl ?_
  refine lv_astore_n (lv' := [(3, .ref q9), (0, .ref x), (1, .int p0), (2, .ref oo)]) hx hb dL_crash_19 rfl hl (by decide) rfl (fun ls hl => ?_)
  refine lv_iconst (v := 1) hx hb dL_crash_20 (by decide) ?_
  exact W.iret (v := 1) hx hb hr (fun t ht hW => ⟨⟨_, (), rfl, rfl, trivial⟩, hS.F ht⟩) hS.2.2 dL_crash_21
set_option maxHeartbeats 4000000 in
set_option maxRecDepth 100000 in
theorem h_update_ok (l : Launch) (dC : Nat → ClassId) (dI : Nat → Nat → Nat) (cI cZ cN cO : ClassId) (cL : ClassId) (x na ro oa n : Nat) (fn : Nat → Option Nat) (nd a1 a2 a3 a4 a5 b1 b2 b3 b4 b5 b6 : Nat) (ix p0 p1 p2 p3 : Int32) (fs : Nat → Int32) (oo : Nat) (fo : Nat → Int64) (sz : Nat) (hn : n ≤ 31) (hfs : ∀ j, j < 2000 → fs j = nI j) (hy : isN n p0) (hnd : fn p0.toNatClampNeg = some nd) (hok1 : ¬ p1 < 0) (hok2 : p1 ≤ 3) : Met l yL_update (.codeWith yL_update cL_update 7 (some .int) [(0, 14, 17, 13), (0, 14, 21, 15)] :: gw) ({ frames := 5, cells := 2, slots := 12 + n, locals := 122 }) (va_Pc [.ref x, .int p0, .int p1, .int p2, .int p3, .ref oo] (fun U => U.heap.size = sz ∧ va_P (dC, dI) vwCl [(x, .inr (3, [.ref na, .ref ro, .ref oa, .int 0, .int 0, .int 0, .int 0, .int 0, .int 0])), (na, .inl (cN, n, .inr (.inr (.inr (.inr fn))))), (nd, .inr (0, [.int ix, .ref a1, .ref a2, .ref a3, .ref a4, .ref a5, .int 1, .int 0, .int 0, .int 0, .null])), (a2, .inl (cI, n, .inl ((fun _ => 0)))), (a4, .inl (cI, n, .inl ((fun _ => 0)))), (ro, .inr (2, [.int (nI n), .ref b1, .ref b2, .ref b3, .ref b4, .ref b5, .ref b6, .int 0, .int 0, .int 0])), (b1, .inl (cI, 2000, .inl fs)), (b2, .inl (cI, 2000, .inl ((fun _ => 0)))), (b3, .inl (cI, 2000, .inl ((fun _ => 0)))), (b4, .inl (cI, 2000, .inl ((fun _ => 0)))), (b5, .inl (cI, 2000, .inl ((fun _ => 0)))), (oa, .inl (cO, 512, .inr (.inr (.inr (.inr ((fun _ => none))))))), (oo, .inl (cL, 1, .inr (.inl fo)))] U.heap ∧ va_K (dC, dI) vwCl (gTyL cI cZ cN cO cL) U ∧ va_D (fun _ => True) [(x, .inr (3, [.ref na, .ref ro, .ref oa, .int 0, .int 0, .int 0, .int 0, .int 0, .int 0])), (na, .inl (cN, n, .inr (.inr (.inr (.inr fn))))), (nd, .inr (0, [.int ix, .ref a1, .ref a2, .ref a3, .ref a4, .ref a5, .int 1, .int 0, .int 0, .int 0, .null])), (a2, .inl (cI, n, .inl ((fun _ => 0)))), (a4, .inl (cI, n, .inl ((fun _ => 0)))), (ro, .inr (2, [.int (nI n), .ref b1, .ref b2, .ref b3, .ref b4, .ref b5, .ref b6, .int 0, .int 0, .int 0])), (b1, .inl (cI, 2000, .inl fs)), (b2, .inl (cI, 2000, .inl ((fun _ => 0)))), (b3, .inl (cI, 2000, .inl ((fun _ => 0)))), (b4, .inl (cI, 2000, .inl ((fun _ => 0)))), (b5, .inl (cI, 2000, .inl ((fun _ => 0)))), (oa, .inl (cO, 512, .inr (.inr (.inr (.inr ((fun _ => none))))))), (oo, .inl (cL, 1, .inr (.inl fo)))])) (va_Qi (fun (r : Int32) (_ : Unit) => r = 0) (fun (_ : Unit) (t : State) => ∃ g : Nat → Int64, g 0 = 1 ∧ va_P (dC, dI) vwCl [(oo, .inl (cL, 1, .inr (.inl g)))] t.heap ∧ va_K (dC, dI) vwCl (gTyL cI cZ cN cO cL) t ∧ va_D (va_A [(x, .inr (3, [.ref na, .ref ro, .ref oa, .int 0, .int 0, .int 0, .int 0, .int 0, .int 0])), (na, .inl (cN, n, .inr (.inr (.inr (.inr fn))))), (nd, .inr (0, [.int ix, .ref a1, .ref a2, .ref a3, .ref a4, .ref a5, .int 1, .int 0, .int 0, .int 0, .null])), (a2, .inl (cI, n, .inl ((fun _ => 0)))), (a4, .inl (cI, n, .inl ((fun _ => 0)))), (ro, .inr (2, [.int (nI n), .ref b1, .ref b2, .ref b3, .ref b4, .ref b5, .ref b6, .int 0, .int 0, .int 0])), (b1, .inl (cI, 2000, .inl fs)), (b2, .inl (cI, 2000, .inl ((fun _ => 0)))), (b3, .inl (cI, 2000, .inl ((fun _ => 0)))), (b4, .inl (cI, 2000, .inl ((fun _ => 0)))), (b5, .inl (cI, 2000, .inl ((fun _ => 0)))), (oa, .inl (cO, 512, .inr (.inr (.inr (.inr ((fun _ => none))))))), (oo, .inl (cL, 1, .inr (.inl fo)))] sz) [(oo, .inl (cL, 1, .inr (.inl g)))]) (va_A [(x, .inr (3, [.ref na, .ref ro, .ref oa, .int 0, .int 0, .int 0, .int 0, .int 0, .int 0])), (na, .inl (cN, n, .inr (.inr (.inr (.inr fn))))), (nd, .inr (0, [.int ix, .ref a1, .ref a2, .ref a3, .ref a4, .ref a5, .int 1, .int 0, .int 0, .int 0, .null])), (a2, .inl (cI, n, .inl ((fun _ => 0)))), (a4, .inl (cI, n, .inl ((fun _ => 0)))), (ro, .inr (2, [.int (nI n), .ref b1, .ref b2, .ref b3, .ref b4, .ref b5, .ref b6, .int 0, .int 0, .int 0])), (b1, .inl (cI, 2000, .inl fs)), (b2, .inl (cI, 2000, .inl ((fun _ => 0)))), (b3, .inl (cI, 2000, .inl ((fun _ => 0)))), (b4, .inl (cI, 2000, .inl ((fun _ => 0)))), (b5, .inl (cI, 2000, .inl ((fun _ => 0)))), (oa, .inl (cO, 512, .inr (.inr (.inr (.inr ((fun _ => none))))))), (oo, .inl (cL, 1, .inr (.inl fo)))] sz)) (2) (12 + n) (va_A [(x, .inr (3, [.ref na, .ref ro, .ref oa, .int 0, .int 0, .int 0, .int 0, .int 0, .int 0])), (na, .inl (cN, n, .inr (.inr (.inr (.inr fn))))), (nd, .inr (0, [.int ix, .ref a1, .ref a2, .ref a3, .ref a4, .ref a5, .int 1, .int 0, .int 0, .int 0, .null])), (a2, .inl (cI, n, .inl ((fun _ => 0)))), (a4, .inl (cI, n, .inl ((fun _ => 0)))), (ro, .inr (2, [.int (nI n), .ref b1, .ref b2, .ref b3, .ref b4, .ref b5, .ref b6, .int 0, .int 0, .int 0])), (b1, .inl (cI, 2000, .inl fs)), (b2, .inl (cI, 2000, .inl ((fun _ => 0)))), (b3, .inl (cI, 2000, .inl ((fun _ => 0)))), (b4, .inl (cI, 2000, .inl ((fun _ => 0)))), (b5, .inl (cI, 2000, .inl ((fun _ => 0)))), (oa, .inl (cO, 512, .inr (.inr (.inr (.inr ((fun _ => none))))))), (oo, .inl (cL, 1, .inr (.inl fo)))] sz) := by
  refine va_MetW (cc := cL_update) (maxL := 7) (ret := (some .int)) (hh := [(0, 14, 17, 13), (0, 14, 21, 15)]) (by decide) rfl ?_
  intro p e s m args below meth c s₁ B hml hv
  obtain ⟨rfl, hsz, hP, hK, hD0⟩ := hv
  have hx := B.exec
  have hb := B.bytes
  have hr := B.returns
  have hts := atoms_spec (ws := (.codeWith yL_update cL_update 7 (some .int) [(0, 14, 17, 13), (0, 14, 21, 15)] :: gw)) B.pre
  have hg : ∀ w ∈ gw, w.before _ s = true := fun w h => hts w (List.mem_cons_of_mem _ h)
  have hown : s.vm.findClass RL = some m.cls := findClass_of_methodNamed B.named
  have hlocks := B.notSynchronized
  subst hsz
  have hD := hD0.self (sz := s.heap.size)
  generalize hAe : va_A [(x, .inr (3, [.ref na, .ref ro, .ref oa, .int 0, .int 0, .int 0, .int 0, .int 0, .int 0])), (na, .inl (cN, n, .inr (.inr (.inr (.inr fn))))), (nd, .inr (0, [.int ix, .ref a1, .ref a2, .ref a3, .ref a4, .ref a5, .int 1, .int 0, .int 0, .int 0, .null])), (a2, .inl (cI, n, .inl ((fun _ => 0)))), (a4, .inl (cI, n, .inl ((fun _ => 0)))), (ro, .inr (2, [.int (nI n), .ref b1, .ref b2, .ref b3, .ref b4, .ref b5, .ref b6, .int 0, .int 0, .int 0])), (b1, .inl (cI, 2000, .inl fs)), (b2, .inl (cI, 2000, .inl ((fun _ => 0)))), (b3, .inl (cI, 2000, .inl ((fun _ => 0)))), (b4, .inl (cI, 2000, .inl ((fun _ => 0)))), (b5, .inl (cI, 2000, .inl ((fun _ => 0)))), (oa, .inl (cO, 512, .inr (.inr (.inr (.inr ((fun _ => none))))))), (oo, .inl (cL, 1, .inr (.inl fo)))] s.heap.size = A at hD ⊢
  have hA : ∀ q : Nat, s.heap.size ≤ q → A q := fun q h => by rw [← hAe]; exact Or.inr h
  have hS : va_S A s.heap s.heap [] := va_S.rf
  obtain ⟨H, eH⟩ : ∃ z, z = s.heap := ⟨_, rfl⟩
  obtain ⟨locs, elocs⟩ : ∃ z : List Loc, z = [] := ⟨_, rfl⟩
  have hP : va_P (dC, dI) vwCl [(x, .inr (3, [.ref na, .ref ro, .ref oa, .int 0, .int 0, .int 0, .int 0, .int 0, .int 0])), (na, .inl (cN, n, .inr (.inr (.inr (.inr fn))))), (nd, .inr (0, [.int ix, .ref a1, .ref a2, .ref a3, .ref a4, .ref a5, .int 1, .int 0, .int 0, .int 0, .null])), (a2, .inl (cI, n, .inl ((fun _ => 0)))), (a4, .inl (cI, n, .inl ((fun _ => 0)))), (ro, .inr (2, [.int (nI n), .ref b1, .ref b2, .ref b3, .ref b4, .ref b5, .ref b6, .int 0, .int 0, .int 0])), (b1, .inl (cI, 2000, .inl fs)), (b2, .inl (cI, 2000, .inl ((fun _ => 0)))), (b3, .inl (cI, 2000, .inl ((fun _ => 0)))), (b4, .inl (cI, 2000, .inl ((fun _ => 0)))), (b5, .inl (cI, 2000, .inl ((fun _ => 0)))), (oa, .inl (cO, 512, .inr (.inr (.inr (.inr ((fun _ => none))))))), (oo, .inl (cL, 1, .inr (.inl fo)))] H := by rw [eH]; exact hP
  have hS : va_S A s.heap H locs := by rw [eH, elocs]; exact hS
  have hl := lv_entry ([.ref x, .int p0, .int p1, .int p2, .int p3, .ref oo]) (n := 7) (Nat.le_of_ble_eq_true rfl)
  rw [lg_entry_eq]
  generalize (lg_sl ([.ref x, .int p0, .int p1, .int p2, .int p3, .ref oo]) ++ List.replicate (7 - (lg_sl ([.ref x, .int p0, .int p1, .int p2, .int p3, .ref oo])).length) Slot.unset).toArray = ls at hl ⊢
  have hl : lv_has ls 7 [(0, .ref x), (1, .int p0), (2, .int p1), (3, .int p2), (4, .int p3), (5, .ref oo)] := hl
  rw [← elocs]
  suffices hgoal : ∀ HH, H = HH → W p l e (headSpec (.codeWith yL_update cL_update 7 (some .int) [(0, 14, 17, 13), (0, 14, 21, 15)] :: gw) ({ frames := 5, cells := 2, slots := 12 + n, locals := 122 })).room s m _ below meth c HH locs 0 0 _ (F0 m 0 ls []) from hgoal _ eH
  rintro _ rfl
  refine lv_aload hx hb dL_update_0 (lv_at hl 5 rfl) ?_
  refine lv_iconst (v := 0) hx hb dL_update_2 (by decide) ?_
  refine lv_aload_n hx hb dL_update_3 rfl (lv_at hl 0 rfl) ?_
  refine lv_iload_n hx hb dL_update_4 rfl (lv_at hl 1 rfl) ?_
  refine lv_iload_n hx hb dL_update_5 rfl (lv_at hl 2 rfl) ?_
  refine lv_iload_n hx hb dL_update_6 rfl (lv_at hl 3 rfl) ?_
  refine lv_iload hx hb dL_update_7 (lv_at hl 4 rfl) ?_
  have hPc := hP.sub (ws' := [(x, .inr (3, [.ref na, .ref ro, .ref oa, .int 0, .int 0, .int 0, .int 0, .int 0, .int 0])), (na, .inl (cN, n, .inr (.inr (.inr (.inr fn))))), (nd, .inr (0, [.int ix, .ref a1, .ref a2, .ref a3, .ref a4, .ref a5, .int 1, .int 0, .int 0, .int 0, .null])), (a2, .inl (cI, n, .inl ((fun _ => 0)))), (a4, .inl (cI, n, .inl ((fun _ => 0)))), (ro, .inr (2, [.int (nI n), .ref b1, .ref b2, .ref b3, .ref b4, .ref b5, .ref b6, .int 0, .int 0, .int 0])), (b1, .inl (cI, 2000, .inl fs)), (b2, .inl (cI, 2000, .inl ((fun _ => 0)))), (b3, .inl (cI, 2000, .inl ((fun _ => 0)))), (b4, .inl (cI, 2000, .inl ((fun _ => 0)))), (b5, .inl (cI, 2000, .inl ((fun _ => 0)))), (oa, .inl (cO, 512, .inr (.inr (.inr (.inr ((fun _ => none)))))))]) [0, 1, 2, 3, 4, 5, 6, 7, 8, 9, 10, 11] rfl
  have hDc := hD.sub (ws' := [(x, .inr (3, [.ref na, .ref ro, .ref oa, .int 0, .int 0, .int 0, .int 0, .int 0, .int 0])), (na, .inl (cN, n, .inr (.inr (.inr (.inr fn))))), (nd, .inr (0, [.int ix, .ref a1, .ref a2, .ref a3, .ref a4, .ref a5, .int 1, .int 0, .int 0, .int 0, .null])), (a2, .inl (cI, n, .inl ((fun _ => 0)))), (a4, .inl (cI, n, .inl ((fun _ => 0)))), (ro, .inr (2, [.int (nI n), .ref b1, .ref b2, .ref b3, .ref b4, .ref b5, .ref b6, .int 0, .int 0, .int 0])), (b1, .inl (cI, 2000, .inl fs)), (b2, .inl (cI, 2000, .inl ((fun _ => 0)))), (b3, .inl (cI, 2000, .inl ((fun _ => 0)))), (b4, .inl (cI, 2000, .inl ((fun _ => 0)))), (b5, .inl (cI, 2000, .inl ((fun _ => 0)))), (oa, .inl (cO, 512, .inr (.inr (.inr (.inr ((fun _ => none)))))))]) [0, 1, 2, 3, 4, 5, 6, 7, 8, 9, 10, 11] (by decide) rfl
  have hFc := va_free (wc := [(x, .inr (3, [.ref na, .ref ro, .ref oa, .int 0, .int 0, .int 0, .int 0, .int 0, .int 0])), (na, .inl (cN, n, .inr (.inr (.inr (.inr fn))))), (nd, .inr (0, [.int ix, .ref a1, .ref a2, .ref a3, .ref a4, .ref a5, .int 1, .int 0, .int 0, .int 0, .null])), (a2, .inl (cI, n, .inl ((fun _ => 0)))), (a4, .inl (cI, n, .inl ((fun _ => 0)))), (ro, .inr (2, [.int (nI n), .ref b1, .ref b2, .ref b3, .ref b4, .ref b5, .ref b6, .int 0, .int 0, .int 0])), (b1, .inl (cI, 2000, .inl fs)), (b2, .inl (cI, 2000, .inl ((fun _ => 0)))), (b3, .inl (cI, 2000, .inl ((fun _ => 0)))), (b4, .inl (cI, 2000, .inl ((fun _ => 0)))), (b5, .inl (cI, 2000, .inl ((fun _ => 0)))), (oa, .inl (cO, 512, .inr (.inr (.inr (.inr ((fun _ => none)))))))]) hD hS hA [0, 1, 2, 3, 4, 5, 6, 7, 8, 9, 10, 11] rfl
  refine va_calli (va_runV (As := [.int p0, .int p1, .int p2, .int p3]) (rest := [.int 0, .ref oo]) ⟨hx, hb, hml, hown, hg⟩ (c_X3_update_ok l dC dI cI cZ cN cO x na ro oa n fn nd a1 a2 a3 a4 a5 b1 b2 b3 b4 b5 b6 ix p0 p1 p2 p3 fs H.size hn hfs hy hnd hok1 hok2) (cwV 4 hg (gw_V kM_L_7 kI_X3_update kS_X3_update kN_X3 kD_X3_update) rfl rfl rfl (by decide +kernel) ⟨Nat.le_of_ble_eq_true rfl, Nat.le_of_ble_eq_true rfl⟩) ⟨fun a U g mk q => by obtain ⟨q0, q1, qP, qK, qD⟩ := q; exact ⟨q0, q1, qP, va_K.moved (u := U) (U := U.calling g mk a) (Vm.Alike.refl U.vm) qK, qD⟩, va_recv hK hP (ci := 3) (q0 := 0) rfl rfl, fun U hU hW => ⟨rfl, by rw [hU], by rw [hU]; exact hPc, va_K.moved hW.alike (hK.sub (tys' := gTy cI cZ cN cO) [0, 1, 2, 3] rfl), hDc.weaken (fun _ _ _ _ => trivial)⟩⟩ rfl rfl hl.1 rfl (lv_room (Nat.le_of_ble_eq_true rfl)) dL_update_9 ⟨(by show 0 + 2 ≤ 2; omega), (by show 0 + (12 + n) ≤ 12 + n; omega)⟩) hS (fun q _ h => hFc q h) hFc (fun r_1 u t H1 locs ht hvm hwr_1 hB hz1 hk1 hS => ?_)
  obtain ⟨hP1, hK1, hD1⟩ := hB
  rw [ht] at hP1
  obtain ⟨hP, hD⟩ := va_join (wr := [(oo, .inl (cL, 1, .inr (.inl fo)))]) (w1 := []) hP hD [0, 1, 2, 3, 4, 5, 6, 7, 8, 9, 10, 11] [12] rfl rfl (by decide) (by decide) hk1 hFc hP1 hD1
  clear hPc hDc hFc hP1 hK1 hD1 hz1 hk1 ht
  generalize H1 = H at hP hS ⊢
  have hP : va_P (dC, dI) vwCl [(oo, .inl (cL, 1, .inr (.inl fo)))] H := hP
  have hD : va_D A [(oo, .inl (cL, 1, .inr (.inl fo)))] := hD
  refine lv_i2l (v := r_1.toInt64) hx hb dL_update_12 rfl ?_
  refine va_last hx hb hK hP hD hS 0 4 rfl rfl (by unfold vp_in; decide +kernel) dL_update_13 (fun H locs hP hD hS => ?_)
  have hP : va_P (dC, dI) vwCl [(oo, .inl (cL, 1, .inr (.inl (vp_updL fo (0 : Int32).toNatClampNeg r_1.toInt64))))] H := hP
  have hD : va_D A [(oo, .inl (cL, 1, .inr (.inl (vp_updL fo (0 : Int32).toNatClampNeg r_1.toInt64))))] := hD
  obtain ⟨g_3, eg_3⟩ : ∃ y : Nat → Int64, y = vp_updL fo (0 : Int32).toNatClampNeg r_1.toInt64 := ⟨_, rfl⟩
  rw [← eg_3] at hP hD
  have hP : va_P (dC, dI) vwCl [(oo, .inl (cL, 1, .inr (.inl g_3)))] H := hP
  have hD : va_D A [(oo, .inl (cL, 1, .inr (.inl g_3)))] := hD
  refine lv_goto (tgt := 25) hx hb dL_update_14 (by decide) ?_
  refine lv_iconst (v := 0) hx hb dL_update_25 (by decide) ?_
  have hP9 := hP.sub (ws' := [(oo, .inl (cL, 1, .inr (.inl g_3)))]) [0] rfl
  have hD9 := hD.sub (ws' := [(oo, .inl (cL, 1, .inr (.inl g_3)))]) [0] (by decide) rfl
  refine W.widen (k := 2) (n := 12 + n) (by omega) (by omega) ?_
  exact W.iret (v := 0) hx hb hr (fun t ht hW => ⟨⟨_, (), rfl, rfl, g_3, (by rw [eg_3]; simp [vp_updL]; rw [hwr_1]; decide +kernel), by rw [ht]; exact hP9, va_K.moved hW.alike hK, hD9⟩, hS.F ht⟩) hS.2.2 dL_update_26
set_option maxHeartbeats 4000000 in
set_option maxRecDepth 100000 in
theorem h_query_ok (l : Launch) (dC : Nat → ClassId) (dI : Nat → Nat → Nat) (cI cZ cN cO : ClassId) (cL : ClassId) (x na ro oa n : Nat) (fn : Nat → Option Nat) (nd a1 a2 a3 a4 a5 b1 b2 b3 b4 b5 b6 : Nat) (ix p0 p1 p2 : Int32) (fs : Nat → Int32) (oo : Nat) (fo : Nat → Int64) (sz : Nat) (hn : n ≤ 31) (hfs : ∀ j, j < 2000 → fs j = nI j) (hy : isN n p0) (hnd : fn p0.toNatClampNeg = some nd) (hok1 : ¬ p1 < 10) (hok2 : p1 ≤ 15) : Met l yL_query (.codeWith yL_query cL_query 6 (some .int) [(0, 12, 15, 13), (0, 12, 19, 15)] :: gw) ({ frames := 5, cells := 2, slots := 12 + n, locals := 121 }) (va_Pc [.ref x, .int p0, .int p1, .int p2, .ref oo] (fun U => U.heap.size = sz ∧ va_P (dC, dI) vwCl [(x, .inr (3, [.ref na, .ref ro, .ref oa, .int 0, .int 0, .int 0, .int 0, .int 0, .int 0])), (na, .inl (cN, n, .inr (.inr (.inr (.inr fn))))), (nd, .inr (0, [.int ix, .ref a1, .ref a2, .ref a3, .ref a4, .ref a5, .int 1, .int 0, .int 0, .int 0, .null])), (a2, .inl (cI, n, .inl ((fun _ => 0)))), (a4, .inl (cI, n, .inl ((fun _ => 0)))), (ro, .inr (2, [.int (nI n), .ref b1, .ref b2, .ref b3, .ref b4, .ref b5, .ref b6, .int 0, .int 0, .int 0])), (b1, .inl (cI, 2000, .inl fs)), (b2, .inl (cI, 2000, .inl ((fun _ => 0)))), (b3, .inl (cI, 2000, .inl ((fun _ => 0)))), (b4, .inl (cI, 2000, .inl ((fun _ => 0)))), (b5, .inl (cI, 2000, .inl ((fun _ => 0)))), (oa, .inl (cO, 512, .inr (.inr (.inr (.inr ((fun _ => none))))))), (oo, .inl (cL, 1, .inr (.inl fo)))] U.heap ∧ va_K (dC, dI) vwCl (gTyL cI cZ cN cO cL) U ∧ va_D (fun _ => True) [(x, .inr (3, [.ref na, .ref ro, .ref oa, .int 0, .int 0, .int 0, .int 0, .int 0, .int 0])), (na, .inl (cN, n, .inr (.inr (.inr (.inr fn))))), (nd, .inr (0, [.int ix, .ref a1, .ref a2, .ref a3, .ref a4, .ref a5, .int 1, .int 0, .int 0, .int 0, .null])), (a2, .inl (cI, n, .inl ((fun _ => 0)))), (a4, .inl (cI, n, .inl ((fun _ => 0)))), (ro, .inr (2, [.int (nI n), .ref b1, .ref b2, .ref b3, .ref b4, .ref b5, .ref b6, .int 0, .int 0, .int 0])), (b1, .inl (cI, 2000, .inl fs)), (b2, .inl (cI, 2000, .inl ((fun _ => 0)))), (b3, .inl (cI, 2000, .inl ((fun _ => 0)))), (b4, .inl (cI, 2000, .inl ((fun _ => 0)))), (b5, .inl (cI, 2000, .inl ((fun _ => 0)))), (oa, .inl (cO, 512, .inr (.inr (.inr (.inr ((fun _ => none))))))), (oo, .inl (cL, 1, .inr (.inl fo)))])) (va_Qi (fun (r : Int32) (_ : Unit) => r = 0) (fun (_ : Unit) (t : State) => ∃ g : Nat → Int64, g 0 = 1 ∧ va_P (dC, dI) vwCl [(oo, .inl (cL, 1, .inr (.inl g)))] t.heap ∧ va_K (dC, dI) vwCl (gTyL cI cZ cN cO cL) t ∧ va_D (va_A [(x, .inr (3, [.ref na, .ref ro, .ref oa, .int 0, .int 0, .int 0, .int 0, .int 0, .int 0])), (na, .inl (cN, n, .inr (.inr (.inr (.inr fn))))), (nd, .inr (0, [.int ix, .ref a1, .ref a2, .ref a3, .ref a4, .ref a5, .int 1, .int 0, .int 0, .int 0, .null])), (a2, .inl (cI, n, .inl ((fun _ => 0)))), (a4, .inl (cI, n, .inl ((fun _ => 0)))), (ro, .inr (2, [.int (nI n), .ref b1, .ref b2, .ref b3, .ref b4, .ref b5, .ref b6, .int 0, .int 0, .int 0])), (b1, .inl (cI, 2000, .inl fs)), (b2, .inl (cI, 2000, .inl ((fun _ => 0)))), (b3, .inl (cI, 2000, .inl ((fun _ => 0)))), (b4, .inl (cI, 2000, .inl ((fun _ => 0)))), (b5, .inl (cI, 2000, .inl ((fun _ => 0)))), (oa, .inl (cO, 512, .inr (.inr (.inr (.inr ((fun _ => none))))))), (oo, .inl (cL, 1, .inr (.inl fo)))] sz) [(oo, .inl (cL, 1, .inr (.inl g)))]) (va_A [(x, .inr (3, [.ref na, .ref ro, .ref oa, .int 0, .int 0, .int 0, .int 0, .int 0, .int 0])), (na, .inl (cN, n, .inr (.inr (.inr (.inr fn))))), (nd, .inr (0, [.int ix, .ref a1, .ref a2, .ref a3, .ref a4, .ref a5, .int 1, .int 0, .int 0, .int 0, .null])), (a2, .inl (cI, n, .inl ((fun _ => 0)))), (a4, .inl (cI, n, .inl ((fun _ => 0)))), (ro, .inr (2, [.int (nI n), .ref b1, .ref b2, .ref b3, .ref b4, .ref b5, .ref b6, .int 0, .int 0, .int 0])), (b1, .inl (cI, 2000, .inl fs)), (b2, .inl (cI, 2000, .inl ((fun _ => 0)))), (b3, .inl (cI, 2000, .inl ((fun _ => 0)))), (b4, .inl (cI, 2000, .inl ((fun _ => 0)))), (b5, .inl (cI, 2000, .inl ((fun _ => 0)))), (oa, .inl (cO, 512, .inr (.inr (.inr (.inr ((fun _ => none))))))), (oo, .inl (cL, 1, .inr (.inl fo)))] sz)) (2) (12 + n) (va_A [(x, .inr (3, [.ref na, .ref ro, .ref oa, .int 0, .int 0, .int 0, .int 0, .int 0, .int 0])), (na, .inl (cN, n, .inr (.inr (.inr (.inr fn))))), (nd, .inr (0, [.int ix, .ref a1, .ref a2, .ref a3, .ref a4, .ref a5, .int 1, .int 0, .int 0, .int 0, .null])), (a2, .inl (cI, n, .inl ((fun _ => 0)))), (a4, .inl (cI, n, .inl ((fun _ => 0)))), (ro, .inr (2, [.int (nI n), .ref b1, .ref b2, .ref b3, .ref b4, .ref b5, .ref b6, .int 0, .int 0, .int 0])), (b1, .inl (cI, 2000, .inl fs)), (b2, .inl (cI, 2000, .inl ((fun _ => 0)))), (b3, .inl (cI, 2000, .inl ((fun _ => 0)))), (b4, .inl (cI, 2000, .inl ((fun _ => 0)))), (b5, .inl (cI, 2000, .inl ((fun _ => 0)))), (oa, .inl (cO, 512, .inr (.inr (.inr (.inr ((fun _ => none))))))), (oo, .inl (cL, 1, .inr (.inl fo)))] sz) := by
  refine va_MetW (cc := cL_query) (maxL := 6) (ret := (some .int)) (hh := [(0, 12, 15, 13), (0, 12, 19, 15)]) (by decide) rfl ?_
  intro p e s m args below meth c s₁ B hml hv
  obtain ⟨rfl, hsz, hP, hK, hD0⟩ := hv
  have hx := B.exec
  have hb := B.bytes
  have hr := B.returns
  have hts := atoms_spec (ws := (.codeWith yL_query cL_query 6 (some .int) [(0, 12, 15, 13), (0, 12, 19, 15)] :: gw)) B.pre
  have hg : ∀ w ∈ gw, w.before _ s = true := fun w h => hts w (List.mem_cons_of_mem _ h)
  have hown : s.vm.findClass RL = some m.cls := findClass_of_methodNamed B.named
  have hlocks := B.notSynchronized
  subst hsz
  have hD := hD0.self (sz := s.heap.size)
  generalize hAe : va_A [(x, .inr (3, [.ref na, .ref ro, .ref oa, .int 0, .int 0, .int 0, .int 0, .int 0, .int 0])), (na, .inl (cN, n, .inr (.inr (.inr (.inr fn))))), (nd, .inr (0, [.int ix, .ref a1, .ref a2, .ref a3, .ref a4, .ref a5, .int 1, .int 0, .int 0, .int 0, .null])), (a2, .inl (cI, n, .inl ((fun _ => 0)))), (a4, .inl (cI, n, .inl ((fun _ => 0)))), (ro, .inr (2, [.int (nI n), .ref b1, .ref b2, .ref b3, .ref b4, .ref b5, .ref b6, .int 0, .int 0, .int 0])), (b1, .inl (cI, 2000, .inl fs)), (b2, .inl (cI, 2000, .inl ((fun _ => 0)))), (b3, .inl (cI, 2000, .inl ((fun _ => 0)))), (b4, .inl (cI, 2000, .inl ((fun _ => 0)))), (b5, .inl (cI, 2000, .inl ((fun _ => 0)))), (oa, .inl (cO, 512, .inr (.inr (.inr (.inr ((fun _ => none))))))), (oo, .inl (cL, 1, .inr (.inl fo)))] s.heap.size = A at hD ⊢
  have hA : ∀ q : Nat, s.heap.size ≤ q → A q := fun q h => by rw [← hAe]; exact Or.inr h
  have hS : va_S A s.heap s.heap [] := va_S.rf
  obtain ⟨H, eH⟩ : ∃ z, z = s.heap := ⟨_, rfl⟩
  obtain ⟨locs, elocs⟩ : ∃ z : List Loc, z = [] := ⟨_, rfl⟩
  have hP : va_P (dC, dI) vwCl [(x, .inr (3, [.ref na, .ref ro, .ref oa, .int 0, .int 0, .int 0, .int 0, .int 0, .int 0])), (na, .inl (cN, n, .inr (.inr (.inr (.inr fn))))), (nd, .inr (0, [.int ix, .ref a1, .ref a2, .ref a3, .ref a4, .ref a5, .int 1, .int 0, .int 0, .int 0, .null])), (a2, .inl (cI, n, .inl ((fun _ => 0)))), (a4, .inl (cI, n, .inl ((fun _ => 0)))), (ro, .inr (2, [.int (nI n), .ref b1, .ref b2, .ref b3, .ref b4, .ref b5, .ref b6, .int 0, .int 0, .int 0])), (b1, .inl (cI, 2000, .inl fs)), (b2, .inl (cI, 2000, .inl ((fun _ => 0)))), (b3, .inl (cI, 2000, .inl ((fun _ => 0)))), (b4, .inl (cI, 2000, .inl ((fun _ => 0)))), (b5, .inl (cI, 2000, .inl ((fun _ => 0)))), (oa, .inl (cO, 512, .inr (.inr (.inr (.inr ((fun _ => none))))))), (oo, .inl (cL, 1, .inr (.inl fo)))] H := by rw [eH]; exact hP
  have hS : va_S A s.heap H locs := by rw [eH, elocs]; exact hS
  have hl := lv_entry ([.ref x, .int p0, .int p1, .int p2, .ref oo]) (n := 6) (Nat.le_of_ble_eq_true rfl)
  rw [lg_entry_eq]
  generalize (lg_sl ([.ref x, .int p0, .int p1, .int p2, .ref oo]) ++ List.replicate (6 - (lg_sl ([.ref x, .int p0, .int p1, .int p2, .ref oo])).length) Slot.unset).toArray = ls at hl ⊢
  have hl : lv_has ls 6 [(0, .ref x), (1, .int p0), (2, .int p1), (3, .int p2), (4, .ref oo)] := hl
  rw [← elocs]
  suffices hgoal : ∀ HH, H = HH → W p l e (headSpec (.codeWith yL_query cL_query 6 (some .int) [(0, 12, 15, 13), (0, 12, 19, 15)] :: gw) ({ frames := 5, cells := 2, slots := 12 + n, locals := 121 })).room s m _ below meth c HH locs 0 0 _ (F0 m 0 ls []) from hgoal _ eH
  rintro _ rfl
  refine lv_aload hx hb dL_query_0 (lv_at hl 4 rfl) ?_
  refine lv_iconst (v := 0) hx hb dL_query_2 (by decide) ?_
  refine lv_aload_n hx hb dL_query_3 rfl (lv_at hl 0 rfl) ?_
  refine lv_iload_n hx hb dL_query_4 rfl (lv_at hl 1 rfl) ?_
  refine lv_iload_n hx hb dL_query_5 rfl (lv_at hl 2 rfl) ?_
  refine lv_iload_n hx hb dL_query_6 rfl (lv_at hl 3 rfl) ?_
  have hPc := hP.sub (ws' := [(x, .inr (3, [.ref na, .ref ro, .ref oa, .int 0, .int 0, .int 0, .int 0, .int 0, .int 0])), (na, .inl (cN, n, .inr (.inr (.inr (.inr fn))))), (nd, .inr (0, [.int ix, .ref a1, .ref a2, .ref a3, .ref a4, .ref a5, .int 1, .int 0, .int 0, .int 0, .null])), (a2, .inl (cI, n, .inl ((fun _ => 0)))), (a4, .inl (cI, n, .inl ((fun _ => 0)))), (ro, .inr (2, [.int (nI n), .ref b1, .ref b2, .ref b3, .ref b4, .ref b5, .ref b6, .int 0, .int 0, .int 0])), (b1, .inl (cI, 2000, .inl fs)), (b2, .inl (cI, 2000, .inl ((fun _ => 0)))), (b3, .inl (cI, 2000, .inl ((fun _ => 0)))), (b4, .inl (cI, 2000, .inl ((fun _ => 0)))), (b5, .inl (cI, 2000, .inl ((fun _ => 0)))), (oa, .inl (cO, 512, .inr (.inr (.inr (.inr ((fun _ => none)))))))]) [0, 1, 2, 3, 4, 5, 6, 7, 8, 9, 10, 11] rfl
  have hDc := hD.sub (ws' := [(x, .inr (3, [.ref na, .ref ro, .ref oa, .int 0, .int 0, .int 0, .int 0, .int 0, .int 0])), (na, .inl (cN, n, .inr (.inr (.inr (.inr fn))))), (nd, .inr (0, [.int ix, .ref a1, .ref a2, .ref a3, .ref a4, .ref a5, .int 1, .int 0, .int 0, .int 0, .null])), (a2, .inl (cI, n, .inl ((fun _ => 0)))), (a4, .inl (cI, n, .inl ((fun _ => 0)))), (ro, .inr (2, [.int (nI n), .ref b1, .ref b2, .ref b3, .ref b4, .ref b5, .ref b6, .int 0, .int 0, .int 0])), (b1, .inl (cI, 2000, .inl fs)), (b2, .inl (cI, 2000, .inl ((fun _ => 0)))), (b3, .inl (cI, 2000, .inl ((fun _ => 0)))), (b4, .inl (cI, 2000, .inl ((fun _ => 0)))), (b5, .inl (cI, 2000, .inl ((fun _ => 0)))), (oa, .inl (cO, 512, .inr (.inr (.inr (.inr ((fun _ => none)))))))]) [0, 1, 2, 3, 4, 5, 6, 7, 8, 9, 10, 11] (by decide) rfl
  have hFc := va_free (wc := [(x, .inr (3, [.ref na, .ref ro, .ref oa, .int 0, .int 0, .int 0, .int 0, .int 0, .int 0])), (na, .inl (cN, n, .inr (.inr (.inr (.inr fn))))), (nd, .inr (0, [.int ix, .ref a1, .ref a2, .ref a3, .ref a4, .ref a5, .int 1, .int 0, .int 0, .int 0, .null])), (a2, .inl (cI, n, .inl ((fun _ => 0)))), (a4, .inl (cI, n, .inl ((fun _ => 0)))), (ro, .inr (2, [.int (nI n), .ref b1, .ref b2, .ref b3, .ref b4, .ref b5, .ref b6, .int 0, .int 0, .int 0])), (b1, .inl (cI, 2000, .inl fs)), (b2, .inl (cI, 2000, .inl ((fun _ => 0)))), (b3, .inl (cI, 2000, .inl ((fun _ => 0)))), (b4, .inl (cI, 2000, .inl ((fun _ => 0)))), (b5, .inl (cI, 2000, .inl ((fun _ => 0)))), (oa, .inl (cO, 512, .inr (.inr (.inr (.inr ((fun _ => none)))))))]) hD hS hA [0, 1, 2, 3, 4, 5, 6, 7, 8, 9, 10, 11] rfl
  refine va_calli (va_runV (As := [.int p0, .int p1, .int p2]) (rest := [.int 0, .ref oo]) ⟨hx, hb, hml, hown, hg⟩ (c_X3_query_ok l dC dI cI cZ cN cO x na ro oa n fn nd a1 a2 a3 a4 a5 b1 b2 b3 b4 b5 b6 ix p0 p1 p2 fs H.size hn hfs hy hnd hok1 hok2) (cwV 3 hg (gw_V kM_L_17 kI_X3_query kS_X3_query kN_X3 kD_X3_query) rfl rfl rfl (by decide +kernel) ⟨Nat.le_of_ble_eq_true rfl, Nat.le_of_ble_eq_true rfl⟩) ⟨fun a U g mk q => by obtain ⟨q0, q1, qP, qK, qD⟩ := q; exact ⟨q0, q1, qP, va_K.moved (u := U) (U := U.calling g mk a) (Vm.Alike.refl U.vm) qK, qD⟩, va_recv hK hP (ci := 3) (q0 := 0) rfl rfl, fun U hU hW => ⟨rfl, by rw [hU], by rw [hU]; exact hPc, va_K.moved hW.alike (hK.sub (tys' := gTy cI cZ cN cO) [0, 1, 2, 3] rfl), hDc.weaken (fun _ _ _ _ => trivial)⟩⟩ rfl rfl hl.1 rfl (lv_room (Nat.le_of_ble_eq_true rfl)) dL_query_7 ⟨(by show 0 + 2 ≤ 2; omega), (by show 0 + (12 + n) ≤ 12 + n; omega)⟩) hS (fun q _ h => hFc q h) hFc (fun r_1 u t H1 locs ht hvm hwr_1 hB hz1 hk1 hS => ?_)
  obtain ⟨hP1, hK1, hD1⟩ := hB
  rw [ht] at hP1
  obtain ⟨hP, hD⟩ := va_join (wr := [(oo, .inl (cL, 1, .inr (.inl fo)))]) (w1 := []) hP hD [0, 1, 2, 3, 4, 5, 6, 7, 8, 9, 10, 11] [12] rfl rfl (by decide) (by decide) hk1 hFc hP1 hD1
  clear hPc hDc hFc hP1 hK1 hD1 hz1 hk1 ht
  generalize H1 = H at hP hS ⊢
  have hP : va_P (dC, dI) vwCl [(oo, .inl (cL, 1, .inr (.inl fo)))] H := hP
  have hD : va_D A [(oo, .inl (cL, 1, .inr (.inl fo)))] := hD
  refine lv_i2l (v := r_1.toInt64) hx hb dL_query_10 rfl ?_
  refine va_last hx hb hK hP hD hS 0 4 rfl rfl (by unfold vp_in; decide +kernel) dL_query_11 (fun H locs hP hD hS => ?_)
  have hP : va_P (dC, dI) vwCl [(oo, .inl (cL, 1, .inr (.inl (vp_updL fo (0 : Int32).toNatClampNeg r_1.toInt64))))] H := hP
  have hD : va_D A [(oo, .inl (cL, 1, .inr (.inl (vp_updL fo (0 : Int32).toNatClampNeg r_1.toInt64))))] := hD
  obtain ⟨g_3, eg_3⟩ : ∃ y : Nat → Int64, y = vp_updL fo (0 : Int32).toNatClampNeg r_1.toInt64 := ⟨_, rfl⟩
  rw [← eg_3] at hP hD
  have hP : va_P (dC, dI) vwCl [(oo, .inl (cL, 1, .inr (.inl g_3)))] H := hP
  have hD : va_D A [(oo, .inl (cL, 1, .inr (.inl g_3)))] := hD
  refine lv_goto (tgt := 23) hx hb dL_query_12 (by decide) ?_
  refine lv_iconst (v := 0) hx hb dL_query_23 (by decide) ?_
  have hP9 := hP.sub (ws' := [(oo, .inl (cL, 1, .inr (.inl g_3)))]) [0] rfl
  have hD9 := hD.sub (ws' := [(oo, .inl (cL, 1, .inr (.inl g_3)))]) [0] (by decide) rfl
  refine W.widen (k := 2) (n := 12 + n) (by omega) (by omega) ?_
  exact W.iret (v := 0) hx hb hr (fun t ht hW => ⟨⟨_, (), rfl, rfl, g_3, (by rw [eg_3]; simp [vp_updL]; rw [hwr_1]; decide +kernel), by rw [ht]; exact hP9, va_K.moved hW.alike hK, hD9⟩, hS.F ht⟩) hS.2.2 dL_query_24
set_option maxHeartbeats 4000000 in
set_option maxRecDepth 100000 in
theorem h_calm_ok (l : Launch) (dC : Nat → ClassId) (dI : Nat → Nat → Nat) (cI cZ cN cO : ClassId) (cL : ClassId) (x na ro oa b1 b2 b3 b4 b5 b6 n : Nat) (p0 : Int32) (oo : Nat) (fo : Nat → Int64) (sz : Nat) (hok1 : ¬ p0 < 0) (hok2 : p0 ≤ 2000) : Met l yL_calm (.codeWith yL_calm cL_calm 4 (some .int) [(0, 9, 12, 15)] :: gw) ({ frames := 2, cells := 0, slots := 0, locals := 43 }) (va_Pc [.ref x, .int p0, .ref oo] (fun U => U.heap.size = sz ∧ va_P (dC, dI) vwCl [(x, .inr (3, [.ref na, .ref ro, .ref oa, .int 0, .int 0, .int 0, .int 0, .int 0, .int 0])), (ro, .inr (2, [.int (nI n), .ref b1, .ref b2, .ref b3, .ref b4, .ref b5, .ref b6, .int 0, .int 0, .int 0])), (oo, .inl (cL, 1, .inr (.inl fo)))] U.heap ∧ va_K (dC, dI) vwCl (gTyL cI cZ cN cO cL) U ∧ va_D (fun _ => True) [(x, .inr (3, [.ref na, .ref ro, .ref oa, .int 0, .int 0, .int 0, .int 0, .int 0, .int 0])), (ro, .inr (2, [.int (nI n), .ref b1, .ref b2, .ref b3, .ref b4, .ref b5, .ref b6, .int 0, .int 0, .int 0])), (oo, .inl (cL, 1, .inr (.inl fo)))])) (va_Qi (fun (r : Int32) (_ : Unit) => r = 0) (fun (_ : Unit) (t : State) => ∃ g : Nat → Int64, g 0 = 0 ∧ va_P (dC, dI) vwCl [(oo, .inl (cL, 1, .inr (.inl g)))] t.heap ∧ va_K (dC, dI) vwCl (gTyL cI cZ cN cO cL) t ∧ va_D (va_A [(x, .inr (3, [.ref na, .ref ro, .ref oa, .int 0, .int 0, .int 0, .int 0, .int 0, .int 0])), (ro, .inr (2, [.int (nI n), .ref b1, .ref b2, .ref b3, .ref b4, .ref b5, .ref b6, .int 0, .int 0, .int 0])), (oo, .inl (cL, 1, .inr (.inl fo)))] sz) [(oo, .inl (cL, 1, .inr (.inl g)))]) (va_A [(x, .inr (3, [.ref na, .ref ro, .ref oa, .int 0, .int 0, .int 0, .int 0, .int 0, .int 0])), (ro, .inr (2, [.int (nI n), .ref b1, .ref b2, .ref b3, .ref b4, .ref b5, .ref b6, .int 0, .int 0, .int 0])), (oo, .inl (cL, 1, .inr (.inl fo)))] sz)) (0) (0) (va_A [(x, .inr (3, [.ref na, .ref ro, .ref oa, .int 0, .int 0, .int 0, .int 0, .int 0, .int 0])), (ro, .inr (2, [.int (nI n), .ref b1, .ref b2, .ref b3, .ref b4, .ref b5, .ref b6, .int 0, .int 0, .int 0])), (oo, .inl (cL, 1, .inr (.inl fo)))] sz) := by
  refine va_MetW (cc := cL_calm) (maxL := 4) (ret := (some .int)) (hh := [(0, 9, 12, 15)]) (by decide) rfl ?_
  intro p e s m args below meth c s₁ B hml hv
  obtain ⟨rfl, hsz, hP, hK, hD0⟩ := hv
  have hx := B.exec
  have hb := B.bytes
  have hr := B.returns
  have hts := atoms_spec (ws := (.codeWith yL_calm cL_calm 4 (some .int) [(0, 9, 12, 15)] :: gw)) B.pre
  have hg : ∀ w ∈ gw, w.before _ s = true := fun w h => hts w (List.mem_cons_of_mem _ h)
  have hown : s.vm.findClass RL = some m.cls := findClass_of_methodNamed B.named
  have hlocks := B.notSynchronized
  subst hsz
  have hD := hD0.self (sz := s.heap.size)
  generalize hAe : va_A [(x, .inr (3, [.ref na, .ref ro, .ref oa, .int 0, .int 0, .int 0, .int 0, .int 0, .int 0])), (ro, .inr (2, [.int (nI n), .ref b1, .ref b2, .ref b3, .ref b4, .ref b5, .ref b6, .int 0, .int 0, .int 0])), (oo, .inl (cL, 1, .inr (.inl fo)))] s.heap.size = A at hD ⊢
  have hA : ∀ q : Nat, s.heap.size ≤ q → A q := fun q h => by rw [← hAe]; exact Or.inr h
  have hS : va_S A s.heap s.heap [] := va_S.rf
  obtain ⟨H, eH⟩ : ∃ z, z = s.heap := ⟨_, rfl⟩
  obtain ⟨locs, elocs⟩ : ∃ z : List Loc, z = [] := ⟨_, rfl⟩
  have hP : va_P (dC, dI) vwCl [(x, .inr (3, [.ref na, .ref ro, .ref oa, .int 0, .int 0, .int 0, .int 0, .int 0, .int 0])), (ro, .inr (2, [.int (nI n), .ref b1, .ref b2, .ref b3, .ref b4, .ref b5, .ref b6, .int 0, .int 0, .int 0])), (oo, .inl (cL, 1, .inr (.inl fo)))] H := by rw [eH]; exact hP
  have hS : va_S A s.heap H locs := by rw [eH, elocs]; exact hS
  have hl := lv_entry ([.ref x, .int p0, .ref oo]) (n := 4) (Nat.le_of_ble_eq_true rfl)
  rw [lg_entry_eq]
  generalize (lg_sl ([.ref x, .int p0, .ref oo]) ++ List.replicate (4 - (lg_sl ([.ref x, .int p0, .ref oo])).length) Slot.unset).toArray = ls at hl ⊢
  have hl : lv_has ls 4 [(0, .ref x), (1, .int p0), (2, .ref oo)] := hl
  rw [← elocs]
  suffices hgoal : ∀ HH, H = HH → W p l e (headSpec (.codeWith yL_calm cL_calm 4 (some .int) [(0, 9, 12, 15)] :: gw) ({ frames := 2, cells := 0, slots := 0, locals := 43 })).room s m _ below meth c HH locs 0 0 _ (F0 m 0 ls []) from hgoal _ eH
  rintro _ rfl
  refine lv_aload_n hx hb dL_calm_0 rfl (lv_at hl 2 rfl) ?_
  refine lv_iconst (v := 0) hx hb dL_calm_1 (by decide) ?_
  refine lv_aload_n hx hb dL_calm_2 rfl (lv_at hl 0 rfl) ?_
  refine lv_iload_n hx hb dL_calm_3 rfl (lv_at hl 1 rfl) ?_
  have hPc := hP.sub (ws' := [(x, .inr (3, [.ref na, .ref ro, .ref oa, .int 0, .int 0, .int 0, .int 0, .int 0, .int 0])), (ro, .inr (2, [.int (nI n), .ref b1, .ref b2, .ref b3, .ref b4, .ref b5, .ref b6, .int 0, .int 0, .int 0]))]) [0, 1] rfl
  refine vp_callSi (W.runV (As := [.int p0]) (rest := [.int 0, .ref oo]) ⟨hx, hb, hml, hown, hg⟩ (c_X3_calm_ok l dC dI cI cZ cN cO x na ro oa b1 b2 b3 b4 b5 b6 n p0 hok1 hok2) (cwV 1 hg (gw_V kM_L_25 kI_X3_calm kS_X3_calm kN_X3 kD_X3_calm) rfl rfl rfl (by decide +kernel) ⟨Nat.le_of_ble_eq_true rfl, Nat.le_of_ble_eq_true rfl⟩) ⟨fun a U g mk q => by obtain ⟨q0, qP, qK⟩ := q; exact ⟨q0, qP, va_K.moved (u := U) (U := U.calling g mk a) (Vm.Alike.refl U.vm) qK⟩, va_recv hK hP (ci := 3) (q0 := 0) rfl rfl, fun U hU hW => ⟨rfl, by rw [hU]; exact hPc, va_K.moved hW.alike (hK.sub (tys' := gTy cI cZ cN cO) [0, 1, 2, 3] rfl)⟩⟩ rfl rfl hl.1 rfl (lv_room (Nat.le_of_ble_eq_true rfl)) dL_calm_4 ⟨Nat.zero_le _, Nat.zero_le _⟩) (fun r_1 hr_1 => ?_)
  refine lv_i2l (v := r_1.toInt64) hx hb dL_calm_7 rfl ?_
  refine va_last hx hb hK hP hD hS 2 4 rfl rfl (by unfold vp_in; decide +kernel) dL_calm_8 (fun H locs hP hD hS => ?_)
  have hP : va_P (dC, dI) vwCl [(x, .inr (3, [.ref na, .ref ro, .ref oa, .int 0, .int 0, .int 0, .int 0, .int 0, .int 0])), (ro, .inr (2, [.int (nI n), .ref b1, .ref b2, .ref b3, .ref b4, .ref b5, .ref b6, .int 0, .int 0, .int 0])), (oo, .inl (cL, 1, .inr (.inl (vp_updL fo (0 : Int32).toNatClampNeg r_1.toInt64))))] H := hP
  have hD : va_D A [(x, .inr (3, [.ref na, .ref ro, .ref oa, .int 0, .int 0, .int 0, .int 0, .int 0, .int 0])), (ro, .inr (2, [.int (nI n), .ref b1, .ref b2, .ref b3, .ref b4, .ref b5, .ref b6, .int 0, .int 0, .int 0])), (oo, .inl (cL, 1, .inr (.inl (vp_updL fo (0 : Int32).toNatClampNeg r_1.toInt64))))] := hD
  obtain ⟨g_3, eg_3⟩ : ∃ y : Nat → Int64, y = vp_updL fo (0 : Int32).toNatClampNeg r_1.toInt64 := ⟨_, rfl⟩
  rw [← eg_3] at hP hD
  have hP : va_P (dC, dI) vwCl [(x, .inr (3, [.ref na, .ref ro, .ref oa, .int 0, .int 0, .int 0, .int 0, .int 0, .int 0])), (ro, .inr (2, [.int (nI n), .ref b1, .ref b2, .ref b3, .ref b4, .ref b5, .ref b6, .int 0, .int 0, .int 0])), (oo, .inl (cL, 1, .inr (.inl g_3)))] H := hP
  have hD : va_D A [(x, .inr (3, [.ref na, .ref ro, .ref oa, .int 0, .int 0, .int 0, .int 0, .int 0, .int 0])), (ro, .inr (2, [.int (nI n), .ref b1, .ref b2, .ref b3, .ref b4, .ref b5, .ref b6, .int 0, .int 0, .int 0])), (oo, .inl (cL, 1, .inr (.inl g_3)))] := hD
  refine lv_goto (tgt := 15) hx hb dL_calm_9 (by decide) ?_
  refine lv_iconst (v := 0) hx hb dL_calm_15 (by decide) ?_
  have hP9 := hP.sub (ws' := [(oo, .inl (cL, 1, .inr (.inl g_3)))]) [2] rfl
  have hD9 := hD.sub (ws' := [(oo, .inl (cL, 1, .inr (.inl g_3)))]) [2] (by decide) rfl
  refine W.widen (k := 0) (n := 0) (by omega) (by omega) ?_
  exact W.iret (v := 0) hx hb hr (fun t ht hW => ⟨⟨_, (), rfl, rfl, g_3, (by rw [eg_3]; simp [vp_updL]; rw [hr_1]; decide +kernel), by rw [ht]; exact hP9, va_K.moved hW.alike hK, hD9⟩, hS.F ht⟩) hS.2.2 dL_calm_16
set_option maxHeartbeats 4000000 in
set_option maxRecDepth 100000 in
theorem h_crash_ok (l : Launch) (dC : Nat → ClassId) (dI : Nat → Nat → Nat) (cI cZ cN cO : ClassId) (cL : ClassId) (x na ro oa n : Nat) (fn : Nat → Option Nat) (nd a1 a2 a3 a4 a5 : Nat) (ix p0 : Int32) (oo : Nat) (fo : Nat → Int64) (sz : Nat) (hn : n < 2 ^ 31) (hy : isN n p0) (hnd : fn p0.toNatClampNeg = some nd) : Met l yL_crash (.codeWith yL_crash cL_crash 4 (some .int) [(0, 16, 19, 13)] :: gw) ({ frames := 2, cells := 0, slots := 0, locals := 43 }) (va_Pc [.ref x, .int p0, .ref oo] (fun U => U.heap.size = sz ∧ va_P (dC, dI) vwCl [(x, .inr (3, [.ref na, .ref ro, .ref oa, .int 0, .int 0, .int 0, .int 0, .int 0, .int 0])), (na, .inl (cN, n, .inr (.inr (.inr (.inr fn))))), (nd, .inr (0, [.int ix, .ref a1, .ref a2, .ref a3, .ref a4, .ref a5, .int 1, .int 0, .int 0, .int 0, .null])), (oo, .inl (cL, 1, .inr (.inl fo)))] U.heap ∧ va_K (dC, dI) vwCl (gTyL cI cZ cN cO cL) U ∧ va_D (fun _ => True) [(x, .inr (3, [.ref na, .ref ro, .ref oa, .int 0, .int 0, .int 0, .int 0, .int 0, .int 0])), (na, .inl (cN, n, .inr (.inr (.inr (.inr fn))))), (nd, .inr (0, [.int ix, .ref a1, .ref a2, .ref a3, .ref a4, .ref a5, .int 1, .int 0, .int 0, .int 0, .null])), (oo, .inl (cL, 1, .inr (.inl fo)))])) (va_Qi (fun (r : Int32) (_ : Unit) => r = 0) (fun (_ : Unit) (t : State) => ∃ g : Nat → Int64, g 0 = 1 ∧ va_P (dC, dI) vwCl [(oo, .inl (cL, 1, .inr (.inl g)))] t.heap ∧ va_K (dC, dI) vwCl (gTyL cI cZ cN cO cL) t ∧ va_D (va_A [(x, .inr (3, [.ref na, .ref ro, .ref oa, .int 0, .int 0, .int 0, .int 0, .int 0, .int 0])), (na, .inl (cN, n, .inr (.inr (.inr (.inr fn))))), (nd, .inr (0, [.int ix, .ref a1, .ref a2, .ref a3, .ref a4, .ref a5, .int 1, .int 0, .int 0, .int 0, .null])), (oo, .inl (cL, 1, .inr (.inl fo)))] sz) [(oo, .inl (cL, 1, .inr (.inl g)))]) (va_A [(x, .inr (3, [.ref na, .ref ro, .ref oa, .int 0, .int 0, .int 0, .int 0, .int 0, .int 0])), (na, .inl (cN, n, .inr (.inr (.inr (.inr fn))))), (nd, .inr (0, [.int ix, .ref a1, .ref a2, .ref a3, .ref a4, .ref a5, .int 1, .int 0, .int 0, .int 0, .null])), (oo, .inl (cL, 1, .inr (.inl fo)))] sz)) (0) (0) (va_A [(x, .inr (3, [.ref na, .ref ro, .ref oa, .int 0, .int 0, .int 0, .int 0, .int 0, .int 0])), (na, .inl (cN, n, .inr (.inr (.inr (.inr fn))))), (nd, .inr (0, [.int ix, .ref a1, .ref a2, .ref a3, .ref a4, .ref a5, .int 1, .int 0, .int 0, .int 0, .null])), (oo, .inl (cL, 1, .inr (.inl fo)))] sz) := by
  refine va_MetW (cc := cL_crash) (maxL := 4) (ret := (some .int)) (hh := [(0, 16, 19, 13)]) (by decide) rfl ?_
  intro p e s m args below meth c s₁ B hml hv
  obtain ⟨rfl, hsz, hP, hK, hD0⟩ := hv
  have hx := B.exec
  have hb := B.bytes
  have hr := B.returns
  have hts := atoms_spec (ws := (.codeWith yL_crash cL_crash 4 (some .int) [(0, 16, 19, 13)] :: gw)) B.pre
  have hg : ∀ w ∈ gw, w.before _ s = true := fun w h => hts w (List.mem_cons_of_mem _ h)
  have hown : s.vm.findClass RL = some m.cls := findClass_of_methodNamed B.named
  have hlocks := B.notSynchronized
  subst hsz
  have hD := hD0.self (sz := s.heap.size)
  generalize hAe : va_A [(x, .inr (3, [.ref na, .ref ro, .ref oa, .int 0, .int 0, .int 0, .int 0, .int 0, .int 0])), (na, .inl (cN, n, .inr (.inr (.inr (.inr fn))))), (nd, .inr (0, [.int ix, .ref a1, .ref a2, .ref a3, .ref a4, .ref a5, .int 1, .int 0, .int 0, .int 0, .null])), (oo, .inl (cL, 1, .inr (.inl fo)))] s.heap.size = A at hD ⊢
  have hA : ∀ q : Nat, s.heap.size ≤ q → A q := fun q h => by rw [← hAe]; exact Or.inr h
  have hS : va_S A s.heap s.heap [] := va_S.rf
  obtain ⟨H, eH⟩ : ∃ z, z = s.heap := ⟨_, rfl⟩
  obtain ⟨locs, elocs⟩ : ∃ z : List Loc, z = [] := ⟨_, rfl⟩
  have hP : va_P (dC, dI) vwCl [(x, .inr (3, [.ref na, .ref ro, .ref oa, .int 0, .int 0, .int 0, .int 0, .int 0, .int 0])), (na, .inl (cN, n, .inr (.inr (.inr (.inr fn))))), (nd, .inr (0, [.int ix, .ref a1, .ref a2, .ref a3, .ref a4, .ref a5, .int 1, .int 0, .int 0, .int 0, .null])), (oo, .inl (cL, 1, .inr (.inl fo)))] H := by rw [eH]; exact hP
  have hS : va_S A s.heap H locs := by rw [eH, elocs]; exact hS
  have hl := lv_entry ([.ref x, .int p0, .ref oo]) (n := 4) (Nat.le_of_ble_eq_true rfl)
  rw [lg_entry_eq]
  generalize (lg_sl ([.ref x, .int p0, .ref oo]) ++ List.replicate (4 - (lg_sl ([.ref x, .int p0, .ref oo])).length) Slot.unset).toArray = ls at hl ⊢
  have hl : lv_has ls 4 [(0, .ref x), (1, .int p0), (2, .ref oo)] := hl
  rw [← elocs]
  suffices hgoal : ∀ HH, H = HH → W p l e (headSpec (.codeWith yL_crash cL_crash 4 (some .int) [(0, 16, 19, 13)] :: gw) ({ frames := 2, cells := 0, slots := 0, locals := 43 })).room s m _ below meth c HH locs 0 0 _ (F0 m 0 ls []) from hgoal _ eH
  rintro _ rfl
  refine lv_aload_n hx hb dL_crash_0 rfl (lv_at hl 2 rfl) ?_
  refine lv_iconst (v := 0) hx hb dL_crash_1 (by decide) ?_
  refine lv_aload_n hx hb dL_crash_2 rfl (lv_at hl 0 rfl) ?_
  refine lv_iload_n hx hb dL_crash_3 rfl (lv_at hl 1 rfl) ?_
  have hPc := hP.sub (ws' := [(x, .inr (3, [.ref na, .ref ro, .ref oa, .int 0, .int 0, .int 0, .int 0, .int 0, .int 0])), (na, .inl (cN, n, .inr (.inr (.inr (.inr fn))))), (nd, .inr (0, [.int ix, .ref a1, .ref a2, .ref a3, .ref a4, .ref a5, .int 1, .int 0, .int 0, .int 0, .null]))]) [0, 1, 2] rfl
  have hDc := hD.sub (ws' := [(x, .inr (3, [.ref na, .ref ro, .ref oa, .int 0, .int 0, .int 0, .int 0, .int 0, .int 0])), (na, .inl (cN, n, .inr (.inr (.inr (.inr fn))))), (nd, .inr (0, [.int ix, .ref a1, .ref a2, .ref a3, .ref a4, .ref a5, .int 1, .int 0, .int 0, .int 0, .null]))]) [0, 1, 2] (by decide) rfl
  have hFc := va_free (wc := [(x, .inr (3, [.ref na, .ref ro, .ref oa, .int 0, .int 0, .int 0, .int 0, .int 0, .int 0])), (na, .inl (cN, n, .inr (.inr (.inr (.inr fn))))), (nd, .inr (0, [.int ix, .ref a1, .ref a2, .ref a3, .ref a4, .ref a5, .int 1, .int 0, .int 0, .int 0, .null]))]) hD hS hA [0, 1, 2] rfl
  refine va_calli (va_runV (As := [.int p0]) (rest := [.int 0, .ref oo]) ⟨hx, hb, hml, hown, hg⟩ (c_X3_crash_ok l dC dI cI cZ cN cO x na ro oa n fn nd a1 a2 a3 a4 a5 ix p0 H.size hn hy hnd) (cwV 1 hg (gw_V kM_L_28 kI_X3_crash kS_X3_crash kN_X3 kD_X3_crash) rfl rfl rfl (by decide +kernel) ⟨Nat.le_of_ble_eq_true rfl, Nat.le_of_ble_eq_true rfl⟩) ⟨fun a U g mk q => by obtain ⟨q0, q1, qP, qK, qD⟩ := q; exact ⟨q0, q1, qP, va_K.moved (u := U) (U := U.calling g mk a) (Vm.Alike.refl U.vm) qK, qD⟩, va_recv hK hP (ci := 3) (q0 := 0) rfl rfl, fun U hU hW => ⟨rfl, by rw [hU], by rw [hU]; exact hPc, va_K.moved hW.alike (hK.sub (tys' := gTy cI cZ cN cO) [0, 1, 2, 3] rfl), hDc.weaken (fun _ _ _ _ => trivial)⟩⟩ rfl rfl hl.1 rfl (lv_room (Nat.le_of_ble_eq_true rfl)) dL_crash_4 ⟨Nat.le_of_ble_eq_true rfl, Nat.le_of_ble_eq_true rfl⟩) hS (fun q _ h => hFc q h) hFc (fun r_1 u t H1 locs ht hvm hwr_1 hB hz1 hk1 hS => ?_)
  obtain ⟨hP1, hK1, hD1⟩ := hB
  rw [ht] at hP1
  obtain ⟨hP, hD⟩ := va_join (wr := [(oo, .inl (cL, 1, .inr (.inl fo)))]) (w1 := []) hP hD [0, 1, 2] [3] rfl rfl (by decide) (by decide) hk1 hFc hP1 hD1
  clear hPc hDc hFc hP1 hK1 hD1 hz1 hk1 ht
  generalize H1 = H at hP hS ⊢
  have hP : va_P (dC, dI) vwCl [(oo, .inl (cL, 1, .inr (.inl fo)))] H := hP
  have hD : va_D A [(oo, .inl (cL, 1, .inr (.inl fo)))] := hD
  refine lv_if_eq (tgt := 14) hx hb dL_crash_7 (by decide) (fun c_7 => absurd c_7 (by rw [hwr_1]; decide)) (fun c_7 => ?_)
  refine lv_lconst (v := 1) hx hb dL_crash_10 (by decide) ?_
  refine lv_goto (tgt := 15) hx hb dL_crash_11 (by decide) ?_
  refine va_last hx hb hK hP hD hS 0 4 rfl rfl (by unfold vp_in; decide +kernel) dL_crash_15 (fun H locs hP hD hS => ?_)
  have hP : va_P (dC, dI) vwCl [(oo, .inl (cL, 1, .inr (.inl (vp_updL fo (0 : Int32).toNatClampNeg 1))))] H := hP
  have hD : va_D A [(oo, .inl (cL, 1, .inr (.inl (vp_updL fo (0 : Int32).toNatClampNeg 1))))] := hD
  obtain ⟨g_2, eg_2⟩ : ∃ y : Nat → Int64, y = vp_updL fo (0 : Int32).toNatClampNeg 1 := ⟨_, rfl⟩
  rw [← eg_2] at hP hD
  have hP : va_P (dC, dI) vwCl [(oo, .inl (cL, 1, .inr (.inl g_2)))] H := hP
  have hD : va_D A [(oo, .inl (cL, 1, .inr (.inl g_2)))] := hD
  refine lv_goto (tgt := 22) hx hb dL_crash_16 (by decide) ?_
  refine lv_iconst (v := 0) hx hb dL_crash_22 (by decide) ?_
  have hP9 := hP.sub (ws' := [(oo, .inl (cL, 1, .inr (.inl g_2)))]) [0] rfl
  have hD9 := hD.sub (ws' := [(oo, .inl (cL, 1, .inr (.inl g_2)))]) [0] (by decide) rfl
  refine W.widen (k := 0) (n := 0) (by omega) (by omega) ?_
  exact W.iret (v := 0) hx hb hr (fun t ht hW => ⟨⟨_, (), rfl, rfl, g_2, (by rw [eg_2]; simp [vp_updL]; skip), by rw [ht]; exact hP9, va_K.moved hW.alike hK, hD9⟩, hS.F ht⟩) hS.2.2 dL_crash_23
