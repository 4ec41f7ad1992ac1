theorem kW_L_update : Cond.codeWith yL_update cL_update 7 (some .int) [(0, 14, 17, 13), (0, 14, 21, 15)] ∈ gw := gw_of 326 (by decide +kernel) (by decide +kernel)
theorem kW_L_query : Cond.codeWith yL_query cL_query 6 (some .int) [(0, 12, 15, 13), (0, 12, 19, 15)] ∈ gw := gw_of 508 (by decide +kernel) (by decide +kernel)
theorem kW_L_deliver : Cond.codeWith yL_deliver cL_deliver 4 (some .int) [(0, 9, 12, 13)] ∈ gw := gw_of 516 (by decide +kernel) (by decide +kernel)
theorem kW_L_calm : Cond.codeWith yL_calm cL_calm 4 (some .int) [(0, 9, 12, 15)] ∈ gw := gw_of 601 (by decide +kernel) (by decide +kernel)
theorem kW_L_crash : Cond.codeWith yL_crash cL_crash 4 (some .int) [(0, 16, 19, 13)] ∈ gw := gw_of 609 (by decide +kernel) (by decide +kernel)
theorem gw_SW {own : String} {idx : Nat} {y : MethodName} {b : ByteArray} {n : Nat} {r : Option FieldType} {hh : List (Nat × Nat × Nat × Nat)} (h1 : Cond.methodLink own idx y ∈ gw) (h2 : Cond.static y ∈ gw) (h4 : Cond.initialized y.cls ∈ gw) (h : Cond.codeWith y b n r hh ∈ gw) : GoodIn gw (va_wsS own idx y (.codeWith y b n r hh :: gw)) := by
  intro w hw
  rcases List.mem_append.mp hw with q | q
  · simp only [List.mem_cons, List.not_mem_nil, or_false] at q
    rcases q with rfl | rfl | rfl
    · exact gw_good h1
    · exact gw_good h2
    · exact gw_good h4
  · exact gw_good ((List.mem_cons.mp q).elim (fun e => e ▸ h) id)
/-- the array kinds, and long[] -/
abbrev gTyL (cI cZ cN cO cL : ClassId) : List (ClassId × FieldType) := [(cI, .int), (cZ, .boolean), (cN, .object RX0), (cO, .object RX1), (cL, .long)]
set_option maxHeartbeats 4000000 in
set_option maxRecDepth 100000 in
/-- cell(script, 0) -/
theorem c_L_cell (l : Launch) (b L : Nat) (xs : Nat → Int32) (hL : L < 2 ^ 31) : Met l yL_cell (.code yL_cell cL_cell 2 (some .int) :: gw) ({ frames := 0, cells := 0, slots := 0, locals := 0 }) (va_Pc [.ref b, .int 0] (fun U => va_X b L xs U U.heap)) (vp_Si (fun r => r = if L = 0 then 0 else xs 0)) 0 0 (fun _ => False) := by
  refine Met.ofW (cc := cL_cell) (maxL := 2) (ret := (some .int)) (by decide) rfl ?_
  intro p e s m args below meth c s₁ B hml hv
  obtain ⟨rfl, hX⟩ := hv
  have hx := B.exec
  have hb := B.bytes
  have hr := B.returns
  have hts := atoms_spec (ws := (.code yL_cell cL_cell 2 (some .int) :: gw)) B.pre
  have hg : ∀ w ∈ gw, w.before _ s = true := fun w h => hts w (List.mem_cons_of_mem _ h)
  have hown : s.vm.findClass RL = some m.cls := findClass_of_methodNamed B.named
  have hlocks := B.notSynchronized
  have hl := lv_entry ([.ref b, .int 0]) (n := 2) (Nat.le_of_ble_eq_true rfl)
  rw [lg_entry_eq]
  generalize (lg_sl ([.ref b, .int 0]) ++ List.replicate (2 - (lg_sl ([.ref b, .int 0])).length) Slot.unset).toArray = ls at hl ⊢
  have hl : lv_has ls 2 [(0, .ref b), (1, .int 0)] := hl
  have hbl : b < s.heap.size := by obtain ⟨scr, h1, -⟩ := hX; exact (Array.getElem?_eq_some_iff.mp h1).1
  have hS : va_S (fun _ => False) s.heap s.heap [] := va_S.rf
  refine lv_iload_n hx hb dL_cell_0 rfl (lv_at hl 1 rfl) ?_
  refine lv_aload_n hx hb dL_cell_1 rfl (lv_at hl 0 rfl) ?_
  refine va_slen hx hb hX hbl (fun h => h) hS dL_cell_2 ?_
  refine lv_icmp_ge (tgt := 12) hx hb dL_cell_3 (by decide) (fun c_3 => ?_) (fun c_3 => ?_)
  · have h0 : L = 0 := by
      rcases Nat.eq_zero_or_pos L with h | h
      · exact h
      · exact absurd c_3 (nI_nle h (by omega))
    refine lv_iconst (v := 0) hx hb dL_cell_12 (by decide) ?_
    exact W.iret (v := 0) hx hb hr (fun t ht hW => ⟨_, rfl, by rw [if_pos h0], ht⟩) (fun _ h => by cases h) dL_cell_13
  · have h0 : 0 < L := by
      rcases Nat.eq_zero_or_pos L with h | h
      · subst h; exact absurd (by decide +kernel) c_3
      · exact h
    refine lv_aload_n hx hb dL_cell_6 rfl (lv_at hl 0 rfl) ?_
    refine lv_iload_n hx hb dL_cell_7 rfl (lv_at hl 1 rfl) ?_
    refine va_sld hx hb hX hbl (fun h => h) hS (by have h := vp_in_nI (n := 0) (N := L) h0 (by omega); rw [nI_0] at h; exact h) dL_cell_8 ?_
    refine lv_goto (tgt := 13) hx hb dL_cell_9 (by decide) ?_
    exact W.iret (v := xs (0 : Int32).toNatClampNeg) hx hb hr (fun t ht hW => ⟨_, rfl, by rw [if_neg (by omega)]; rfl, ht⟩) (fun _ h => by cases h) dL_cell_13
theorem Met.up {l : Launch} {y : MethodName} {ws : List Cond} {rm : Room} {Pc Pc1 : Array Value → State → Prop} {Qc Qc1 : Array Value → State → Outcome → State → Prop} {mc ms : Nat} {free : Addr → Prop} (h : Met l y ws rm Pc Qc mc ms free) (hP : ∀ a s, Pc1 a s → Pc a s) (hQ : ∀ a s o t, Qc a s o t → Qc1 a s o t) : Met l y ws rm Pc1 Qc1 mc ms free :=
  Jvm.Free.MetFree.mono h hP (fun _ _ _ _ _ q => q) (fun a s o t _ q => ⟨hQ a s o t q.1, q.2⟩)
theorem va_P.lt {D : va_G} {cl : List vw_C} {ws : va_W} {H : Heap} (h : va_P D cl ws H) {k : Nat} {q : Nat × va_E} (hk : ws[k]? = some q) : q.1 < H.size := (h k q hk).lt
theorem set_last {X : va_W} {a z : Nat × va_E} : (X ++ [a]).set X.length z = X ++ [z] := by rw [List.set_append_right _ _ (Nat.le_refl _), Nat.sub_self]; rfl
/-- the class's world, and new cells in it -/
def cG (D : va_G) (cI cZ cN cO : ClassId) (A : Nat → Prop) (E : CE) (n bg : Nat) (σ : CS) (U : State) : Prop := cH D cI cZ cN cO A E n bg σ U ∧ ∀ q, U.heap.size ≤ q → A q
theorem cG.blind {D : va_G} {cI cZ cN cO : ClassId} {A : Nat → Prop} {E : CE} {n bg : Nat} {σ : CS} {av : List Value} : FrameBlind (va_Pc av (cG D cI cZ cN cO A E n bg σ)) := fun a U g mk q => ⟨q.1, ⟨q.2.1.1, va_K.moved (u := U) (U := U.calling g mk a) (Vm.Alike.refl U.vm) q.2.1.2.1, q.2.1.2.2⟩, q.2.2⟩
theorem cOut_D {D : va_G} {cI cN cO cL : ClassId} {A : Nat → Prop} {E : CE} {n bg oo : Nat} {σ : CS} {fo : Nat → Int64} (hD : va_D A (cW cI cN cO E n bg σ)) (hoo : ¬ A oo) : va_D (fun q => A q ∨ q = oo) (cW cI cN cO E n bg σ ++ [(oo, .inl (cL, 1, .inr (.inl fo)))]) := by
  refine va_D.app (hD.weaken (fun _ _ _ h => Or.inl h)) ⟨fun i j p q h1 h2 _ => ?_, fun k q h => ?_⟩ (fun i j p q h1 h2 e => ?_)
  · have a1 := (List.getElem?_eq_some_iff.mp h1).1
    have a2 := (List.getElem?_eq_some_iff.mp h2).1
    simp at a1 a2; omega
  · have a1 := (List.getElem?_eq_some_iff.mp h).1
    simp at a1; subst a1
    simp at h; subst h; exact Or.inr rfl
  · have a1 := (List.getElem?_eq_some_iff.mp h2).1
    simp at a1; subst a1
    simp at h2; subst h2
    exact hoo (by rw [← show p.1 = oo from e]; exact hD.2 i p h1)
set_option maxHeartbeats 4000000 in
set_option maxRecDepth 100000 in
theorem h_update_ret (l : Launch) (D : va_G) (cI cZ cN cO cL : ClassId) (A : Nat → Prop) (E : CE) (n bg : Nat) (σ : CS) (p0 p1 p2 p3 : Int32) (oo : Nat) (fo : Nat → Int64) {mc ms : Nat} {post : Int32 → Prop} {K : CE → Nat → CS → Prop} (hM : Met l yX3_update (.code yX3_update cX3_update 5 (some .int) :: gw) ({ frames := 4, cells := mc, slots := ms, locals := 98 }) (va_Pc (.ref (E.1 0) :: [.int p0, .int p1, .int p2, .int p3]) (cG D cI cZ cN cO A E n bg σ)) (va_Qi (fun (r : Int32) (_ : Unit) => post r) (fun _ t => ∃ (E1 : CE) (bg1 : Nat) (σ1 : CS), K E1 bg1 σ1 ∧ cH D cI cZ cN cO A E1 n bg1 σ1 t) A) mc ms A) (hoo : ¬ A oo) : Met l yL_update (.codeWith yL_update cL_update 7 (some .int) [(0, 14, 17, 13), (0, 14, 21, 15)] :: gw) ({ frames := 5, cells := mc, slots := ms, locals := 122 }) (va_Pc [.ref ((E.1 0)), .int p0, .int p1, .int p2, .int p3, .ref oo] (fun U => cG D cI cZ cN cO A E n bg σ U ∧ va_P D vwCl [(oo, .inl (cL, 1, .inr (.inl fo)))] U.heap ∧ va_K D vwCl (gTyL cI cZ cN cO cL) U)) (va_Qi (fun (r : Int32) (_ : Unit) => r = 0) (fun _ t => ∃ (E1 : CE) (bg1 : Nat) (σ1 : CS) (v : Int32), K E1 bg1 σ1 ∧ post v ∧ cH D cI cZ cN cO A E1 n bg1 σ1 t ∧ va_P D vwCl [(oo, .inl (cL, 1, .inr (.inl (vp_updL fo 0 v.toInt64))))] t.heap) (fun q => A q ∨ q = oo)) mc ms (fun q => A q ∨ q = oo) := by
  refine va_MetW (cc := cL_update) (maxL := 7) (ret := (some .int)) (hh := [(0, 14, 17, 13), (0, 14, 21, 15)]) (by decide) rfl ?_
  intro p e s m args below meth c s₁ B hml hv
  obtain ⟨rfl, hG, hPo, hK⟩ := hv
  obtain ⟨⟨hP, hK4, hD⟩, hA⟩ := id hG
  have hx := B.exec
  have hb := B.bytes
  have hr := B.returns
  have hts := atoms_spec (ws := (.codeWith yL_update cL_update 7 (some .int) [(0, 14, 17, 13), (0, 14, 21, 15)] :: gw)) B.pre
  have hg : ∀ w ∈ gw, w.before _ s = true := fun w h => hts w (List.mem_cons_of_mem _ h)
  have hown : s.vm.findClass RL = some m.cls := findClass_of_methodNamed B.named
  have hlocks := B.notSynchronized
  have hl := lv_entry ([.ref ((E.1 0)), .int p0, .int p1, .int p2, .int p3, .ref oo]) (n := 7) (Nat.le_of_ble_eq_true rfl)
  rw [lg_entry_eq]
  generalize (lg_sl ([.ref ((E.1 0)), .int p0, .int p1, .int p2, .int p3, .ref oo]) ++ List.replicate (7 - (lg_sl ([.ref ((E.1 0)), .int p0, .int p1, .int p2, .int p3, .ref oo])).length) Slot.unset).toArray = ls at hl ⊢
  have hl : lv_has ls 7 [(0, .ref ((E.1 0))), (1, .int p0), (2, .int p1), (3, .int p2), (4, .int p3), (5, .ref oo)] := hl
  refine lv_aload hx hb dL_update_0 (lv_at hl 5 rfl) ?_
  refine lv_iconst (v := 0) hx hb dL_update_2 (by decide) ?_
  refine lv_aload_n hx hb dL_update_3 rfl (lv_at hl 0 rfl) ?_
  refine lv_iload_n hx hb dL_update_4 rfl (lv_at hl 1 rfl) ?_
  refine lv_iload_n hx hb dL_update_5 rfl (lv_at hl 2 rfl) ?_
  refine lv_iload_n hx hb dL_update_6 rfl (lv_at hl 3 rfl) ?_
  refine lv_iload hx hb dL_update_7 (lv_at hl 4 rfl) ?_
  refine va_calli (A0 := (fun q => A q ∨ q = oo)) (H0 := s.heap) (va_runV (As := [.int p0, .int p1, .int p2, .int p3]) (rest := [.int 0, .ref oo]) ⟨hx, hb, hml, hown, hg⟩ hM (cwV 4 hg (gw_V kM_L_7 kI_X3_update kS_X3_update kN_X3 kD_X3_update) rfl rfl rfl (by decide +kernel) ⟨Nat.le_of_ble_eq_true rfl, Nat.le_of_ble_eq_true rfl⟩) ⟨cG.blind, va_recv (q := (RX3, TX3, 9)) hK4 hP (ci := 3) (q0 := 0) rfl ((cW_fix (by decide)).trans rfl), fun U hU hW => ⟨rfl, ⟨by rw [hU]; exact hP, va_K.moved hW.alike hK4, hD⟩, by rw [hU]; exact hA⟩⟩ rfl rfl hl.1 rfl (lv_room (Nat.le_of_ble_eq_true rfl)) dL_update_9 ⟨(by show 0 + mc ≤ mc; omega), (by show 0 + ms ≤ ms; omega)⟩) va_S.rf (fun q _ h => Or.inl h) (fun q h => Or.inl h) (fun r u t H1 locs ht hvm hp hB hz hk hS => ?_)
  obtain ⟨E1, bg1, σ1, hK1, hP1, -, hD1⟩ := hB
  rw [ht] at hP1
  have hPo1 : va_P D vwCl [(oo, .inl (cL, 1, .inr (.inl fo)))] H1 := hPo.kept (fun k q h => hk q.1 (hPo.lt h) (by
    have a1 := (List.getElem?_eq_some_iff.mp h).1
    simp at a1; subst a1
    simp at h; subst h; exact hoo))
  have hPj := hP1.app hPo1
  have hDj := cOut_D (D := D) (cL := cL) (fo := fo) hD1 hoo
  have hat : (cW cI cN cO E1 n bg1 σ1 ++ [(oo, .inl (cL, 1, .inr (.inl fo)))])[(cW cI cN cO E1 n bg1 σ1).length]? = some (oo, .inl (cL, 1, .inr (.inl fo))) := by rw [List.getElem?_append_right (Nat.le_refl _), Nat.sub_self]; rfl
  refine lv_i2l (v := r.toInt64) hx hb dL_update_12 rfl ?_
  refine va_last hx hb hK hPj hDj hS _ 4 hat rfl (by unfold vp_in; decide +kernel) dL_update_13 (fun H2 locs2 hP2 hD2 hS2 => ?_)
  rw [set_last] at hP2
  have hPc2 : va_P D vwCl (cW cI cN cO E1 n bg1 σ1) H2 := hP2.by (fun k => k) (fun k q h => by rw [List.getElem?_append_left (List.getElem?_eq_some_iff.mp h).1]; exact h)
  have hPo2 : va_P D vwCl [(oo, .inl (cL, 1, .inr (.inl (vp_updL fo (0 : Int32).toNatClampNeg r.toInt64))))] H2 := hP2.by (fun k => (cW cI cN cO E1 n bg1 σ1).length + k) (fun k q h => by rw [List.getElem?_append_right (Nat.le_add_right _ _), Nat.add_sub_cancel_left]; exact h)
  refine lv_goto (tgt := 25) hx hb dL_update_14 (by decide) ?_
  refine lv_iconst (v := 0) hx hb dL_update_25 (by decide) ?_
  refine W.widen (k := mc) (n := ms) (by omega) (by omega) ?_
  exact W.iret (v := 0) hx hb hr (fun t ht hW => ⟨⟨_, (), rfl, rfl, E1, bg1, σ1, r, hK1, hp, ⟨by rw [ht]; exact hPc2, va_K.moved hW.alike hK4, hD1⟩, by rw [ht]; exact hPo2⟩, hS2.F ht⟩) hS2.2.2 dL_update_26
set_option maxHeartbeats 4000000 in
set_option maxRecDepth 100000 in
theorem h_query_ret (l : Launch) (D : va_G) (cI cZ cN cO cL : ClassId) (A : Nat → Prop) (E : CE) (n bg : Nat) (σ : CS) (p0 p1 p2 : Int32) (oo : Nat) (fo : Nat → Int64) {mc ms : Nat} {post : Int32 → Prop} {K : CE → Nat → CS → Prop} (hM : Met l yX3_query (.code yX3_query cX3_query 4 (some .int) :: gw) ({ frames := 4, cells := mc, slots := ms, locals := 98 }) (va_Pc (.ref (E.1 0) :: [.int p0, .int p1, .int p2]) (cG D cI cZ cN cO A E n bg σ)) (va_Qi (fun (r : Int32) (_ : Unit) => post r) (fun _ t => ∃ (E1 : CE) (bg1 : Nat) (σ1 : CS), K E1 bg1 σ1 ∧ cH D cI cZ cN cO A E1 n bg1 σ1 t) A) mc ms A) (hoo : ¬ A oo) : Met l yL_query (.codeWith yL_query cL_query 6 (some .int) [(0, 12, 15, 13), (0, 12, 19, 15)] :: gw) ({ frames := 5, cells := mc, slots := ms, locals := 121 }) (va_Pc [.ref ((E.1 0)), .int p0, .int p1, .int p2, .ref oo] (fun U => cG D cI cZ cN cO A E n bg σ U ∧ va_P D vwCl [(oo, .inl (cL, 1, .inr (.inl fo)))] U.heap ∧ va_K D vwCl (gTyL cI cZ cN cO cL) U)) (va_Qi (fun (r : Int32) (_ : Unit) => r = 0) (fun _ t => ∃ (E1 : CE) (bg1 : Nat) (σ1 : CS) (v : Int32), K E1 bg1 σ1 ∧ post v ∧ cH D cI cZ cN cO A E1 n bg1 σ1 t ∧ va_P D vwCl [(oo, .inl (cL, 1, .inr (.inl (vp_updL fo 0 v.toInt64))))] t.heap) (fun q => A q ∨ q = oo)) mc ms (fun q => A q ∨ q = oo) := by
  refine va_MetW (cc := cL_query) (maxL := 6) (ret := (some .int)) (hh := [(0, 12, 15, 13), (0, 12, 19, 15)]) (by decide) rfl ?_
  intro p e s m args below meth c s₁ B hml hv
  obtain ⟨rfl, hG, hPo, hK⟩ := hv
  obtain ⟨⟨hP, hK4, hD⟩, hA⟩ := id hG
  have hx := B.exec
  have hb := B.bytes
  have hr := B.returns
  have hts := atoms_spec (ws := (.codeWith yL_query cL_query 6 (some .int) [(0, 12, 15, 13), (0, 12, 19, 15)] :: gw)) B.pre
  have hg : ∀ w ∈ gw, w.before _ s = true := fun w h => hts w (List.mem_cons_of_mem _ h)
  have hown : s.vm.findClass RL = some m.cls := findClass_of_methodNamed B.named
  have hlocks := B.notSynchronized
  have hl := lv_entry ([.ref ((E.1 0)), .int p0, .int p1, .int p2, .ref oo]) (n := 6) (Nat.le_of_ble_eq_true rfl)
  rw [lg_entry_eq]
  generalize (lg_sl ([.ref ((E.1 0)), .int p0, .int p1, .int p2, .ref oo]) ++ List.replicate (6 - (lg_sl ([.ref ((E.1 0)), .int p0, .int p1, .int p2, .ref oo])).length) Slot.unset).toArray = ls at hl ⊢
  have hl : lv_has ls 6 [(0, .ref ((E.1 0))), (1, .int p0), (2, .int p1), (3, .int p2), (4, .ref oo)] := hl
  refine lv_aload hx hb dL_query_0 (lv_at hl 4 rfl) ?_
  refine lv_iconst (v := 0) hx hb dL_query_2 (by decide) ?_
  refine lv_aload_n hx hb dL_query_3 rfl (lv_at hl 0 rfl) ?_
  refine lv_iload_n hx hb dL_query_4 rfl (lv_at hl 1 rfl) ?_
  refine lv_iload_n hx hb dL_query_5 rfl (lv_at hl 2 rfl) ?_
  refine lv_iload_n hx hb dL_query_6 rfl (lv_at hl 3 rfl) ?_
  refine va_calli (A0 := (fun q => A q ∨ q = oo)) (H0 := s.heap) (va_runV (As := [.int p0, .int p1, .int p2]) (rest := [.int 0, .ref oo]) ⟨hx, hb, hml, hown, hg⟩ hM (cwV 3 hg (gw_V kM_L_17 kI_X3_query kS_X3_query kN_X3 kD_X3_query) rfl rfl rfl (by decide +kernel) ⟨Nat.le_of_ble_eq_true rfl, Nat.le_of_ble_eq_true rfl⟩) ⟨cG.blind, va_recv (q := (RX3, TX3, 9)) hK4 hP (ci := 3) (q0 := 0) rfl ((cW_fix (by decide)).trans rfl), fun U hU hW => ⟨rfl, ⟨by rw [hU]; exact hP, va_K.moved hW.alike hK4, hD⟩, by rw [hU]; exact hA⟩⟩ rfl rfl hl.1 rfl (lv_room (Nat.le_of_ble_eq_true rfl)) dL_query_7 ⟨(by show 0 + mc ≤ mc; omega), (by show 0 + ms ≤ ms; omega)⟩) va_S.rf (fun q _ h => Or.inl h) (fun q h => Or.inl h) (fun r u t H1 locs ht hvm hp hB hz hk hS => ?_)
  obtain ⟨E1, bg1, σ1, hK1, hP1, -, hD1⟩ := hB
  rw [ht] at hP1
  have hPo1 : va_P D vwCl [(oo, .inl (cL, 1, .inr (.inl fo)))] H1 := hPo.kept (fun k q h => hk q.1 (hPo.lt h) (by
    have a1 := (List.getElem?_eq_some_iff.mp h).1
    simp at a1; subst a1
    simp at h; subst h; exact hoo))
  have hPj := hP1.app hPo1
  have hDj := cOut_D (D := D) (cL := cL) (fo := fo) hD1 hoo
  have hat : (cW cI cN cO E1 n bg1 σ1 ++ [(oo, .inl (cL, 1, .inr (.inl fo)))])[(cW cI cN cO E1 n bg1 σ1).length]? = some (oo, .inl (cL, 1, .inr (.inl fo))) := by rw [List.getElem?_append_right (Nat.le_refl _), Nat.sub_self]; rfl
  refine lv_i2l (v := r.toInt64) hx hb dL_query_10 rfl ?_
  refine va_last hx hb hK hPj hDj hS _ 4 hat rfl (by unfold vp_in; decide +kernel) dL_query_11 (fun H2 locs2 hP2 hD2 hS2 => ?_)
  rw [set_last] at hP2
  have hPc2 : va_P D vwCl (cW cI cN cO E1 n bg1 σ1) H2 := hP2.by (fun k => k) (fun k q h => by rw [List.getElem?_append_left (List.getElem?_eq_some_iff.mp h).1]; exact h)
  have hPo2 : va_P D vwCl [(oo, .inl (cL, 1, .inr (.inl (vp_updL fo (0 : Int32).toNatClampNeg r.toInt64))))] H2 := hP2.by (fun k => (cW cI cN cO E1 n bg1 σ1).length + k) (fun k q h => by rw [List.getElem?_append_right (Nat.le_add_right _ _), Nat.add_sub_cancel_left]; exact h)
  refine lv_goto (tgt := 23) hx hb dL_query_12 (by decide) ?_
  refine lv_iconst (v := 0) hx hb dL_query_23 (by decide) ?_
  refine W.widen (k := mc) (n := ms) (by omega) (by omega) ?_
  exact W.iret (v := 0) hx hb hr (fun t ht hW => ⟨⟨_, (), rfl, rfl, E1, bg1, σ1, r, hK1, hp, ⟨by rw [ht]; exact hPc2, va_K.moved hW.alike hK4, hD1⟩, by rw [ht]; exact hPo2⟩, hS2.F ht⟩) hS2.2.2 dL_query_24
set_option maxHeartbeats 4000000 in
set_option maxRecDepth 100000 in
theorem h_deliver_ret (l : Launch) (D : va_G) (cI cZ cN cO cL : ClassId) (A : Nat → Prop) (E : CE) (n bg : Nat) (σ : CS) (p0 : Int32) (oo : Nat) (fo : Nat → Int64) {mc ms : Nat} {post : Int32 → Prop} {K : CE → Nat → CS → Prop} (hM : Met l yX3_deliver (.code yX3_deliver cX3_deliver 2 (some .int) :: gw) ({ frames := 7, cells := mc, slots := ms, locals := 185 }) (va_Pc (.ref (E.1 0) :: [.int p0]) (cG D cI cZ cN cO A E n bg σ)) (va_Qi (fun (r : Int32) (_ : Unit) => post r) (fun _ t => ∃ (E1 : CE) (bg1 : Nat) (σ1 : CS), K E1 bg1 σ1 ∧ cH D cI cZ cN cO A E1 n bg1 σ1 t) A) mc ms A) (hoo : ¬ A oo) : Met l yL_deliver (.codeWith yL_deliver cL_deliver 4 (some .int) [(0, 9, 12, 13)] :: gw) ({ frames := 8, cells := mc, slots := ms, locals := 206 }) (va_Pc [.ref ((E.1 0)), .int p0, .ref oo] (fun U => cG D cI cZ cN cO A E n bg σ U ∧ va_P D vwCl [(oo, .inl (cL, 1, .inr (.inl fo)))] U.heap ∧ va_K D vwCl (gTyL cI cZ cN cO cL) U)) (va_Qi (fun (r : Int32) (_ : Unit) => r = 0) (fun _ t => ∃ (E1 : CE) (bg1 : Nat) (σ1 : CS) (v : Int32), K E1 bg1 σ1 ∧ post v ∧ cH D cI cZ cN cO A E1 n bg1 σ1 t ∧ va_P D vwCl [(oo, .inl (cL, 1, .inr (.inl (vp_updL fo 0 v.toInt64))))] t.heap) (fun q => A q ∨ q = oo)) mc ms (fun q => A q ∨ q = oo) := by
  refine va_MetW (cc := cL_deliver) (maxL := 4) (ret := (some .int)) (hh := [(0, 9, 12, 13)]) (by decide) rfl ?_
  intro p e s m args below meth c s₁ B hml hv
  obtain ⟨rfl, hG, hPo, hK⟩ := hv
  obtain ⟨⟨hP, hK4, hD⟩, hA⟩ := id hG
  have hx := B.exec
  have hb := B.bytes
  have hr := B.returns
  have hts := atoms_spec (ws := (.codeWith yL_deliver cL_deliver 4 (some .int) [(0, 9, 12, 13)] :: gw)) B.pre
  have hg : ∀ w ∈ gw, w.before _ s = true := fun w h => hts w (List.mem_cons_of_mem _ h)
  have hown : s.vm.findClass RL = some m.cls := findClass_of_methodNamed B.named
  have hlocks := B.notSynchronized
  have hl := lv_entry ([.ref ((E.1 0)), .int p0, .ref oo]) (n := 4) (Nat.le_of_ble_eq_true rfl)
  rw [lg_entry_eq]
  generalize (lg_sl ([.ref ((E.1 0)), .int p0, .ref oo]) ++ List.replicate (4 - (lg_sl ([.ref ((E.1 0)), .int p0, .ref oo])).length) Slot.unset).toArray = ls at hl ⊢
  have hl : lv_has ls 4 [(0, .ref ((E.1 0))), (1, .int p0), (2, .ref oo)] := hl
  refine lv_aload_n hx hb dL_deliver_0 rfl (lv_at hl 2 rfl) ?_
  refine lv_iconst (v := 0) hx hb dL_deliver_1 (by decide) ?_
  refine lv_aload_n hx hb dL_deliver_2 rfl (lv_at hl 0 rfl) ?_
  refine lv_iload_n hx hb dL_deliver_3 rfl (lv_at hl 1 rfl) ?_
  refine va_calli (A0 := (fun q => A q ∨ q = oo)) (H0 := s.heap) (va_runV (As := [.int p0]) (rest := [.int 0, .ref oo]) ⟨hx, hb, hml, hown, hg⟩ hM (cwV 1 hg (gw_V kM_L_21 kI_X3_deliver kS_X3_deliver kN_X3 kD_X3_deliver) rfl rfl rfl (by decide +kernel) ⟨Nat.le_of_ble_eq_true rfl, Nat.le_of_ble_eq_true rfl⟩) ⟨cG.blind, va_recv (q := (RX3, TX3, 9)) hK4 hP (ci := 3) (q0 := 0) rfl ((cW_fix (by decide)).trans rfl), fun U hU hW => ⟨rfl, ⟨by rw [hU]; exact hP, va_K.moved hW.alike hK4, hD⟩, by rw [hU]; exact hA⟩⟩ rfl rfl hl.1 rfl (lv_room (Nat.le_of_ble_eq_true rfl)) dL_deliver_4 ⟨(by show 0 + mc ≤ mc; omega), (by show 0 + ms ≤ ms; omega)⟩) va_S.rf (fun q _ h => Or.inl h) (fun q h => Or.inl h) (fun r u t H1 locs ht hvm hp hB hz hk hS => ?_)
  obtain ⟨E1, bg1, σ1, hK1, hP1, -, hD1⟩ := hB
  rw [ht] at hP1
  have hPo1 : va_P D vwCl [(oo, .inl (cL, 1, .inr (.inl fo)))] H1 := hPo.kept (fun k q h => hk q.1 (hPo.lt h) (by
    have a1 := (List.getElem?_eq_some_iff.mp h).1
    simp at a1; subst a1
    simp at h; subst h; exact hoo))
  have hPj := hP1.app hPo1
  have hDj := cOut_D (D := D) (cL := cL) (fo := fo) hD1 hoo
  have hat : (cW cI cN cO E1 n bg1 σ1 ++ [(oo, .inl (cL, 1, .inr (.inl fo)))])[(cW cI cN cO E1 n bg1 σ1).length]? = some (oo, .inl (cL, 1, .inr (.inl fo))) := by rw [List.getElem?_append_right (Nat.le_refl _), Nat.sub_self]; rfl
  refine lv_i2l (v := r.toInt64) hx hb dL_deliver_7 rfl ?_
  refine va_last hx hb hK hPj hDj hS _ 4 hat rfl (by unfold vp_in; decide +kernel) dL_deliver_8 (fun H2 locs2 hP2 hD2 hS2 => ?_)
  rw [set_last] at hP2
  have hPc2 : va_P D vwCl (cW cI cN cO E1 n bg1 σ1) H2 := hP2.by (fun k => k) (fun k q h => by rw [List.getElem?_append_left (List.getElem?_eq_some_iff.mp h).1]; exact h)
  have hPo2 : va_P D vwCl [(oo, .inl (cL, 1, .inr (.inl (vp_updL fo (0 : Int32).toNatClampNeg r.toInt64))))] H2 := hP2.by (fun k => (cW cI cN cO E1 n bg1 σ1).length + k) (fun k q h => by rw [List.getElem?_append_right (Nat.le_add_right _ _), Nat.add_sub_cancel_left]; exact h)
  refine lv_goto (tgt := 15) hx hb dL_deliver_9 (by decide) ?_
  refine lv_iconst (v := 0) hx hb dL_deliver_15 (by decide) ?_
  refine W.widen (k := mc) (n := ms) (by omega) (by omega) ?_
  exact W.iret (v := 0) hx hb hr (fun t ht hW => ⟨⟨_, (), rfl, rfl, E1, bg1, σ1, r, hK1, hp, ⟨by rw [ht]; exact hPc2, va_K.moved hW.alike hK4, hD1⟩, by rw [ht]; exact hPo2⟩, hS2.F ht⟩) hS2.2.2 dL_deliver_16
set_option maxHeartbeats 4000000 in
set_option maxRecDepth 100000 in
theorem h_calm_ret (l : Launch) (D : va_G) (cI cZ cN cO cL : ClassId) (A : Nat → Prop) (E : CE) (n bg : Nat) (σ : CS) (p0 : Int32) (oo : Nat) (fo : Nat → Int64) {mc ms : Nat} {post : Int32 → Prop} {K : CE → Nat → CS → Prop} (hM : Met l yX3_calm (.code yX3_calm cX3_calm 3 (some .int) :: gw) ({ frames := 7, cells := mc, slots := ms, locals := 185 }) (va_Pc (.ref (E.1 0) :: [.int p0]) (cG D cI cZ cN cO A E n bg σ)) (va_Qi (fun (r : Int32) (_ : Unit) => post r) (fun _ t => ∃ (E1 : CE) (bg1 : Nat) (σ1 : CS), K E1 bg1 σ1 ∧ cH D cI cZ cN cO A E1 n bg1 σ1 t) A) mc ms A) (hoo : ¬ A oo) : Met l yL_calm (.codeWith yL_calm cL_calm 4 (some .int) [(0, 9, 12, 15)] :: gw) ({ frames := 8, cells := mc, slots := ms, locals := 207 }) (va_Pc [.ref ((E.1 0)), .int p0, .ref oo] (fun U => cG D cI cZ cN cO A E n bg σ U ∧ va_P D vwCl [(oo, .inl (cL, 1, .inr (.inl fo)))] U.heap ∧ va_K D vwCl (gTyL cI cZ cN cO cL) U)) (va_Qi (fun (r : Int32) (_ : Unit) => r = 0) (fun _ t => ∃ (E1 : CE) (bg1 : Nat) (σ1 : CS) (v : Int32), K E1 bg1 σ1 ∧ post v ∧ cH D cI cZ cN cO A E1 n bg1 σ1 t ∧ va_P D vwCl [(oo, .inl (cL, 1, .inr (.inl (vp_updL fo 0 v.toInt64))))] t.heap) (fun q => A q ∨ q = oo)) mc ms (fun q => A q ∨ q = oo) := by
  refine va_MetW (cc := cL_calm) (maxL := 4) (ret := (some .int)) (hh := [(0, 9, 12, 15)]) (by decide) rfl ?_
  intro p e s m args below meth c s₁ B hml hv
  obtain ⟨rfl, hG, hPo, hK⟩ := hv
  obtain ⟨⟨hP, hK4, hD⟩, hA⟩ := id hG
  have hx := B.exec
  have hb := B.bytes
  have hr := B.returns
  have hts := atoms_spec (ws := (.codeWith yL_calm cL_calm 4 (some .int) [(0, 9, 12, 15)] :: gw)) B.pre
  have hg : ∀ w ∈ gw, w.before _ s = true := fun w h => hts w (List.mem_cons_of_mem _ h)
  have hown : s.vm.findClass RL = some m.cls := findClass_of_methodNamed B.named
  have hlocks := B.notSynchronized
  have hl := lv_entry ([.ref ((E.1 0)), .int p0, .ref oo]) (n := 4) (Nat.le_of_ble_eq_true rfl)
  rw [lg_entry_eq]
  generalize (lg_sl ([.ref ((E.1 0)), .int p0, .ref oo]) ++ List.replicate (4 - (lg_sl ([.ref ((E.1 0)), .int p0, .ref oo])).length) Slot.unset).toArray = ls at hl ⊢
  have hl : lv_has ls 4 [(0, .ref ((E.1 0))), (1, .int p0), (2, .ref oo)] := hl
  refine lv_aload_n hx hb dL_calm_0 rfl (lv_at hl 2 rfl) ?_
  refine lv_iconst (v := 0) hx hb dL_calm_1 (by decide) ?_
  refine lv_aload_n hx hb dL_calm_2 rfl (lv_at hl 0 rfl) ?_
  refine lv_iload_n hx hb dL_calm_3 rfl (lv_at hl 1 rfl) ?_
  refine va_calli (A0 := (fun q => A q ∨ q = oo)) (H0 := s.heap) (va_runV (As := [.int p0]) (rest := [.int 0, .ref oo]) ⟨hx, hb, hml, hown, hg⟩ hM (cwV 1 hg (gw_V kM_L_25 kI_X3_calm kS_X3_calm kN_X3 kD_X3_calm) rfl rfl rfl (by decide +kernel) ⟨Nat.le_of_ble_eq_true rfl, Nat.le_of_ble_eq_true rfl⟩) ⟨cG.blind, va_recv (q := (RX3, TX3, 9)) hK4 hP (ci := 3) (q0 := 0) rfl ((cW_fix (by decide)).trans rfl), fun U hU hW => ⟨rfl, ⟨by rw [hU]; exact hP, va_K.moved hW.alike hK4, hD⟩, by rw [hU]; exact hA⟩⟩ rfl rfl hl.1 rfl (lv_room (Nat.le_of_ble_eq_true rfl)) dL_calm_4 ⟨(by show 0 + mc ≤ mc; omega), (by show 0 + ms ≤ ms; omega)⟩) va_S.rf (fun q _ h => Or.inl h) (fun q h => Or.inl h) (fun r u t H1 locs ht hvm hp hB hz hk hS => ?_)
  obtain ⟨E1, bg1, σ1, hK1, hP1, -, hD1⟩ := hB
  rw [ht] at hP1
  have hPo1 : va_P D vwCl [(oo, .inl (cL, 1, .inr (.inl fo)))] H1 := hPo.kept (fun k q h => hk q.1 (hPo.lt h) (by
    have a1 := (List.getElem?_eq_some_iff.mp h).1
    simp at a1; subst a1
    simp at h; subst h; exact hoo))
  have hPj := hP1.app hPo1
  have hDj := cOut_D (D := D) (cL := cL) (fo := fo) hD1 hoo
  have hat : (cW cI cN cO E1 n bg1 σ1 ++ [(oo, .inl (cL, 1, .inr (.inl fo)))])[(cW cI cN cO E1 n bg1 σ1).length]? = some (oo, .inl (cL, 1, .inr (.inl fo))) := by rw [List.getElem?_append_right (Nat.le_refl _), Nat.sub_self]; rfl
  refine lv_i2l (v := r.toInt64) hx hb dL_calm_7 rfl ?_
  refine va_last hx hb hK hPj hDj hS _ 4 hat rfl (by unfold vp_in; decide +kernel) dL_calm_8 (fun H2 locs2 hP2 hD2 hS2 => ?_)
  rw [set_last] at hP2
  have hPc2 : va_P D vwCl (cW cI cN cO E1 n bg1 σ1) H2 := hP2.by (fun k => k) (fun k q h => by rw [List.getElem?_append_left (List.getElem?_eq_some_iff.mp h).1]; exact h)
  have hPo2 : va_P D vwCl [(oo, .inl (cL, 1, .inr (.inl (vp_updL fo (0 : Int32).toNatClampNeg r.toInt64))))] H2 := hP2.by (fun k => (cW cI cN cO E1 n bg1 σ1).length + k) (fun k q h => by rw [List.getElem?_append_right (Nat.le_add_right _ _), Nat.add_sub_cancel_left]; exact h)
  refine lv_goto (tgt := 15) hx hb dL_calm_9 (by decide) ?_
  refine lv_iconst (v := 0) hx hb dL_calm_15 (by decide) ?_
  refine W.widen (k := mc) (n := ms) (by omega) (by omega) ?_
  exact W.iret (v := 0) hx hb hr (fun t ht hW => ⟨⟨_, (), rfl, rfl, E1, bg1, σ1, r, hK1, hp, ⟨by rw [ht]; exact hPc2, va_K.moved hW.alike hK4, hD1⟩, by rw [ht]; exact hPo2⟩, hS2.F ht⟩) hS2.2.2 dL_calm_16
set_option maxHeartbeats 4000000 in
set_option maxRecDepth 100000 in
theorem h_crash_ret (l : Launch) (D : va_G) (cI cZ cN cO cL : ClassId) (A : Nat → Prop) (E : CE) (n bg : Nat) (σ : CS) (p0 : Int32) (oo : Nat) (fo : Nat → Int64) {mc ms : Nat} {post : Int32 → Prop} {K : CE → Nat → CS → Prop} (hM : Met l yX3_crash (.code yX3_crash cX3_crash 3 (some .boolean) :: gw) ({ frames := 1, cells := mc, slots := ms, locals := 21 }) (va_Pc (.ref (E.1 0) :: [.int p0]) (cG D cI cZ cN cO A E n bg σ)) (va_Qi (fun (r : Int32) (_ : Unit) => post r) (fun _ t => ∃ (E1 : CE) (bg1 : Nat) (σ1 : CS), K E1 bg1 σ1 ∧ cH D cI cZ cN cO A E1 n bg1 σ1 t) A) mc ms A) (hoo : ¬ A oo) : Met l yL_crash (.codeWith yL_crash cL_crash 4 (some .int) [(0, 16, 19, 13)] :: gw) ({ frames := 2, cells := mc, slots := ms, locals := 43 }) (va_Pc [.ref ((E.1 0)), .int p0, .ref oo] (fun U => cG D cI cZ cN cO A E n bg σ U ∧ va_P D vwCl [(oo, .inl (cL, 1, .inr (.inl fo)))] U.heap ∧ va_K D vwCl (gTyL cI cZ cN cO cL) U)) (va_Qi (fun (r : Int32) (_ : Unit) => r = 0) (fun _ t => ∃ (E1 : CE) (bg1 : Nat) (σ1 : CS) (v : Int32), K E1 bg1 σ1 ∧ post v ∧ cH D cI cZ cN cO A E1 n bg1 σ1 t ∧ va_P D vwCl [(oo, .inl (cL, 1, .inr (.inl (vp_updL fo 0 (if v = 0 then 0 else 1)))))] t.heap) (fun q => A q ∨ q = oo)) mc ms (fun q => A q ∨ q = oo) := by
  refine va_MetW (cc := cL_crash) (maxL := 4) (ret := (some .int)) (hh := [(0, 16, 19, 13)]) (by decide) rfl ?_
  intro p e s m args below meth c s₁ B hml hv
  obtain ⟨rfl, hG, hPo, hK⟩ := hv
  obtain ⟨⟨hP, hK4, hD⟩, hA⟩ := id hG
  have hx := B.exec
  have hb := B.bytes
  have hr := B.returns
  have hts := atoms_spec (ws := (.codeWith yL_crash cL_crash 4 (some .int) [(0, 16, 19, 13)] :: gw)) B.pre
  have hg : ∀ w ∈ gw, w.before _ s = true := fun w h => hts w (List.mem_cons_of_mem _ h)
  have hown : s.vm.findClass RL = some m.cls := findClass_of_methodNamed B.named
  have hlocks := B.notSynchronized
  have hl := lv_entry ([.ref ((E.1 0)), .int p0, .ref oo]) (n := 4) (Nat.le_of_ble_eq_true rfl)
  rw [lg_entry_eq]
  generalize (lg_sl ([.ref ((E.1 0)), .int p0, .ref oo]) ++ List.replicate (4 - (lg_sl ([.ref ((E.1 0)), .int p0, .ref oo])).length) Slot.unset).toArray = ls at hl ⊢
  have hl : lv_has ls 4 [(0, .ref ((E.1 0))), (1, .int p0), (2, .ref oo)] := hl
  refine lv_aload_n hx hb dL_crash_0 rfl (lv_at hl 2 rfl) ?_
  refine lv_iconst (v := 0) hx hb dL_crash_1 (by decide) ?_
  refine lv_aload_n hx hb dL_crash_2 rfl (lv_at hl 0 rfl) ?_
  refine lv_iload_n hx hb dL_crash_3 rfl (lv_at hl 1 rfl) ?_
  refine va_calli (A0 := (fun q => A q ∨ q = oo)) (H0 := s.heap) (va_runV (As := [.int p0]) (rest := [.int 0, .ref oo]) ⟨hx, hb, hml, hown, hg⟩ hM (cwV 1 hg (gw_V kM_L_28 kI_X3_crash kS_X3_crash kN_X3 kD_X3_crash) rfl rfl rfl (by decide +kernel) ⟨Nat.le_of_ble_eq_true rfl, Nat.le_of_ble_eq_true rfl⟩) ⟨cG.blind, va_recv (q := (RX3, TX3, 9)) hK4 hP (ci := 3) (q0 := 0) rfl ((cW_fix (by decide)).trans rfl), fun U hU hW => ⟨rfl, ⟨by rw [hU]; exact hP, va_K.moved hW.alike hK4, hD⟩, by rw [hU]; exact hA⟩⟩ rfl rfl hl.1 rfl (lv_room (Nat.le_of_ble_eq_true rfl)) dL_crash_4 ⟨(by show 0 + mc ≤ mc; omega), (by show 0 + ms ≤ ms; omega)⟩) va_S.rf (fun q _ h => Or.inl h) (fun q h => Or.inl h) (fun r u t H1 locs ht hvm hp hB hz hk hS => ?_)
  obtain ⟨E1, bg1, σ1, hK1, hP1, -, hD1⟩ := hB
  rw [ht] at hP1
  have hPo1 : va_P D vwCl [(oo, .inl (cL, 1, .inr (.inl fo)))] H1 := hPo.kept (fun k q h => hk q.1 (hPo.lt h) (by
    have a1 := (List.getElem?_eq_some_iff.mp h).1
    simp at a1; subst a1
    simp at h; subst h; exact hoo))
  have hPj := hP1.app hPo1
  have hDj := cOut_D (D := D) (cL := cL) (fo := fo) hD1 hoo
  have hat : (cW cI cN cO E1 n bg1 σ1 ++ [(oo, .inl (cL, 1, .inr (.inl fo)))])[(cW cI cN cO E1 n bg1 σ1).length]? = some (oo, .inl (cL, 1, .inr (.inl fo))) := by rw [List.getElem?_append_right (Nat.le_refl _), Nat.sub_self]; rfl
  refine lv_if_eq (tgt := 14) hx hb dL_crash_7 (by decide) (fun c_7 => ?_) (fun c_7 => ?_)
  · refine lv_lconst (v := 0) hx hb dL_crash_14 (by decide) ?_
    refine va_last hx hb hK hPj hDj hS _ 4 hat rfl (by unfold vp_in; decide +kernel) dL_crash_15 (fun H2 locs2 hP2 hD2 hS2 => ?_)
    rw [set_last] at hP2
    have hPc2 : va_P D vwCl (cW cI cN cO E1 n bg1 σ1) H2 := hP2.by (fun k => k) (fun k q h => by rw [List.getElem?_append_left (List.getElem?_eq_some_iff.mp h).1]; exact h)
    have hPo2 : va_P D vwCl [(oo, .inl (cL, 1, .inr (.inl (vp_updL fo (0 : Int32).toNatClampNeg 0))))] H2 := hP2.by (fun k => (cW cI cN cO E1 n bg1 σ1).length + k) (fun k q h => by rw [List.getElem?_append_right (Nat.le_add_right _ _), Nat.add_sub_cancel_left]; exact h)
    refine lv_goto (tgt := 22) hx hb dL_crash_16 (by decide) ?_
    refine lv_iconst (v := 0) hx hb dL_crash_22 (by decide) ?_
    refine W.widen (k := mc) (n := ms) (by omega) (by omega) ?_
    exact W.iret (v := 0) hx hb hr (fun t ht hW => ⟨⟨_, (), rfl, rfl, E1, bg1, σ1, r, hK1, hp, ⟨by rw [ht]; exact hPc2, va_K.moved hW.alike hK4, hD1⟩, by rw [ht]; exact (by rw [if_pos c_7]; exact hPo2)⟩, hS2.F ht⟩) hS2.2.2 dL_crash_23
  · refine lv_lconst (v := 1) hx hb dL_crash_10 (by decide) ?_
    refine lv_goto (tgt := 15) hx hb dL_crash_11 (by decide) ?_
    refine va_last hx hb hK hPj hDj hS _ 4 hat rfl (by unfold vp_in; decide +kernel) dL_crash_15 (fun H2 locs2 hP2 hD2 hS2 => ?_)
    rw [set_last] at hP2
    have hPc2 : va_P D vwCl (cW cI cN cO E1 n bg1 σ1) H2 := hP2.by (fun k => k) (fun k q h => by rw [List.getElem?_append_left (List.getElem?_eq_some_iff.mp h).1]; exact h)
    have hPo2 : va_P D vwCl [(oo, .inl (cL, 1, .inr (.inl (vp_updL fo (0 : Int32).toNatClampNeg 1))))] H2 := hP2.by (fun k => (cW cI cN cO E1 n bg1 σ1).length + k) (fun k q h => by rw [List.getElem?_append_right (Nat.le_add_right _ _), Nat.add_sub_cancel_left]; exact h)
    refine lv_goto (tgt := 22) hx hb dL_crash_16 (by decide) ?_
    refine lv_iconst (v := 0) hx hb dL_crash_22 (by decide) ?_
    refine W.widen (k := mc) (n := ms) (by omega) (by omega) ?_
    exact W.iret (v := 0) hx hb hr (fun t ht hW => ⟨⟨_, (), rfl, rfl, E1, bg1, σ1, r, hK1, hp, ⟨by rw [ht]; exact hPc2, va_K.moved hW.alike hK4, hD1⟩, by rw [ht]; exact (by rw [if_neg c_7]; exact hPo2)⟩, hS2.F ht⟩) hS2.2.2 dL_crash_23
set_option maxHeartbeats 4000000 in
set_option maxRecDepth 100000 in
theorem h_update_no (l : Launch) (D : va_G) (cI cZ cN cO : ClassId) (A : Nat → Prop) (E : CE) (n bg : Nat) (σ : CS) (p0 p1 p2 p3 : Int32) (oo sz sa : Nat) (ok : cOK n bg σ) (hst : l.stackTraces = false) (hno : ¬ isN n p0) : Met l yL_update (.codeWith yL_update cL_update 7 (some .int) [(0, 14, 17, 13), (0, 14, 21, 15)] :: gw) ({ frames := 7, cells := 1, slots := 6, locals := 106 }) (va_Pc [.ref ((E.1 0)), .int p0, .int p1, .int p2, .int p3, .ref oo] (fun U => U.heap.size = sz ∧ cH D cI cZ cN cO A E n bg σ U ∧ vk_R RX3 39 "there is no such node" sa U ∧ gThB "java/lang/IndexOutOfBoundsException" U ∧ gThr (fun q : Nat => sz ≤ q) U U.heap)) (va_Qi (fun (r : Int32) (_ : Unit) => r = 1) (fun _ _ => True) (fun q : Nat => sz ≤ q)) 1 6 (fun q : Nat => sz ≤ q) := by
  refine va_MetW (cc := cL_update) (maxL := 7) (ret := (some .int)) (hh := [(0, 14, 17, 13), (0, 14, 21, 15)]) (by decide) rfl ?_
  intro p e s m args below meth c s₁ B hml hv
  obtain ⟨rfl, hsz, ⟨hP, hK, hD⟩, hR, hB, hT⟩ := hv
  have hx := B.exec
  have hb := B.bytes
  have hr := B.returns
  have hts := atoms_spec (ws := (.codeWith yL_update cL_update 7 (some .int) [(0, 14, 17, 13), (0, 14, 21, 15)] :: gw)) B.pre
  have hg : ∀ w ∈ gw, w.before _ s = true := fun w h => hts w (List.mem_cons_of_mem _ h)
  have htab := vx_table (x := yL_update) B (hts _ List.mem_cons_self)
  have hown : s.vm.findClass RL = some m.cls := findClass_of_methodNamed B.named
  have hlocks := B.notSynchronized
  subst hsz
  have hS : va_S (fun q : Nat => s.heap.size ≤ q) s.heap s.heap [] := va_S.rf
  have hl := lv_entry ([.ref ((E.1 0)), .int p0, .int p1, .int p2, .int p3, .ref oo]) (n := 7) (Nat.le_of_ble_eq_true rfl)
  rw [lg_entry_eq]
  generalize (lg_sl ([.ref ((E.1 0)), .int p0, .int p1, .int p2, .int p3, .ref oo]) ++ List.replicate (7 - (lg_sl ([.ref ((E.1 0)), .int p0, .int p1, .int p2, .int p3, .ref oo])).length) Slot.unset).toArray = ls at hl ⊢
  have hl : lv_has ls 7 [(0, .ref ((E.1 0))), (1, .int p0), (2, .int p1), (3, .int p2), (4, .int p3), (5, .ref oo)] := hl
  refine lv_aload hx hb dL_update_0 (lv_at hl 5 rfl) ?_
  refine lv_iconst (v := 0) hx hb dL_update_2 (by decide) ?_
  refine lv_aload_n hx hb dL_update_3 rfl (lv_at hl 0 rfl) ?_
  refine lv_iload_n hx hb dL_update_4 rfl (lv_at hl 1 rfl) ?_
  refine lv_iload_n hx hb dL_update_5 rfl (lv_at hl 2 rfl) ?_
  refine lv_iload_n hx hb dL_update_6 rfl (lv_at hl 3 rfl) ?_
  refine lv_iload hx hb dL_update_7 (lv_at hl 4 rfl) ?_
  refine vx_calli (vx_runV (As := [.int p0, .int p1, .int p2, .int p3]) (rest := [.int 0, .ref oo]) ⟨hx, hb, hml, hown, hg⟩ (x_update_no l D cI cZ cN cO A E n bg σ p0 p1 p2 p3 s.heap.size sa ok hst hno) (cwV 4 hg (gw_V kM_L_7 kI_X3_update kS_X3_update kN_X3 kD_X3_update) rfl rfl rfl (by decide +kernel) ⟨Nat.le_of_ble_eq_true rfl, Nat.le_of_ble_eq_true rfl⟩) ⟨fun a U g mk q => by obtain ⟨q0, q1, qP, qR, qB, qT⟩ := q; exact ⟨q0, q1, ⟨qP.1, va_K.moved (u := U) (U := U.calling g mk a) (Vm.Alike.refl U.vm) qP.2.1, qP.2.2⟩, vk_R.same rfl qR, gThB.same (u := U) (U := U.calling g mk a) rfl qB, gThr.moved (u := U) (U := U.calling g mk a) (Vm.Alike.refl U.vm) qT⟩, va_recv (q := (RX3, TX3, 9)) hK hP (ci := 3) (q0 := 0) rfl ((cW_fix (by decide)).trans rfl), fun U hU hW => ⟨rfl, by rw [hU], ⟨by rw [hU]; exact hP, va_K.moved hW.alike hK, hD⟩, vk_R.warm hW hR, gThB.warm hW hB, by rw [hU]; exact gThr.moved hW.alike hT⟩⟩ rfl rfl hl.1 rfl (lv_room (Nat.le_of_ble_eq_true rfl)) dL_update_9 ⟨Nat.le_of_ble_eq_true rfl, Nat.le_of_ble_eq_true rfl⟩) hS (fun q _ h => h) (fun q h => h) (fun q _ h => h) (fun E ce q9 u t H1 locs ht hvm hp hE hz hk hS hce hcv hcl => ?_) (fun r u t H1 locs ht hvm hp hB1 hz hk hS => hp.elim)
  subst hE
  refine vx_catch (own := RL) (name := "java/lang/IndexOutOfBoundsException") hown [] ⟨0, 14, 17, 13⟩ [⟨0, 14, 21, 15⟩] (by rw [htab]; rfl) (fun z hz => by cases hz) (by decide) (by decide) (hg _ kC_L_13) (hB.use _ (by simp [thB])) hce hcv hcl ?_
  refine lv_astore (lv' := [(6, .ref q9), (0, .ref ((E.1 0))), (1, .int p0), (2, .int p1), (3, .int p2), (4, .int p3), (5, .ref oo)]) hx hb dL_update_17 hl (by decide) rfl (fun ls hl => ?_)
  refine lv_iconst (v := 1) hx hb dL_update_19 (by decide) ?_
  exact W.iret (v := 1) hx hb hr (fun t ht hW => ⟨⟨_, (), rfl, rfl, trivial⟩, hS.F ht⟩) hS.2.2 dL_update_20
set_option maxHeartbeats 4000000 in
set_option maxRecDepth 100000 in
theorem h_update_bad (l : Launch) (D : va_G) (cI cZ cN cO : ClassId) (A : Nat → Prop) (E : CE) (n bg : Nat) (σ : CS) (p0 p1 p2 p3 : Int32) (oo sz sa : Nat) (ok : cOK n bg σ) (hst : l.stackTraces = false) (hy : isN n p0) (hbad : p1 < 0 ∨ ¬ p1 ≤ 3) : Met l yL_update (.codeWith yL_update cL_update 7 (some .int) [(0, 14, 17, 13), (0, 14, 21, 15)] :: gw) ({ frames := 7, cells := 1, slots := 6, locals := 106 }) (va_Pc [.ref ((E.1 0)), .int p0, .int p1, .int p2, .int p3, .ref oo] (fun U => U.heap.size = sz ∧ cH D cI cZ cN cO A E n bg σ U ∧ vk_R RX3 46 "the kind of an update is 0 .. 3" sa U ∧ gThB "java/lang/IllegalArgumentException" U ∧ gThr (fun q : Nat => sz ≤ q) U U.heap ∧ va_Nc "java/lang/IllegalArgumentException" "java/lang/IndexOutOfBoundsException" U)) (va_Qi (fun (r : Int32) (_ : Unit) => r = 2) (fun _ _ => True) (fun q : Nat => sz ≤ q)) 1 6 (fun q : Nat => sz ≤ q) := by
  refine va_MetW (cc := cL_update) (maxL := 7) (ret := (some .int)) (hh := [(0, 14, 17, 13), (0, 14, 21, 15)]) (by decide) rfl ?_
  intro p e s m args below meth c s₁ B hml hv
  obtain ⟨rfl, hsz, ⟨hP, hK, hD⟩, hR, hB, hT, hNc⟩ := hv
  have hx := B.exec
  have hb := B.bytes
  have hr := B.returns
  have hts := atoms_spec (ws := (.codeWith yL_update cL_update 7 (some .int) [(0, 14, 17, 13), (0, 14, 21, 15)] :: gw)) B.pre
  have hg : ∀ w ∈ gw, w.before _ s = true := fun w h => hts w (List.mem_cons_of_mem _ h)
  have htab := vx_table (x := yL_update) B (hts _ List.mem_cons_self)
  have hown : s.vm.findClass RL = some m.cls := findClass_of_methodNamed B.named
  have hlocks := B.notSynchronized
  subst hsz
  have hS : va_S (fun q : Nat => s.heap.size ≤ q) s.heap s.heap [] := va_S.rf
  have hl := lv_entry ([.ref ((E.1 0)), .int p0, .int p1, .int p2, .int p3, .ref oo]) (n := 7) (Nat.le_of_ble_eq_true rfl)
  rw [lg_entry_eq]
  generalize (lg_sl ([.ref ((E.1 0)), .int p0, .int p1, .int p2, .int p3, .ref oo]) ++ List.replicate (7 - (lg_sl ([.ref ((E.1 0)), .int p0, .int p1, .int p2, .int p3, .ref oo])).length) Slot.unset).toArray = ls at hl ⊢
  have hl : lv_has ls 7 [(0, .ref ((E.1 0))), (1, .int p0), (2, .int p1), (3, .int p2), (4, .int p3), (5, .ref oo)] := hl
  refine lv_aload hx hb dL_update_0 (lv_at hl 5 rfl) ?_
  refine lv_iconst (v := 0) hx hb dL_update_2 (by decide) ?_
  refine lv_aload_n hx hb dL_update_3 rfl (lv_at hl 0 rfl) ?_
  refine lv_iload_n hx hb dL_update_4 rfl (lv_at hl 1 rfl) ?_
  refine lv_iload_n hx hb dL_update_5 rfl (lv_at hl 2 rfl) ?_
  refine lv_iload_n hx hb dL_update_6 rfl (lv_at hl 3 rfl) ?_
  refine lv_iload hx hb dL_update_7 (lv_at hl 4 rfl) ?_
  refine vx_calli (vx_runV (As := [.int p0, .int p1, .int p2, .int p3]) (rest := [.int 0, .ref oo]) ⟨hx, hb, hml, hown, hg⟩ (x_update_bad l D cI cZ cN cO A E n bg σ p0 p1 p2 p3 s.heap.size sa ok hst hy hbad) (cwV 4 hg (gw_V kM_L_7 kI_X3_update kS_X3_update kN_X3 kD_X3_update) rfl rfl rfl (by decide +kernel) ⟨Nat.le_of_ble_eq_true rfl, Nat.le_of_ble_eq_true rfl⟩) ⟨fun a U g mk q => by obtain ⟨q0, q1, qP, qR, qB, qT⟩ := q; exact ⟨q0, q1, ⟨qP.1, va_K.moved (u := U) (U := U.calling g mk a) (Vm.Alike.refl U.vm) qP.2.1, qP.2.2⟩, vk_R.same rfl qR, gThB.same (u := U) (U := U.calling g mk a) rfl qB, gThr.moved (u := U) (U := U.calling g mk a) (Vm.Alike.refl U.vm) qT⟩, va_recv (q := (RX3, TX3, 9)) hK hP (ci := 3) (q0 := 0) rfl ((cW_fix (by decide)).trans rfl), fun U hU hW => ⟨rfl, by rw [hU], ⟨by rw [hU]; exact hP, va_K.moved hW.alike hK, hD⟩, vk_R.warm hW hR, gThB.warm hW hB, by rw [hU]; exact gThr.moved hW.alike hT⟩⟩ rfl rfl hl.1 rfl (lv_room (Nat.le_of_ble_eq_true rfl)) dL_update_9 ⟨Nat.le_of_ble_eq_true rfl, Nat.le_of_ble_eq_true rfl⟩) hS (fun q _ h => h) (fun q h => h) (fun q _ h => h) (fun E ce q9 u t H1 locs ht hvm hp hE hz hk hS hce hcv hcl => ?_) (fun r u t H1 locs ht hvm hp hB1 hz hk hS => hp.elim)
  subst hE
  refine vx_catch (own := RL) (name := "java/lang/IllegalArgumentException") hown [⟨0, 14, 17, 13⟩] ⟨0, 14, 21, 15⟩ [] (by rw [htab]; rfl) (fun z hz => by rw [List.mem_singleton] at hz; subst hz; exact Or.inr ⟨by decide, "java/lang/IndexOutOfBoundsException", hg _ kC_L_13, hNc⟩) (by decide) (by decide) (hg _ kC_L_15) (hB.use _ (by simp [thB])) hce hcv hcl ?_
  refine lv_astore (lv' := [(6, .ref q9), (0, .ref ((E.1 0))), (1, .int p0), (2, .int p1), (3, .int p2), (4, .int p3), (5, .ref oo)]) hx hb dL_update_21 hl (by decide) rfl (fun ls hl => ?_)
  refine lv_iconst (v := 2) hx hb dL_update_23 (by decide) ?_
  exact W.iret (v := 2) hx hb hr (fun t ht hW => ⟨⟨_, (), rfl, rfl, trivial⟩, hS.F ht⟩) hS.2.2 dL_update_24
set_option maxHeartbeats 4000000 in
set_option maxRecDepth 100000 in
theorem h_query_no (l : Launch) (D : va_G) (cI cZ cN cO : ClassId) (A : Nat → Prop) (E : CE) (n bg : Nat) (σ : CS) (p0 p1 p2 : Int32) (oo sz sa : Nat) (ok : cOK n bg σ) (hst : l.stackTraces = false) (hno : ¬ isN n p0) : Met l yL_query (.codeWith yL_query cL_query 6 (some .int) [(0, 12, 15, 13), (0, 12, 19, 15)] :: gw) ({ frames := 7, cells := 1, slots := 6, locals := 105 }) (va_Pc [.ref ((E.1 0)), .int p0, .int p1, .int p2, .ref oo] (fun U => U.heap.size = sz ∧ cH D cI cZ cN cO A E n bg σ U ∧ vk_R RX3 39 "there is no such node" sa U ∧ gThB "java/lang/IndexOutOfBoundsException" U ∧ gThr (fun q : Nat => sz ≤ q) U U.heap)) (va_Qi (fun (r : Int32) (_ : Unit) => r = 1) (fun _ _ => True) (fun q : Nat => sz ≤ q)) 1 6 (fun q : Nat => sz ≤ q) := by
  refine va_MetW (cc := cL_query) (maxL := 6) (ret := (some .int)) (hh := [(0, 12, 15, 13), (0, 12, 19, 15)]) (by decide) rfl ?_
  intro p e s m args below meth c s₁ B hml hv
  obtain ⟨rfl, hsz, ⟨hP, hK, hD⟩, hR, hB, hT⟩ := hv
  have hx := B.exec
  have hb := B.bytes
  have hr := B.returns
  have hts := atoms_spec (ws := (.codeWith yL_query cL_query 6 (some .int) [(0, 12, 15, 13), (0, 12, 19, 15)] :: gw)) B.pre
  have hg : ∀ w ∈ gw, w.before _ s = true := fun w h => hts w (List.mem_cons_of_mem _ h)
  have htab := vx_table (x := yL_query) B (hts _ List.mem_cons_self)
  have hown : s.vm.findClass RL = some m.cls := findClass_of_methodNamed B.named
  have hlocks := B.notSynchronized
  subst hsz
  have hS : va_S (fun q : Nat => s.heap.size ≤ q) s.heap s.heap [] := va_S.rf
  have hl := lv_entry ([.ref ((E.1 0)), .int p0, .int p1, .int p2, .ref oo]) (n := 6) (Nat.le_of_ble_eq_true rfl)
  rw [lg_entry_eq]
  generalize (lg_sl ([.ref ((E.1 0)), .int p0, .int p1, .int p2, .ref oo]) ++ List.replicate (6 - (lg_sl ([.ref ((E.1 0)), .int p0, .int p1, .int p2, .ref oo])).length) Slot.unset).toArray = ls at hl ⊢
  have hl : lv_has ls 6 [(0, .ref ((E.1 0))), (1, .int p0), (2, .int p1), (3, .int p2), (4, .ref oo)] := hl
  refine lv_aload hx hb dL_query_0 (lv_at hl 4 rfl) ?_
  refine lv_iconst (v := 0) hx hb dL_query_2 (by decide) ?_
  refine lv_aload_n hx hb dL_query_3 rfl (lv_at hl 0 rfl) ?_
  refine lv_iload_n hx hb dL_query_4 rfl (lv_at hl 1 rfl) ?_
  refine lv_iload_n hx hb dL_query_5 rfl (lv_at hl 2 rfl) ?_
  refine lv_iload_n hx hb dL_query_6 rfl (lv_at hl 3 rfl) ?_
  refine vx_calli (vx_runV (As := [.int p0, .int p1, .int p2]) (rest := [.int 0, .ref oo]) ⟨hx, hb, hml, hown, hg⟩ (x_query_no l D cI cZ cN cO A E n bg σ p0 p1 p2 s.heap.size sa ok hst hno) (cwV 3 hg (gw_V kM_L_17 kI_X3_query kS_X3_query kN_X3 kD_X3_query) rfl rfl rfl (by decide +kernel) ⟨Nat.le_of_ble_eq_true rfl, Nat.le_of_ble_eq_true rfl⟩) ⟨fun a U g mk q => by obtain ⟨q0, q1, qP, qR, qB, qT⟩ := q; exact ⟨q0, q1, ⟨qP.1, va_K.moved (u := U) (U := U.calling g mk a) (Vm.Alike.refl U.vm) qP.2.1, qP.2.2⟩, vk_R.same rfl qR, gThB.same (u := U) (U := U.calling g mk a) rfl qB, gThr.moved (u := U) (U := U.calling g mk a) (Vm.Alike.refl U.vm) qT⟩, va_recv (q := (RX3, TX3, 9)) hK hP (ci := 3) (q0 := 0) rfl ((cW_fix (by decide)).trans rfl), fun U hU hW => ⟨rfl, by rw [hU], ⟨by rw [hU]; exact hP, va_K.moved hW.alike hK, hD⟩, vk_R.warm hW hR, gThB.warm hW hB, by rw [hU]; exact gThr.moved hW.alike hT⟩⟩ rfl rfl hl.1 rfl (lv_room (Nat.le_of_ble_eq_true rfl)) dL_query_7 ⟨Nat.le_of_ble_eq_true rfl, Nat.le_of_ble_eq_true rfl⟩) hS (fun q _ h => h) (fun q h => h) (fun q _ h => h) (fun E ce q9 u t H1 locs ht hvm hp hE hz hk hS hce hcv hcl => ?_) (fun r u t H1 locs ht hvm hp hB1 hz hk hS => hp.elim)
  subst hE
  refine vx_catch (own := RL) (name := "java/lang/IndexOutOfBoundsException") hown [] ⟨0, 12, 15, 13⟩ [⟨0, 12, 19, 15⟩] (by rw [htab]; rfl) (fun z hz => by cases hz) (by decide) (by decide) (hg _ kC_L_13) (hB.use _ (by simp [thB])) hce hcv hcl ?_
  refine lv_astore (lv' := [(5, .ref q9), (0, .ref ((E.1 0))), (1, .int p0), (2, .int p1), (3, .int p2), (4, .ref oo)]) hx hb dL_query_15 hl (by decide) rfl (fun ls hl => ?_)
  refine lv_iconst (v := 1) hx hb dL_query_17 (by decide) ?_
  exact W.iret (v := 1) hx hb hr (fun t ht hW => ⟨⟨_, (), rfl, rfl, trivial⟩, hS.F ht⟩) hS.2.2 dL_query_18
set_option maxHeartbeats 4000000 in
set_option maxRecDepth 100000 in
theorem h_query_bad (l : Launch) (D : va_G) (cI cZ cN cO : ClassId) (A : Nat → Prop) (E : CE) (n bg : Nat) (σ : CS) (p0 p1 p2 : Int32) (oo sz sa : Nat) (ok : cOK n bg σ) (hst : l.stackTraces = false) (hy : isN n p0) (hbad : p1 < 10 ∨ ¬ p1 ≤ 15) : Met l yL_query (.codeWith yL_query cL_query 6 (some .int) [(0, 12, 15, 13), (0, 12, 19, 15)] :: gw) ({ frames := 7, cells := 1, slots := 6, locals := 105 }) (va_Pc [.ref ((E.1 0)), .int p0, .int p1, .int p2, .ref oo] (fun U => U.heap.size = sz ∧ cH D cI cZ cN cO A E n bg σ U ∧ vk_R RX3 53 "the kind of a query is 10 .. 15" sa U ∧ gThB "java/lang/IllegalArgumentException" U ∧ gThr (fun q : Nat => sz ≤ q) U U.heap ∧ va_Nc "java/lang/IllegalArgumentException" "java/lang/IndexOutOfBoundsException" U)) (va_Qi (fun (r : Int32) (_ : Unit) => r = 2) (fun _ _ => True) (fun q : Nat => sz ≤ q)) 1 6 (fun q : Nat => sz ≤ q) := by
  refine va_MetW (cc := cL_query) (maxL := 6) (ret := (some .int)) (hh := [(0, 12, 15, 13), (0, 12, 19, 15)]) (by decide) rfl ?_
  intro p e s m args below meth c s₁ B hml hv
  obtain ⟨rfl, hsz, ⟨hP, hK, hD⟩, hR, hB, hT, hNc⟩ := hv
  have hx := B.exec
  have hb := B.bytes
  have hr := B.returns
  have hts := atoms_spec (ws := (.codeWith yL_query cL_query 6 (some .int) [(0, 12, 15, 13), (0, 12, 19, 15)] :: gw)) B.pre
  have hg : ∀ w ∈ gw, w.before _ s = true := fun w h => hts w (List.mem_cons_of_mem _ h)
  have htab := vx_table (x := yL_query) B (hts _ List.mem_cons_self)
  have hown : s.vm.findClass RL = some m.cls := findClass_of_methodNamed B.named
  have hlocks := B.notSynchronized
  subst hsz
  have hS : va_S (fun q : Nat => s.heap.size ≤ q) s.heap s.heap [] := va_S.rf
  have hl := lv_entry ([.ref ((E.1 0)), .int p0, .int p1, .int p2, .ref oo]) (n := 6) (Nat.le_of_ble_eq_true rfl)
  rw [lg_entry_eq]
  generalize (lg_sl ([.ref ((E.1 0)), .int p0, .int p1, .int p2, .ref oo]) ++ List.replicate (6 - (lg_sl ([.ref ((E.1 0)), .int p0, .int p1, .int p2, .ref oo])).length) Slot.unset).toArray = ls at hl ⊢
  have hl : lv_has ls 6 [(0, .ref ((E.1 0))), (1, .int p0), (2, .int p1), (3, .int p2), (4, .ref oo)] := hl
  refine lv_aload hx hb dL_query_0 (lv_at hl 4 rfl) ?_
  refine lv_iconst (v := 0) hx hb dL_query_2 (by decide) ?_
  refine lv_aload_n hx hb dL_query_3 rfl (lv_at hl 0 rfl) ?_
  refine lv_iload_n hx hb dL_query_4 rfl (lv_at hl 1 rfl) ?_
  refine lv_iload_n hx hb dL_query_5 rfl (lv_at hl 2 rfl) ?_
  refine lv_iload_n hx hb dL_query_6 rfl (lv_at hl 3 rfl) ?_
  refine vx_calli (vx_runV (As := [.int p0, .int p1, .int p2]) (rest := [.int 0, .ref oo]) ⟨hx, hb, hml, hown, hg⟩ (x_query_bad l D cI cZ cN cO A E n bg σ p0 p1 p2 s.heap.size sa ok hst hy hbad) (cwV 3 hg (gw_V kM_L_17 kI_X3_query kS_X3_query kN_X3 kD_X3_query) rfl rfl rfl (by decide +kernel) ⟨Nat.le_of_ble_eq_true rfl, Nat.le_of_ble_eq_true rfl⟩) ⟨fun a U g mk q => by obtain ⟨q0, q1, qP, qR, qB, qT⟩ := q; exact ⟨q0, q1, ⟨qP.1, va_K.moved (u := U) (U := U.calling g mk a) (Vm.Alike.refl U.vm) qP.2.1, qP.2.2⟩, vk_R.same rfl qR, gThB.same (u := U) (U := U.calling g mk a) rfl qB, gThr.moved (u := U) (U := U.calling g mk a) (Vm.Alike.refl U.vm) qT⟩, va_recv (q := (RX3, TX3, 9)) hK hP (ci := 3) (q0 := 0) rfl ((cW_fix (by decide)).trans rfl), fun U hU hW => ⟨rfl, by rw [hU], ⟨by rw [hU]; exact hP, va_K.moved hW.alike hK, hD⟩, vk_R.warm hW hR, gThB.warm hW hB, by rw [hU]; exact gThr.moved hW.alike hT⟩⟩ rfl rfl hl.1 rfl (lv_room (Nat.le_of_ble_eq_true rfl)) dL_query_7 ⟨Nat.le_of_ble_eq_true rfl, Nat.le_of_ble_eq_true rfl⟩) hS (fun q _ h => h) (fun q h => h) (fun q _ h => h) (fun E ce q9 u t H1 locs ht hvm hp hE hz hk hS hce hcv hcl => ?_) (fun r u t H1 locs ht hvm hp hB1 hz hk hS => hp.elim)
  subst hE
  refine vx_catch (own := RL) (name := "java/lang/IllegalArgumentException") hown [⟨0, 12, 15, 13⟩] ⟨0, 12, 19, 15⟩ [] (by rw [htab]; rfl) (fun z hz => by rw [List.mem_singleton] at hz; subst hz; exact Or.inr ⟨by decide, "java/lang/IndexOutOfBoundsException", hg _ kC_L_13, hNc⟩) (by decide) (by decide) (hg _ kC_L_15) (hB.use _ (by simp [thB])) hce hcv hcl ?_
  refine lv_astore (lv' := [(5, .ref q9), (0, .ref ((E.1 0))), (1, .int p0), (2, .int p1), (3, .int p2), (4, .ref oo)]) hx hb dL_query_19 hl (by decide) rfl (fun ls hl => ?_)
  refine lv_iconst (v := 2) hx hb dL_query_21 (by decide) ?_
  exact W.iret (v := 2) hx hb hr (fun t ht hW => ⟨⟨_, (), rfl, rfl, trivial⟩, hS.F ht⟩) hS.2.2 dL_query_22
set_option maxHeartbeats 4000000 in
set_option maxRecDepth 100000 in
theorem h_deliver_no (l : Launch) (D : va_G) (cI cZ cN cO : ClassId) (A : Nat → Prop) (E : CE) (n bg : Nat) (σ : CS) (p0 : Int32) (oo sz sa : Nat) (ok : cOK n bg σ) (hst : l.stackTraces = false) (hno : ¬ holds σ p0) : Met l yL_deliver (.codeWith yL_deliver cL_deliver 4 (some .int) [(0, 9, 12, 13)] :: gw) ({ frames := 7, cells := 1, slots := 6, locals := 103 }) (va_Pc [.ref ((E.1 0)), .int p0, .ref oo] (fun U => U.heap.size = sz ∧ cH D cI cZ cN cO A E n bg σ U ∧ vk_R RX3 58 "there is no such message" sa U ∧ gThB "java/lang/IndexOutOfBoundsException" U ∧ gThr (fun q : Nat => sz ≤ q) U U.heap)) (va_Qi (fun (r : Int32) (_ : Unit) => r = 1) (fun _ _ => True) (fun q : Nat => sz ≤ q)) 1 6 (fun q : Nat => sz ≤ q) := by
  refine va_MetW (cc := cL_deliver) (maxL := 4) (ret := (some .int)) (hh := [(0, 9, 12, 13)]) (by decide) rfl ?_
  intro p e s m args below meth c s₁ B hml hv
  obtain ⟨rfl, hsz, ⟨hP, hK, hD⟩, hR, hB, hT⟩ := hv
  have hx := B.exec
  have hb := B.bytes
  have hr := B.returns
  have hts := atoms_spec (ws := (.codeWith yL_deliver cL_deliver 4 (some .int) [(0, 9, 12, 13)] :: gw)) B.pre
  have hg : ∀ w ∈ gw, w.before _ s = true := fun w h => hts w (List.mem_cons_of_mem _ h)
  have htab := vx_table (x := yL_deliver) B (hts _ List.mem_cons_self)
  have hown : s.vm.findClass RL = some m.cls := findClass_of_methodNamed B.named
  have hlocks := B.notSynchronized
  subst hsz
  have hS : va_S (fun q : Nat => s.heap.size ≤ q) s.heap s.heap [] := va_S.rf
  have hl := lv_entry ([.ref ((E.1 0)), .int p0, .ref oo]) (n := 4) (Nat.le_of_ble_eq_true rfl)
  rw [lg_entry_eq]
  generalize (lg_sl ([.ref ((E.1 0)), .int p0, .ref oo]) ++ List.replicate (4 - (lg_sl ([.ref ((E.1 0)), .int p0, .ref oo])).length) Slot.unset).toArray = ls at hl ⊢
  have hl : lv_has ls 4 [(0, .ref ((E.1 0))), (1, .int p0), (2, .ref oo)] := hl
  refine lv_aload_n hx hb dL_deliver_0 rfl (lv_at hl 2 rfl) ?_
  refine lv_iconst (v := 0) hx hb dL_deliver_1 (by decide) ?_
  refine lv_aload_n hx hb dL_deliver_2 rfl (lv_at hl 0 rfl) ?_
  refine lv_iload_n hx hb dL_deliver_3 rfl (lv_at hl 1 rfl) ?_
  refine vx_calli (vx_runV (As := [.int p0]) (rest := [.int 0, .ref oo]) ⟨hx, hb, hml, hown, hg⟩ (x_deliver_no l D cI cZ cN cO A E n bg σ p0 s.heap.size sa ok hst hno) (cwV 1 hg (gw_V kM_L_21 kI_X3_deliver kS_X3_deliver kN_X3 kD_X3_deliver) rfl rfl rfl (by decide +kernel) ⟨Nat.le_of_ble_eq_true rfl, Nat.le_of_ble_eq_true rfl⟩) ⟨fun a U g mk q => by obtain ⟨q0, q1, qP, qR, qB, qT⟩ := q; exact ⟨q0, q1, ⟨qP.1, va_K.moved (u := U) (U := U.calling g mk a) (Vm.Alike.refl U.vm) qP.2.1, qP.2.2⟩, vk_R.same rfl qR, gThB.same (u := U) (U := U.calling g mk a) rfl qB, gThr.moved (u := U) (U := U.calling g mk a) (Vm.Alike.refl U.vm) qT⟩, va_recv (q := (RX3, TX3, 9)) hK hP (ci := 3) (q0 := 0) rfl ((cW_fix (by decide)).trans rfl), fun U hU hW => ⟨rfl, by rw [hU], ⟨by rw [hU]; exact hP, va_K.moved hW.alike hK, hD⟩, vk_R.warm hW hR, gThB.warm hW hB, by rw [hU]; exact gThr.moved hW.alike hT⟩⟩ rfl rfl hl.1 rfl (lv_room (Nat.le_of_ble_eq_true rfl)) dL_deliver_4 ⟨Nat.le_of_ble_eq_true rfl, Nat.le_of_ble_eq_true rfl⟩) hS (fun q _ h => h) (fun q h => h) (fun q _ h => h) (fun E ce q9 u t H1 locs ht hvm hp hE hz hk hS hce hcv hcl => ?_) (fun r u t H1 locs ht hvm hp hB1 hz hk hS => hp.elim)
  subst hE
  refine vx_catch (own := RL) (name := "java/lang/IndexOutOfBoundsException") hown [] ⟨0, 9, 12, 13⟩ [] (by rw [htab]; rfl) (fun z hz => by cases hz) (by decide) (by decide) (hg _ kC_L_13) (hB.use _ (by simp [thB])) hce hcv hcl ?_
  refine lv_astore_n (lv' := [(3, .ref q9), (0, .ref ((E.1 0))), (1, .int p0), (2, .ref oo)]) hx hb dL_deliver_12 rfl hl (by decide) rfl (fun ls hl => ?_)
  refine lv_iconst (v := 1) hx hb dL_deliver_13 (by decide) ?_
  exact W.iret (v := 1) hx hb hr (fun t ht hW => ⟨⟨_, (), rfl, rfl, trivial⟩, hS.F ht⟩) hS.2.2 dL_deliver_14
set_option maxHeartbeats 4000000 in
set_option maxRecDepth 100000 in
theorem h_calm_bad (l : Launch) (D : va_G) (cI cZ cN cO : ClassId) (A : Nat → Prop) (E : CE) (n bg : Nat) (σ : CS) (p0 : Int32) (oo sz sa : Nat) (ok : cOK n bg σ) (hst : l.stackTraces = false) (hbad : p0 < 0 ∨ ¬ p0 ≤ 2000) : Met l yL_calm (.codeWith yL_calm cL_calm 4 (some .int) [(0, 9, 12, 15)] :: gw) ({ frames := 7, cells := 1, slots := 6, locals := 104 }) (va_Pc [.ref ((E.1 0)), .int p0, .ref oo] (fun U => U.heap.size = sz ∧ cH D cI cZ cN cO A E n bg σ U ∧ vk_R RX3 64 "calm takes 0 .. 2,000 messages" sa U ∧ gThB "java/lang/IllegalArgumentException" U ∧ gThr (fun q : Nat => sz ≤ q) U U.heap)) (va_Qi (fun (r : Int32) (_ : Unit) => r = 1) (fun _ _ => True) (fun q : Nat => sz ≤ q)) 1 6 (fun q : Nat => sz ≤ q) := by
  refine va_MetW (cc := cL_calm) (maxL := 4) (ret := (some .int)) (hh := [(0, 9, 12, 15)]) (by decide) rfl ?_
  intro p e s m args below meth c s₁ B hml hv
  obtain ⟨rfl, hsz, ⟨hP, hK, hD⟩, hR, hB, hT⟩ := hv
  have hx := B.exec
  have hb := B.bytes
  have hr := B.returns
  have hts := atoms_spec (ws := (.codeWith yL_calm cL_calm 4 (some .int) [(0, 9, 12, 15)] :: gw)) B.pre
  have hg : ∀ w ∈ gw, w.before _ s = true := fun w h => hts w (List.mem_cons_of_mem _ h)
  have htab := vx_table (x := yL_calm) B (hts _ List.mem_cons_self)
  have hown : s.vm.findClass RL = some m.cls := findClass_of_methodNamed B.named
  have hlocks := B.notSynchronized
  subst hsz
  have hS : va_S (fun q : Nat => s.heap.size ≤ q) s.heap s.heap [] := va_S.rf
  have hl := lv_entry ([.ref ((E.1 0)), .int p0, .ref oo]) (n := 4) (Nat.le_of_ble_eq_true rfl)
  rw [lg_entry_eq]
  generalize (lg_sl ([.ref ((E.1 0)), .int p0, .ref oo]) ++ List.replicate (4 - (lg_sl ([.ref ((E.1 0)), .int p0, .ref oo])).length) Slot.unset).toArray = ls at hl ⊢
  have hl : lv_has ls 4 [(0, .ref ((E.1 0))), (1, .int p0), (2, .ref oo)] := hl
  refine lv_aload_n hx hb dL_calm_0 rfl (lv_at hl 2 rfl) ?_
  refine lv_iconst (v := 0) hx hb dL_calm_1 (by decide) ?_
  refine lv_aload_n hx hb dL_calm_2 rfl (lv_at hl 0 rfl) ?_
  refine lv_iload_n hx hb dL_calm_3 rfl (lv_at hl 1 rfl) ?_
  refine vx_calli (vx_runV (As := [.int p0]) (rest := [.int 0, .ref oo]) ⟨hx, hb, hml, hown, hg⟩ (x_calm_bad l D cI cZ cN cO A E n bg σ p0 s.heap.size sa ok hst hbad) (cwV 1 hg (gw_V kM_L_25 kI_X3_calm kS_X3_calm kN_X3 kD_X3_calm) rfl rfl rfl (by decide +kernel) ⟨Nat.le_of_ble_eq_true rfl, Nat.le_of_ble_eq_true rfl⟩) ⟨fun a U g mk q => by obtain ⟨q0, q1, qP, qR, qB, qT⟩ := q; exact ⟨q0, q1, ⟨qP.1, va_K.moved (u := U) (U := U.calling g mk a) (Vm.Alike.refl U.vm) qP.2.1, qP.2.2⟩, vk_R.same rfl qR, gThB.same (u := U) (U := U.calling g mk a) rfl qB, gThr.moved (u := U) (U := U.calling g mk a) (Vm.Alike.refl U.vm) qT⟩, va_recv (q := (RX3, TX3, 9)) hK hP (ci := 3) (q0 := 0) rfl ((cW_fix (by decide)).trans rfl), fun U hU hW => ⟨rfl, by rw [hU], ⟨by rw [hU]; exact hP, va_K.moved hW.alike hK, hD⟩, vk_R.warm hW hR, gThB.warm hW hB, by rw [hU]; exact gThr.moved hW.alike hT⟩⟩ rfl rfl hl.1 rfl (lv_room (Nat.le_of_ble_eq_true rfl)) dL_calm_4 ⟨Nat.le_of_ble_eq_true rfl, Nat.le_of_ble_eq_true rfl⟩) hS (fun q _ h => h) (fun q h => h) (fun q _ h => h) (fun E ce q9 u t H1 locs ht hvm hp hE hz hk hS hce hcv hcl => ?_) (fun r u t H1 locs ht hvm hp hB1 hz hk hS => hp.elim)
  subst hE
  refine vx_catch (own := RL) (name := "java/lang/IllegalArgumentException") hown [] ⟨0, 9, 12, 15⟩ [] (by rw [htab]; rfl) (fun z hz => by cases hz) (by decide) (by decide) (hg _ kC_L_15) (hB.use _ (by simp [thB])) hce hcv hcl ?_
  refine lv_astore_n (lv' := [(3, .ref q9), (0, .ref ((E.1 0))), (1, .int p0), (2, .ref oo)]) hx hb dL_calm_12 rfl hl (by decide) rfl (fun ls hl => ?_)
  refine lv_iconst (v := 1) hx hb dL_calm_13 (by decide) ?_
  exact W.iret (v := 1) hx hb hr (fun t ht hW => ⟨⟨_, (), rfl, rfl, trivial⟩, hS.F ht⟩) hS.2.2 dL_calm_14
set_option maxHeartbeats 4000000 in
set_option maxRecDepth 100000 in
theorem h_crash_no (l : Launch) (D : va_G) (cI cZ cN cO : ClassId) (A : Nat → Prop) (E : CE) (n bg : Nat) (σ : CS) (p0 : Int32) (oo sz sa : Nat) (ok : cOK n bg σ) (hst : l.stackTraces = false) (hno : ¬ isN n p0) : Met l yL_crash (.codeWith yL_crash cL_crash 4 (some .int) [(0, 16, 19, 13)] :: gw) ({ frames := 7, cells := 1, slots := 6, locals := 104 }) (va_Pc [.ref ((E.1 0)), .int p0, .ref oo] (fun U => U.heap.size = sz ∧ cH D cI cZ cN cO A E n bg σ U ∧ vk_R RX3 39 "there is no such node" sa U ∧ gThB "java/lang/IndexOutOfBoundsException" U ∧ gThr (fun q : Nat => sz ≤ q) U U.heap)) (va_Qi (fun (r : Int32) (_ : Unit) => r = 1) (fun _ _ => True) (fun q : Nat => sz ≤ q)) 1 6 (fun q : Nat => sz ≤ q) := by
  refine va_MetW (cc := cL_crash) (maxL := 4) (ret := (some .int)) (hh := [(0, 16, 19, 13)]) (by decide) rfl ?_
  intro p e s m args below meth c s₁ B hml hv
  obtain ⟨rfl, hsz, ⟨hP, hK, hD⟩, hR, hB, hT⟩ := hv
  have hx := B.exec
  have hb := B.bytes
  have hr := B.returns
  have hts := atoms_spec (ws := (.codeWith yL_crash cL_crash 4 (some .int) [(0, 16, 19, 13)] :: gw)) B.pre
  have hg : ∀ w ∈ gw, w.before _ s = true := fun w h => hts w (List.mem_cons_of_mem _ h)
  have htab := vx_table (x := yL_crash) B (hts _ List.mem_cons_self)
  have hown : s.vm.findClass RL = some m.cls := findClass_of_methodNamed B.named
  have hlocks := B.notSynchronized
  subst hsz
  have hS : va_S (fun q : Nat => s.heap.size ≤ q) s.heap s.heap [] := va_S.rf
  have hl := lv_entry ([.ref ((E.1 0)), .int p0, .ref oo]) (n := 4) (Nat.le_of_ble_eq_true rfl)
  rw [lg_entry_eq]
  generalize (lg_sl ([.ref ((E.1 0)), .int p0, .ref oo]) ++ List.replicate (4 - (lg_sl ([.ref ((E.1 0)), .int p0, .ref oo])).length) Slot.unset).toArray = ls at hl ⊢
  have hl : lv_has ls 4 [(0, .ref ((E.1 0))), (1, .int p0), (2, .ref oo)] := hl
  refine lv_aload_n hx hb dL_crash_0 rfl (lv_at hl 2 rfl) ?_
  refine lv_iconst (v := 0) hx hb dL_crash_1 (by decide) ?_
  refine lv_aload_n hx hb dL_crash_2 rfl (lv_at hl 0 rfl) ?_
  refine lv_iload_n hx hb dL_crash_3 rfl (lv_at hl 1 rfl) ?_
  refine vx_calli (vx_runV (As := [.int p0]) (rest := [.int 0, .ref oo]) ⟨hx, hb, hml, hown, hg⟩ (x_crash_no l D cI cZ cN cO A E n bg σ p0 s.heap.size sa ok hst hno) (cwV 1 hg (gw_V kM_L_28 kI_X3_crash kS_X3_crash kN_X3 kD_X3_crash) rfl rfl rfl (by decide +kernel) ⟨Nat.le_of_ble_eq_true rfl, Nat.le_of_ble_eq_true rfl⟩) ⟨fun a U g mk q => by obtain ⟨q0, q1, qP, qR, qB, qT⟩ := q; exact ⟨q0, q1, ⟨qP.1, va_K.moved (u := U) (U := U.calling g mk a) (Vm.Alike.refl U.vm) qP.2.1, qP.2.2⟩, vk_R.same rfl qR, gThB.same (u := U) (U := U.calling g mk a) rfl qB, gThr.moved (u := U) (U := U.calling g mk a) (Vm.Alike.refl U.vm) qT⟩, va_recv (q := (RX3, TX3, 9)) hK hP (ci := 3) (q0 := 0) rfl ((cW_fix (by decide)).trans rfl), fun U hU hW => ⟨rfl, by rw [hU], ⟨by rw [hU]; exact hP, va_K.moved hW.alike hK, hD⟩, vk_R.warm hW hR, gThB.warm hW hB, by rw [hU]; exact gThr.moved hW.alike hT⟩⟩ rfl rfl hl.1 rfl (lv_room (Nat.le_of_ble_eq_true rfl)) dL_crash_4 ⟨Nat.le_of_ble_eq_true rfl, Nat.le_of_ble_eq_true rfl⟩) hS (fun q _ h => h) (fun q h => h) (fun q _ h => h) (fun E ce q9 u t H1 locs ht hvm hp hE hz hk hS hce hcv hcl => ?_) (fun r u t H1 locs ht hvm hp hB1 hz hk hS => hp.elim)
  subst hE
  refine vx_catch (own := RL) (name := "java/lang/IndexOutOfBoundsException") hown [] ⟨0, 16, 19, 13⟩ [] (by rw [htab]; rfl) (fun z hz => by cases hz) (by decide) (by decide) (hg _ kC_L_13) (hB.use _ (by simp [thB])) hce hcv hcl ?_
  refine lv_astore_n (lv' := [(3, .ref q9), (0, .ref ((E.1 0))), (1, .int p0), (2, .ref oo)]) hx hb dL_crash_19 rfl hl (by decide) rfl (fun ls hl => ?_)
  refine lv_iconst (v := 1) hx hb dL_crash_20 (by decide) ?_
  exact W.iret (v := 1) hx hb hr (fun t ht hW => ⟨⟨_, (), rfl, rfl, trivial⟩, hS.F ht⟩) hS.2.2 dL_crash_21
