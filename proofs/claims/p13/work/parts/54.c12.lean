def gThB (X : String) (U : State) : Prop := ∀ w ∈ thB X, va_Nw w U
theorem thB_on {X : String} {w : Cond} (h : w ∈ thB X) : w.onTables = true := by
  simp only [thB, List.mem_cons, List.not_mem_nil, or_false] at h
  rcases h with rfl | rfl | rfl | rfl <;> rfl
theorem gThB.warm {X : String} {s U : State} (hW : s.WarmedH U.vm) (h : gThB X s) : gThB X U := by
  intro w hw
  have h0 := h w hw
  simp only [thB, List.mem_cons, List.not_mem_nil, or_false] at hw
  rcases hw with rfl | rfl | rfl | rfl
  · exact va_Nw.warmC hW h0
  · exact va_Nw.warmD hW h0
  · exact va_Nw.warmD hW h0
  · exact va_Nw.warmD hW h0
theorem gThB.same {X : String} {u U : State} (hv : u.vm = U.vm) (h : gThB X u) : gThB X U := fun w hw => va_tabs (thB_on hw) hv (h w hw)
theorem gThB.use {X : String} {U : State} {A : Array Value} (h : gThB X U) : ∀ w ∈ thB X, w.before A U = true := fun w hw => va_Nw.use (thB_on hw) (h w hw)
theorem gThB.of {X : String} {U : State} {A : Array Value} (h : ∀ w ∈ thB X, w.before A U = true) : gThB X U := fun w hw => va_Nw.of (thB_on hw) (h w hw)
/-- the two statics that a throw reads, outside A -/
def gThr (A : Nat → Prop) (U : State) (H : Heap) : Prop := vx_Zq Bundle.tN "UNASSIGNED_STACK" Bundle.steD A U H ∧ vx_Zq Bundle.tN "SUPPRESSED_SENTINEL" Bundle.listD A U H
theorem gThr.moved {A : Nat → Prop} {u U : State} {H : Heap} (hvm : u.vm.Alike U.vm) (h : gThr A u H) : gThr A U H := ⟨vx_Zq.moved hvm h.1, vx_Zq.moved hvm h.2⟩
theorem gThr.kept {A : Nat → Prop} {U : State} {H H1 : Heap} (h : gThr A U H) (hq : ∀ a : Nat, a < H.size → ¬ A a → H1[a]? = H[a]?) : gThr A U H1 := ⟨vx_Zq.kept h.1 hq, vx_Zq.kept h.2 hq⟩
theorem gThr.narrow {A B : Nat → Prop} {U : State} {H : Heap} (h : gThr A U H) (hAB : ∀ q, B q → A q) : gThr B U H := ⟨vx_Zq.narrow h.1 hAB, vx_Zq.narrow h.2 hAB⟩
set_option maxHeartbeats 4000000 in
set_option maxRecDepth 100000 in
theorem x_update_no (l : Launch) (D : va_G) (cI cZ cN cO : ClassId) (A : Nat → Prop) (E : CE) (n bg : Nat) (σ : CS) (p0 p1 p2 p3 : Int32) (sz sa : Nat) (ok : cOK n bg σ) (hst : l.stackTraces = false) (hno : ¬ isN n p0) : vx_Met l yX3_update (.code yX3_update cX3_update 5 (some .int) :: gw) ({ frames := 6, cells := 1, slots := 6, locals := 82 }) (va_Pc [.ref ((E.1 0)), .int p0, .int p1, .int p2, .int p3] (fun U => U.heap.size = sz ∧ cH D cI cZ cN cO A E n bg σ U ∧ vk_R RX3 39 "there is no such node" sa U ∧ gThB "java/lang/IndexOutOfBoundsException" U ∧ gThr (fun q : Nat => sz ≤ q) U U.heap)) (va_Qi (fun (_ : Int32) (_ : Unit) => False) (fun _ _ => True) (fun q : Nat => sz ≤ q)) (vx_X (fun _ : Unit => True) (fun E _ _ => E = "java/lang/IndexOutOfBoundsException") (fun q : Nat => sz ≤ q)) 1 6 (fun q : Nat => sz ≤ q) := by
  refine vx_ofW (cc := cX3_update) (maxL := 5) (ret := (some .int)) (by decide) rfl ?_
  intro p e s m args below meth c s₁ B hml hex hv
  obtain ⟨rfl, hsz, ⟨hP, hK, hD⟩, hR, hB, hT⟩ := hv
  have hx := B.exec
  have hb := B.bytes
  have hr := B.returns
  have hts := atoms_spec (ws := (.code yX3_update cX3_update 5 (some .int) :: gw)) B.pre
  have hg : ∀ w ∈ gw, w.before _ s = true := fun w h => hts w (List.mem_cons_of_mem _ h)
  have hown : s.vm.findClass RX3 = some m.cls := findClass_of_methodNamed B.named
  have hlocks := B.notSynchronized
  subst hsz
  have C : Cx p c cX3_update s m _ RX3 D (gTy cI cZ cN cO) := ⟨hx, hb, hown, hg, hK⟩
  have w : cWd D cI cN cO A s.heap E n bg σ s.heap [] := ⟨hP, hD, va_S.rf⟩
  have hl := lv_entry ([.ref ((E.1 0)), .int p0, .int p1, .int p2, .int p3]) (n := 5) (Nat.le_of_ble_eq_true rfl)
  rw [lg_entry_eq]
  generalize (lg_sl ([.ref ((E.1 0)), .int p0, .int p1, .int p2, .int p3]) ++ List.replicate (5 - (lg_sl ([.ref ((E.1 0)), .int p0, .int p1, .int p2, .int p3])).length) Slot.unset).toArray = ls at hl ⊢
  have hl : lv_has ls 5 [(0, .ref ((E.1 0))), (1, .int p0), (2, .int p1), (3, .int p2), (4, .int p3)] := hl
  refine lv_aload_n hx hb dX3_update_0 rfl (lv_at hl 0 rfl) ?_
  refine lv_iload_n hx hb dX3_update_1 rfl (lv_at hl 1 rfl) ?_
  refine c_callp (As := [.int p0]) (rest := []) C (c_preX3 C w) hml hl.1 (k_X3_isNode l D cI cZ cN cO A E n bg _ p0 ok ) kM_X3_33 kI_X3_isNode kS_X3_isNode kN_X3 kD_X3_isNode (show yX3_isNode.cls = RX3 ∧ yX3_isNode.cls ≠ "java/lang/invoke/MethodHandle" ∧ yX3_isNode.cls ≠ "java/lang/invoke/VarHandle" ∧ (parseMethodDescriptor yX3_isNode.desc).map (fun d => d.parameters.length) = some 1 from by decide +kernel) rfl rfl ⟨Nat.le_of_ble_eq_true rfl, Nat.le_of_ble_eq_true rfl⟩ rfl (lv_room (Nat.le_of_ble_eq_true rfl)) dX3_update_2 ⟨Nat.zero_le _, Nat.zero_le _⟩ (fun r_1 hr_1 => ?_)
  refine lv_if_ne (tgt := 18) hx hb dX3_update_5 (by decide) (fun c_5 => absurd (ite_ne0 hr_1 c_5) hno) (fun c_5 => ?_)
  exact vx_throwS (own := RX3) (cls := "java/lang/IndexOutOfBoundsException") (text := "there is no such node") (names := thN) (ik := 37) (is := 39) (ic := 41) (sa := sa) hx hb hst hown (by decide +kernel) (by decide +kernel) (hg _ kC_X3_37) (hg _ kN_java_lang_IndexOutOfBoundsException) hR (vx_hat (fun w h => hg w (thG_41 w h)) thB_41 hB.use) thO_41 hT.1 hT.2 va_S.rf (by rw [hml]; exact hl.1) dX3_update_8 dX3_update_11 dX3_update_12 dX3_update_14 dX3_update_17 (fun z hz => (hex z hz).elim) (Nat.le_of_ble_eq_true rfl) (Nat.le_of_ble_eq_true rfl) (Nat.le_of_ble_eq_true rfl) (Nat.le_of_ble_eq_true rfl) hlocks (fun t h1 h2 h3 => ⟨(), trivial, rfl, h2, fun q hq _ => h3 q hq⟩) (fun _ h => by cases h) (Nat.le_of_ble_eq_true rfl) (Nat.le_of_ble_eq_true rfl)
set_option maxHeartbeats 4000000 in
set_option maxRecDepth 100000 in
theorem x_update_bad (l : Launch) (D : va_G) (cI cZ cN cO : ClassId) (A : Nat → Prop) (E : CE) (n bg : Nat) (σ : CS) (p0 p1 p2 p3 : Int32) (sz sa : Nat) (ok : cOK n bg σ) (hst : l.stackTraces = false) (hy : isN n p0) (hbad : p1 < 0 ∨ ¬ p1 ≤ 3) : vx_Met l yX3_update (.code yX3_update cX3_update 5 (some .int) :: gw) ({ frames := 6, cells := 1, slots := 6, locals := 82 }) (va_Pc [.ref ((E.1 0)), .int p0, .int p1, .int p2, .int p3] (fun U => U.heap.size = sz ∧ cH D cI cZ cN cO A E n bg σ U ∧ vk_R RX3 46 "the kind of an update is 0 .. 3" sa U ∧ gThB "java/lang/IllegalArgumentException" U ∧ gThr (fun q : Nat => sz ≤ q) U U.heap)) (va_Qi (fun (_ : Int32) (_ : Unit) => False) (fun _ _ => True) (fun q : Nat => sz ≤ q)) (vx_X (fun _ : Unit => True) (fun E _ _ => E = "java/lang/IllegalArgumentException") (fun q : Nat => sz ≤ q)) 1 6 (fun q : Nat => sz ≤ q) := by
  refine vx_ofW (cc := cX3_update) (maxL := 5) (ret := (some .int)) (by decide) rfl ?_
  intro p e s m args below meth c s₁ B hml hex hv
  obtain ⟨rfl, hsz, ⟨hP, hK, hD⟩, hR, hB, hT⟩ := hv
  have hx := B.exec
  have hb := B.bytes
  have hr := B.returns
  have hts := atoms_spec (ws := (.code yX3_update cX3_update 5 (some .int) :: gw)) B.pre
  have hg : ∀ w ∈ gw, w.before _ s = true := fun w h => hts w (List.mem_cons_of_mem _ h)
  have hown : s.vm.findClass RX3 = some m.cls := findClass_of_methodNamed B.named
  have hlocks := B.notSynchronized
  subst hsz
  have C : Cx p c cX3_update s m _ RX3 D (gTy cI cZ cN cO) := ⟨hx, hb, hown, hg, hK⟩
  have w : cWd D cI cN cO A s.heap E n bg σ s.heap [] := ⟨hP, hD, va_S.rf⟩
  have hl := lv_entry ([.ref ((E.1 0)), .int p0, .int p1, .int p2, .int p3]) (n := 5) (Nat.le_of_ble_eq_true rfl)
  rw [lg_entry_eq]
  generalize (lg_sl ([.ref ((E.1 0)), .int p0, .int p1, .int p2, .int p3]) ++ List.replicate (5 - (lg_sl ([.ref ((E.1 0)), .int p0, .int p1, .int p2, .int p3])).length) Slot.unset).toArray = ls at hl ⊢
  have hl : lv_has ls 5 [(0, .ref ((E.1 0))), (1, .int p0), (2, .int p1), (3, .int p2), (4, .int p3)] := hl
  refine lv_aload_n hx hb dX3_update_0 rfl (lv_at hl 0 rfl) ?_
  refine lv_iload_n hx hb dX3_update_1 rfl (lv_at hl 1 rfl) ?_
  refine c_callp (As := [.int p0]) (rest := []) C (c_preX3 C w) hml hl.1 (k_X3_isNode l D cI cZ cN cO A E n bg _ p0 ok ) kM_X3_33 kI_X3_isNode kS_X3_isNode kN_X3 kD_X3_isNode (show yX3_isNode.cls = RX3 ∧ yX3_isNode.cls ≠ "java/lang/invoke/MethodHandle" ∧ yX3_isNode.cls ≠ "java/lang/invoke/VarHandle" ∧ (parseMethodDescriptor yX3_isNode.desc).map (fun d => d.parameters.length) = some 1 from by decide +kernel) rfl rfl ⟨Nat.le_of_ble_eq_true rfl, Nat.le_of_ble_eq_true rfl⟩ rfl (lv_room (Nat.le_of_ble_eq_true rfl)) dX3_update_2 ⟨Nat.zero_le _, Nat.zero_le _⟩ (fun r_1 hr_1 => ?_)
  refine lv_if_ne (tgt := 18) hx hb dX3_update_5 (by decide) (fun c_5 => ?_) (fun c_5 => absurd hy (ite_eq0 hr_1 c_5))
  refine lv_iload_n hx hb dX3_update_18 rfl (lv_at hl 2 rfl) ?_
  refine lv_if_lt (tgt := 27) hx hb dX3_update_19 (by decide) (fun c_19 => ?_) (fun c_19 => ?_)
  · exact vx_throwS (own := RX3) (cls := "java/lang/IllegalArgumentException") (text := "the kind of an update is 0 .. 3") (names := thN) (ik := 44) (is := 46) (ic := 48) (sa := sa) hx hb hst hown (by decide +kernel) (by decide +kernel) (hg _ kC_X3_44) (hg _ kN_java_lang_IllegalArgumentException) hR (vx_hat (fun w h => hg w (thG_48 w h)) thB_48 hB.use) thO_48 hT.1 hT.2 va_S.rf (by rw [hml]; exact hl.1) dX3_update_27 dX3_update_30 dX3_update_31 dX3_update_33 dX3_update_36 (fun z hz => (hex z hz).elim) (Nat.le_of_ble_eq_true rfl) (Nat.le_of_ble_eq_true rfl) (Nat.le_of_ble_eq_true rfl) (Nat.le_of_ble_eq_true rfl) hlocks (fun t h1 h2 h3 => ⟨(), trivial, rfl, h2, fun q hq _ => h3 q hq⟩) (fun _ h => by cases h) (Nat.le_of_ble_eq_true rfl) (Nat.le_of_ble_eq_true rfl)
  · refine lv_iload_n hx hb dX3_update_22 rfl (lv_at hl 2 rfl) ?_
    refine lv_iconst (v := 3) hx hb dX3_update_23 (by decide) ?_
    refine lv_icmp_le (tgt := 37) hx hb dX3_update_24 (by decide) (fun c_24 => (hbad.elim (fun z => absurd z c_19) (fun z => absurd c_24 z))) (fun c_24 => ?_)
    exact vx_throwS (own := RX3) (cls := "java/lang/IllegalArgumentException") (text := "the kind of an update is 0 .. 3") (names := thN) (ik := 44) (is := 46) (ic := 48) (sa := sa) hx hb hst hown (by decide +kernel) (by decide +kernel) (hg _ kC_X3_44) (hg _ kN_java_lang_IllegalArgumentException) hR (vx_hat (fun w h => hg w (thG_48 w h)) thB_48 hB.use) thO_48 hT.1 hT.2 va_S.rf (by rw [hml]; exact hl.1) dX3_update_27 dX3_update_30 dX3_update_31 dX3_update_33 dX3_update_36 (fun z hz => (hex z hz).elim) (Nat.le_of_ble_eq_true rfl) (Nat.le_of_ble_eq_true rfl) (Nat.le_of_ble_eq_true rfl) (Nat.le_of_ble_eq_true rfl) hlocks (fun t h1 h2 h3 => ⟨(), trivial, rfl, h2, fun q hq _ => h3 q hq⟩) (fun _ h => by cases h) (Nat.le_of_ble_eq_true rfl) (Nat.le_of_ble_eq_true rfl)
set_option maxHeartbeats 4000000 in
set_option maxRecDepth 100000 in
theorem x_query_no (l : Launch) (D : va_G) (cI cZ cN cO : ClassId) (A : Nat → Prop) (E : CE) (n bg : Nat) (σ : CS) (p0 p1 p2 : Int32) (sz sa : Nat) (ok : cOK n bg σ) (hst : l.stackTraces = false) (hno : ¬ isN n p0) : vx_Met l yX3_query (.code yX3_query cX3_query 4 (some .int) :: gw) ({ frames := 6, cells := 1, slots := 6, locals := 82 }) (va_Pc [.ref ((E.1 0)), .int p0, .int p1, .int p2] (fun U => U.heap.size = sz ∧ cH D cI cZ cN cO A E n bg σ U ∧ vk_R RX3 39 "there is no such node" sa U ∧ gThB "java/lang/IndexOutOfBoundsException" U ∧ gThr (fun q : Nat => sz ≤ q) U U.heap)) (va_Qi (fun (_ : Int32) (_ : Unit) => False) (fun _ _ => True) (fun q : Nat => sz ≤ q)) (vx_X (fun _ : Unit => True) (fun E _ _ => E = "java/lang/IndexOutOfBoundsException") (fun q : Nat => sz ≤ q)) 1 6 (fun q : Nat => sz ≤ q) := by
  refine vx_ofW (cc := cX3_query) (maxL := 4) (ret := (some .int)) (by decide) rfl ?_
  intro p e s m args below meth c s₁ B hml hex hv
  obtain ⟨rfl, hsz, ⟨hP, hK, hD⟩, hR, hB, hT⟩ := hv
  have hx := B.exec
  have hb := B.bytes
  have hr := B.returns
  have hts := atoms_spec (ws := (.code yX3_query cX3_query 4 (some .int) :: gw)) B.pre
  have hg : ∀ w ∈ gw, w.before _ s = true := fun w h => hts w (List.mem_cons_of_mem _ h)
  have hown : s.vm.findClass RX3 = some m.cls := findClass_of_methodNamed B.named
  have hlocks := B.notSynchronized
  subst hsz
  have C : Cx p c cX3_query s m _ RX3 D (gTy cI cZ cN cO) := ⟨hx, hb, hown, hg, hK⟩
  have w : cWd D cI cN cO A s.heap E n bg σ s.heap [] := ⟨hP, hD, va_S.rf⟩
  have hl := lv_entry ([.ref ((E.1 0)), .int p0, .int p1, .int p2]) (n := 4) (Nat.le_of_ble_eq_true rfl)
  rw [lg_entry_eq]
  generalize (lg_sl ([.ref ((E.1 0)), .int p0, .int p1, .int p2]) ++ List.replicate (4 - (lg_sl ([.ref ((E.1 0)), .int p0, .int p1, .int p2])).length) Slot.unset).toArray = ls at hl ⊢
  have hl : lv_has ls 4 [(0, .ref ((E.1 0))), (1, .int p0), (2, .int p1), (3, .int p2)] := hl
  refine lv_aload_n hx hb dX3_query_0 rfl (lv_at hl 0 rfl) ?_
  refine lv_iload_n hx hb dX3_query_1 rfl (lv_at hl 1 rfl) ?_
  refine c_callp (As := [.int p0]) (rest := []) C (c_preX3 C w) hml hl.1 (k_X3_isNode l D cI cZ cN cO A E n bg _ p0 ok ) kM_X3_33 kI_X3_isNode kS_X3_isNode kN_X3 kD_X3_isNode (show yX3_isNode.cls = RX3 ∧ yX3_isNode.cls ≠ "java/lang/invoke/MethodHandle" ∧ yX3_isNode.cls ≠ "java/lang/invoke/VarHandle" ∧ (parseMethodDescriptor yX3_isNode.desc).map (fun d => d.parameters.length) = some 1 from by decide +kernel) rfl rfl ⟨Nat.le_of_ble_eq_true rfl, Nat.le_of_ble_eq_true rfl⟩ rfl (lv_room (Nat.le_of_ble_eq_true rfl)) dX3_query_2 ⟨Nat.zero_le _, Nat.zero_le _⟩ (fun r_1 hr_1 => ?_)
  refine lv_if_ne (tgt := 18) hx hb dX3_query_5 (by decide) (fun c_5 => absurd (ite_ne0 hr_1 c_5) hno) (fun c_5 => ?_)
  exact vx_throwS (own := RX3) (cls := "java/lang/IndexOutOfBoundsException") (text := "there is no such node") (names := thN) (ik := 37) (is := 39) (ic := 41) (sa := sa) hx hb hst hown (by decide +kernel) (by decide +kernel) (hg _ kC_X3_37) (hg _ kN_java_lang_IndexOutOfBoundsException) hR (vx_hat (fun w h => hg w (thG_41 w h)) thB_41 hB.use) thO_41 hT.1 hT.2 va_S.rf (by rw [hml]; exact hl.1) dX3_query_8 dX3_query_11 dX3_query_12 dX3_query_14 dX3_query_17 (fun z hz => (hex z hz).elim) (Nat.le_of_ble_eq_true rfl) (Nat.le_of_ble_eq_true rfl) (Nat.le_of_ble_eq_true rfl) (Nat.le_of_ble_eq_true rfl) hlocks (fun t h1 h2 h3 => ⟨(), trivial, rfl, h2, fun q hq _ => h3 q hq⟩) (fun _ h => by cases h) (Nat.le_of_ble_eq_true rfl) (Nat.le_of_ble_eq_true rfl)
set_option maxHeartbeats 4000000 in
set_option maxRecDepth 100000 in
theorem x_query_bad (l : Launch) (D : va_G) (cI cZ cN cO : ClassId) (A : Nat → Prop) (E : CE) (n bg : Nat) (σ : CS) (p0 p1 p2 : Int32) (sz sa : Nat) (ok : cOK n bg σ) (hst : l.stackTraces = false) (hy : isN n p0) (hbad : p1 < 10 ∨ ¬ p1 ≤ 15) : vx_Met l yX3_query (.code yX3_query cX3_query 4 (some .int) :: gw) ({ frames := 6, cells := 1, slots := 6, locals := 82 }) (va_Pc [.ref ((E.1 0)), .int p0, .int p1, .int p2] (fun U => U.heap.size = sz ∧ cH D cI cZ cN cO A E n bg σ U ∧ vk_R RX3 53 "the kind of a query is 10 .. 15" sa U ∧ gThB "java/lang/IllegalArgumentException" U ∧ gThr (fun q : Nat => sz ≤ q) U U.heap)) (va_Qi (fun (_ : Int32) (_ : Unit) => False) (fun _ _ => True) (fun q : Nat => sz ≤ q)) (vx_X (fun _ : Unit => True) (fun E _ _ => E = "java/lang/IllegalArgumentException") (fun q : Nat => sz ≤ q)) 1 6 (fun q : Nat => sz ≤ q) := by
  refine vx_ofW (cc := cX3_query) (maxL := 4) (ret := (some .int)) (by decide) rfl ?_
  intro p e s m args below meth c s₁ B hml hex hv
  obtain ⟨rfl, hsz, ⟨hP, hK, hD⟩, hR, hB, hT⟩ := hv
  have hx := B.exec
  have hb := B.bytes
  have hr := B.returns
  have hts := atoms_spec (ws := (.code yX3_query cX3_query 4 (some .int) :: gw)) B.pre
  have hg : ∀ w ∈ gw, w.before _ s = true := fun w h => hts w (List.mem_cons_of_mem _ h)
  have hown : s.vm.findClass RX3 = some m.cls := findClass_of_methodNamed B.named
  have hlocks := B.notSynchronized
  subst hsz
  have C : Cx p c cX3_query s m _ RX3 D (gTy cI cZ cN cO) := ⟨hx, hb, hown, hg, hK⟩
  have w : cWd D cI cN cO A s.heap E n bg σ s.heap [] := ⟨hP, hD, va_S.rf⟩
  have hl := lv_entry ([.ref ((E.1 0)), .int p0, .int p1, .int p2]) (n := 4) (Nat.le_of_ble_eq_true rfl)
  rw [lg_entry_eq]
  generalize (lg_sl ([.ref ((E.1 0)), .int p0, .int p1, .int p2]) ++ List.replicate (4 - (lg_sl ([.ref ((E.1 0)), .int p0, .int p1, .int p2])).length) Slot.unset).toArray = ls at hl ⊢
  have hl : lv_has ls 4 [(0, .ref ((E.1 0))), (1, .int p0), (2, .int p1), (3, .int p2)] := hl
  refine lv_aload_n hx hb dX3_query_0 rfl (lv_at hl 0 rfl) ?_
  refine lv_iload_n hx hb dX3_query_1 rfl (lv_at hl 1 rfl) ?_
  refine c_callp (As := [.int p0]) (rest := []) C (c_preX3 C w) hml hl.1 (k_X3_isNode l D cI cZ cN cO A E n bg _ p0 ok ) kM_X3_33 kI_X3_isNode kS_X3_isNode kN_X3 kD_X3_isNode (show yX3_isNode.cls = RX3 ∧ yX3_isNode.cls ≠ "java/lang/invoke/MethodHandle" ∧ yX3_isNode.cls ≠ "java/lang/invoke/VarHandle" ∧ (parseMethodDescriptor yX3_isNode.desc).map (fun d => d.parameters.length) = some 1 from by decide +kernel) rfl rfl ⟨Nat.le_of_ble_eq_true rfl, Nat.le_of_ble_eq_true rfl⟩ rfl (lv_room (Nat.le_of_ble_eq_true rfl)) dX3_query_2 ⟨Nat.zero_le _, Nat.zero_le _⟩ (fun r_1 hr_1 => ?_)
  refine lv_if_ne (tgt := 18) hx hb dX3_query_5 (by decide) (fun c_5 => ?_) (fun c_5 => absurd hy (ite_eq0 hr_1 c_5))
  refine lv_iload_n hx hb dX3_query_18 rfl (lv_at hl 2 rfl) ?_
  refine lv_bipush (v := 10) hx hb dX3_query_19 (by decide) ?_
  refine lv_icmp_lt (tgt := 30) hx hb dX3_query_21 (by decide) (fun c_21 => ?_) (fun c_21 => ?_)
  · exact vx_throwS (own := RX3) (cls := "java/lang/IllegalArgumentException") (text := "the kind of a query is 10 .. 15") (names := thN) (ik := 44) (is := 53) (ic := 48) (sa := sa) hx hb hst hown (by decide +kernel) (by decide +kernel) (hg _ kC_X3_44) (hg _ kN_java_lang_IllegalArgumentException) hR (vx_hat (fun w h => hg w (thG_48 w h)) thB_48 hB.use) thO_48 hT.1 hT.2 va_S.rf (by rw [hml]; exact hl.1) dX3_query_30 dX3_query_33 dX3_query_34 dX3_query_36 dX3_query_39 (fun z hz => (hex z hz).elim) (Nat.le_of_ble_eq_true rfl) (Nat.le_of_ble_eq_true rfl) (Nat.le_of_ble_eq_true rfl) (Nat.le_of_ble_eq_true rfl) hlocks (fun t h1 h2 h3 => ⟨(), trivial, rfl, h2, fun q hq _ => h3 q hq⟩) (fun _ h => by cases h) (Nat.le_of_ble_eq_true rfl) (Nat.le_of_ble_eq_true rfl)
  · refine lv_iload_n hx hb dX3_query_24 rfl (lv_at hl 2 rfl) ?_
    refine lv_bipush (v := 15) hx hb dX3_query_25 (by decide) ?_
    refine lv_icmp_le (tgt := 40) hx hb dX3_query_27 (by decide) (fun c_27 => (hbad.elim (fun z => absurd z c_21) (fun z => absurd c_27 z))) (fun c_27 => ?_)
    exact vx_throwS (own := RX3) (cls := "java/lang/IllegalArgumentException") (text := "the kind of a query is 10 .. 15") (names := thN) (ik := 44) (is := 53) (ic := 48) (sa := sa) hx hb hst hown (by decide +kernel) (by decide +kernel) (hg _ kC_X3_44) (hg _ kN_java_lang_IllegalArgumentException) hR (vx_hat (fun w h => hg w (thG_48 w h)) thB_48 hB.use) thO_48 hT.1 hT.2 va_S.rf (by rw [hml]; exact hl.1) dX3_query_30 dX3_query_33 dX3_query_34 dX3_query_36 dX3_query_39 (fun z hz => (hex z hz).elim) (Nat.le_of_ble_eq_true rfl) (Nat.le_of_ble_eq_true rfl) (Nat.le_of_ble_eq_true rfl) (Nat.le_of_ble_eq_true rfl) hlocks (fun t h1 h2 h3 => ⟨(), trivial, rfl, h2, fun q hq _ => h3 q hq⟩) (fun _ h => by cases h) (Nat.le_of_ble_eq_true rfl) (Nat.le_of_ble_eq_true rfl)
set_option maxHeartbeats 4000000 in
set_option maxRecDepth 100000 in
theorem x_deliver_no (l : Launch) (D : va_G) (cI cZ cN cO : ClassId) (A : Nat → Prop) (E : CE) (n bg : Nat) (σ : CS) (p0 : Int32) (sz sa : Nat) (ok : cOK n bg σ) (hst : l.stackTraces = false) (hno : ¬ holds σ p0) : vx_Met l yX3_deliver (.code yX3_deliver cX3_deliver 2 (some .int) :: gw) ({ frames := 6, cells := 1, slots := 6, locals := 82 }) (va_Pc [.ref ((E.1 0)), .int p0] (fun U => U.heap.size = sz ∧ cH D cI cZ cN cO A E n bg σ U ∧ vk_R RX3 58 "there is no such message" sa U ∧ gThB "java/lang/IndexOutOfBoundsException" U ∧ gThr (fun q : Nat => sz ≤ q) U U.heap)) (va_Qi (fun (_ : Int32) (_ : Unit) => False) (fun _ _ => True) (fun q : Nat => sz ≤ q)) (vx_X (fun _ : Unit => True) (fun E _ _ => E = "java/lang/IndexOutOfBoundsException") (fun q : Nat => sz ≤ q)) 1 6 (fun q : Nat => sz ≤ q) := by
  refine vx_ofW (cc := cX3_deliver) (maxL := 2) (ret := (some .int)) (by decide) rfl ?_
  intro p e s m args below meth c s₁ B hml hex hv
  obtain ⟨rfl, hsz, ⟨hP, hK, hD⟩, hR, hB, hT⟩ := hv
  have hx := B.exec
  have hb := B.bytes
  have hr := B.returns
  have hts := atoms_spec (ws := (.code yX3_deliver cX3_deliver 2 (some .int) :: gw)) B.pre
  have hg : ∀ w ∈ gw, w.before _ s = true := fun w h => hts w (List.mem_cons_of_mem _ h)
  have hown : s.vm.findClass RX3 = some m.cls := findClass_of_methodNamed B.named
  have hlocks := B.notSynchronized
  subst hsz
  have C : Cx p c cX3_deliver s m _ RX3 D (gTy cI cZ cN cO) := ⟨hx, hb, hown, hg, hK⟩
  have w : cWd D cI cN cO A s.heap E n bg σ s.heap [] := ⟨hP, hD, va_S.rf⟩
  have hl := lv_entry ([.ref ((E.1 0)), .int p0]) (n := 2) (Nat.le_of_ble_eq_true rfl)
  rw [lg_entry_eq]
  generalize (lg_sl ([.ref ((E.1 0)), .int p0]) ++ List.replicate (2 - (lg_sl ([.ref ((E.1 0)), .int p0])).length) Slot.unset).toArray = ls at hl ⊢
  have hl : lv_has ls 2 [(0, .ref ((E.1 0))), (1, .int p0)] := hl
  refine lv_aload_n hx hb dX3_deliver_0 rfl (lv_at hl 0 rfl) ?_
  refine c_gX3_1 C w kF_X3_23 dX3_deliver_1 ?_
  refine lv_iload_n hx hb dX3_deliver_4 rfl (lv_at hl 1 rfl) ?_
  refine c_callp (As := [.int p0]) (rest := []) C (c_preX2 C w) hml hl.1 (k_X2_holds l D cI cZ cN cO A E n bg _ p0 ok ) kM_X3_55 kI_X2_holds kS_X2_holds kN_X2 kD_X2_holds (show yX2_holds.cls = RX2 ∧ yX2_holds.cls ≠ "java/lang/invoke/MethodHandle" ∧ yX2_holds.cls ≠ "java/lang/invoke/VarHandle" ∧ (parseMethodDescriptor yX2_holds.desc).map (fun d => d.parameters.length) = some 1 from by decide +kernel) rfl rfl ⟨Nat.le_of_ble_eq_true rfl, Nat.le_of_ble_eq_true rfl⟩ rfl (lv_room (Nat.le_of_ble_eq_true rfl)) dX3_deliver_5 ⟨Nat.zero_le _, Nat.zero_le _⟩ (fun r_1 hr_1 => ?_)
  refine lv_if_ne (tgt := 21) hx hb dX3_deliver_8 (by decide) (fun c_8 => absurd (ite_ne0 hr_1 c_8) hno) (fun c_8 => ?_)
  exact vx_throwS (own := RX3) (cls := "java/lang/IndexOutOfBoundsException") (text := "there is no such message") (names := thN) (ik := 37) (is := 58) (ic := 41) (sa := sa) hx hb hst hown (by decide +kernel) (by decide +kernel) (hg _ kC_X3_37) (hg _ kN_java_lang_IndexOutOfBoundsException) hR (vx_hat (fun w h => hg w (thG_41 w h)) thB_41 hB.use) thO_41 hT.1 hT.2 va_S.rf (by rw [hml]; exact hl.1) dX3_deliver_11 dX3_deliver_14 dX3_deliver_15 dX3_deliver_17 dX3_deliver_20 (fun z hz => (hex z hz).elim) (Nat.le_of_ble_eq_true rfl) (Nat.le_of_ble_eq_true rfl) (Nat.le_of_ble_eq_true rfl) (Nat.le_of_ble_eq_true rfl) hlocks (fun t h1 h2 h3 => ⟨(), trivial, rfl, h2, fun q hq _ => h3 q hq⟩) (fun _ h => by cases h) (Nat.le_of_ble_eq_true rfl) (Nat.le_of_ble_eq_true rfl)
set_option maxHeartbeats 4000000 in
set_option maxRecDepth 100000 in
theorem x_calm_bad (l : Launch) (D : va_G) (cI cZ cN cO : ClassId) (A : Nat → Prop) (E : CE) (n bg : Nat) (σ : CS) (p0 : Int32) (sz sa : Nat) (ok : cOK n bg σ) (hst : l.stackTraces = false) (hbad : p0 < 0 ∨ ¬ p0 ≤ 2000) : vx_Met l yX3_calm (.code yX3_calm cX3_calm 3 (some .int) :: gw) ({ frames := 6, cells := 1, slots := 6, locals := 82 }) (va_Pc [.ref ((E.1 0)), .int p0] (fun U => U.heap.size = sz ∧ cH D cI cZ cN cO A E n bg σ U ∧ vk_R RX3 64 "calm takes 0 .. 2,000 messages" sa U ∧ gThB "java/lang/IllegalArgumentException" U ∧ gThr (fun q : Nat => sz ≤ q) U U.heap)) (va_Qi (fun (_ : Int32) (_ : Unit) => False) (fun _ _ => True) (fun q : Nat => sz ≤ q)) (vx_X (fun _ : Unit => True) (fun E _ _ => E = "java/lang/IllegalArgumentException") (fun q : Nat => sz ≤ q)) 1 6 (fun q : Nat => sz ≤ q) := by
  refine vx_ofW (cc := cX3_calm) (maxL := 3) (ret := (some .int)) (by decide) rfl ?_
  intro p e s m args below meth c s₁ B hml hex hv
  obtain ⟨rfl, hsz, ⟨hP, hK, hD⟩, hR, hB, hT⟩ := hv
  have hx := B.exec
  have hb := B.bytes
  have hr := B.returns
  have hts := atoms_spec (ws := (.code yX3_calm cX3_calm 3 (some .int) :: gw)) B.pre
  have hg : ∀ w ∈ gw, w.before _ s = true := fun w h => hts w (List.mem_cons_of_mem _ h)
  have hown : s.vm.findClass RX3 = some m.cls := findClass_of_methodNamed B.named
  have hlocks := B.notSynchronized
  subst hsz
  have C : Cx p c cX3_calm s m _ RX3 D (gTy cI cZ cN cO) := ⟨hx, hb, hown, hg, hK⟩
  have w : cWd D cI cN cO A s.heap E n bg σ s.heap [] := ⟨hP, hD, va_S.rf⟩
  have hl := lv_entry ([.ref ((E.1 0)), .int p0]) (n := 3) (Nat.le_of_ble_eq_true rfl)
  rw [lg_entry_eq]
  generalize (lg_sl ([.ref ((E.1 0)), .int p0]) ++ List.replicate (3 - (lg_sl ([.ref ((E.1 0)), .int p0])).length) Slot.unset).toArray = ls at hl ⊢
  have hl : lv_has ls 3 [(0, .ref ((E.1 0))), (1, .int p0)] := hl
  refine lv_iload_n hx hb dX3_calm_0 rfl (lv_at hl 1 rfl) ?_
  refine lv_if_lt (tgt := 11) hx hb dX3_calm_1 (by decide) (fun c_1 => ?_) (fun c_1 => ?_)
  · exact vx_throwS (own := RX3) (cls := "java/lang/IllegalArgumentException") (text := "calm takes 0 .. 2,000 messages") (names := thN) (ik := 44) (is := 64) (ic := 48) (sa := sa) hx hb hst hown (by decide +kernel) (by decide +kernel) (hg _ kC_X3_44) (hg _ kN_java_lang_IllegalArgumentException) hR (vx_hat (fun w h => hg w (thG_48 w h)) thB_48 hB.use) thO_48 hT.1 hT.2 va_S.rf (by rw [hml]; exact hl.1) dX3_calm_11 dX3_calm_14 dX3_calm_15 dX3_calm_17 dX3_calm_20 (fun z hz => (hex z hz).elim) (Nat.le_of_ble_eq_true rfl) (Nat.le_of_ble_eq_true rfl) (Nat.le_of_ble_eq_true rfl) (Nat.le_of_ble_eq_true rfl) hlocks (fun t h1 h2 h3 => ⟨(), trivial, rfl, h2, fun q hq _ => h3 q hq⟩) (fun _ h => by cases h) (Nat.le_of_ble_eq_true rfl) (Nat.le_of_ble_eq_true rfl)
  · refine lv_iload_n hx hb dX3_calm_4 rfl (lv_at hl 1 rfl) ?_
    refine lv_sipush (v := 2000) hx hb dX3_calm_5 (by decide) ?_
    refine lv_icmp_le (tgt := 21) hx hb dX3_calm_8 (by decide) (fun c_8 => (hbad.elim (fun z => absurd z c_1) (fun z => absurd c_8 z))) (fun c_8 => ?_)
    exact vx_throwS (own := RX3) (cls := "java/lang/IllegalArgumentException") (text := "calm takes 0 .. 2,000 messages") (names := thN) (ik := 44) (is := 64) (ic := 48) (sa := sa) hx hb hst hown (by decide +kernel) (by decide +kernel) (hg _ kC_X3_44) (hg _ kN_java_lang_IllegalArgumentException) hR (vx_hat (fun w h => hg w (thG_48 w h)) thB_48 hB.use) thO_48 hT.1 hT.2 va_S.rf (by rw [hml]; exact hl.1) dX3_calm_11 dX3_calm_14 dX3_calm_15 dX3_calm_17 dX3_calm_20 (fun z hz => (hex z hz).elim) (Nat.le_of_ble_eq_true rfl) (Nat.le_of_ble_eq_true rfl) (Nat.le_of_ble_eq_true rfl) (Nat.le_of_ble_eq_true rfl) hlocks (fun t h1 h2 h3 => ⟨(), trivial, rfl, h2, fun q hq _ => h3 q hq⟩) (fun _ h => by cases h) (Nat.le_of_ble_eq_true rfl) (Nat.le_of_ble_eq_true rfl)
set_option maxHeartbeats 4000000 in
set_option maxRecDepth 100000 in
theorem x_crash_no (l : Launch) (D : va_G) (cI cZ cN cO : ClassId) (A : Nat → Prop) (E : CE) (n bg : Nat) (σ : CS) (p0 : Int32) (sz sa : Nat) (ok : cOK n bg σ) (hst : l.stackTraces = false) (hno : ¬ isN n p0) : vx_Met l yX3_crash (.code yX3_crash cX3_crash 3 (some .boolean) :: gw) ({ frames := 6, cells := 1, slots := 6, locals := 82 }) (va_Pc [.ref ((E.1 0)), .int p0] (fun U => U.heap.size = sz ∧ cH D cI cZ cN cO A E n bg σ U ∧ vk_R RX3 39 "there is no such node" sa U ∧ gThB "java/lang/IndexOutOfBoundsException" U ∧ gThr (fun q : Nat => sz ≤ q) U U.heap)) (va_Qi (fun (_ : Int32) (_ : Unit) => False) (fun _ _ => True) (fun q : Nat => sz ≤ q)) (vx_X (fun _ : Unit => True) (fun E _ _ => E = "java/lang/IndexOutOfBoundsException") (fun q : Nat => sz ≤ q)) 1 6 (fun q : Nat => sz ≤ q) := by
  refine vx_ofW (cc := cX3_crash) (maxL := 3) (ret := (some .boolean)) (by decide) rfl ?_
  intro p e s m args below meth c s₁ B hml hex hv
  obtain ⟨rfl, hsz, ⟨hP, hK, hD⟩, hR, hB, hT⟩ := hv
  have hx := B.exec
  have hb := B.bytes
  have hr := B.returns
  have hts := atoms_spec (ws := (.code yX3_crash cX3_crash 3 (some .boolean) :: gw)) B.pre
  have hg : ∀ w ∈ gw, w.before _ s = true := fun w h => hts w (List.mem_cons_of_mem _ h)
  have hown : s.vm.findClass RX3 = some m.cls := findClass_of_methodNamed B.named
  have hlocks := B.notSynchronized
  subst hsz
  have C : Cx p c cX3_crash s m _ RX3 D (gTy cI cZ cN cO) := ⟨hx, hb, hown, hg, hK⟩
  have w : cWd D cI cN cO A s.heap E n bg σ s.heap [] := ⟨hP, hD, va_S.rf⟩
  have hl := lv_entry ([.ref ((E.1 0)), .int p0]) (n := 3) (Nat.le_of_ble_eq_true rfl)
  rw [lg_entry_eq]
  generalize (lg_sl ([.ref ((E.1 0)), .int p0]) ++ List.replicate (3 - (lg_sl ([.ref ((E.1 0)), .int p0])).length) Slot.unset).toArray = ls at hl ⊢
  have hl : lv_has ls 3 [(0, .ref ((E.1 0))), (1, .int p0)] := hl
  refine lv_aload_n hx hb dX3_crash_0 rfl (lv_at hl 0 rfl) ?_
  refine lv_iload_n hx hb dX3_crash_1 rfl (lv_at hl 1 rfl) ?_
  refine c_callp (As := [.int p0]) (rest := []) C (c_preX3 C w) hml hl.1 (k_X3_isNode l D cI cZ cN cO A E n bg _ p0 ok ) kM_X3_33 kI_X3_isNode kS_X3_isNode kN_X3 kD_X3_isNode (show yX3_isNode.cls = RX3 ∧ yX3_isNode.cls ≠ "java/lang/invoke/MethodHandle" ∧ yX3_isNode.cls ≠ "java/lang/invoke/VarHandle" ∧ (parseMethodDescriptor yX3_isNode.desc).map (fun d => d.parameters.length) = some 1 from by decide +kernel) rfl rfl ⟨Nat.le_of_ble_eq_true rfl, Nat.le_of_ble_eq_true rfl⟩ rfl (lv_room (Nat.le_of_ble_eq_true rfl)) dX3_crash_2 ⟨Nat.zero_le _, Nat.zero_le _⟩ (fun r_1 hr_1 => ?_)
  refine lv_if_ne (tgt := 18) hx hb dX3_crash_5 (by decide) (fun c_5 => absurd (ite_ne0 hr_1 c_5) hno) (fun c_5 => ?_)
  exact vx_throwS (own := RX3) (cls := "java/lang/IndexOutOfBoundsException") (text := "there is no such node") (names := thN) (ik := 37) (is := 39) (ic := 41) (sa := sa) hx hb hst hown (by decide +kernel) (by decide +kernel) (hg _ kC_X3_37) (hg _ kN_java_lang_IndexOutOfBoundsException) hR (vx_hat (fun w h => hg w (thG_41 w h)) thB_41 hB.use) thO_41 hT.1 hT.2 va_S.rf (by rw [hml]; exact hl.1) dX3_crash_8 dX3_crash_11 dX3_crash_12 dX3_crash_14 dX3_crash_17 (fun z hz => (hex z hz).elim) (Nat.le_of_ble_eq_true rfl) (Nat.le_of_ble_eq_true rfl) (Nat.le_of_ble_eq_true rfl) (Nat.le_of_ble_eq_true rfl) hlocks (fun t h1 h2 h3 => ⟨(), trivial, rfl, h2, fun q hq _ => h3 q hq⟩) (fun _ h => by cases h) (Nat.le_of_ble_eq_true rfl) (Nat.le_of_ble_eq_true rfl)
theorem isN_k {n bg k : Nat} {σ : CS} (hk : k < n) (ok : cOK n bg σ) : isN n (nI k) := ⟨nI_pos (by have := ok.2.1; omega), nI_ge hk ok.n⟩
section CX2
variable {p : Program} {l : Launch} {e : Env} {R : Room} {s : State} {m : MethodId} {args : Array Value} {below : List Frame} {meth : Method} {c : Code} {H : Heap} {locs : List Loc} {cells slots : Nat} {Q : State → Prop} {cc : ByteArray} {pc nL : Nat} {ls : Array Slot} {rest st0 : List Value} {D : va_G} {cI cZ cN cO : ClassId} {A : Nat → Prop} {H0 : Heap} {E : CE} {n bg : Nat} {σ σ' : CS} {y : MethodName} {bytes : ByteArray} {maxL idx na : Nat} {ret : Option FieldType} {rm : Room} {As : List Value} {K : Prop} {own : String}
theorem c_preG (C : Cx p c cc s m args own D (gTy cI cZ cN cO)) (w : cWd D cI cN cO A H0 E n bg σ H locs) (hA : ∀ q, H0.size ≤ q → A q) : PreV s H RX3 (E.1 0) (va_Pc (.ref (E.1 0) :: As) (fun U => cH D cI cZ cN cO A E n bg σ U ∧ ∀ q, U.heap.size ≤ q → A q)) As :=
  ⟨fun a U g mk q => ⟨q.1, ⟨q.2.1.1, va_K.moved (u := U) (U := U.calling g mk a) (Vm.Alike.refl U.vm) q.2.1.2.1, q.2.1.2.2⟩, q.2.2⟩, va_recv C.2.2.2.2 w.1 (q := (RX3, TX3, 9)) (ci := 3) (q0 := 0) rfl ((cW_fix (by decide)).trans rfl), fun U hU hW => ⟨rfl, ⟨by rw [hU]; exact w.1, va_K.moved hW.alike C.2.2.2.2, w.2.1⟩, fun q hq => hA q (Nat.le_trans w.2.2.1 (by rw [hU] at hq; exact hq))⟩⟩
/-- a call that makes an OPERATION -/
theorem c_callg {post : Int32 → Prop} (C : Cx p c cc s m args own D (gTy cI cZ cN cO)) (w : cWd D cI cN cO A H0 E n bg σ H locs) (hA : ∀ q, H0.size ≤ q → A q) (hml : c.maxLocals = nL) (hls : ls.size = nL) (hM : Met l y (.code y bytes maxL ret :: gw) rm (va_Pc (.ref (E.1 0) :: As) (fun U => cH D cI cZ cN cO A E n bg σ U ∧ ∀ q, U.heap.size ≤ q → A q)) (va_Qi (fun (r : Int32) (_ : Unit) => post r) (fun _ t => ∃ E1 : CE, E1.1 = E.1 ∧ cH D cI cZ cN cO A E1 n (bg + 1) σ' t ∧ K) A) 2 (12 + n) A) (h1 : Cond.methodLink own idx y ∈ gw) (h2 : Cond.instanceMethod y ∈ gw) (h3 : Cond.selects RX3 y y ∈ gw) (h5 : Cond.code y bytes maxL ret ∈ gw)
    (hd : y.cls = RX3 ∧ y.cls ≠ "java/lang/invoke/MethodHandle" ∧ y.cls ≠ "java/lang/invoke/VarHandle" ∧ (parseMethodDescriptor y.desc).map (fun d => d.parameters.length) = some As.length) (hrc : rm.cells = 2) (hrs : rm.slots = 12 + n) (hR : rm.frames + 1 ≤ R.frames ∧ 8 + (maxL + 11) + rm.locals ≤ R.locals) (hst : st0 = As.reverse ++ .ref (E.1 0) :: rest) (hW : 2 * (F0 m pc ls st0).monitorRoom + (rest.map fun v => v.category).sum ≤ 8) (hdg : decode cc pc = .ok (.invokevirtual idx, 3)) (hf : cells + 2 ≤ R.cells ∧ slots + (12 + n) ≤ R.slots)
    (kk : ∀ (r : Int32) (E1 : CE) (H1 : Heap) (locs1 : List Loc), post r → E1.1 = E.1 → cWd D cI cN cO A H0 E1 n (bg + 1) σ' H1 locs1 → K → W p l e R s m args below meth c H1 locs1 (cells + 2) (slots + (12 + n)) Q (F0 m (pc + 3) ls (.int r :: rest))) : W p l e R s m args below meth c H locs cells slots Q (F0 m pc ls st0) :=
  va_calli (va_runV (As := As) (rest := rest) ⟨C.1, C.2.1, hml, C.2.2.1, C.2.2.2.1⟩ hM (cwV As.length C.2.2.2.1 (gw_V h1 h2 h3 kN_X3 h5) rfl hrc hrs hd hR) (c_preG C w hA) rfl rfl hls hst hW hdg hf) w.2.2 (fun q _ h => h) (fun q h => h) (fun r u t H1 locs1 ht hvm hp hB hz hk hS => by obtain ⟨E1, e0, h2, h3⟩ := hB; exact kk r E1 H1 locs1 hp e0 ⟨by rw [← ht]; exact h2.1, h2.2.2, hS⟩ h3)
end CX2
set_option maxHeartbeats 4000000 in
set_option maxRecDepth 100000 in
theorem k_update_ref (l : Launch) (D : va_G) (cI cZ cN cO : ClassId) (A : Nat → Prop) (E : CE) (n bg : Nat) (σ : CS) (k : Nat) (p1 p2 p3 : Int32) (ok : cOK n bg σ) (hk : k < n) (hok1 : ¬ p1 < 0) (hok2 : p1 ≤ 3) (hno : ¬ cGo n bg k σ) : Met l yX3_update (.code yX3_update cX3_update 5 (some .int) :: gw) ({ frames := 4, cells := 0, slots := 0, locals := 98 }) (va_Pc (.ref (E.1 0) :: [.int (nI k), .int p1, .int p2, .int p3]) (cH D cI cZ cN cO A E n bg σ)) (va_Qi (fun (r : Int32) (_ : Unit) => r = -1) (fun _ t => cH D cI cZ cN cO A E n bg (σ) t ∧ cOK n bg (σ)) A) 0 0 A := by
  refine Met.ofW (cc := cX3_update) (maxL := 5) (ret := (some .int)) (by decide) rfl ?_
  intro p e s m args below meth c s₁ B hml hv
  obtain ⟨rfl, hP, hK, hD⟩ := hv
  have hx := B.exec
  have hb := B.bytes
  have hr := B.returns
  have hts := atoms_spec (ws := (.code yX3_update cX3_update 5 (some .int) :: gw)) B.pre
  have hg : ∀ w ∈ gw, w.before _ s = true := fun w h => hts w (List.mem_cons_of_mem _ h)
  have hown : s.vm.findClass RX3 = some m.cls := findClass_of_methodNamed B.named
  have hlocks := B.notSynchronized
  have C : Cx p c cX3_update s m _ RX3 D (gTy cI cZ cN cO) := ⟨hx, hb, hown, hg, hK⟩
  have w : cWd D cI cN cO A s.heap E n bg σ s.heap [] := ⟨hP, hD, va_S.rf⟩
  have hl := lv_entry ([.ref ((E.1 0)), .int (nI k), .int p1, .int p2, .int p3]) (n := 5) (Nat.le_of_ble_eq_true rfl)
  rw [lg_entry_eq]
  generalize (lg_sl ([.ref ((E.1 0)), .int (nI k), .int p1, .int p2, .int p3]) ++ List.replicate (5 - (lg_sl ([.ref ((E.1 0)), .int (nI k), .int p1, .int p2, .int p3])).length) Slot.unset).toArray = ls at hl ⊢
  have hl : lv_has ls 5 [(0, .ref ((E.1 0))), (1, .int (nI k)), (2, .int p1), (3, .int p2), (4, .int p3)] := hl
  refine lv_aload_n hx hb dX3_update_0 rfl (lv_at hl 0 rfl) ?_
  refine lv_iload_n hx hb dX3_update_1 rfl (lv_at hl 1 rfl) ?_
  refine c_callp (As := [.int (nI k)]) (rest := []) C (c_preX3 C w) hml hl.1 (k_X3_isNode l D cI cZ cN cO A E n bg _ (nI k) ok ) kM_X3_33 kI_X3_isNode kS_X3_isNode kN_X3 kD_X3_isNode (show yX3_isNode.cls = RX3 ∧ yX3_isNode.cls ≠ "java/lang/invoke/MethodHandle" ∧ yX3_isNode.cls ≠ "java/lang/invoke/VarHandle" ∧ (parseMethodDescriptor yX3_isNode.desc).map (fun d => d.parameters.length) = some 1 from by decide +kernel) rfl rfl ⟨Nat.le_of_ble_eq_true rfl, Nat.le_of_ble_eq_true rfl⟩ rfl (lv_room (Nat.le_of_ble_eq_true rfl)) dX3_update_2 ⟨Nat.zero_le _, Nat.zero_le _⟩ (fun r_1 hr_1 => ?_)
  refine lv_if_ne (tgt := 18) hx hb dX3_update_5 (by decide) (fun c_5 => ?_) (fun c_5 => absurd (show isN n (nI k) from isN_k hk ok) (ite_eq0 hr_1 c_5))
  refine lv_iload_n hx hb dX3_update_18 rfl (lv_at hl 2 rfl) ?_
  refine lv_if_lt (tgt := 27) hx hb dX3_update_19 (by decide) (fun c_19 => absurd c_19 hok1) (fun c_19 => ?_)
  refine lv_iload_n hx hb dX3_update_22 rfl (lv_at hl 2 rfl) ?_
  refine lv_iconst (v := 3) hx hb dX3_update_23 (by decide) ?_
  refine lv_icmp_le (tgt := 37) hx hb dX3_update_24 (by decide) (fun c_24 => ?_) (fun c_24 => absurd hok2 c_24)
  refine lv_aload_n hx hb dX3_update_37 rfl (lv_at hl 0 rfl) ?_
  refine lv_iload_n hx hb dX3_update_38 rfl (lv_at hl 1 rfl) ?_
  refine lv_iload_n hx hb dX3_update_39 rfl (lv_at hl 2 rfl) ?_
  refine lv_iload_n hx hb dX3_update_40 rfl (lv_at hl 3 rfl) ?_
  refine lv_iload hx hb dX3_update_41 (lv_at hl 4 rfl) ?_
  refine c_calli (As := [.int (nI k), .int p1, .int p2, .int p3]) (rest := []) C (c_preX3 C w) w.2.2 hml hl.1 (k_begin_no l D cI cZ cN cO A E n bg _ k p1 p2 p3 ok hk hno) kM_X3_49 kI_X3_begin kS_X3_begin kN_X3 kD_X3_begin (show yX3_begin.cls = RX3 ∧ yX3_begin.cls ≠ "java/lang/invoke/MethodHandle" ∧ yX3_begin.cls ≠ "java/lang/invoke/VarHandle" ∧ (parseMethodDescriptor yX3_begin.desc).map (fun d => d.parameters.length) = some 4 from by decide +kernel) rfl rfl ⟨Nat.le_of_ble_eq_true rfl, Nat.le_of_ble_eq_true rfl⟩ rfl (lv_room (Nat.le_of_ble_eq_true rfl)) dX3_update_43 ⟨Nat.zero_le _, Nat.zero_le _⟩ (fun r_2 H locs hr_2 w ok => ?_)
  exact W.iret hx hb hr (fun t ht hW => ⟨⟨_, (), rfl, hr_2, ⟨by rw [ht]; exact w.1, va_K.moved hW.alike hK, w.2.1⟩, ok⟩, w.2.2.F ht⟩) w.2.2.2.2 dX3_update_46
set_option maxHeartbeats 4000000 in
set_option maxRecDepth 100000 in
theorem k_update_go (l : Launch) (D : va_G) (cI cZ cN cO : ClassId) (A : Nat → Prop) (E : CE) (n bg : Nat) (σ : CS) (k : Nat) (p1 p2 p3 : Int32) (ok : cOK n bg σ) (hk : k < n) (hok1 : ¬ p1 < 0) (hok2 : p1 ≤ 3) (hgo : cGo n bg k σ) (hrm : lnN σ + n ≤ 2000) : Met l yX3_update (.code yX3_update cX3_update 5 (some .int) :: gw) ({ frames := 4, cells := 2, slots := 12 + n, locals := 98 }) (va_Pc (.ref (E.1 0) :: [.int (nI k), .int p1, .int p2, .int p3]) (fun U => cH D cI cZ cN cO A E n bg σ U ∧ ∀ q, U.heap.size ≤ q → A q)) (va_Qi (fun (r : Int32) (_ : Unit) => r = nI (bg + 1)) (fun _ t => ∃ E1 : CE, E1.1 = E.1 ∧ cH D cI cZ cN cO A E1 n (bg + 1) (cBeg n bg k p1 p2 p3 σ) t ∧ cOK n (bg + 1) (cBeg n bg k p1 p2 p3 σ)) A) 2 (12 + n) A := by
  refine Met.ofW (cc := cX3_update) (maxL := 5) (ret := (some .int)) (by decide) rfl ?_
  intro p e s m args below meth c s₁ B hml hv
  obtain ⟨rfl, ⟨hP, hK, hD⟩, hA⟩ := hv
  have hx := B.exec
  have hb := B.bytes
  have hr := B.returns
  have hts := atoms_spec (ws := (.code yX3_update cX3_update 5 (some .int) :: gw)) B.pre
  have hg : ∀ w ∈ gw, w.before _ s = true := fun w h => hts w (List.mem_cons_of_mem _ h)
  have hown : s.vm.findClass RX3 = some m.cls := findClass_of_methodNamed B.named
  have hlocks := B.notSynchronized
  have C : Cx p c cX3_update s m _ RX3 D (gTy cI cZ cN cO) := ⟨hx, hb, hown, hg, hK⟩
  have w : cWd D cI cN cO A s.heap E n bg σ s.heap [] := ⟨hP, hD, va_S.rf⟩
  have hl := lv_entry ([.ref ((E.1 0)), .int (nI k), .int p1, .int p2, .int p3]) (n := 5) (Nat.le_of_ble_eq_true rfl)
  rw [lg_entry_eq]
  generalize (lg_sl ([.ref ((E.1 0)), .int (nI k), .int p1, .int p2, .int p3]) ++ List.replicate (5 - (lg_sl ([.ref ((E.1 0)), .int (nI k), .int p1, .int p2, .int p3])).length) Slot.unset).toArray = ls at hl ⊢
  have hl : lv_has ls 5 [(0, .ref ((E.1 0))), (1, .int (nI k)), (2, .int p1), (3, .int p2), (4, .int p3)] := hl
  refine lv_aload_n hx hb dX3_update_0 rfl (lv_at hl 0 rfl) ?_
  refine lv_iload_n hx hb dX3_update_1 rfl (lv_at hl 1 rfl) ?_
  refine c_callp (As := [.int (nI k)]) (rest := []) C (c_preX3 C w) hml hl.1 (k_X3_isNode l D cI cZ cN cO A E n bg _ (nI k) ok ) kM_X3_33 kI_X3_isNode kS_X3_isNode kN_X3 kD_X3_isNode (show yX3_isNode.cls = RX3 ∧ yX3_isNode.cls ≠ "java/lang/invoke/MethodHandle" ∧ yX3_isNode.cls ≠ "java/lang/invoke/VarHandle" ∧ (parseMethodDescriptor yX3_isNode.desc).map (fun d => d.parameters.length) = some 1 from by decide +kernel) rfl rfl ⟨Nat.le_of_ble_eq_true rfl, Nat.le_of_ble_eq_true rfl⟩ rfl (lv_room (Nat.le_of_ble_eq_true rfl)) dX3_update_2 ⟨Nat.zero_le _, Nat.zero_le _⟩ (fun r_1 hr_1 => ?_)
  refine lv_if_ne (tgt := 18) hx hb dX3_update_5 (by decide) (fun c_5 => ?_) (fun c_5 => absurd (show isN n (nI k) from isN_k hk ok) (ite_eq0 hr_1 c_5))
  refine lv_iload_n hx hb dX3_update_18 rfl (lv_at hl 2 rfl) ?_
  refine lv_if_lt (tgt := 27) hx hb dX3_update_19 (by decide) (fun c_19 => absurd c_19 hok1) (fun c_19 => ?_)
  refine lv_iload_n hx hb dX3_update_22 rfl (lv_at hl 2 rfl) ?_
  refine lv_iconst (v := 3) hx hb dX3_update_23 (by decide) ?_
  refine lv_icmp_le (tgt := 37) hx hb dX3_update_24 (by decide) (fun c_24 => ?_) (fun c_24 => absurd hok2 c_24)
  refine lv_aload_n hx hb dX3_update_37 rfl (lv_at hl 0 rfl) ?_
  refine lv_iload_n hx hb dX3_update_38 rfl (lv_at hl 1 rfl) ?_
  refine lv_iload_n hx hb dX3_update_39 rfl (lv_at hl 2 rfl) ?_
  refine lv_iload_n hx hb dX3_update_40 rfl (lv_at hl 3 rfl) ?_
  refine lv_iload hx hb dX3_update_41 (lv_at hl 4 rfl) ?_
  refine c_callg (As := [.int (nI k), .int p1, .int p2, .int p3]) (rest := []) C w hA hml hl.1 (k_begin_go l D cI cZ cN cO A E n bg _ k p1 p2 p3 ok hk hgo hrm) kM_X3_49 kI_X3_begin kS_X3_begin kD_X3_begin (show yX3_begin.cls = RX3 ∧ yX3_begin.cls ≠ "java/lang/invoke/MethodHandle" ∧ yX3_begin.cls ≠ "java/lang/invoke/VarHandle" ∧ (parseMethodDescriptor yX3_begin.desc).map (fun d => d.parameters.length) = some 4 from by decide +kernel) rfl rfl ⟨Nat.le_of_ble_eq_true rfl, Nat.le_of_ble_eq_true rfl⟩ rfl (lv_room (Nat.le_of_ble_eq_true rfl)) dX3_update_43 ⟨(by show 0 + 2 ≤ 2; omega), (by show 0 + (12 + n) ≤ 12 + n; omega)⟩ (fun r_2 E1 H locs hr_2 e0 w ok => ?_)
  refine W.widen (k := 2) (n := 12 + n) (by omega) (by omega) ?_
  exact W.iret hx hb hr (fun t ht hW => ⟨⟨_, (), rfl, hr_2, E1, e0, ⟨by rw [ht]; exact w.1, va_K.moved hW.alike hK, w.2.1⟩, ok⟩, w.2.2.F ht⟩) w.2.2.2.2 dX3_update_46
set_option maxHeartbeats 4000000 in
set_option maxRecDepth 100000 in
theorem k_query_ref (l : Launch) (D : va_G) (cI cZ cN cO : ClassId) (A : Nat → Prop) (E : CE) (n bg : Nat) (σ : CS) (k : Nat) (p1 p2 : Int32) (ok : cOK n bg σ) (hk : k < n) (hok1 : ¬ p1 < 10) (hok2 : p1 ≤ 15) (hno : ¬ cGo n bg k σ) : Met l yX3_query (.code yX3_query cX3_query 4 (some .int) :: gw) ({ frames := 4, cells := 0, slots := 0, locals := 98 }) (va_Pc (.ref (E.1 0) :: [.int (nI k), .int p1, .int p2]) (cH D cI cZ cN cO A E n bg σ)) (va_Qi (fun (r : Int32) (_ : Unit) => r = -1) (fun _ t => cH D cI cZ cN cO A E n bg (σ) t ∧ cOK n bg (σ)) A) 0 0 A := by
  refine Met.ofW (cc := cX3_query) (maxL := 4) (ret := (some .int)) (by decide) rfl ?_
  intro p e s m args below meth c s₁ B hml hv
  obtain ⟨rfl, hP, hK, hD⟩ := hv
  have hx := B.exec
  have hb := B.bytes
  have hr := B.returns
  have hts := atoms_spec (ws := (.code yX3_query cX3_query 4 (some .int) :: gw)) B.pre
  have hg : ∀ w ∈ gw, w.before _ s = true := fun w h => hts w (List.mem_cons_of_mem _ h)
  have hown : s.vm.findClass RX3 = some m.cls := findClass_of_methodNamed B.named
  have hlocks := B.notSynchronized
  have C : Cx p c cX3_query s m _ RX3 D (gTy cI cZ cN cO) := ⟨hx, hb, hown, hg, hK⟩
  have w : cWd D cI cN cO A s.heap E n bg σ s.heap [] := ⟨hP, hD, va_S.rf⟩
  have hl := lv_entry ([.ref ((E.1 0)), .int (nI k), .int p1, .int p2]) (n := 4) (Nat.le_of_ble_eq_true rfl)
  rw [lg_entry_eq]
  generalize (lg_sl ([.ref ((E.1 0)), .int (nI k), .int p1, .int p2]) ++ List.replicate (4 - (lg_sl ([.ref ((E.1 0)), .int (nI k), .int p1, .int p2])).length) Slot.unset).toArray = ls at hl ⊢
  have hl : lv_has ls 4 [(0, .ref ((E.1 0))), (1, .int (nI k)), (2, .int p1), (3, .int p2)] := hl
  refine lv_aload_n hx hb dX3_query_0 rfl (lv_at hl 0 rfl) ?_
  refine lv_iload_n hx hb dX3_query_1 rfl (lv_at hl 1 rfl) ?_
  refine c_callp (As := [.int (nI k)]) (rest := []) C (c_preX3 C w) hml hl.1 (k_X3_isNode l D cI cZ cN cO A E n bg _ (nI k) ok ) kM_X3_33 kI_X3_isNode kS_X3_isNode kN_X3 kD_X3_isNode (show yX3_isNode.cls = RX3 ∧ yX3_isNode.cls ≠ "java/lang/invoke/MethodHandle" ∧ yX3_isNode.cls ≠ "java/lang/invoke/VarHandle" ∧ (parseMethodDescriptor yX3_isNode.desc).map (fun d => d.parameters.length) = some 1 from by decide +kernel) rfl rfl ⟨Nat.le_of_ble_eq_true rfl, Nat.le_of_ble_eq_true rfl⟩ rfl (lv_room (Nat.le_of_ble_eq_true rfl)) dX3_query_2 ⟨Nat.zero_le _, Nat.zero_le _⟩ (fun r_1 hr_1 => ?_)
  refine lv_if_ne (tgt := 18) hx hb dX3_query_5 (by decide) (fun c_5 => ?_) (fun c_5 => absurd (show isN n (nI k) from isN_k hk ok) (ite_eq0 hr_1 c_5))
  refine lv_iload_n hx hb dX3_query_18 rfl (lv_at hl 2 rfl) ?_
  refine lv_bipush (v := 10) hx hb dX3_query_19 (by decide) ?_
  refine lv_icmp_lt (tgt := 30) hx hb dX3_query_21 (by decide) (fun c_21 => absurd c_21 hok1) (fun c_21 => ?_)
  refine lv_iload_n hx hb dX3_query_24 rfl (lv_at hl 2 rfl) ?_
  refine lv_bipush (v := 15) hx hb dX3_query_25 (by decide) ?_
  refine lv_icmp_le (tgt := 40) hx hb dX3_query_27 (by decide) (fun c_27 => ?_) (fun c_27 => absurd hok2 c_27)
  refine lv_aload_n hx hb dX3_query_40 rfl (lv_at hl 0 rfl) ?_
  refine lv_iload_n hx hb dX3_query_41 rfl (lv_at hl 1 rfl) ?_
  refine lv_iload_n hx hb dX3_query_42 rfl (lv_at hl 2 rfl) ?_
  refine lv_iload_n hx hb dX3_query_43 rfl (lv_at hl 3 rfl) ?_
  refine lv_iconst (v := 0) hx hb dX3_query_44 (by decide) ?_
  refine c_calli (As := [.int (nI k), .int p1, .int p2, .int 0]) (rest := []) C (c_preX3 C w) w.2.2 hml hl.1 (k_begin_no l D cI cZ cN cO A E n bg _ k p1 p2 0 ok hk hno) kM_X3_49 kI_X3_begin kS_X3_begin kN_X3 kD_X3_begin (show yX3_begin.cls = RX3 ∧ yX3_begin.cls ≠ "java/lang/invoke/MethodHandle" ∧ yX3_begin.cls ≠ "java/lang/invoke/VarHandle" ∧ (parseMethodDescriptor yX3_begin.desc).map (fun d => d.parameters.length) = some 4 from by decide +kernel) rfl rfl ⟨Nat.le_of_ble_eq_true rfl, Nat.le_of_ble_eq_true rfl⟩ rfl (lv_room (Nat.le_of_ble_eq_true rfl)) dX3_query_45 ⟨Nat.zero_le _, Nat.zero_le _⟩ (fun r_2 H locs hr_2 w ok => ?_)
  exact W.iret hx hb hr (fun t ht hW => ⟨⟨_, (), rfl, hr_2, ⟨by rw [ht]; exact w.1, va_K.moved hW.alike hK, w.2.1⟩, ok⟩, w.2.2.F ht⟩) w.2.2.2.2 dX3_query_48
set_option maxHeartbeats 4000000 in
set_option maxRecDepth 100000 in
theorem k_query_go (l : Launch) (D : va_G) (cI cZ cN cO : ClassId) (A : Nat → Prop) (E : CE) (n bg : Nat) (σ : CS) (k : Nat) (p1 p2 : Int32) (ok : cOK n bg σ) (hk : k < n) (hok1 : ¬ p1 < 10) (hok2 : p1 ≤ 15) (hgo : cGo n bg k σ) (hrm : lnN σ + n ≤ 2000) : Met l yX3_query (.code yX3_query cX3_query 4 (some .int) :: gw) ({ frames := 4, cells := 2, slots := 12 + n, locals := 98 }) (va_Pc (.ref (E.1 0) :: [.int (nI k), .int p1, .int p2]) (fun U => cH D cI cZ cN cO A E n bg σ U ∧ ∀ q, U.heap.size ≤ q → A q)) (va_Qi (fun (r : Int32) (_ : Unit) => r = nI (bg + 1)) (fun _ t => ∃ E1 : CE, E1.1 = E.1 ∧ cH D cI cZ cN cO A E1 n (bg + 1) (cBeg n bg k p1 p2 0 σ) t ∧ cOK n (bg + 1) (cBeg n bg k p1 p2 0 σ)) A) 2 (12 + n) A := by
  refine Met.ofW (cc := cX3_query) (maxL := 4) (ret := (some .int)) (by decide) rfl ?_
  intro p e s m args below meth c s₁ B hml hv
  obtain ⟨rfl, ⟨hP, hK, hD⟩, hA⟩ := hv
  have hx := B.exec
  have hb := B.bytes
  have hr := B.returns
  have hts := atoms_spec (ws := (.code yX3_query cX3_query 4 (some .int) :: gw)) B.pre
  have hg : ∀ w ∈ gw, w.before _ s = true := fun w h => hts w (List.mem_cons_of_mem _ h)
  have hown : s.vm.findClass RX3 = some m.cls := findClass_of_methodNamed B.named
  have hlocks := B.notSynchronized
  have C : Cx p c cX3_query s m _ RX3 D (gTy cI cZ cN cO) := ⟨hx, hb, hown, hg, hK⟩
  have w : cWd D cI cN cO A s.heap E n bg σ s.heap [] := ⟨hP, hD, va_S.rf⟩
  have hl := lv_entry ([.ref ((E.1 0)), .int (nI k), .int p1, .int p2]) (n := 4) (Nat.le_of_ble_eq_true rfl)
  rw [lg_entry_eq]
  generalize (lg_sl ([.ref ((E.1 0)), .int (nI k), .int p1, .int p2]) ++ List.replicate (4 - (lg_sl ([.ref ((E.1 0)), .int (nI k), .int p1, .int p2])).length) Slot.unset).toArray = ls at hl ⊢
  have hl : lv_has ls 4 [(0, .ref ((E.1 0))), (1, .int (nI k)), (2, .int p1), (3, .int p2)] := hl
  refine lv_aload_n hx hb dX3_query_0 rfl (lv_at hl 0 rfl) ?_
  refine lv_iload_n hx hb dX3_query_1 rfl (lv_at hl 1 rfl) ?_
  refine c_callp (As := [.int (nI k)]) (rest := []) C (c_preX3 C w) hml hl.1 (k_X3_isNode l D cI cZ cN cO A E n bg _ (nI k) ok ) kM_X3_33 kI_X3_isNode kS_X3_isNode kN_X3 kD_X3_isNode (show yX3_isNode.cls = RX3 ∧ yX3_isNode.cls ≠ "java/lang/invoke/MethodHandle" ∧ yX3_isNode.cls ≠ "java/lang/invoke/VarHandle" ∧ (parseMethodDescriptor yX3_isNode.desc).map (fun d => d.parameters.length) = some 1 from by decide +kernel) rfl rfl ⟨Nat.le_of_ble_eq_true rfl, Nat.le_of_ble_eq_true rfl⟩ rfl (lv_room (Nat.le_of_ble_eq_true rfl)) dX3_query_2 ⟨Nat.zero_le _, Nat.zero_le _⟩ (fun r_1 hr_1 => ?_)
  refine lv_if_ne (tgt := 18) hx hb dX3_query_5 (by decide) (fun c_5 => ?_) (fun c_5 => absurd (show isN n (nI k) from isN_k hk ok) (ite_eq0 hr_1 c_5))
  refine lv_iload_n hx hb dX3_query_18 rfl (lv_at hl 2 rfl) ?_
  refine lv_bipush (v := 10) hx hb dX3_query_19 (by decide) ?_
  refine lv_icmp_lt (tgt := 30) hx hb dX3_query_21 (by decide) (fun c_21 => absurd c_21 hok1) (fun c_21 => ?_)
  refine lv_iload_n hx hb dX3_query_24 rfl (lv_at hl 2 rfl) ?_
  refine lv_bipush (v := 15) hx hb dX3_query_25 (by decide) ?_
  refine lv_icmp_le (tgt := 40) hx hb dX3_query_27 (by decide) (fun c_27 => ?_) (fun c_27 => absurd hok2 c_27)
  refine lv_aload_n hx hb dX3_query_40 rfl (lv_at hl 0 rfl) ?_
  refine lv_iload_n hx hb dX3_query_41 rfl (lv_at hl 1 rfl) ?_
  refine lv_iload_n hx hb dX3_query_42 rfl (lv_at hl 2 rfl) ?_
  refine lv_iload_n hx hb dX3_query_43 rfl (lv_at hl 3 rfl) ?_
  refine lv_iconst (v := 0) hx hb dX3_query_44 (by decide) ?_
  refine c_callg (As := [.int (nI k), .int p1, .int p2, .int 0]) (rest := []) C w hA hml hl.1 (k_begin_go l D cI cZ cN cO A E n bg _ k p1 p2 0 ok hk hgo hrm) kM_X3_49 kI_X3_begin kS_X3_begin kD_X3_begin (show yX3_begin.cls = RX3 ∧ yX3_begin.cls ≠ "java/lang/invoke/MethodHandle" ∧ yX3_begin.cls ≠ "java/lang/invoke/VarHandle" ∧ (parseMethodDescriptor yX3_begin.desc).map (fun d => d.parameters.length) = some 4 from by decide +kernel) rfl rfl ⟨Nat.le_of_ble_eq_true rfl, Nat.le_of_ble_eq_true rfl⟩ rfl (lv_room (Nat.le_of_ble_eq_true rfl)) dX3_query_45 ⟨(by show 0 + 2 ≤ 2; omega), (by show 0 + (12 + n) ≤ 12 + n; omega)⟩ (fun r_2 E1 H locs hr_2 e0 w ok => ?_)
  refine W.widen (k := 2) (n := 12 + n) (by omega) (by omega) ?_
  exact W.iret hx hb hr (fun t ht hW => ⟨⟨_, (), rfl, hr_2, E1, e0, ⟨by rw [ht]; exact w.1, va_K.moved hW.alike hK, w.2.1⟩, ok⟩, w.2.2.F ht⟩) w.2.2.2.2 dX3_query_48
theorem holds_k {n bg a : Nat} {σ : CS} (ok : cOK n bg σ) (ha : a < lnN σ) : holds σ (nI a) := by
  have h := ok.lnn
  exact ⟨nI_pos (by omega), by rw [h.1]; exact nI_lt ha (by omega)⟩
set_option maxHeartbeats 4000000 in
set_option maxRecDepth 100000 in
theorem k_deliver_ref (l : Launch) (D : va_G) (cI cZ cN cO : ClassId) (A : Nat → Prop) (E : CE) (n bg : Nat) (σ : CS) (a j k : Nat) (ok : cOK n bg σ) (ha : a < lnN σ) (hsa : slN σ a = j) (hkr : σ.2.1 1 0 4 j = nI k) (hk : k < n) (hlo : cLOk n bg k j σ) (hro : 2000 < σ.1 1 0 8 + (cLeads n k j σ - 1)) : Met l yX3_deliver (.code yX3_deliver cX3_deliver 2 (some .int) :: gw) ({ frames := 7, cells := 0, slots := 0, locals := 185 }) (va_Pc (.ref (E.1 0) :: [.int (nI a)]) (cH D cI cZ cN cO A E n bg σ)) (va_Qi (fun (r : Int32) (_ : Unit) => r = -1) (fun _ t => cH D cI cZ cN cO A E n bg (σ) t ∧ cOK n bg (σ)) A) 0 0 A := by
  refine Met.ofW (cc := cX3_deliver) (maxL := 2) (ret := (some .int)) (by decide) rfl ?_
  intro p e s m args below meth c s₁ B hml hv
  obtain ⟨rfl, hP, hK, hD⟩ := hv
  have hx := B.exec
  have hb := B.bytes
  have hr := B.returns
  have hts := atoms_spec (ws := (.code yX3_deliver cX3_deliver 2 (some .int) :: gw)) B.pre
  have hg : ∀ w ∈ gw, w.before _ s = true := fun w h => hts w (List.mem_cons_of_mem _ h)
  have hown : s.vm.findClass RX3 = some m.cls := findClass_of_methodNamed B.named
  have hlocks := B.notSynchronized
  have C : Cx p c cX3_deliver s m _ RX3 D (gTy cI cZ cN cO) := ⟨hx, hb, hown, hg, hK⟩
  have w : cWd D cI cN cO A s.heap E n bg σ s.heap [] := ⟨hP, hD, va_S.rf⟩
  have hl := lv_entry ([.ref ((E.1 0)), .int (nI a)]) (n := 2) (Nat.le_of_ble_eq_true rfl)
  rw [lg_entry_eq]
  generalize (lg_sl ([.ref ((E.1 0)), .int (nI a)]) ++ List.replicate (2 - (lg_sl ([.ref ((E.1 0)), .int (nI a)])).length) Slot.unset).toArray = ls at hl ⊢
  have hl : lv_has ls 2 [(0, .ref ((E.1 0))), (1, .int (nI a))] := hl
  refine lv_aload_n hx hb dX3_deliver_0 rfl (lv_at hl 0 rfl) ?_
  refine c_gX3_1 C w kF_X3_23 dX3_deliver_1 ?_
  refine lv_iload_n hx hb dX3_deliver_4 rfl (lv_at hl 1 rfl) ?_
  refine c_callp (As := [.int (nI a)]) (rest := []) C (c_preX2 C w) hml hl.1 (k_X2_holds l D cI cZ cN cO A E n bg _ (nI a) ok ) kM_X3_55 kI_X2_holds kS_X2_holds kN_X2 kD_X2_holds (show yX2_holds.cls = RX2 ∧ yX2_holds.cls ≠ "java/lang/invoke/MethodHandle" ∧ yX2_holds.cls ≠ "java/lang/invoke/VarHandle" ∧ (parseMethodDescriptor yX2_holds.desc).map (fun d => d.parameters.length) = some 1 from by decide +kernel) rfl rfl ⟨Nat.le_of_ble_eq_true rfl, Nat.le_of_ble_eq_true rfl⟩ rfl (lv_room (Nat.le_of_ble_eq_true rfl)) dX3_deliver_5 ⟨Nat.zero_le _, Nat.zero_le _⟩ (fun r_1 hr_1 => ?_)
  refine lv_if_ne (tgt := 21) hx hb dX3_deliver_8 (by decide) (fun c_8 => ?_) (fun c_8 => absurd (holds_k ok ha) (ite_eq0 hr_1 c_8))
  refine lv_aload_n hx hb dX3_deliver_21 rfl (lv_at hl 0 rfl) ?_
  refine lv_iload_n hx hb dX3_deliver_22 rfl (lv_at hl 1 rfl) ?_
  refine c_calli (As := [.int (nI a)]) (rest := []) C (c_preX3 C w) w.2.2 hml hl.1 (k_come_no l D cI cZ cN cO A E n bg _ a j k ok ha hsa hkr hk hlo hro) kM_X3_60 kI_X3_come kS_X3_come kN_X3 kD_X3_come (show yX3_come.cls = RX3 ∧ yX3_come.cls ≠ "java/lang/invoke/MethodHandle" ∧ yX3_come.cls ≠ "java/lang/invoke/VarHandle" ∧ (parseMethodDescriptor yX3_come.desc).map (fun d => d.parameters.length) = some 1 from by decide +kernel) rfl rfl ⟨Nat.le_of_ble_eq_true rfl, Nat.le_of_ble_eq_true rfl⟩ rfl (lv_room (Nat.le_of_ble_eq_true rfl)) dX3_deliver_23 ⟨Nat.zero_le _, Nat.zero_le _⟩ (fun r_2 H locs hr_2 w ok => ?_)
  exact W.iret hx hb hr (fun t ht hW => ⟨⟨_, (), rfl, hr_2, ⟨by rw [ht]; exact w.1, va_K.moved hW.alike hK, w.2.1⟩, ok⟩, w.2.2.F ht⟩) w.2.2.2.2 dX3_deliver_26
set_option maxHeartbeats 4000000 in
set_option maxRecDepth 100000 in
theorem k_deliver_go (l : Launch) (D : va_G) (cI cZ cN cO : ClassId) (A : Nat → Prop) (E : CE) (n bg : Nat) (σ : CS) (a j k : Nat) (ok : cOK n bg σ) (ha : a < lnN σ) (hsa : slN σ a = j) (hkr : σ.2.1 1 0 4 j = nI k) (hk : k < n) (hlo : cLOk n bg k j σ) (hro : ¬ 2000 < σ.1 1 0 8 + (cLeads n k j σ - 1)) (hho : ¬ (cOff a σ).1 2 k 6 = 0 → ¬ (cOff a σ).2.1 1 0 2 j = 0 → ¬ (cOff a σ).2.1 1 0 2 j = 2 → cWait k (cOff a σ) ((cOff a σ).2.1 1 0 2 j) ((cOff a σ).2.1 1 0 5 j) → 1 ≤ (cOff a σ).2.2 k ∧ cHOk n bg k ((cOff a σ).2.2 k) (cH1 n k j (cOff a σ))) : Met l yX3_deliver (.code yX3_deliver cX3_deliver 2 (some .int) :: gw) ({ frames := 7, cells := 0, slots := 0, locals := 185 }) (va_Pc (.ref (E.1 0) :: [.int (nI a)]) (cH D cI cZ cN cO A E n bg σ)) (va_Qi (fun (r : Int32) (_ : Unit) => r = σ.2.1 1 0 2 j) (fun _ t => cH D cI cZ cN cO A E n bg (cMid n bg k j (cOff a σ)) t ∧ cOK n bg (cMid n bg k j (cOff a σ))) A) 0 0 A := by
  refine Met.ofW (cc := cX3_deliver) (maxL := 2) (ret := (some .int)) (by decide) rfl ?_
  intro p e s m args below meth c s₁ B hml hv
  obtain ⟨rfl, hP, hK, hD⟩ := hv
  have hx := B.exec
  have hb := B.bytes
  have hr := B.returns
  have hts := atoms_spec (ws := (.code yX3_deliver cX3_deliver 2 (some .int) :: gw)) B.pre
  have hg : ∀ w ∈ gw, w.before _ s = true := fun w h => hts w (List.mem_cons_of_mem _ h)
  have hown : s.vm.findClass RX3 = some m.cls := findClass_of_methodNamed B.named
  have hlocks := B.notSynchronized
  have C : Cx p c cX3_deliver s m _ RX3 D (gTy cI cZ cN cO) := ⟨hx, hb, hown, hg, hK⟩
  have w : cWd D cI cN cO A s.heap E n bg σ s.heap [] := ⟨hP, hD, va_S.rf⟩
  have hl := lv_entry ([.ref ((E.1 0)), .int (nI a)]) (n := 2) (Nat.le_of_ble_eq_true rfl)
  rw [lg_entry_eq]
  generalize (lg_sl ([.ref ((E.1 0)), .int (nI a)]) ++ List.replicate (2 - (lg_sl ([.ref ((E.1 0)), .int (nI a)])).length) Slot.unset).toArray = ls at hl ⊢
  have hl : lv_has ls 2 [(0, .ref ((E.1 0))), (1, .int (nI a))] := hl
  refine lv_aload_n hx hb dX3_deliver_0 rfl (lv_at hl 0 rfl) ?_
  refine c_gX3_1 C w kF_X3_23 dX3_deliver_1 ?_
  refine lv_iload_n hx hb dX3_deliver_4 rfl (lv_at hl 1 rfl) ?_
  refine c_callp (As := [.int (nI a)]) (rest := []) C (c_preX2 C w) hml hl.1 (k_X2_holds l D cI cZ cN cO A E n bg _ (nI a) ok ) kM_X3_55 kI_X2_holds kS_X2_holds kN_X2 kD_X2_holds (show yX2_holds.cls = RX2 ∧ yX2_holds.cls ≠ "java/lang/invoke/MethodHandle" ∧ yX2_holds.cls ≠ "java/lang/invoke/VarHandle" ∧ (parseMethodDescriptor yX2_holds.desc).map (fun d => d.parameters.length) = some 1 from by decide +kernel) rfl rfl ⟨Nat.le_of_ble_eq_true rfl, Nat.le_of_ble_eq_true rfl⟩ rfl (lv_room (Nat.le_of_ble_eq_true rfl)) dX3_deliver_5 ⟨Nat.zero_le _, Nat.zero_le _⟩ (fun r_1 hr_1 => ?_)
  refine lv_if_ne (tgt := 21) hx hb dX3_deliver_8 (by decide) (fun c_8 => ?_) (fun c_8 => absurd (holds_k ok ha) (ite_eq0 hr_1 c_8))
  refine lv_aload_n hx hb dX3_deliver_21 rfl (lv_at hl 0 rfl) ?_
  refine lv_iload_n hx hb dX3_deliver_22 rfl (lv_at hl 1 rfl) ?_
  refine c_calli (As := [.int (nI a)]) (rest := []) C (c_preX3 C w) w.2.2 hml hl.1 (k_come_go l D cI cZ cN cO A E n bg _ a j k ok ha hsa hkr hk hlo hro hho) kM_X3_60 kI_X3_come kS_X3_come kN_X3 kD_X3_come (show yX3_come.cls = RX3 ∧ yX3_come.cls ≠ "java/lang/invoke/MethodHandle" ∧ yX3_come.cls ≠ "java/lang/invoke/VarHandle" ∧ (parseMethodDescriptor yX3_come.desc).map (fun d => d.parameters.length) = some 1 from by decide +kernel) rfl rfl ⟨Nat.le_of_ble_eq_true rfl, Nat.le_of_ble_eq_true rfl⟩ rfl (lv_room (Nat.le_of_ble_eq_true rfl)) dX3_deliver_23 ⟨Nat.zero_le _, Nat.zero_le _⟩ (fun r_2 H locs hr_2 w ok => ?_)
  exact W.iret hx hb hr (fun t ht hW => ⟨⟨_, (), rfl, hr_2, ⟨by rw [ht]; exact w.1, va_K.moved hW.alike hK, w.2.1⟩, ok⟩, w.2.2.F ht⟩) w.2.2.2.2 dX3_deliver_26
set_option maxHeartbeats 4000000 in
set_option maxRecDepth 100000 in
theorem k_crash_was (l : Launch) (D : va_G) (cI cZ cN cO : ClassId) (A : Nat → Prop) (E : CE) (n bg : Nat) (σ : CS) (k : Nat) (ok : cOK n bg σ) (hk : k < n) (hup : σ.1 2 k 6 = 0) : Met l yX3_crash (.code yX3_crash cX3_crash 3 (some .boolean) :: gw) ({ frames := 1, cells := 0, slots := 0, locals := 21 }) (va_Pc (.ref (E.1 0) :: [.int (nI k)]) (cH D cI cZ cN cO A E n bg σ)) (va_Qi (fun (r : Int32) (_ : Unit) => r = 0) (fun _ t => cH D cI cZ cN cO A E n bg (σ) t ∧ cOK n bg (σ)) A) 0 0 A := by
  refine Met.ofW (cc := cX3_crash) (maxL := 3) (ret := (some .boolean)) (by decide) rfl ?_
  intro p e s m args below meth c s₁ B hml hv
  obtain ⟨rfl, hP, hK, hD⟩ := hv
  have hx := B.exec
  have hb := B.bytes
  have hr := B.returns
  have hts := atoms_spec (ws := (.code yX3_crash cX3_crash 3 (some .boolean) :: gw)) B.pre
  have hg : ∀ w ∈ gw, w.before _ s = true := fun w h => hts w (List.mem_cons_of_mem _ h)
  have hown : s.vm.findClass RX3 = some m.cls := findClass_of_methodNamed B.named
  have hlocks := B.notSynchronized
  have C : Cx p c cX3_crash s m _ RX3 D (gTy cI cZ cN cO) := ⟨hx, hb, hown, hg, hK⟩
  have w : cWd D cI cN cO A s.heap E n bg σ s.heap [] := ⟨hP, hD, va_S.rf⟩
  have hl := lv_entry ([.ref ((E.1 0)), .int (nI k)]) (n := 3) (Nat.le_of_ble_eq_true rfl)
  rw [lg_entry_eq]
  generalize (lg_sl ([.ref ((E.1 0)), .int (nI k)]) ++ List.replicate (3 - (lg_sl ([.ref ((E.1 0)), .int (nI k)])).length) Slot.unset).toArray = ls at hl ⊢
  have hl : lv_has ls 3 [(0, .ref ((E.1 0))), (1, .int (nI k))] := hl
  refine lv_aload_n hx hb dX3_crash_0 rfl (lv_at hl 0 rfl) ?_
  refine lv_iload_n hx hb dX3_crash_1 rfl (lv_at hl 1 rfl) ?_
  refine c_callp (As := [.int (nI k)]) (rest := []) C (c_preX3 C w) hml hl.1 (k_X3_isNode l D cI cZ cN cO A E n bg _ (nI k) ok ) kM_X3_33 kI_X3_isNode kS_X3_isNode kN_X3 kD_X3_isNode (show yX3_isNode.cls = RX3 ∧ yX3_isNode.cls ≠ "java/lang/invoke/MethodHandle" ∧ yX3_isNode.cls ≠ "java/lang/invoke/VarHandle" ∧ (parseMethodDescriptor yX3_isNode.desc).map (fun d => d.parameters.length) = some 1 from by decide +kernel) rfl rfl ⟨Nat.le_of_ble_eq_true rfl, Nat.le_of_ble_eq_true rfl⟩ rfl (lv_room (Nat.le_of_ble_eq_true rfl)) dX3_crash_2 ⟨Nat.zero_le _, Nat.zero_le _⟩ (fun r_1 hr_1 => ?_)
  refine lv_if_ne (tgt := 18) hx hb dX3_crash_5 (by decide) (fun c_5 => ?_) (fun c_5 => absurd (show isN n (nI k) from isN_k hk ok) (ite_eq0 hr_1 c_5))
  refine lv_aload_n hx hb dX3_crash_18 rfl (lv_at hl 0 rfl) ?_
  refine c_gX3_0 C w kF_X3_11 dX3_crash_19 ?_
  refine lv_iload_n hx hb dX3_crash_22 rfl (lv_at hl 1 rfl) ?_
  refine c_lNA (k := k) C w hk ok.n dX3_crash_23 ?_
  refine c_gX0_6 C w hk kF_X3_66 dX3_crash_24 ?_
  rw [hup]
  refine lv_istore_n (lv' := [(2, _), (0, _), (1, _)]) C.1 C.2.1 dX3_crash_27 rfl hl (by decide) rfl (fun ls hl => ?_)
  refine lv_iload_n hx hb dX3_crash_28 rfl (lv_at hl 0 rfl) ?_
  refine lv_if_eq (tgt := 52) hx hb dX3_crash_29 (by decide) (fun c_29 => ?_) (fun c_29 => absurd rfl c_29)
  refine lv_iload_n hx hb dX3_crash_52 rfl (lv_at hl 0 rfl) ?_
  exact W.zret (v := 0) (ty := .boolean) hx hb hr rfl (fun t ht hW => ⟨⟨_, (), rfl, rfl, ⟨by rw [ht]; exact w.1, va_K.moved hW.alike hK, w.2.1⟩, ok⟩, w.2.2.F ht⟩) w.2.2.2.2 dX3_crash_53
set_option maxHeartbeats 4000000 in
set_option maxRecDepth 100000 in
theorem k_crash_go (l : Launch) (D : va_G) (cI cZ cN cO : ClassId) (A : Nat → Prop) (E : CE) (n bg : Nat) (σ : CS) (k : Nat) (ok : cOK n bg σ) (hk : k < n) (hup : σ.1 2 k 6 = 1) : Met l yX3_crash (.code yX3_crash cX3_crash 3 (some .boolean) :: gw) ({ frames := 1, cells := 0, slots := 0, locals := 21 }) (va_Pc (.ref (E.1 0) :: [.int (nI k)]) (cH D cI cZ cN cO A E n bg σ)) (va_Qi (fun (r : Int32) (_ : Unit) => r = 1) (fun _ t => cH D cI cZ cN cO A E n bg (cI_ (cI_ σ 2 k 6 0) 0 0 5 (σ.1 0 0 5 + 1)) t ∧ cOK n bg (cI_ (cI_ σ 2 k 6 0) 0 0 5 (σ.1 0 0 5 + 1))) A) 0 0 A := by
  refine Met.ofW (cc := cX3_crash) (maxL := 3) (ret := (some .boolean)) (by decide) rfl ?_
  intro p e s m args below meth c s₁ B hml hv
  obtain ⟨rfl, hP, hK, hD⟩ := hv
  have hx := B.exec
  have hb := B.bytes
  have hr := B.returns
  have hts := atoms_spec (ws := (.code yX3_crash cX3_crash 3 (some .boolean) :: gw)) B.pre
  have hg : ∀ w ∈ gw, w.before _ s = true := fun w h => hts w (List.mem_cons_of_mem _ h)
  have hown : s.vm.findClass RX3 = some m.cls := findClass_of_methodNamed B.named
  have hlocks := B.notSynchronized
  have C : Cx p c cX3_crash s m _ RX3 D (gTy cI cZ cN cO) := ⟨hx, hb, hown, hg, hK⟩
  have w : cWd D cI cN cO A s.heap E n bg σ s.heap [] := ⟨hP, hD, va_S.rf⟩
  have hl := lv_entry ([.ref ((E.1 0)), .int (nI k)]) (n := 3) (Nat.le_of_ble_eq_true rfl)
  rw [lg_entry_eq]
  generalize (lg_sl ([.ref ((E.1 0)), .int (nI k)]) ++ List.replicate (3 - (lg_sl ([.ref ((E.1 0)), .int (nI k)])).length) Slot.unset).toArray = ls at hl ⊢
  have hl : lv_has ls 3 [(0, .ref ((E.1 0))), (1, .int (nI k))] := hl
  refine lv_aload_n hx hb dX3_crash_0 rfl (lv_at hl 0 rfl) ?_
  refine lv_iload_n hx hb dX3_crash_1 rfl (lv_at hl 1 rfl) ?_
  refine c_callp (As := [.int (nI k)]) (rest := []) C (c_preX3 C w) hml hl.1 (k_X3_isNode l D cI cZ cN cO A E n bg _ (nI k) ok ) kM_X3_33 kI_X3_isNode kS_X3_isNode kN_X3 kD_X3_isNode (show yX3_isNode.cls = RX3 ∧ yX3_isNode.cls ≠ "java/lang/invoke/MethodHandle" ∧ yX3_isNode.cls ≠ "java/lang/invoke/VarHandle" ∧ (parseMethodDescriptor yX3_isNode.desc).map (fun d => d.parameters.length) = some 1 from by decide +kernel) rfl rfl ⟨Nat.le_of_ble_eq_true rfl, Nat.le_of_ble_eq_true rfl⟩ rfl (lv_room (Nat.le_of_ble_eq_true rfl)) dX3_crash_2 ⟨Nat.zero_le _, Nat.zero_le _⟩ (fun r_1 hr_1 => ?_)
  refine lv_if_ne (tgt := 18) hx hb dX3_crash_5 (by decide) (fun c_5 => ?_) (fun c_5 => absurd (show isN n (nI k) from isN_k hk ok) (ite_eq0 hr_1 c_5))
  refine lv_aload_n hx hb dX3_crash_18 rfl (lv_at hl 0 rfl) ?_
  refine c_gX3_0 C w kF_X3_11 dX3_crash_19 ?_
  refine lv_iload_n hx hb dX3_crash_22 rfl (lv_at hl 1 rfl) ?_
  refine c_lNA (k := k) C w hk ok.n dX3_crash_23 ?_
  refine c_gX0_6 C w hk kF_X3_66 dX3_crash_24 ?_
  rw [hup]
  refine lv_istore_n (lv' := [(2, _), (0, _), (1, _)]) C.1 C.2.1 dX3_crash_27 rfl hl (by decide) rfl (fun ls hl => ?_)
  refine lv_iload_n hx hb dX3_crash_28 rfl (lv_at hl 0 rfl) ?_
  refine lv_if_eq (tgt := 52) hx hb dX3_crash_29 (by decide) (fun c_29 => absurd c_29 (by decide)) (fun c_29 => ?_)
  refine lv_aload_n hx hb dX3_crash_32 rfl (lv_at hl 1 rfl) ?_
  refine c_gX3_0 C w kF_X3_11 dX3_crash_33 ?_
  refine lv_iload_n hx hb dX3_crash_36 rfl (lv_at hl 2 rfl) ?_
  refine c_lNA (k := k) C w hk ok.n dX3_crash_37 ?_
  refine lv_iconst (v := 0) hx hb dX3_crash_38 (by decide) ?_
  refine c_pX0_6 (v := 0) C w hk rfl rfl kF_X3_66 dX3_crash_39 (fun H locs w => ?_)
  have ok : cOK n bg _ := cOK.put ok (kd := 2) (ix := k) (f := 6) (v := 0) rfl
  refine lv_aload_n hx hb dX3_crash_42 rfl (lv_at hl 1 rfl) ?_
  refine lv_dup hx hb dX3_crash_43 rfl ?_
  refine c_gX3_5 C w kF_X3_70 dX3_crash_44 ?_
  refine lv_topi (fun t_2 et_2 => ?_)
  refine lv_iconst (v := 1) hx hb dX3_crash_47 (by decide) ?_
  refine lv_iadd hx hb dX3_crash_48 ?_
  refine lv_topi (fun t_3 et_3 => ?_)
  refine c_pX3_5 (v := t_3) C w kF_X3_70 dX3_crash_49 (fun H locs w => ?_)
  have ok : cOK n bg _ := cOK.put ok (kd := 0) (ix := 0) (f := 5) (v := t_3) rfl
  refine lv_iload_n hx hb dX3_crash_52 rfl (lv_at hl 0 rfl) ?_
  subst et_3 et_2
  exact W.zret (v := 1) (ty := .boolean) hx hb hr rfl (fun t ht hW => ⟨⟨_, (), rfl, rfl, ⟨by rw [ht]; exact w.1, va_K.moved hW.alike hK, w.2.1⟩, ok⟩, w.2.2.F ht⟩) w.2.2.2.2 dX3_crash_53
