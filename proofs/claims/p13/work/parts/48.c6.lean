def itc (f : Nat → CS → CS) : Nat → CS → CS
  | 0, σ => σ
  | i + 1, σ => f i (itc f i σ)
def cOne0 (k : Nat) (kd : Int32) (i : Nat) (σ : CS) : CS := cSend0 σ kd (nI k) (nI i) (σ.1 2 k 8)
def cOneV (n k f : Nat) (kd : Int32) (i : Nat) (σ : CS) : CS := cSendV n k f σ kd (nI k) (nI i) (σ.1 2 k 8)
def cTo0 (n k : Nat) (kd ph : Int32) (σ : CS) : CS := itc (cOne0 k kd) n (cEnter k ph σ)
def cToV (n k f : Nat) (kd ph : Int32) (σ : CS) : CS := itc (cOneV n k f kd) n (cEnter k ph σ)
theorem cLen_ln {n bg : Nat} {σ : CS} (ok : cOK n bg σ) : lnN (cLen σ) = lnN σ + 1 := by
  show (σ.1 1 0 8 + 1).toNatClampNeg = _
  have h := ok.lnn
  rw [h.1, nI_1, nI_clamp (by omega)]
theorem cSend0_ln {n bg : Nat} {σ : CS} (ok : cOK n bg σ) (a b c d : Int32) : lnN (cSend0 σ a b c d) = lnN σ + 1 := by
  show (σ.1 1 0 8 + 1).toNatClampNeg = _
  have h := ok.lnn
  rw [h.1, nI_1, nI_clamp (by omega)]
theorem cSendV_ln {n bg : Nat} {σ : CS} (ok : cOK n bg σ) (k f : Nat) (a b c d : Int32) : lnN (cSendV n k f σ a b c d) = lnN σ + 1 := by
  show (σ.1 1 0 8 + 1).toNatClampNeg = _
  have h := ok.lnn
  rw [h.1, nI_1, nI_clamp (by omega)]
set_option maxHeartbeats 4000000 in
set_option maxRecDepth 100000 in
theorem k_X3_isNode (l : Launch) (D : va_G) (cI cZ cN cO : ClassId) (A : Nat → Prop) (E : CE) (n bg : Nat) (σ : CS) (p1 : Int32) (ok : cOK n bg σ)  : Met l yX3_isNode (.code yX3_isNode cX3_isNode 2 (some .boolean) :: gw) ({ frames := 0, cells := 0, slots := 0, locals := 0 }) (va_Pc (.ref (E.1 0) :: [.int p1]) (cH D cI cZ cN cO A E n bg σ)) (vp_Si (fun r => r = if isN n p1 then 1 else 0)) 0 0 (fun _ => False) := by
  refine Met.ofW (cc := cX3_isNode) (maxL := 2) (ret := (some .boolean)) (by decide) rfl ?_
  intro p e s m args below meth c s₁ B hml hv
  obtain ⟨rfl, hP, hK, hD⟩ := hv
  have hx := B.exec
  have hb := B.bytes
  have hr := B.returns
  have hts := atoms_spec (ws := (.code yX3_isNode cX3_isNode 2 (some .boolean) :: gw)) B.pre
  have hg : ∀ w ∈ gw, w.before _ s = true := fun w h => hts w (List.mem_cons_of_mem _ h)
  have hown : s.vm.findClass RX3 = some m.cls := findClass_of_methodNamed B.named
  have hlocks := B.notSynchronized
  have C : Cx p c cX3_isNode s m _ RX3 D (gTy cI cZ cN cO) := ⟨hx, hb, hown, hg, hK⟩
  have w : cWd D cI cN cO A s.heap E n bg σ s.heap [] := ⟨hP, hD, va_S.rf⟩
  have hl := lv_entry ([.ref ((E.1 0)), .int p1]) (n := 2) (Nat.le_of_ble_eq_true rfl)
  rw [lg_entry_eq]
  generalize (lg_sl ([.ref ((E.1 0)), .int p1]) ++ List.replicate (2 - (lg_sl ([.ref ((E.1 0)), .int p1])).length) Slot.unset).toArray = ls at hl ⊢
  have hl : lv_has ls 2 [(0, .ref ((E.1 0))), (1, .int p1)] := hl
  refine lv_iload_n hx hb dX3_isNode_0 rfl (lv_at hl 1 rfl) ?_
  refine lv_if_lt (tgt := 17) hx hb dX3_isNode_1 (by decide) (fun c_1 => ?_) (fun c_1 => ?_)
  · refine lv_iconst (v := 0) hx hb dX3_isNode_17 (by decide) ?_
    exact W.zret (v := 0) (ty := .boolean) hx hb hr rfl (fun t ht hW => ⟨_, rfl, (by rw [if_neg (fun h : isN n p1 => h.1 c_1)]), ht⟩) (fun _ h => by cases h) dX3_isNode_18
  · refine lv_iload_n hx hb dX3_isNode_4 rfl (lv_at hl 1 rfl) ?_
    refine lv_aload_n hx hb dX3_isNode_5 rfl (lv_at hl 0 rfl) ?_
    refine c_gX3_0 C w kF_X3_11 dX3_isNode_6 ?_
    refine c_nNA C w dX3_isNode_9 ?_
    refine lv_icmp_ge (tgt := 17) hx hb dX3_isNode_10 (by decide) (fun c_10 => ?_) (fun c_10 => ?_)
    · refine lv_iconst (v := 0) hx hb dX3_isNode_17 (by decide) ?_
      exact W.zret (v := 0) (ty := .boolean) hx hb hr rfl (fun t ht hW => ⟨_, rfl, (by rw [if_neg (fun h : isN n p1 => h.2 c_10)]), ht⟩) (fun _ h => by cases h) dX3_isNode_18
    · refine lv_iconst (v := 1) hx hb dX3_isNode_13 (by decide) ?_
      refine lv_goto (tgt := 18) hx hb dX3_isNode_14 (by decide) ?_
      exact W.zret (v := 1) (ty := .boolean) hx hb hr rfl (fun t ht hW => ⟨_, rfl, (by rw [if_pos (show isN n p1 from ⟨c_1, c_10⟩)]), ht⟩) (fun _ h => by cases h) dX3_isNode_18
/-- which OPERATION a number names -/
abbrev isO (bg : Nat) (x : Int32) : Prop := ¬ x < 1 ∧ x ≤ nI bg
theorem isO_nat {bg : Nat} (hb : bg ≤ 511) {x : Int32} (h : isO bg x) : ∃ q : Nat, 1 ≤ q ∧ q ≤ bg ∧ x = nI q := by
  obtain ⟨h1, h2⟩ := h
  have a1 : ¬ x.toInt < 1 := fun q => h1 (by rw [Int32.lt_iff_toInt_lt]; exact q)
  have a2 : x.toInt ≤ (bg : Int) := by rw [Int32.le_iff_toInt_le, nI_toInt (by omega)] at h2; exact h2
  obtain ⟨j, hj, rfl⟩ := nI_of (x := x) (fun q => by rw [Int32.lt_iff_toInt_lt, Int32.toInt_zero] at q; omega)
  rw [nI_toInt hj] at a1 a2
  exact ⟨j, by omega, by omega, rfl⟩
theorem isO_of {bg q : Nat} (hb : bg ≤ 511) (h1 : 1 ≤ q) (h2 : q ≤ bg) : isO bg (nI q) := ⟨fun h => by rw [Int32.lt_iff_toInt_lt, nI_toInt (by omega)] at h; exact absurd h (by show ¬ (q : Int) < 1; omega), nI_le h2 (by omega)⟩
set_option maxHeartbeats 4000000 in
set_option maxRecDepth 100000 in
theorem k_find_yes (l : Launch) (D : va_G) (cI cZ cN cO : ClassId) (A : Nat → Prop) (E : CE) (n bg : Nat) (σ : CS) (q : Nat) (ok : cOK n bg σ) (g1 : 1 ≤ q) (g2 : q ≤ bg) : Met l yX3_find (.code yX3_find cX3_find 2 (some (.object "SharedShelf$Operation")) :: gw) ({ frames := 0, cells := 0, slots := 0, locals := 0 }) (va_Pc (.ref (E.1 0) :: [.int (nI q)]) (cH D cI cZ cN cO A E n bg σ)) (va_Sq (fun r => r = some (E.2.2.2.2.1 q))) 0 0 (fun _ => False) := by
  refine Met.ofW (cc := cX3_find) (maxL := 2) (ret := (some (.object "SharedShelf$Operation"))) (by decide) rfl ?_
  intro p e s m args below meth c s₁ B hml hv
  obtain ⟨rfl, hP, hK, hD⟩ := hv
  have hx := B.exec
  have hb := B.bytes
  have hr := B.returns
  have hts := atoms_spec (ws := (.code yX3_find cX3_find 2 (some (.object "SharedShelf$Operation")) :: gw)) B.pre
  have hg : ∀ w ∈ gw, w.before _ s = true := fun w h => hts w (List.mem_cons_of_mem _ h)
  have hown : s.vm.findClass RX3 = some m.cls := findClass_of_methodNamed B.named
  have hlocks := B.notSynchronized
  have C : Cx p c cX3_find s m _ RX3 D (gTy cI cZ cN cO) := ⟨hx, hb, hown, hg, hK⟩
  have w : cWd D cI cN cO A s.heap E n bg σ s.heap [] := ⟨hP, hD, va_S.rf⟩
  have hl := lv_entry ([.ref ((E.1 0)), .int (nI q)]) (n := 2) (Nat.le_of_ble_eq_true rfl)
  rw [lg_entry_eq]
  generalize (lg_sl ([.ref ((E.1 0)), .int (nI q)]) ++ List.replicate (2 - (lg_sl ([.ref ((E.1 0)), .int (nI q)])).length) Slot.unset).toArray = ls at hl ⊢
  have hl : lv_has ls 2 [(0, .ref ((E.1 0))), (1, .int (nI q))] := hl
  refine lv_iload_n hx hb dX3_find_0 rfl (lv_at hl 1 rfl) ?_
  refine lv_iconst (v := 1) hx hb dX3_find_1 (by decide) ?_
  refine lv_icmp_lt (tgt := 13) hx hb dX3_find_2 (by decide) (fun c_2 => absurd c_2 (isO_of ok.2.2.1 g1 g2).1) (fun c_2 => ?_)
  refine lv_iload_n hx hb dX3_find_5 rfl (lv_at hl 1 rfl) ?_
  refine lv_aload_n hx hb dX3_find_6 rfl (lv_at hl 0 rfl) ?_
  refine c_gX3_3 C w kF_X3_119 dX3_find_7 ?_
  rw [ok.bg]
  refine lv_icmp_le (tgt := 17) hx hb dX3_find_10 (by decide) (fun c_10 => ?_) (fun c_10 => absurd (isO_of ok.2.2.1 g1 g2).2 c_10)
  refine lv_aload_n hx hb dX3_find_17 rfl (lv_at hl 0 rfl) ?_
  refine c_gX3_2 C w kF_X3_29 dX3_find_18 ?_
  refine lv_iload_n hx hb dX3_find_21 rfl (lv_at hl 1 rfl) ?_
  refine c_lOp (o := q) C w g1 g2 ok.2.2.1 dX3_find_22 ?_
  exact W.aret (v := va_rf ((some (E.2.2.2.2.1 q)))) hx hb hr (Or.inl ⟨_, rfl⟩) (va_rf_or _) (fun t ht hW => ⟨(some (E.2.2.2.2.1 q)), rfl, rfl, ht⟩) (fun _ h => by cases h) dX3_find_23
set_option maxHeartbeats 4000000 in
set_option maxRecDepth 100000 in
theorem k_find_no (l : Launch) (D : va_G) (cI cZ cN cO : ClassId) (A : Nat → Prop) (E : CE) (n bg : Nat) (σ : CS) (p1 : Int32) (ok : cOK n bg σ) (hno : ¬ isO bg p1) : Met l yX3_find (.code yX3_find cX3_find 2 (some (.object "SharedShelf$Operation")) :: gw) ({ frames := 0, cells := 0, slots := 0, locals := 0 }) (va_Pc (.ref (E.1 0) :: [.int p1]) (cH D cI cZ cN cO A E n bg σ)) (va_Sq (fun r => r = none)) 0 0 (fun _ => False) := by
  refine Met.ofW (cc := cX3_find) (maxL := 2) (ret := (some (.object "SharedShelf$Operation"))) (by decide) rfl ?_
  intro p e s m args below meth c s₁ B hml hv
  obtain ⟨rfl, hP, hK, hD⟩ := hv
  have hx := B.exec
  have hb := B.bytes
  have hr := B.returns
  have hts := atoms_spec (ws := (.code yX3_find cX3_find 2 (some (.object "SharedShelf$Operation")) :: gw)) B.pre
  have hg : ∀ w ∈ gw, w.before _ s = true := fun w h => hts w (List.mem_cons_of_mem _ h)
  have hown : s.vm.findClass RX3 = some m.cls := findClass_of_methodNamed B.named
  have hlocks := B.notSynchronized
  have C : Cx p c cX3_find s m _ RX3 D (gTy cI cZ cN cO) := ⟨hx, hb, hown, hg, hK⟩
  have w : cWd D cI cN cO A s.heap E n bg σ s.heap [] := ⟨hP, hD, va_S.rf⟩
  have hl := lv_entry ([.ref ((E.1 0)), .int p1]) (n := 2) (Nat.le_of_ble_eq_true rfl)
  rw [lg_entry_eq]
  generalize (lg_sl ([.ref ((E.1 0)), .int p1]) ++ List.replicate (2 - (lg_sl ([.ref ((E.1 0)), .int p1])).length) Slot.unset).toArray = ls at hl ⊢
  have hl : lv_has ls 2 [(0, .ref ((E.1 0))), (1, .int p1)] := hl
  refine lv_iload_n hx hb dX3_find_0 rfl (lv_at hl 1 rfl) ?_
  refine lv_iconst (v := 1) hx hb dX3_find_1 (by decide) ?_
  refine lv_icmp_lt (tgt := 13) hx hb dX3_find_2 (by decide) (fun c_2 => ?_) (fun c_2 => ?_)
  · refine lv_null hx hb dX3_find_13 ?_
    refine lv_goto (tgt := 23) hx hb dX3_find_14 (by decide) ?_
    exact W.aret (v := va_rf none) hx hb hr (Or.inl ⟨_, rfl⟩) (va_rf_or _) (fun t ht hW => ⟨none, rfl, rfl, ht⟩) (fun _ h => by cases h) dX3_find_23
  · refine lv_iload_n hx hb dX3_find_5 rfl (lv_at hl 1 rfl) ?_
    refine lv_aload_n hx hb dX3_find_6 rfl (lv_at hl 0 rfl) ?_
    refine c_gX3_3 C w kF_X3_119 dX3_find_7 ?_
    rw [ok.bg]
    refine lv_icmp_le (tgt := 17) hx hb dX3_find_10 (by decide) (fun c_10 => absurd ⟨c_2, c_10⟩ hno) (fun c_10 => ?_)
    refine lv_null hx hb dX3_find_13 ?_
    refine lv_goto (tgt := 23) hx hb dX3_find_14 (by decide) ?_
    exact W.aret (v := va_rf none) hx hb hr (Or.inl ⟨_, rfl⟩) (va_rf_or _) (fun t ht hW => ⟨none, rfl, rfl, ht⟩) (fun _ h => by cases h) dX3_find_23
set_option maxHeartbeats 4000000 in
set_option maxRecDepth 100000 in
theorem kl_to0 {p : Program} {l : Launch} {e : Env} {R : Room} {s : State} {m : MethodId} {args : Array Value} {below : List Frame} {meth : Method} {c : Code} {cells slots : Nat} {Q : State → Prop} {D : va_G} {cI cZ cN cO : ClassId} {A : Nat → Prop} {H0 : Heap} {E : CE} {n bg : Nat} (C : Cx p c cX3_sendToAll s m args RX3 D (gTy cI cZ cN cO)) (hml : c.maxLocals = 6) {σ : CS} {k : Nat} {kd : Int32} (hn : n ≤ 31) (hk : k < n) (hRf : 1 ≤ R.frames) (hRl : 26 ≤ R.locals) (hRc : cells + 0 ≤ R.cells) (hRs : slots + 0 ≤ R.slots) (kk : ∀ (H : Heap) (locs : List Loc), cWd D cI cN cO A H0 E n bg (itc (cOne0 k kd) n σ) H locs → cOK n bg (itc (cOne0 k kd) n σ) → (lnN (itc (cOne0 k kd) n σ) + (n - n) ≤ 2000) → ∀ ls : Array Slot, lv_has ls 6 [(5, .int (nI n)), (0, .ref ((E.1 0))), (1, .ref ((E.2.2.1 k))), (2, .int kd), (4, .null)] → W p l e R s m args below meth c H locs cells slots Q (F0 m 44 ls [])) : ∀ (fu i : Nat), i + fu = n → ∀ (H : Heap) (locs : List Loc), cWd D cI cN cO A H0 E n bg (itc (cOne0 k kd) i σ) H locs → cOK n bg (itc (cOne0 k kd) i σ) → (lnN (itc (cOne0 k kd) i σ) + (n - i) ≤ 2000) → ∀ ls : Array Slot, lv_has ls 6 [(5, .int (nI i)), (0, .ref ((E.1 0))), (1, .ref ((E.2.2.1 k))), (2, .int kd), (4, .null)] → W p l e R s m args below meth c H locs cells slots Q (F0 m 8 ls []) := by
  intro fu
  induction fu with
  | zero =>
    intro i hik
    intro H locs w ok hI ls hl
    have hx := C.1
    have hb := C.2.1
    have hi : n = i := by omega
    subst hi
    refine lv_iload hx hb dX3_sendToAll_8 (lv_at hl 0 rfl) ?_
    refine lv_aload_n hx hb dX3_sendToAll_10 rfl (lv_at hl 1 rfl) ?_
    refine c_gX3_0 C w kF_X3_11 dX3_sendToAll_11 ?_
    refine c_nNA C w dX3_sendToAll_14 ?_
    refine lv_icmp_ge (tgt := 44) hx hb dX3_sendToAll_15 (by decide) (fun c_15 => ?_) (fun c_15 => absurd (Int32.le_refl _) c_15)
    exact kk _ _ w ok hI ls (lv_sub hl [0, 1, 2, 3, 4] rfl)
  | succ fu ih =>
    intro i hik
    intro H locs w ok hI ls hl
    have hx := C.1
    have hb := C.2.1
    have hi : i < n := by omega
    refine lv_iload hx hb dX3_sendToAll_8 (lv_at hl 0 rfl) ?_
    refine lv_aload_n hx hb dX3_sendToAll_10 rfl (lv_at hl 1 rfl) ?_
    refine c_gX3_0 C w kF_X3_11 dX3_sendToAll_11 ?_
    refine c_nNA C w dX3_sendToAll_14 ?_
    refine lv_icmp_ge (tgt := 44) hx hb dX3_sendToAll_15 (by decide) (fun c_15 => absurd c_15 (nI_ge hi (by omega))) (fun c_15 => ?_)
    refine lv_aload_n hx hb dX3_sendToAll_18 rfl (lv_at hl 1 rfl) ?_
    refine c_gX3_1 C w kF_X3_23 dX3_sendToAll_19 ?_
    refine lv_iload_n hx hb dX3_sendToAll_22 rfl (lv_at hl 3 rfl) ?_
    refine lv_aload_n hx hb dX3_sendToAll_23 rfl (lv_at hl 2 rfl) ?_
    refine c_gX0_0 C w hk kF_X3_173 dX3_sendToAll_24 ?_
    rw [ok.ix hk]
    refine lv_iload hx hb dX3_sendToAll_27 (lv_at hl 0 rfl) ?_
    refine lv_aload_n hx hb dX3_sendToAll_29 rfl (lv_at hl 2 rfl) ?_
    refine c_gX0_8 C w hk kF_X3_284 dX3_sendToAll_30 ?_
    refine lv_topi (fun rr err => ?_)
    refine lv_aloadN hx hb dX3_sendToAll_33 (lv_at hl 4 rfl) ?_
    have hok := ok
    refine c_callv (As := [.int kd, .int (nI k), .int (nI i), .int rr, .null]) (rest := []) C (c_preX2 C w) w.2.2 hml hl.1 (k_send0 l D cI cZ cN cO A E n bg _ kd (nI k) (nI i) rr ok (by omega) (vp_in_nI hk ok.n) (vp_in_nI hi ok.n)) kM_X3_182 kI_X2_send kS_X2_send kN_X2 kD_X2_send (show yX2_send.cls = RX2 ∧ yX2_send.cls ≠ "java/lang/invoke/MethodHandle" ∧ yX2_send.cls ≠ "java/lang/invoke/VarHandle" ∧ (parseMethodDescriptor yX2_send.desc).map (fun d => d.parameters.length) = some 5 from by decide +kernel) rfl rfl ⟨(by show 0 + 1 ≤ R.frames; omega), (by show 8 + (7 + 11) + 0 ≤ R.locals; omega)⟩ rfl (lv_room (Nat.le_of_ble_eq_true rfl)) dX3_sendToAll_35 ⟨hRc, hRs⟩ (fun H locs w ok => ?_)
    obtain ⟨x_1, ex_1⟩ : ∃ y : Int32, y = (nI i) + 1 := ⟨_, rfl⟩
    refine lv_iinc (v := x_1) (lv' := [(5, _), (0, _), (1, _), (2, _), (4, _)]) C.1 C.2.1 dX3_sendToAll_38 hl (k := 0) rfl (by rw [ex_1]; rfl) (by decide) rfl (fun ls hl => ?_)
    refine lv_goto (tgt := 8) hx hb dX3_sendToAll_41 (by decide) ?_
    subst err
    have hx2 : x_1 = nI (i + 1) := by rw [ex_1]; exact nI_1 i
    rw [hx2] at hl
    exact ih (i + 1) (by omega) _ _ w ok (by show lnN (cSend0 _ _ _ _ _) + _ ≤ 2000; rw [cSend0_ln hok]; omega) ls (lv_sub hl [0, 1, 2, 3, 4] rfl)
set_option maxHeartbeats 4000000 in
set_option maxRecDepth 100000 in
theorem k_to0 (l : Launch) (D : va_G) (cI cZ cN cO : ClassId) (A : Nat → Prop) (E : CE) (n bg : Nat) (σ : CS) (k : Nat) (kd ph : Int32) (ok : cOK n bg σ) (hk : k < n) (hrm : lnN σ + n ≤ 2000) : Met l yX3_sendToAll (.code yX3_sendToAll cX3_sendToAll 6 none :: gw) ({ frames := 1, cells := 0, slots := 0, locals := 26 }) (va_Pc (.ref (E.1 0) :: [.ref ((E.2.2.1 k)), .int kd, .int ph, .null]) (cH D cI cZ cN cO A E n bg σ)) (va_Qv (fun _ : Unit => True) (fun _ t => cH D cI cZ cN cO A E n bg (cTo0 n k kd ph σ) t ∧ cOK n bg (cTo0 n k kd ph σ)) A) 0 0 A := by
  refine Met.ofW (cc := cX3_sendToAll) (maxL := 6) (ret := none) (by decide) rfl ?_
  intro p e s m args below meth c s₁ B hml hv
  obtain ⟨rfl, hP, hK, hD⟩ := hv
  have hx := B.exec
  have hb := B.bytes
  have hr := B.returns
  have hts := atoms_spec (ws := (.code yX3_sendToAll cX3_sendToAll 6 none :: gw)) B.pre
  have hg : ∀ w ∈ gw, w.before _ s = true := fun w h => hts w (List.mem_cons_of_mem _ h)
  have hown : s.vm.findClass RX3 = some m.cls := findClass_of_methodNamed B.named
  have hlocks := B.notSynchronized
  have C : Cx p c cX3_sendToAll s m _ RX3 D (gTy cI cZ cN cO) := ⟨hx, hb, hown, hg, hK⟩
  have w : cWd D cI cN cO A s.heap E n bg σ s.heap [] := ⟨hP, hD, va_S.rf⟩
  have hl := lv_entry ([.ref ((E.1 0)), .ref ((E.2.2.1 k)), .int kd, .int ph, .null]) (n := 6) (Nat.le_of_ble_eq_true rfl)
  rw [lg_entry_eq]
  generalize (lg_sl ([.ref ((E.1 0)), .ref ((E.2.2.1 k)), .int kd, .int ph, .null]) ++ List.replicate (6 - (lg_sl ([.ref ((E.1 0)), .ref ((E.2.2.1 k)), .int kd, .int ph, .null])).length) Slot.unset).toArray = ls at hl ⊢
  have hl : lv_has ls 6 [(0, .ref ((E.1 0))), (1, .ref ((E.2.2.1 k))), (2, .int kd), (3, .int ph), (4, .null)] := hl
  refine lv_aload_n hx hb dX3_sendToAll_0 rfl (lv_at hl 1 rfl) ?_
  refine lv_iload_n hx hb dX3_sendToAll_1 rfl (lv_at hl 3 rfl) ?_
  refine c_callv (As := [.int ph]) (rest := []) C (c_preX0 C w hk) w.2.2 hml hl.1 (k_X0_enter l D cI cZ cN cO A E n bg _ k ph ok hk) kM_X3_281 kI_X0_enter kS_X0_enter kN_X0 kD_X0_enter (show yX0_enter.cls = RX0 ∧ yX0_enter.cls ≠ "java/lang/invoke/MethodHandle" ∧ yX0_enter.cls ≠ "java/lang/invoke/VarHandle" ∧ (parseMethodDescriptor yX0_enter.desc).map (fun d => d.parameters.length) = some 1 from by decide +kernel) rfl rfl ⟨Nat.le_of_ble_eq_true rfl, Nat.le_of_ble_eq_true rfl⟩ rfl (lv_room (Nat.le_of_ble_eq_true rfl)) dX3_sendToAll_2 ⟨Nat.zero_le _, Nat.zero_le _⟩ (fun H locs w ok => ?_)
  refine lv_iconst (v := 0) hx hb dX3_sendToAll_5 (by decide) ?_
  refine lv_istore (lv' := [(5, _), (0, _), (1, _), (2, _), (3, _), (4, _)]) C.1 C.2.1 dX3_sendToAll_6 hl (by decide) rfl (fun ls hl => ?_)
  have hl := lv_sub hl (l' := [(5, .int (nI 0)), (0, .ref (E.1 0)), (1, .ref (E.2.2.1 k)), (2, .int kd), (4, .null)]) [0, 1, 2, 3, 5] (by rw [nI_0]; rfl)
  refine kl_to0 C hml ok.2.1 hk (Nat.le_of_ble_eq_true rfl) (Nat.le_of_ble_eq_true rfl) (Nat.zero_le _) (Nat.zero_le _) ?_ n 0 (by omega) _ _ w ok hrm ls (lv_sub hl [0, 1, 2, 3, 4] rfl)
  intro H locs w ok _ ls hl
  exact W.vret hx hb hr (fun t ht hW => ⟨⟨(), rfl, trivial, ⟨by rw [ht]; exact w.1, va_K.moved hW.alike hK, w.2.1⟩, ok⟩, w.2.2.F ht⟩) w.2.2.2.2 dX3_sendToAll_44
set_option maxHeartbeats 4000000 in
set_option maxRecDepth 100000 in
theorem kl_toV2 {p : Program} {l : Launch} {e : Env} {R : Room} {s : State} {m : MethodId} {args : Array Value} {below : List Frame} {meth : Method} {c : Code} {cells slots : Nat} {Q : State → Prop} {D : va_G} {cI cZ cN cO : ClassId} {A : Nat → Prop} {H0 : Heap} {E : CE} {n bg : Nat} (C : Cx p c cX3_sendToAll s m args RX3 D (gTy cI cZ cN cO)) (hml : c.maxLocals = 6) {σ : CS} {k : Nat} {kd : Int32} (hn : n ≤ 31) (hk : k < n) (hRf : 2 ≤ R.frames) (hRl : 66 ≤ R.locals) (hRc : cells + 0 ≤ R.cells) (hRs : slots + 0 ≤ R.slots) (kk : ∀ (H : Heap) (locs : List Loc), cWd D cI cN cO A H0 E n bg (itc (cOneV n k 2 kd) n σ) H locs → cOK n bg (itc (cOneV n k 2 kd) n σ) → (lnN (itc (cOneV n k 2 kd) n σ) + (n - n) ≤ 2000) → ∀ ls : Array Slot, lv_has ls 6 [(5, .int (nI n)), (0, .ref ((E.1 0))), (1, .ref ((E.2.2.1 k))), (2, .int kd), (4, .ref ((E.2.2.2.1 k 2)))] → W p l e R s m args below meth c H locs cells slots Q (F0 m 44 ls [])) : ∀ (fu i : Nat), i + fu = n → ∀ (H : Heap) (locs : List Loc), cWd D cI cN cO A H0 E n bg (itc (cOneV n k 2 kd) i σ) H locs → cOK n bg (itc (cOneV n k 2 kd) i σ) → (lnN (itc (cOneV n k 2 kd) i σ) + (n - i) ≤ 2000) → ∀ ls : Array Slot, lv_has ls 6 [(5, .int (nI i)), (0, .ref ((E.1 0))), (1, .ref ((E.2.2.1 k))), (2, .int kd), (4, .ref ((E.2.2.2.1 k 2)))] → W p l e R s m args below meth c H locs cells slots Q (F0 m 8 ls []) := by
  intro fu
  induction fu with
  | zero =>
    intro i hik
    intro H locs w ok hI ls hl
    have hx := C.1
    have hb := C.2.1
    have hi : n = i := by omega
    subst hi
    refine lv_iload hx hb dX3_sendToAll_8 (lv_at hl 0 rfl) ?_
    refine lv_aload_n hx hb dX3_sendToAll_10 rfl (lv_at hl 1 rfl) ?_
    refine c_gX3_0 C w kF_X3_11 dX3_sendToAll_11 ?_
    refine c_nNA C w dX3_sendToAll_14 ?_
    refine lv_icmp_ge (tgt := 44) hx hb dX3_sendToAll_15 (by decide) (fun c_15 => ?_) (fun c_15 => absurd (Int32.le_refl _) c_15)
    exact kk _ _ w ok hI ls (lv_sub hl [0, 1, 2, 3, 4] rfl)
  | succ fu ih =>
    intro i hik
    intro H locs w ok hI ls hl
    have hx := C.1
    have hb := C.2.1
    have hi : i < n := by omega
    refine lv_iload hx hb dX3_sendToAll_8 (lv_at hl 0 rfl) ?_
    refine lv_aload_n hx hb dX3_sendToAll_10 rfl (lv_at hl 1 rfl) ?_
    refine c_gX3_0 C w kF_X3_11 dX3_sendToAll_11 ?_
    refine c_nNA C w dX3_sendToAll_14 ?_
    refine lv_icmp_ge (tgt := 44) hx hb dX3_sendToAll_15 (by decide) (fun c_15 => absurd c_15 (nI_ge hi (by omega))) (fun c_15 => ?_)
    refine lv_aload_n hx hb dX3_sendToAll_18 rfl (lv_at hl 1 rfl) ?_
    refine c_gX3_1 C w kF_X3_23 dX3_sendToAll_19 ?_
    refine lv_iload_n hx hb dX3_sendToAll_22 rfl (lv_at hl 3 rfl) ?_
    refine lv_aload_n hx hb dX3_sendToAll_23 rfl (lv_at hl 2 rfl) ?_
    refine c_gX0_0 C w hk kF_X3_173 dX3_sendToAll_24 ?_
    rw [ok.ix hk]
    refine lv_iload hx hb dX3_sendToAll_27 (lv_at hl 0 rfl) ?_
    refine lv_aload_n hx hb dX3_sendToAll_29 rfl (lv_at hl 2 rfl) ?_
    refine c_gX0_8 C w hk kF_X3_284 dX3_sendToAll_30 ?_
    refine lv_topi (fun rr err => ?_)
    refine lv_aload hx hb dX3_sendToAll_33 (lv_at hl 4 rfl) ?_
    have hok := ok
    refine c_callv (As := [.int kd, .int (nI k), .int (nI i), .int rr, .ref ((E.2.2.2.1 k 2))]) (rest := []) C (c_preX2 C w) w.2.2 hml hl.1 (k_sendV l D cI cZ cN cO A E n bg _ kd (nI k) (nI i) rr k 2 ok (by omega) (vp_in_nI hk ok.n) (vp_in_nI hi ok.n) hk (by decide)) kM_X3_182 kI_X2_send kS_X2_send kN_X2 kD_X2_send (show yX2_send.cls = RX2 ∧ yX2_send.cls ≠ "java/lang/invoke/MethodHandle" ∧ yX2_send.cls ≠ "java/lang/invoke/VarHandle" ∧ (parseMethodDescriptor yX2_send.desc).map (fun d => d.parameters.length) = some 5 from by decide +kernel) rfl rfl ⟨(by show 1 + 1 ≤ R.frames; omega), (by show 8 + (7 + 11) + 40 ≤ R.locals; omega)⟩ rfl (lv_room (Nat.le_of_ble_eq_true rfl)) dX3_sendToAll_35 ⟨hRc, hRs⟩ (fun H locs w ok => ?_)
    obtain ⟨x_1, ex_1⟩ : ∃ y : Int32, y = (nI i) + 1 := ⟨_, rfl⟩
    refine lv_iinc (v := x_1) (lv' := [(5, _), (0, _), (1, _), (2, _), (4, _)]) C.1 C.2.1 dX3_sendToAll_38 hl (k := 0) rfl (by rw [ex_1]; rfl) (by decide) rfl (fun ls hl => ?_)
    refine lv_goto (tgt := 8) hx hb dX3_sendToAll_41 (by decide) ?_
    subst err
    have hx2 : x_1 = nI (i + 1) := by rw [ex_1]; exact nI_1 i
    rw [hx2] at hl
    exact ih (i + 1) (by omega) _ _ w ok (by show lnN (cSendV n k 2 _ _ _ _ _) + _ ≤ 2000; rw [cSendV_ln hok]; omega) ls (lv_sub hl [0, 1, 2, 3, 4] rfl)
set_option maxHeartbeats 4000000 in
set_option maxRecDepth 100000 in
theorem k_toV2 (l : Launch) (D : va_G) (cI cZ cN cO : ClassId) (A : Nat → Prop) (E : CE) (n bg : Nat) (σ : CS) (k : Nat) (kd ph : Int32) (ok : cOK n bg σ) (hk : k < n) (hrm : lnN σ + n ≤ 2000) : Met l yX3_sendToAll (.code yX3_sendToAll cX3_sendToAll 6 none :: gw) ({ frames := 2, cells := 0, slots := 0, locals := 66 }) (va_Pc (.ref (E.1 0) :: [.ref ((E.2.2.1 k)), .int kd, .int ph, .ref ((E.2.2.2.1 k 2))]) (cH D cI cZ cN cO A E n bg σ)) (va_Qv (fun _ : Unit => True) (fun _ t => cH D cI cZ cN cO A E n bg (cToV n k 2 kd ph σ) t ∧ cOK n bg (cToV n k 2 kd ph σ)) A) 0 0 A := by
  refine Met.ofW (cc := cX3_sendToAll) (maxL := 6) (ret := none) (by decide) rfl ?_
  intro p e s m args below meth c s₁ B hml hv
  obtain ⟨rfl, hP, hK, hD⟩ := hv
  have hx := B.exec
  have hb := B.bytes
  have hr := B.returns
  have hts := atoms_spec (ws := (.code yX3_sendToAll cX3_sendToAll 6 none :: gw)) B.pre
  have hg : ∀ w ∈ gw, w.before _ s = true := fun w h => hts w (List.mem_cons_of_mem _ h)
  have hown : s.vm.findClass RX3 = some m.cls := findClass_of_methodNamed B.named
  have hlocks := B.notSynchronized
  have C : Cx p c cX3_sendToAll s m _ RX3 D (gTy cI cZ cN cO) := ⟨hx, hb, hown, hg, hK⟩
  have w : cWd D cI cN cO A s.heap E n bg σ s.heap [] := ⟨hP, hD, va_S.rf⟩
  have hl := lv_entry ([.ref ((E.1 0)), .ref ((E.2.2.1 k)), .int kd, .int ph, .ref ((E.2.2.2.1 k 2))]) (n := 6) (Nat.le_of_ble_eq_true rfl)
  rw [lg_entry_eq]
  generalize (lg_sl ([.ref ((E.1 0)), .ref ((E.2.2.1 k)), .int kd, .int ph, .ref ((E.2.2.2.1 k 2))]) ++ List.replicate (6 - (lg_sl ([.ref ((E.1 0)), .ref ((E.2.2.1 k)), .int kd, .int ph, .ref ((E.2.2.2.1 k 2))])).length) Slot.unset).toArray = ls at hl ⊢
  have hl : lv_has ls 6 [(0, .ref ((E.1 0))), (1, .ref ((E.2.2.1 k))), (2, .int kd), (3, .int ph), (4, .ref ((E.2.2.2.1 k 2)))] := hl
  refine lv_aload_n hx hb dX3_sendToAll_0 rfl (lv_at hl 1 rfl) ?_
  refine lv_iload_n hx hb dX3_sendToAll_1 rfl (lv_at hl 3 rfl) ?_
  refine c_callv (As := [.int ph]) (rest := []) C (c_preX0 C w hk) w.2.2 hml hl.1 (k_X0_enter l D cI cZ cN cO A E n bg _ k ph ok hk) kM_X3_281 kI_X0_enter kS_X0_enter kN_X0 kD_X0_enter (show yX0_enter.cls = RX0 ∧ yX0_enter.cls ≠ "java/lang/invoke/MethodHandle" ∧ yX0_enter.cls ≠ "java/lang/invoke/VarHandle" ∧ (parseMethodDescriptor yX0_enter.desc).map (fun d => d.parameters.length) = some 1 from by decide +kernel) rfl rfl ⟨Nat.le_of_ble_eq_true rfl, Nat.le_of_ble_eq_true rfl⟩ rfl (lv_room (Nat.le_of_ble_eq_true rfl)) dX3_sendToAll_2 ⟨Nat.zero_le _, Nat.zero_le _⟩ (fun H locs w ok => ?_)
  refine lv_iconst (v := 0) hx hb dX3_sendToAll_5 (by decide) ?_
  refine lv_istore (lv' := [(5, _), (0, _), (1, _), (2, _), (3, _), (4, _)]) C.1 C.2.1 dX3_sendToAll_6 hl (by decide) rfl (fun ls hl => ?_)
  rw [← nI_0] at hl
  refine kl_toV2 C hml ok.2.1 hk (Nat.le_of_ble_eq_true rfl) (Nat.le_of_ble_eq_true rfl) (Nat.zero_le _) (Nat.zero_le _) ?_ n 0 (by omega) _ _ w ok hrm ls (lv_sub hl [0, 1, 2, 3, 5] rfl)
  intro H locs w ok _ ls hl
  exact W.vret hx hb hr (fun t ht hW => ⟨⟨(), rfl, trivial, ⟨by rw [ht]; exact w.1, va_K.moved hW.alike hK, w.2.1⟩, ok⟩, w.2.2.F ht⟩) w.2.2.2.2 dX3_sendToAll_44
set_option maxHeartbeats 4000000 in
set_option maxRecDepth 100000 in
theorem kl_toV5 {p : Program} {l : Launch} {e : Env} {R : Room} {s : State} {m : MethodId} {args : Array Value} {below : List Frame} {meth : Method} {c : Code} {cells slots : Nat} {Q : State → Prop} {D : va_G} {cI cZ cN cO : ClassId} {A : Nat → Prop} {H0 : Heap} {E : CE} {n bg : Nat} (C : Cx p c cX3_sendToAll s m args RX3 D (gTy cI cZ cN cO)) (hml : c.maxLocals = 6) {σ : CS} {k : Nat} {kd : Int32} (hn : n ≤ 31) (hk : k < n) (hRf : 2 ≤ R.frames) (hRl : 66 ≤ R.locals) (hRc : cells + 0 ≤ R.cells) (hRs : slots + 0 ≤ R.slots) (kk : ∀ (H : Heap) (locs : List Loc), cWd D cI cN cO A H0 E n bg (itc (cOneV n k 5 kd) n σ) H locs → cOK n bg (itc (cOneV n k 5 kd) n σ) → (lnN (itc (cOneV n k 5 kd) n σ) + (n - n) ≤ 2000) → ∀ ls : Array Slot, lv_has ls 6 [(5, .int (nI n)), (0, .ref ((E.1 0))), (1, .ref ((E.2.2.1 k))), (2, .int kd), (4, .ref ((E.2.2.2.1 k 5)))] → W p l e R s m args below meth c H locs cells slots Q (F0 m 44 ls [])) : ∀ (fu i : Nat), i + fu = n → ∀ (H : Heap) (locs : List Loc), cWd D cI cN cO A H0 E n bg (itc (cOneV n k 5 kd) i σ) H locs → cOK n bg (itc (cOneV n k 5 kd) i σ) → (lnN (itc (cOneV n k 5 kd) i σ) + (n - i) ≤ 2000) → ∀ ls : Array Slot, lv_has ls 6 [(5, .int (nI i)), (0, .ref ((E.1 0))), (1, .ref ((E.2.2.1 k))), (2, .int kd), (4, .ref ((E.2.2.2.1 k 5)))] → W p l e R s m args below meth c H locs cells slots Q (F0 m 8 ls []) := by
  intro fu
  induction fu with
  | zero =>
    intro i hik
    intro H locs w ok hI ls hl
    have hx := C.1
    have hb := C.2.1
    have hi : n = i := by omega
    subst hi
    refine lv_iload hx hb dX3_sendToAll_8 (lv_at hl 0 rfl) ?_
    refine lv_aload_n hx hb dX3_sendToAll_10 rfl (lv_at hl 1 rfl) ?_
    refine c_gX3_0 C w kF_X3_11 dX3_sendToAll_11 ?_
    refine c_nNA C w dX3_sendToAll_14 ?_
    refine lv_icmp_ge (tgt := 44) hx hb dX3_sendToAll_15 (by decide) (fun c_15 => ?_) (fun c_15 => absurd (Int32.le_refl _) c_15)
    exact kk _ _ w ok hI ls (lv_sub hl [0, 1, 2, 3, 4] rfl)
  | succ fu ih =>
    intro i hik
    intro H locs w ok hI ls hl
    have hx := C.1
    have hb := C.2.1
    have hi : i < n := by omega
    refine lv_iload hx hb dX3_sendToAll_8 (lv_at hl 0 rfl) ?_
    refine lv_aload_n hx hb dX3_sendToAll_10 rfl (lv_at hl 1 rfl) ?_
    refine c_gX3_0 C w kF_X3_11 dX3_sendToAll_11 ?_
    refine c_nNA C w dX3_sendToAll_14 ?_
    refine lv_icmp_ge (tgt := 44) hx hb dX3_sendToAll_15 (by decide) (fun c_15 => absurd c_15 (nI_ge hi (by omega))) (fun c_15 => ?_)
    refine lv_aload_n hx hb dX3_sendToAll_18 rfl (lv_at hl 1 rfl) ?_
    refine c_gX3_1 C w kF_X3_23 dX3_sendToAll_19 ?_
    refine lv_iload_n hx hb dX3_sendToAll_22 rfl (lv_at hl 3 rfl) ?_
    refine lv_aload_n hx hb dX3_sendToAll_23 rfl (lv_at hl 2 rfl) ?_
    refine c_gX0_0 C w hk kF_X3_173 dX3_sendToAll_24 ?_
    rw [ok.ix hk]
    refine lv_iload hx hb dX3_sendToAll_27 (lv_at hl 0 rfl) ?_
    refine lv_aload_n hx hb dX3_sendToAll_29 rfl (lv_at hl 2 rfl) ?_
    refine c_gX0_8 C w hk kF_X3_284 dX3_sendToAll_30 ?_
    refine lv_topi (fun rr err => ?_)
    refine lv_aload hx hb dX3_sendToAll_33 (lv_at hl 4 rfl) ?_
    have hok := ok
    refine c_callv (As := [.int kd, .int (nI k), .int (nI i), .int rr, .ref ((E.2.2.2.1 k 5))]) (rest := []) C (c_preX2 C w) w.2.2 hml hl.1 (k_sendV l D cI cZ cN cO A E n bg _ kd (nI k) (nI i) rr k 5 ok (by omega) (vp_in_nI hk ok.n) (vp_in_nI hi ok.n) hk (by decide)) kM_X3_182 kI_X2_send kS_X2_send kN_X2 kD_X2_send (show yX2_send.cls = RX2 ∧ yX2_send.cls ≠ "java/lang/invoke/MethodHandle" ∧ yX2_send.cls ≠ "java/lang/invoke/VarHandle" ∧ (parseMethodDescriptor yX2_send.desc).map (fun d => d.parameters.length) = some 5 from by decide +kernel) rfl rfl ⟨(by show 1 + 1 ≤ R.frames; omega), (by show 8 + (7 + 11) + 40 ≤ R.locals; omega)⟩ rfl (lv_room (Nat.le_of_ble_eq_true rfl)) dX3_sendToAll_35 ⟨hRc, hRs⟩ (fun H locs w ok => ?_)
    obtain ⟨x_1, ex_1⟩ : ∃ y : Int32, y = (nI i) + 1 := ⟨_, rfl⟩
    refine lv_iinc (v := x_1) (lv' := [(5, _), (0, _), (1, _), (2, _), (4, _)]) C.1 C.2.1 dX3_sendToAll_38 hl (k := 0) rfl (by rw [ex_1]; rfl) (by decide) rfl (fun ls hl => ?_)
    refine lv_goto (tgt := 8) hx hb dX3_sendToAll_41 (by decide) ?_
    subst err
    have hx2 : x_1 = nI (i + 1) := by rw [ex_1]; exact nI_1 i
    rw [hx2] at hl
    exact ih (i + 1) (by omega) _ _ w ok (by show lnN (cSendV n k 5 _ _ _ _ _) + _ ≤ 2000; rw [cSendV_ln hok]; omega) ls (lv_sub hl [0, 1, 2, 3, 4] rfl)
set_option maxHeartbeats 4000000 in
set_option maxRecDepth 100000 in
theorem k_toV5 (l : Launch) (D : va_G) (cI cZ cN cO : ClassId) (A : Nat → Prop) (E : CE) (n bg : Nat) (σ : CS) (k : Nat) (kd ph : Int32) (ok : cOK n bg σ) (hk : k < n) (hrm : lnN σ + n ≤ 2000) : Met l yX3_sendToAll (.code yX3_sendToAll cX3_sendToAll 6 none :: gw) ({ frames := 2, cells := 0, slots := 0, locals := 66 }) (va_Pc (.ref (E.1 0) :: [.ref ((E.2.2.1 k)), .int kd, .int ph, .ref ((E.2.2.2.1 k 5))]) (cH D cI cZ cN cO A E n bg σ)) (va_Qv (fun _ : Unit => True) (fun _ t => cH D cI cZ cN cO A E n bg (cToV n k 5 kd ph σ) t ∧ cOK n bg (cToV n k 5 kd ph σ)) A) 0 0 A := by
  refine Met.ofW (cc := cX3_sendToAll) (maxL := 6) (ret := none) (by decide) rfl ?_
  intro p e s m args below meth c s₁ B hml hv
  obtain ⟨rfl, hP, hK, hD⟩ := hv
  have hx := B.exec
  have hb := B.bytes
  have hr := B.returns
  have hts := atoms_spec (ws := (.code yX3_sendToAll cX3_sendToAll 6 none :: gw)) B.pre
  have hg : ∀ w ∈ gw, w.before _ s = true := fun w h => hts w (List.mem_cons_of_mem _ h)
  have hown : s.vm.findClass RX3 = some m.cls := findClass_of_methodNamed B.named
  have hlocks := B.notSynchronized
  have C : Cx p c cX3_sendToAll s m _ RX3 D (gTy cI cZ cN cO) := ⟨hx, hb, hown, hg, hK⟩
  have w : cWd D cI cN cO A s.heap E n bg σ s.heap [] := ⟨hP, hD, va_S.rf⟩
  have hl := lv_entry ([.ref ((E.1 0)), .ref ((E.2.2.1 k)), .int kd, .int ph, .ref ((E.2.2.2.1 k 5))]) (n := 6) (Nat.le_of_ble_eq_true rfl)
  rw [lg_entry_eq]
  generalize (lg_sl ([.ref ((E.1 0)), .ref ((E.2.2.1 k)), .int kd, .int ph, .ref ((E.2.2.2.1 k 5))]) ++ List.replicate (6 - (lg_sl ([.ref ((E.1 0)), .ref ((E.2.2.1 k)), .int kd, .int ph, .ref ((E.2.2.2.1 k 5))])).length) Slot.unset).toArray = ls at hl ⊢
  have hl : lv_has ls 6 [(0, .ref ((E.1 0))), (1, .ref ((E.2.2.1 k))), (2, .int kd), (3, .int ph), (4, .ref ((E.2.2.2.1 k 5)))] := hl
  refine lv_aload_n hx hb dX3_sendToAll_0 rfl (lv_at hl 1 rfl) ?_
  refine lv_iload_n hx hb dX3_sendToAll_1 rfl (lv_at hl 3 rfl) ?_
  refine c_callv (As := [.int ph]) (rest := []) C (c_preX0 C w hk) w.2.2 hml hl.1 (k_X0_enter l D cI cZ cN cO A E n bg _ k ph ok hk) kM_X3_281 kI_X0_enter kS_X0_enter kN_X0 kD_X0_enter (show yX0_enter.cls = RX0 ∧ yX0_enter.cls ≠ "java/lang/invoke/MethodHandle" ∧ yX0_enter.cls ≠ "java/lang/invoke/VarHandle" ∧ (parseMethodDescriptor yX0_enter.desc).map (fun d => d.parameters.length) = some 1 from by decide +kernel) rfl rfl ⟨Nat.le_of_ble_eq_true rfl, Nat.le_of_ble_eq_true rfl⟩ rfl (lv_room (Nat.le_of_ble_eq_true rfl)) dX3_sendToAll_2 ⟨Nat.zero_le _, Nat.zero_le _⟩ (fun H locs w ok => ?_)
  refine lv_iconst (v := 0) hx hb dX3_sendToAll_5 (by decide) ?_
  refine lv_istore (lv' := [(5, _), (0, _), (1, _), (2, _), (3, _), (4, _)]) C.1 C.2.1 dX3_sendToAll_6 hl (by decide) rfl (fun ls hl => ?_)
  rw [← nI_0] at hl
  refine kl_toV5 C hml ok.2.1 hk (Nat.le_of_ble_eq_true rfl) (Nat.le_of_ble_eq_true rfl) (Nat.zero_le _) (Nat.zero_le _) ?_ n 0 (by omega) _ _ w ok hrm ls (lv_sub hl [0, 1, 2, 3, 5] rfl)
  intro H locs w ok _ ls hl
  exact W.vret hx hb hr (fun t ht hW => ⟨⟨(), rfl, trivial, ⟨by rw [ht]; exact w.1, va_K.moved hW.alike hK, w.2.1⟩, ok⟩, w.2.2.F ht⟩) w.2.2.2.2 dX3_sendToAll_44
def cBegC (n k : Nat) (σ : CS) : CS := cTo0 n k 0 1 (cZero n k 2 σ)
def cEndOp (k t : Nat) (σ : CS) : CS := cRest k (cI_ (cI_ σ 3 t 8 (σ.1 0 0 5)) 0 0 4 ((cI_ σ 3 t 8 (σ.1 0 0 5)).1 0 0 4 + 1))
set_option maxHeartbeats 4000000 in
set_option maxRecDepth 100000 in
theorem k_X3_beginCollect (l : Launch) (D : va_G) (cI cZ cN cO : ClassId) (A : Nat → Prop) (E : CE) (n bg : Nat) (σ : CS) (k : Nat) (ok : cOK n bg σ) (hk : k < n) (hrm : lnN σ + n ≤ 2000) : Met l yX3_beginCollect (.code yX3_beginCollect cX3_beginCollect 2 none :: gw) ({ frames := 2, cells := 0, slots := 0, locals := 51 }) (va_Pc (.ref (E.1 0) :: [.ref ((E.2.2.1 k))]) (cH D cI cZ cN cO A E n bg σ)) (va_Qv (fun _ : Unit => True) (fun _ t => cH D cI cZ cN cO A E n bg (cBegC n k σ) t ∧ cOK n bg (cBegC n k σ)) A) 0 0 A := by
  refine Met.ofW (cc := cX3_beginCollect) (maxL := 2) (ret := none) (by decide) rfl ?_
  intro p e s m args below meth c s₁ B hml hv
  obtain ⟨rfl, hP, hK, hD⟩ := hv
  have hx := B.exec
  have hb := B.bytes
  have hr := B.returns
  have hts := atoms_spec (ws := (.code yX3_beginCollect cX3_beginCollect 2 none :: gw)) B.pre
  have hg : ∀ w ∈ gw, w.before _ s = true := fun w h => hts w (List.mem_cons_of_mem _ h)
  have hown : s.vm.findClass RX3 = some m.cls := findClass_of_methodNamed B.named
  have hlocks := B.notSynchronized
  have C : Cx p c cX3_beginCollect s m _ RX3 D (gTy cI cZ cN cO) := ⟨hx, hb, hown, hg, hK⟩
  have w : cWd D cI cN cO A s.heap E n bg σ s.heap [] := ⟨hP, hD, va_S.rf⟩
  have hl := lv_entry ([.ref ((E.1 0)), .ref ((E.2.2.1 k))]) (n := 2) (Nat.le_of_ble_eq_true rfl)
  rw [lg_entry_eq]
  generalize (lg_sl ([.ref ((E.1 0)), .ref ((E.2.2.1 k))]) ++ List.replicate (2 - (lg_sl ([.ref ((E.1 0)), .ref ((E.2.2.1 k))])).length) Slot.unset).toArray = ls at hl ⊢
  have hl : lv_has ls 2 [(0, .ref ((E.1 0))), (1, .ref ((E.2.2.1 k)))] := hl
  refine lv_aload_n hx hb dX3_beginCollect_0 rfl (lv_at hl 1 rfl) ?_
  refine c_callv (As := []) (rest := []) C (c_preX0 C w hk) w.2.2 hml hl.1 (k_X0_clearCurrent l D cI cZ cN cO A E n bg _ k ok hk) kM_X3_238 kI_X0_clearCurrent kS_X0_clearCurrent kN_X0 kD_X0_clearCurrent (show yX0_clearCurrent.cls = RX0 ∧ yX0_clearCurrent.cls ≠ "java/lang/invoke/MethodHandle" ∧ yX0_clearCurrent.cls ≠ "java/lang/invoke/VarHandle" ∧ (parseMethodDescriptor yX0_clearCurrent.desc).map (fun d => d.parameters.length) = some 0 from by decide +kernel) rfl rfl ⟨Nat.le_of_ble_eq_true rfl, Nat.le_of_ble_eq_true rfl⟩ rfl (lv_room (Nat.le_of_ble_eq_true rfl)) dX3_beginCollect_1 ⟨Nat.zero_le _, Nat.zero_le _⟩ (fun H locs w ok => ?_)
  refine lv_aload_n hx hb dX3_beginCollect_4 rfl (lv_at hl 0 rfl) ?_
  refine lv_aload_n hx hb dX3_beginCollect_5 rfl (lv_at hl 1 rfl) ?_
  refine lv_iconst (v := 0) hx hb dX3_beginCollect_6 (by decide) ?_
  refine lv_iconst (v := 1) hx hb dX3_beginCollect_7 (by decide) ?_
  refine lv_null hx hb dX3_beginCollect_8 ?_
  refine c_callv (As := [.ref ((E.2.2.1 k)), .int 0, .int 1, .null]) (rest := []) C (c_preX3 C w) w.2.2 hml hl.1 (k_to0 l D cI cZ cN cO A E n bg _ k 0 1 ok hk hrm) kM_X3_227 kI_X3_sendToAll kS_X3_sendToAll kN_X3 kD_X3_sendToAll (show yX3_sendToAll.cls = RX3 ∧ yX3_sendToAll.cls ≠ "java/lang/invoke/MethodHandle" ∧ yX3_sendToAll.cls ≠ "java/lang/invoke/VarHandle" ∧ (parseMethodDescriptor yX3_sendToAll.desc).map (fun d => d.parameters.length) = some 4 from by decide +kernel) rfl rfl ⟨Nat.le_of_ble_eq_true rfl, Nat.le_of_ble_eq_true rfl⟩ rfl (lv_room (Nat.le_of_ble_eq_true rfl)) dX3_beginCollect_9 ⟨Nat.zero_le _, Nat.zero_le _⟩ (fun H locs w ok => ?_)
  exact W.vret hx hb hr (fun t ht hW => ⟨⟨(), rfl, trivial, ⟨by rw [ht]; exact w.1, va_K.moved hW.alike hK, w.2.1⟩, ok⟩, w.2.2.F ht⟩) w.2.2.2.2 dX3_beginCollect_12
set_option maxHeartbeats 4000000 in
set_option maxRecDepth 100000 in
theorem k_X3_endOperation (l : Launch) (D : va_G) (cI cZ cN cO : ClassId) (A : Nat → Prop) (E : CE) (n bg : Nat) (σ : CS) (k tt : Nat) (ok : cOK n bg σ) (hk : k < n) (h1 : 1 ≤ tt) (h2 : tt ≤ bg) : Met l yX3_endOperation (.code yX3_endOperation cX3_endOperation 3 none :: gw) ({ frames := 1, cells := 0, slots := 0, locals := 20 }) (va_Pc (.ref (E.1 0) :: [.ref ((E.2.2.1 k)), .ref ((E.2.2.2.2.1 tt))]) (cH D cI cZ cN cO A E n bg σ)) (va_Qv (fun _ : Unit => True) (fun _ t => cH D cI cZ cN cO A E n bg (cEndOp k tt σ) t ∧ cOK n bg (cEndOp k tt σ)) A) 0 0 A := by
  refine Met.ofW (cc := cX3_endOperation) (maxL := 3) (ret := none) (by decide) rfl ?_
  intro p e s m args below meth c s₁ B hml hv
  obtain ⟨rfl, hP, hK, hD⟩ := hv
  have hx := B.exec
  have hb := B.bytes
  have hr := B.returns
  have hts := atoms_spec (ws := (.code yX3_endOperation cX3_endOperation 3 none :: gw)) B.pre
  have hg : ∀ w ∈ gw, w.before _ s = true := fun w h => hts w (List.mem_cons_of_mem _ h)
  have hown : s.vm.findClass RX3 = some m.cls := findClass_of_methodNamed B.named
  have hlocks := B.notSynchronized
  have C : Cx p c cX3_endOperation s m _ RX3 D (gTy cI cZ cN cO) := ⟨hx, hb, hown, hg, hK⟩
  have w : cWd D cI cN cO A s.heap E n bg σ s.heap [] := ⟨hP, hD, va_S.rf⟩
  have hl := lv_entry ([.ref ((E.1 0)), .ref ((E.2.2.1 k)), .ref ((E.2.2.2.2.1 tt))]) (n := 3) (Nat.le_of_ble_eq_true rfl)
  rw [lg_entry_eq]
  generalize (lg_sl ([.ref ((E.1 0)), .ref ((E.2.2.1 k)), .ref ((E.2.2.2.2.1 tt))]) ++ List.replicate (3 - (lg_sl ([.ref ((E.1 0)), .ref ((E.2.2.1 k)), .ref ((E.2.2.2.2.1 tt))])).length) Slot.unset).toArray = ls at hl ⊢
  have hl : lv_has ls 3 [(0, .ref ((E.1 0))), (1, .ref ((E.2.2.1 k))), (2, .ref ((E.2.2.2.2.1 tt)))] := hl
  refine lv_aload_n hx hb dX3_endOperation_0 rfl (lv_at hl 2 rfl) ?_
  refine lv_aload_n hx hb dX3_endOperation_1 rfl (lv_at hl 0 rfl) ?_
  refine c_gX3_5 C w kF_X3_70 dX3_endOperation_2 ?_
  refine lv_topi (fun t_1 et_1 => ?_)
  refine c_pX1_8 (v := t_1) C w h1 h2 kF_X3_275 dX3_endOperation_5 (fun H locs w => ?_)
  have ok : cOK n bg _ := cOK.put ok (kd := 3) (ix := tt) (f := 8) (v := t_1) rfl
  refine lv_aload_n hx hb dX3_endOperation_8 rfl (lv_at hl 0 rfl) ?_
  refine lv_dup hx hb dX3_endOperation_9 rfl ?_
  refine c_gX3_4 C w kF_X3_122 dX3_endOperation_10 ?_
  refine lv_topi (fun t_2 et_2 => ?_)
  refine lv_iconst (v := 1) hx hb dX3_endOperation_13 (by decide) ?_
  refine lv_iadd hx hb dX3_endOperation_14 ?_
  refine lv_topi (fun t_3 et_3 => ?_)
  refine c_pX3_4 (v := t_3) C w kF_X3_122 dX3_endOperation_15 (fun H locs w => ?_)
  have ok : cOK n bg _ := cOK.put ok (kd := 0) (ix := 0) (f := 4) (v := t_3) rfl
  refine lv_aload_n hx hb dX3_endOperation_18 rfl (lv_at hl 1 rfl) ?_
  subst et_3 et_2 et_1
  refine c_callv (As := []) (rest := []) C (c_preX0 C w hk) w.2.2 hml hl.1 (k_X0_rest l D cI cZ cN cO A E n bg _ k ok hk) kM_X3_278 kI_X0_rest kS_X0_rest kN_X0 kD_X0_rest (show yX0_rest.cls = RX0 ∧ yX0_rest.cls ≠ "java/lang/invoke/MethodHandle" ∧ yX0_rest.cls ≠ "java/lang/invoke/VarHandle" ∧ (parseMethodDescriptor yX0_rest.desc).map (fun d => d.parameters.length) = some 0 from by decide +kernel) rfl rfl ⟨Nat.le_of_ble_eq_true rfl, Nat.le_of_ble_eq_true rfl⟩ rfl (lv_room (Nat.le_of_ble_eq_true rfl)) dX3_endOperation_19 ⟨Nat.zero_le _, Nat.zero_le _⟩ (fun H locs w ok => ?_)
  exact W.vret hx hb hr (fun t ht hW => ⟨⟨(), rfl, trivial, ⟨by rw [ht]; exact w.1, va_K.moved hW.alike hK, w.2.1⟩, ok⟩, w.2.2.F ht⟩) w.2.2.2.2 dX3_endOperation_22
