/-- OPERATION q is the UPDATE of NODE i that NODE k's collect shows -/
def cLd (k : Nat) (σ : CS) (i q : Nat) : Prop := σ.1 3 q 1 = nI i ∧ ¬ σ.1 3 q 11 ≤ 0 ∧ σ.1 3 q 11 = σ.2.1 2 k 2 i
noncomputable def cMvr (n k : Nat) (σ : CS) : Nat := lst (cMv k σ) n 0
noncomputable def cLdr (n bg k : Nat) (σ : CS) : Nat := lst (cLd k σ (cMvr n k σ)) bg 1
def cAny (n k : Nat) (σ : CS) : Prop := ∃ i, i < n ∧ cMv k σ i
def cLdOk (n bg k : Nat) (σ : CS) : Prop := cAny n k σ → ∃ q, 1 ≤ q ∧ q ≤ bg ∧ cLd k σ (cMvr n k σ) q
theorem lst_of1 {P : Nat → Prop} {n : Nat} (h : ∃ i, 1 ≤ i ∧ i ≤ n ∧ P i) : 1 ≤ lst P n 1 ∧ lst P n 1 ≤ n ∧ P (lst P n 1) ∧ ∀ i, 1 ≤ i → i < lst P n 1 → ¬ P i := by
  obtain ⟨h1, h2, h3, h4⟩ := lst_spec P n 1
  have hlt : lst P n 1 < 1 + n := by
    obtain ⟨i, hi, hi2, hp⟩ := h
    rcases Nat.lt_or_ge (lst P n 1) (1 + n) with q | q
    · exact q
    · exact absurd hp (h3 i hi (by omega))
  exact ⟨h1, by omega, h4 hlt, fun i hi => h3 i hi⟩
theorem cMvr_uniq {n k : Nat} {σ : CS} {r : Int32} {j : Nat} (hj : j < n) (hm : cMv k σ j) (hl : ∀ i, i < j → ¬ cMv k σ i) (h : (∃ i, i < n ∧ r = nI i ∧ cMv k σ i ∧ ∀ j, j < i → ¬ cMv k σ j) ∨ (r = -1 ∧ ∀ j, j < n → ¬ cMv k σ j)) : r = nI j := by
  rcases h with ⟨i, h1, h2, h3, h4⟩ | ⟨h1, h2⟩
  · rcases Nat.lt_trichotomy i j with q | q | q
    · exact absurd h3 (hl i q)
    · rw [h2, q]
    · exact absurd hm (h4 j q)
  · exact absurd hm (h2 j hj)
set_option maxHeartbeats 4000000 in
set_option maxRecDepth 100000 in
theorem kl_lender {p : Program} {l : Launch} {e : Env} {R : Room} {s : State} {m : MethodId} {args : Array Value} {below : List Frame} {meth : Method} {c : Code} {cells slots : Nat} {Q : State → Prop} {D : va_G} {cI cZ cN cO : ClassId} {A : Nat → Prop} {H0 : Heap} {E : CE} {n bg : Nat} {H : Heap} {locs : List Loc} (C : Cx p c cX3_lender s m args RX3 D (gTy cI cZ cN cO)) (hml : c.maxLocals = 5) {σ : CS} {k j : Nat} (w : cWd D cI cN cO A H0 E n bg σ H locs) (ok : cOK n bg σ) (hb5 : bg ≤ 511) (hn : n ≤ 31) (hk : k < n) (hj : j < n) (kk : (∀ q, 1 ≤ q → q ≤ bg → ¬ cLd k σ j q) → ∀ ls : Array Slot, lv_has ls 5 [(3, .int (nI (bg + 1))), (2, .int (nI j)), (0, .ref ((E.1 0))), (1, .ref ((E.2.2.1 k)))] → W p l e R s m args below meth c H locs cells slots Q (F0 m 75 ls [])) (ke : ∀ (i : Nat), i < bg → (cLd k σ j (i + 1) ∧ ∀ q, 1 ≤ q → q ≤ i → ¬ cLd k σ j q) → ∀ ls : Array Slot, lv_has ls 5 [(4, .ref ((E.2.2.2.2.1 (i + 1))))] → W p l e R s m args below meth c H locs cells slots Q (F0 m 66 ls [])) : ∀ (fu i : Nat), i + fu = bg → (∀ q, 1 ≤ q → q ≤ i → ¬ cLd k σ j q) → ∀ ls : Array Slot, lv_has ls 5 [(3, .int (nI (i + 1))), (2, .int (nI j)), (0, .ref ((E.1 0))), (1, .ref ((E.2.2.1 k)))] → W p l e R s m args below meth c H locs cells slots Q (F0 m 14 ls []) := by
  intro fu
  induction fu with
  | zero =>
    intro i hik
    intro hI ls hl
    have hx := C.1
    have hb := C.2.1
    have hi : bg = i := by omega
    subst hi
    refine lv_iload_n hx hb dX3_lender_14 rfl (lv_at hl 0 rfl) ?_
    refine lv_aload_n hx hb dX3_lender_15 rfl (lv_at hl 2 rfl) ?_
    refine c_gX3_3 C w kF_X3_119 dX3_lender_16 ?_
    rw [ok.bg]
    refine lv_icmp_gt (tgt := 75) hx hb dX3_lender_19 (by decide) (fun c_19 => ?_) (fun c_19 => absurd (nI_lt (by omega) (by omega)) c_19)
    exact kk hI ls (lv_sub hl [0, 1, 2, 3] rfl)
  | succ fu ih =>
    intro i hik
    intro hI ls hl
    have hx := C.1
    have hb := C.2.1
    have hi : i < bg := by omega
    refine lv_iload_n hx hb dX3_lender_14 rfl (lv_at hl 0 rfl) ?_
    refine lv_aload_n hx hb dX3_lender_15 rfl (lv_at hl 2 rfl) ?_
    refine c_gX3_3 C w kF_X3_119 dX3_lender_16 ?_
    rw [ok.bg]
    refine lv_icmp_gt (tgt := 75) hx hb dX3_lender_19 (by decide) (fun c_19 => absurd c_19 (nI_nlt (by omega) (by omega))) (fun c_19 => ?_)
    refine lv_aload_n hx hb dX3_lender_22 rfl (lv_at hl 2 rfl) ?_
    refine c_gX3_2 C w kF_X3_29 dX3_lender_23 ?_
    refine lv_iload_n hx hb dX3_lender_26 rfl (lv_at hl 0 rfl) ?_
    refine c_lOp (o := (i + 1)) C w (by omega) (by omega) ok.2.2.1 dX3_lender_27 ?_
    refine lv_astore (lv' := [(4, _), (3, _), (2, _), (0, _), (1, _)]) C.1 C.2.1 dX3_lender_28 hl (by decide) rfl (fun ls hl => ?_)
    refine lv_aload hx hb dX3_lender_30 (lv_at hl 0 rfl) ?_
    refine lv_ifnull hx hb dX3_lender_32 ?_
    refine lv_aload hx hb dX3_lender_35 (lv_at hl 0 rfl) ?_
    refine c_gX1_1 C w (by omega) (by omega) kF_X3_250 dX3_lender_37 ?_
    refine lv_topi (fun t_1 et_1 => ?_)
    refine lv_iload_n hx hb dX3_lender_40 rfl (lv_at hl 2 rfl) ?_
    refine lv_icmp_ne (tgt := 69) hx hb dX3_lender_41 (by decide) (fun c_41 => ?_) (fun c_41 => ?_)
    · obtain ⟨x_2, ex_2⟩ : ∃ y : Int32, y = (nI (i + 1)) + 1 := ⟨_, rfl⟩
      refine lv_iinc (v := x_2) (lv' := [(3, _), (4, _), (2, _), (0, _), (1, _)]) C.1 C.2.1 dX3_lender_69 hl (k := 1) rfl (by rw [ex_2]; rfl) (by decide) rfl (fun ls hl => ?_)
      refine lv_goto (tgt := 14) hx hb dX3_lender_72 (by decide) ?_
      have hq : ¬ cLd k σ j (i + 1) := fun z => c_41 (by rw [et_1]; exact z.1)
      have hx2 : x_2 = nI (i + 1 + 1) := by rw [ex_2]; exact nI_1 (i + 1)
      rw [hx2] at hl
      exact ih (i + 1) (by omega) (fun q h3 h4 => (Nat.lt_or_ge q (i + 1)).elim (fun h => hI q h3 (by omega)) (fun h => by rw [show q = i + 1 by omega]; exact hq)) ls (lv_sub hl [0, 2, 3, 4] rfl)
    · refine lv_aload hx hb dX3_lender_44 (lv_at hl 0 rfl) ?_
      refine c_gX1_11 C w (by omega) (by omega) kF_X3_262 dX3_lender_46 ?_
      refine lv_topi (fun t_3 et_3 => ?_)
      refine lv_if_le (tgt := 69) hx hb dX3_lender_49 (by decide) (fun c_49 => ?_) (fun c_49 => ?_)
      · obtain ⟨x_4, ex_4⟩ : ∃ y : Int32, y = (nI (i + 1)) + 1 := ⟨_, rfl⟩
        refine lv_iinc (v := x_4) (lv' := [(3, _), (4, _), (2, _), (0, _), (1, _)]) C.1 C.2.1 dX3_lender_69 hl (k := 1) rfl (by rw [ex_4]; rfl) (by decide) rfl (fun ls hl => ?_)
        refine lv_goto (tgt := 14) hx hb dX3_lender_72 (by decide) ?_
        have hq : ¬ cLd k σ j (i + 1) := fun z => z.2.1 (by rw [← et_3]; exact c_49)
        have hx2 : x_4 = nI (i + 1 + 1) := by rw [ex_4]; exact nI_1 (i + 1)
        rw [hx2] at hl
        exact ih (i + 1) (by omega) (fun q h3 h4 => (Nat.lt_or_ge q (i + 1)).elim (fun h => hI q h3 (by omega)) (fun h => by rw [show q = i + 1 by omega]; exact hq)) ls (lv_sub hl [0, 2, 3, 4] rfl)
      · refine lv_aload hx hb dX3_lender_52 (lv_at hl 0 rfl) ?_
        refine c_gX1_11 C w (by omega) (by omega) kF_X3_262 dX3_lender_54 ?_
        refine lv_topi (fun t_5 et_5 => ?_)
        refine lv_aload_n hx hb dX3_lender_57 rfl (lv_at hl 4 rfl) ?_
        refine c_gX0_2 C w hk kF_X3_224 dX3_lender_58 ?_
        refine lv_iload_n hx hb dX3_lender_61 rfl (lv_at hl 2 rfl) ?_
        refine c_lN2 C w hk (vp_in_nI hj (by omega)) dX3_lender_62 ?_
        refine lv_topi (fun t_6 et_6 => ?_)
        refine lv_icmp_ne (tgt := 69) hx hb dX3_lender_63 (by decide) (fun c_63 => ?_) (fun c_63 => ?_)
        · obtain ⟨x_7, ex_7⟩ : ∃ y : Int32, y = (nI (i + 1)) + 1 := ⟨_, rfl⟩
          refine lv_iinc (v := x_7) (lv' := [(3, _), (4, _), (2, _), (0, _), (1, _)]) C.1 C.2.1 dX3_lender_69 hl (k := 1) rfl (by rw [ex_7]; rfl) (by decide) rfl (fun ls hl => ?_)
          refine lv_goto (tgt := 14) hx hb dX3_lender_72 (by decide) ?_
          have hq : ¬ cLd k σ j (i + 1) := fun z => c_63 (by rw [et_5, et_6, nI_clamp (by omega)]; exact z.2.2)
          have hx2 : x_7 = nI (i + 1 + 1) := by rw [ex_7]; exact nI_1 (i + 1)
          rw [hx2] at hl
          exact ih (i + 1) (by omega) (fun q h3 h4 => (Nat.lt_or_ge q (i + 1)).elim (fun h => hI q h3 (by omega)) (fun h => by rw [show q = i + 1 by omega]; exact hq)) ls (lv_sub hl [0, 2, 3, 4] rfl)
        · exact ke i hi ⟨⟨by rw [← et_1]; exact c_41, by rw [← et_3]; exact c_49, by have h := c_63; rw [et_5, et_6, nI_clamp (by omega)] at h; exact h⟩, hI⟩ ls (lv_sub hl [0] rfl)
set_option maxHeartbeats 4000000 in
set_option maxRecDepth 100000 in
theorem k_lender_no (l : Launch) (D : va_G) (cI cZ cN cO : ClassId) (A : Nat → Prop) (E : CE) (n bg : Nat) (σ : CS) (k : Nat) (ok : cOK n bg σ) (hk : k < n) (hnm : ∀ j, j < n → ¬ cMv k σ j) : Met l yX3_lender (.code yX3_lender cX3_lender 5 (some (.object "SharedShelf$Operation")) :: gw) ({ frames := 1, cells := 0, slots := 0, locals := 21 }) (va_Pc (.ref (E.1 0) :: [.ref ((E.2.2.1 k))]) (cH D cI cZ cN cO A E n bg σ)) (va_Sq (fun r => r = none)) 0 0 (fun _ => False) := by
  refine Met.ofW (cc := cX3_lender) (maxL := 5) (ret := (some (.object "SharedShelf$Operation"))) (by decide) rfl ?_
  intro p e s m args below meth c s₁ B hml hv
  obtain ⟨rfl, hP, hK, hD⟩ := hv
  have hx := B.exec
  have hb := B.bytes
  have hr := B.returns
  have hts := atoms_spec (ws := (.code yX3_lender cX3_lender 5 (some (.object "SharedShelf$Operation")) :: gw)) B.pre
  have hg : ∀ w ∈ gw, w.before _ s = true := fun w h => hts w (List.mem_cons_of_mem _ h)
  have hown : s.vm.findClass RX3 = some m.cls := findClass_of_methodNamed B.named
  have hlocks := B.notSynchronized
  have C : Cx p c cX3_lender s m _ RX3 D (gTy cI cZ cN cO) := ⟨hx, hb, hown, hg, hK⟩
  have w : cWd D cI cN cO A s.heap E n bg σ s.heap [] := ⟨hP, hD, va_S.rf⟩
  have hl := lv_entry ([.ref ((E.1 0)), .ref ((E.2.2.1 k))]) (n := 5) (Nat.le_of_ble_eq_true rfl)
  rw [lg_entry_eq]
  generalize (lg_sl ([.ref ((E.1 0)), .ref ((E.2.2.1 k))]) ++ List.replicate (5 - (lg_sl ([.ref ((E.1 0)), .ref ((E.2.2.1 k))])).length) Slot.unset).toArray = ls at hl ⊢
  have hl : lv_has ls 5 [(0, .ref ((E.1 0))), (1, .ref ((E.2.2.1 k)))] := hl
  refine lv_aload_n hx hb dX3_lender_0 rfl (lv_at hl 1 rfl) ?_
  refine c_callp (As := []) (rest := []) C (c_preX0 C w hk) hml hl.1 (k_X0_leastThatMovedTwice l D cI cZ cN cO A E n bg _ k ok hk) kM_X3_259 kI_X0_leastThatMovedTwice kS_X0_leastThatMovedTwice kN_X0 kD_X0_leastThatMovedTwice (show yX0_leastThatMovedTwice.cls = RX0 ∧ yX0_leastThatMovedTwice.cls ≠ "java/lang/invoke/MethodHandle" ∧ yX0_leastThatMovedTwice.cls ≠ "java/lang/invoke/VarHandle" ∧ (parseMethodDescriptor yX0_leastThatMovedTwice.desc).map (fun d => d.parameters.length) = some 0 from by decide +kernel) rfl rfl ⟨Nat.le_of_ble_eq_true rfl, Nat.le_of_ble_eq_true rfl⟩ rfl (lv_room (Nat.le_of_ble_eq_true rfl)) dX3_lender_1 ⟨Nat.zero_le _, Nat.zero_le _⟩ (fun r_1 hr_1 => ?_)
  obtain rfl : r_1 = -1 := hr_1.elim (fun ⟨i, h1, _, h3, _⟩ => absurd h3 (hnm i h1)) (fun h => h.1)
  refine lv_istore_n (lv' := [(2, _), (0, _), (1, _)]) C.1 C.2.1 dX3_lender_4 rfl hl (by decide) rfl (fun ls hl => ?_)
  refine lv_iload_n hx hb dX3_lender_5 rfl (lv_at hl 0 rfl) ?_
  refine lv_iconst (v := (-1)) hx hb dX3_lender_6 (by decide) ?_
  refine lv_icmp_ne (tgt := 12) hx hb dX3_lender_7 (by decide) (fun c_7 => absurd rfl c_7) (fun c_7 => ?_)
  refine lv_null hx hb dX3_lender_10 ?_
  exact W.aret (v := va_rf none) hx hb hr (Or.inl ⟨_, rfl⟩) (va_rf_or _) (fun t ht hW => ⟨none, rfl, rfl, ht⟩) (fun _ h => by cases h) dX3_lender_11
set_option maxHeartbeats 4000000 in
set_option maxRecDepth 100000 in
theorem k_lender_yes (l : Launch) (D : va_G) (cI cZ cN cO : ClassId) (A : Nat → Prop) (E : CE) (n bg : Nat) (σ : CS) (k j : Nat) (ok : cOK n bg σ) (hk : k < n) (hj : j < n) (hm : cMv k σ j) (hlt : ∀ i, i < j → ¬ cMv k σ i) (hld : ∃ q, 1 ≤ q ∧ q ≤ bg ∧ cLd k σ j q) : Met l yX3_lender (.code yX3_lender cX3_lender 5 (some (.object "SharedShelf$Operation")) :: gw) ({ frames := 1, cells := 0, slots := 0, locals := 21 }) (va_Pc (.ref (E.1 0) :: [.ref ((E.2.2.1 k))]) (cH D cI cZ cN cO A E n bg σ)) (va_Sq (fun r => r = some (E.2.2.2.2.1 (lst (cLd k σ j) bg 1)))) 0 0 (fun _ => False) := by
  refine Met.ofW (cc := cX3_lender) (maxL := 5) (ret := (some (.object "SharedShelf$Operation"))) (by decide) rfl ?_
  intro p e s m args below meth c s₁ B hml hv
  obtain ⟨rfl, hP, hK, hD⟩ := hv
  have hx := B.exec
  have hb := B.bytes
  have hr := B.returns
  have hts := atoms_spec (ws := (.code yX3_lender cX3_lender 5 (some (.object "SharedShelf$Operation")) :: gw)) B.pre
  have hg : ∀ w ∈ gw, w.before _ s = true := fun w h => hts w (List.mem_cons_of_mem _ h)
  have hown : s.vm.findClass RX3 = some m.cls := findClass_of_methodNamed B.named
  have hlocks := B.notSynchronized
  have C : Cx p c cX3_lender s m _ RX3 D (gTy cI cZ cN cO) := ⟨hx, hb, hown, hg, hK⟩
  have w : cWd D cI cN cO A s.heap E n bg σ s.heap [] := ⟨hP, hD, va_S.rf⟩
  have hl := lv_entry ([.ref ((E.1 0)), .ref ((E.2.2.1 k))]) (n := 5) (Nat.le_of_ble_eq_true rfl)
  rw [lg_entry_eq]
  generalize (lg_sl ([.ref ((E.1 0)), .ref ((E.2.2.1 k))]) ++ List.replicate (5 - (lg_sl ([.ref ((E.1 0)), .ref ((E.2.2.1 k))])).length) Slot.unset).toArray = ls at hl ⊢
  have hl : lv_has ls 5 [(0, .ref ((E.1 0))), (1, .ref ((E.2.2.1 k)))] := hl
  refine lv_aload_n hx hb dX3_lender_0 rfl (lv_at hl 1 rfl) ?_
  refine c_callp (As := []) (rest := []) C (c_preX0 C w hk) hml hl.1 (k_X0_leastThatMovedTwice l D cI cZ cN cO A E n bg _ k ok hk) kM_X3_259 kI_X0_leastThatMovedTwice kS_X0_leastThatMovedTwice kN_X0 kD_X0_leastThatMovedTwice (show yX0_leastThatMovedTwice.cls = RX0 ∧ yX0_leastThatMovedTwice.cls ≠ "java/lang/invoke/MethodHandle" ∧ yX0_leastThatMovedTwice.cls ≠ "java/lang/invoke/VarHandle" ∧ (parseMethodDescriptor yX0_leastThatMovedTwice.desc).map (fun d => d.parameters.length) = some 0 from by decide +kernel) rfl rfl ⟨Nat.le_of_ble_eq_true rfl, Nat.le_of_ble_eq_true rfl⟩ rfl (lv_room (Nat.le_of_ble_eq_true rfl)) dX3_lender_1 ⟨Nat.zero_le _, Nat.zero_le _⟩ (fun r_1 hr_1 => ?_)
  obtain rfl : r_1 = nI j := cMvr_uniq hj hm hlt hr_1
  refine lv_istore_n (lv' := [(2, _), (0, _), (1, _)]) C.1 C.2.1 dX3_lender_4 rfl hl (by decide) rfl (fun ls hl => ?_)
  refine lv_iload_n hx hb dX3_lender_5 rfl (lv_at hl 0 rfl) ?_
  refine lv_iconst (v := (-1)) hx hb dX3_lender_6 (by decide) ?_
  refine lv_icmp_ne (tgt := 12) hx hb dX3_lender_7 (by decide) (fun c_7 => ?_) (fun c_7 => absurd c_7 (nI_nm1 (by have := ok.2.1; omega)))
  refine lv_iconst (v := 1) hx hb dX3_lender_12 (by decide) ?_
  refine lv_istore_n (lv' := [(3, _), (2, _), (0, _), (1, _)]) C.1 C.2.1 dX3_lender_13 rfl hl (by decide) rfl (fun ls hl => ?_)
  have hl := lv_sub hl (l' := [(3, .int (nI (0 + 1))), (2, .int (nI j)), (0, .ref (E.1 0)), (1, .ref (E.2.2.1 k))]) [0, 1, 2, 3] (by rw [show nI (0 + 1) = 1 from by decide +kernel]; rfl)
  refine kl_lender C hml w ok ok.2.2.1 ok.2.1 hk hj ?_ ?_ bg 0 (by omega) (fun q h3 h4 => absurd h4 (by omega)) ls (lv_sub hl [0, 1, 2, 3] rfl)
  · intro hI ls hl
    obtain ⟨q, z1, z2, z3⟩ := hld
    exact absurd z3 (hI q z1 z2)
  · intro i hi hh ls hl
    have hq : lst (cLd k σ j) bg 1 = i + 1 := by
      obtain ⟨z1, z2, z3, z4⟩ := lst_of1 hld
      rcases Nat.lt_trichotomy (lst (cLd k σ j) bg 1) (i + 1) with z | z | z
      · exact absurd z3 (hh.2 _ z1 (by omega))
      · exact z
      · exact absurd hh.1 (z4 _ (by omega) z)
    refine lv_aload hx hb dX3_lender_66 (lv_at hl 0 rfl) ?_
    exact W.aret (v := va_rf ((some (E.2.2.2.2.1 (i + 1))))) hx hb hr (Or.inl ⟨_, rfl⟩) (va_rf_or _) (fun t ht hW => ⟨(some (E.2.2.2.2.1 (i + 1))), rfl, (by rw [hq]), ht⟩) (fun _ h => by cases h) dX3_lender_68
set_option maxHeartbeats 4000000 in
set_option maxRecDepth 100000 in
theorem k_lender (l : Launch) (D : va_G) (cI cZ cN cO : ClassId) (A : Nat → Prop) (E : CE) (n bg : Nat) (σ : CS) (k : Nat) (ok : cOK n bg σ) (hk : k < n) (hok : cLdOk n bg k σ) : Met l yX3_lender (.code yX3_lender cX3_lender 5 (some (.object "SharedShelf$Operation")) :: gw) ({ frames := 1, cells := 0, slots := 0, locals := 21 }) (va_Pc (.ref (E.1 0) :: [.ref (E.2.2.1 k)]) (cH D cI cZ cN cO A E n bg σ)) (va_Sq (fun r => r = cif (cAny n k σ) (some (E.2.2.2.2.1 (cLdr n bg k σ))) none)) 0 0 (fun _ => False) := by
  by_cases h : cAny n k σ
  · obtain ⟨h1, h2, h3⟩ := lst_of h
    rw [cif_pos h]
    exact k_lender_yes l D cI cZ cN cO A E n bg σ k (cMvr n k σ) ok hk h1 h2 h3 (hok h)
  · rw [cif_neg h]
    exact k_lender_no l D cI cZ cN cO A E n bg σ k ok hk (fun j hj z => h ⟨j, hj, z⟩)
