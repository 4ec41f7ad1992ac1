def cLate (bg : Nat) (σ : CS) (o : Nat) : Prop := ¬ σ.1 3 o 8 = -1 ∧ ∃ q, 1 ≤ q ∧ q ≤ bg ∧ σ.1 3 o 8 < σ.1 3 q 5 ∧ cSees σ o q (σ.1 3 q 2)
def cAhd (σ : CS) (o u : Nat) : Prop := ¬ σ.1 3 o 8 = -1 ∧ σ.1 3 o 8 < σ.1 3 u 5
def cMis (σ : CS) (o u : Nat) : Prop := ¬ 3 < σ.1 3 o 2 ∧ ¬ cSees σ u o (σ.1 3 o 2)
noncomputable def cStr (n : Nat) (σ : CS) (o u : Nat) : Int32 := cif (¬ cLess n σ o u ∧ ¬ cLess n σ u o) 1 0 + cif (cAhd σ o u ∧ (¬ cLess n σ o u ∨ cMis σ o u)) 1 0
noncomputable def cIn (n : Nat) (σ : CS) (o : Nat) : Nat → Int32
  | 0 => 0
  | m + 1 => cIn n σ o m + cif (σ.1 3 (o + m + 1) 7 = 0) 0 (cStr n σ o (o + m + 1))
noncomputable def cAst (n bg : Nat) (σ : CS) : Nat → Int32
  | 0 => 0
  | i + 1 => cAst n bg σ i + cif (σ.1 3 (i + 1) 7 = 0) 0 (cif (cLate bg σ (i + 1)) 1 0 + cIn n σ (i + 1) (bg - (i + 1)))
set_option maxHeartbeats 4000000 in
set_option maxRecDepth 100000 in
theorem kl_late {p : Program} {l : Launch} {e : Env} {R : Room} {s : State} {m : MethodId} {args : Array Value} {below : List Frame} {meth : Method} {c : Code} {cells slots : Nat} {Q : State → Prop} {D : va_G} {cI cZ cN cO : ClassId} {A : Nat → Prop} {H0 : Heap} {E : CE} {n bg : Nat} {H : Heap} {locs : List Loc} (C : Cx p c cX3_seesWhatBeganLater s m args RX3 D (gTy cI cZ cN cO)) (hml : c.maxLocals = 4) {σ : CS} {o : Nat} (w : cWd D cI cN cO A H0 E n bg σ H locs) (ok : cOK n bg σ) (hb5 : bg ≤ 511) (h1 : 1 ≤ o) (h2 : o ≤ bg) (hRf : 1 ≤ R.frames) (hRl : 22 ≤ R.locals) (hRc : cells + 0 ≤ R.cells) (hRs : slots + 0 ≤ R.slots) (kk : (∀ q, 1 ≤ q → q ≤ bg → ¬ (σ.1 3 o 8 < σ.1 3 q 5 ∧ cSees σ o q (σ.1 3 q 2))) → ∀ ls : Array Slot, lv_has ls 4 [(2, .int (nI (bg + 1))), (0, .ref ((E.1 0))), (1, .ref ((E.2.2.2.2.1 o)))] → W p l e R s m args below meth c H locs cells slots Q (F0 m 61 ls [])) (ke : ∀ (i : Nat), i < bg → (σ.1 3 o 8 < σ.1 3 (i + 1) 5 ∧ cSees σ o (i + 1) (σ.1 3 (i + 1) 2)) → ∀ ls : Array Slot, lv_has ls 4 [(0, .ref ((E.1 0)))] → W p l e R s m args below meth c H locs cells slots Q (F0 m 53 ls [])) : ∀ (fu i : Nat), i + fu = bg → (∀ q, 1 ≤ q → q ≤ i → ¬ (σ.1 3 o 8 < σ.1 3 q 5 ∧ cSees σ o q (σ.1 3 q 2))) → ∀ ls : Array Slot, lv_has ls 4 [(2, .int (nI (i + 1))), (0, .ref ((E.1 0))), (1, .ref ((E.2.2.2.2.1 o)))] → W p l e R s m args below meth c H locs cells slots Q (F0 m 11 ls []) := by
  intro fu
  induction fu with
  | zero =>
    intro i hik
    intro hI ls hl
    have hx := C.1
    have hb := C.2.1
    have hi : bg = i := by omega
    subst hi
    refine lv_iload_n hx hb dX3_seesWhatBeganLater_11 rfl (lv_at hl 0 rfl) ?_
    refine lv_aload_n hx hb dX3_seesWhatBeganLater_12 rfl (lv_at hl 1 rfl) ?_
    refine c_gX3_3 C w kF_X3_119 dX3_seesWhatBeganLater_13 ?_
    rw [ok.bg]
    refine lv_icmp_gt (tgt := 61) hx hb dX3_seesWhatBeganLater_16 (by decide) (fun c_16 => ?_) (fun c_16 => absurd (nI_lt (by omega) (by omega)) c_16)
    exact kk hI ls (lv_sub hl [0, 1, 2] rfl)
  | succ fu ih =>
    intro i hik
    intro hI ls hl
    have hx := C.1
    have hb := C.2.1
    have hi : i < bg := by omega
    refine lv_iload_n hx hb dX3_seesWhatBeganLater_11 rfl (lv_at hl 0 rfl) ?_
    refine lv_aload_n hx hb dX3_seesWhatBeganLater_12 rfl (lv_at hl 1 rfl) ?_
    refine c_gX3_3 C w kF_X3_119 dX3_seesWhatBeganLater_13 ?_
    rw [ok.bg]
    refine lv_icmp_gt (tgt := 61) hx hb dX3_seesWhatBeganLater_16 (by decide) (fun c_16 => absurd c_16 (nI_nlt (by omega) (by omega))) (fun c_16 => ?_)
    refine lv_aload_n hx hb dX3_seesWhatBeganLater_19 rfl (lv_at hl 1 rfl) ?_
    refine c_gX3_2 C w kF_X3_29 dX3_seesWhatBeganLater_20 ?_
    refine lv_iload_n hx hb dX3_seesWhatBeganLater_23 rfl (lv_at hl 0 rfl) ?_
    refine c_lOp (o := (i + 1)) C w (by omega) (by omega) ok.2.2.1 dX3_seesWhatBeganLater_24 ?_
    refine lv_astore_n (lv' := [(3, _), (2, _), (0, _), (1, _)]) C.1 C.2.1 dX3_seesWhatBeganLater_25 rfl hl (by decide) rfl (fun ls hl => ?_)
    refine lv_aload_n hx hb dX3_seesWhatBeganLater_26 rfl (lv_at hl 0 rfl) ?_
    refine lv_ifnull hx hb dX3_seesWhatBeganLater_27 ?_
    refine lv_aload_n hx hb dX3_seesWhatBeganLater_30 rfl (lv_at hl 0 rfl) ?_
    refine c_gX1_5 C w (by omega) (by omega) kF_X3_333 dX3_seesWhatBeganLater_31 ?_
    refine lv_topi (fun t_1 et_1 => ?_)
    refine lv_aload_n hx hb dX3_seesWhatBeganLater_34 rfl (lv_at hl 3 rfl) ?_
    refine c_gX1_8 C w h1 h2 kF_X3_275 dX3_seesWhatBeganLater_35 ?_
    refine lv_topi (fun t_2 et_2 => ?_)
    refine lv_icmp_le (tgt := 55) hx hb dX3_seesWhatBeganLater_38 (by decide) (fun c_38 => ?_) (fun c_38 => ?_)
    · obtain ⟨x_3, ex_3⟩ : ∃ y : Int32, y = (nI (i + 1)) + 1 := ⟨_, rfl⟩
      refine lv_iinc (v := x_3) (lv' := [(2, _), (3, _), (0, _), (1, _)]) C.1 C.2.1 dX3_seesWhatBeganLater_55 hl (k := 1) rfl (by rw [ex_3]; rfl) (by decide) rfl (fun ls hl => ?_)
      refine lv_goto (tgt := 11) hx hb dX3_seesWhatBeganLater_58 (by decide) ?_
      have hq : ¬ (σ.1 3 o 8 < σ.1 3 (i + 1) 5 ∧ cSees σ o (i + 1) (σ.1 3 (i + 1) 2)) := fun z => absurd z.1 (Int32.not_lt.mpr (by rw [← et_1, ← et_2]; exact c_38))
      have hx2 : x_3 = nI (i + 1 + 1) := by rw [ex_3]; exact nI_1 (i + 1)
      rw [hx2] at hl
      exact ih (i + 1) (by omega) (fun q h3 h4 => (Nat.lt_or_ge q (i + 1)).elim (fun h => hI q h3 (by omega)) (fun h => by rw [show q = i + 1 by omega]; exact hq)) ls (lv_sub hl [0, 2, 3] rfl)
    · refine lv_aload_n hx hb dX3_seesWhatBeganLater_41 rfl (lv_at hl 3 rfl) ?_
      refine lv_aload_n hx hb dX3_seesWhatBeganLater_42 rfl (lv_at hl 0 rfl) ?_
      refine lv_aload_n hx hb dX3_seesWhatBeganLater_43 rfl (lv_at hl 0 rfl) ?_
      refine c_gX1_2 C w (by omega) (by omega) kF_X3_287 dX3_seesWhatBeganLater_44 ?_
      refine c_callp (As := [.ref ((E.2.2.2.2.1 (i + 1))), .int ((σ.1 3 (i + 1) 2))]) (rest := []) C (c_preX1 C w h1 h2) hml hl.1 (k_X1_sees l D cI cZ cN cO A E n bg _ o (i + 1) _ ok h1 h2 (by omega) (by omega)) kM_X3_306 kI_X1_sees kS_X1_sees kN_X1 kD_X1_sees (show yX1_sees.cls = RX1 ∧ yX1_sees.cls ≠ "java/lang/invoke/MethodHandle" ∧ yX1_sees.cls ≠ "java/lang/invoke/VarHandle" ∧ (parseMethodDescriptor yX1_sees.desc).map (fun d => d.parameters.length) = some 2 from by decide +kernel) rfl rfl ⟨(by show 0 + 1 ≤ R.frames; omega), (by show 8 + (3 + 11) + 0 ≤ R.locals; omega)⟩ rfl (lv_room (Nat.le_of_ble_eq_true rfl)) dX3_seesWhatBeganLater_47 ⟨hRc, hRs⟩ (fun r_4 hr_4 => ?_)
      refine lv_if_eq (tgt := 55) hx hb dX3_seesWhatBeganLater_50 (by decide) (fun c_50 => ?_) (fun c_50 => ?_)
      · obtain ⟨x_5, ex_5⟩ : ∃ y : Int32, y = (nI (i + 1)) + 1 := ⟨_, rfl⟩
        refine lv_iinc (v := x_5) (lv' := [(2, _), (3, _), (0, _), (1, _)]) C.1 C.2.1 dX3_seesWhatBeganLater_55 hl (k := 1) rfl (by rw [ex_5]; rfl) (by decide) rfl (fun ls hl => ?_)
        refine lv_goto (tgt := 11) hx hb dX3_seesWhatBeganLater_58 (by decide) ?_
        have hq : ¬ (σ.1 3 o 8 < σ.1 3 (i + 1) 5 ∧ cSees σ o (i + 1) (σ.1 3 (i + 1) 2)) := fun z => ite_eq0 hr_4 c_50 z.2
        have hx2 : x_5 = nI (i + 1 + 1) := by rw [ex_5]; exact nI_1 (i + 1)
        rw [hx2] at hl
        exact ih (i + 1) (by omega) (fun q h3 h4 => (Nat.lt_or_ge q (i + 1)).elim (fun h => hI q h3 (by omega)) (fun h => by rw [show q = i + 1 by omega]; exact hq)) ls (lv_sub hl [0, 2, 3] rfl)
      · exact ke i hi ⟨by rw [← et_1, ← et_2]; exact Int32.not_le.mp c_38, ite_ne0 hr_4 c_50⟩ ls (lv_sub hl [2] rfl)
set_option maxHeartbeats 4000000 in
set_option maxRecDepth 100000 in
theorem k_X3_seesWhatBeganLater (l : Launch) (D : va_G) (cI cZ cN cO : ClassId) (A : Nat → Prop) (E : CE) (n bg : Nat) (σ : CS) (o : Nat) (ok : cOK n bg σ) (h1 : 1 ≤ o) (h2 : o ≤ bg) : Met l yX3_seesWhatBeganLater (.code yX3_seesWhatBeganLater cX3_seesWhatBeganLater 4 (some .boolean) :: gw) ({ frames := 1, cells := 0, slots := 0, locals := 22 }) (va_Pc (.ref (E.1 0) :: [.ref ((E.2.2.2.2.1 o))]) (cH D cI cZ cN cO A E n bg σ)) (vp_Si (fun r => (r = 1 ∧ cLate bg σ o) ∨ (r = 0 ∧ ¬ cLate bg σ o))) 0 0 (fun _ => False) := by
  refine Met.ofW (cc := cX3_seesWhatBeganLater) (maxL := 4) (ret := (some .boolean)) (by decide) rfl ?_
  intro p e s m args below meth c s₁ B hml hv
  obtain ⟨rfl, hP, hK, hD⟩ := hv
  have hx := B.exec
  have hb := B.bytes
  have hr := B.returns
  have hts := atoms_spec (ws := (.code yX3_seesWhatBeganLater cX3_seesWhatBeganLater 4 (some .boolean) :: gw)) B.pre
  have hg : ∀ w ∈ gw, w.before _ s = true := fun w h => hts w (List.mem_cons_of_mem _ h)
  have hown : s.vm.findClass RX3 = some m.cls := findClass_of_methodNamed B.named
  have hlocks := B.notSynchronized
  have C : Cx p c cX3_seesWhatBeganLater s m _ RX3 D (gTy cI cZ cN cO) := ⟨hx, hb, hown, hg, hK⟩
  have w : cWd D cI cN cO A s.heap E n bg σ s.heap [] := ⟨hP, hD, va_S.rf⟩
  have hl := lv_entry ([.ref ((E.1 0)), .ref ((E.2.2.2.2.1 o))]) (n := 4) (Nat.le_of_ble_eq_true rfl)
  rw [lg_entry_eq]
  generalize (lg_sl ([.ref ((E.1 0)), .ref ((E.2.2.2.2.1 o))]) ++ List.replicate (4 - (lg_sl ([.ref ((E.1 0)), .ref ((E.2.2.2.2.1 o))])).length) Slot.unset).toArray = ls at hl ⊢
  have hl : lv_has ls 4 [(0, .ref ((E.1 0))), (1, .ref ((E.2.2.2.2.1 o)))] := hl
  refine lv_aload_n hx hb dX3_seesWhatBeganLater_0 rfl (lv_at hl 1 rfl) ?_
  refine c_callp (As := []) (rest := []) C (c_preX1 C w h1 h2) hml hl.1 (k_X1_isDone l D cI cZ cN cO A E n bg _ o ok h1 h2) kM_X3_81 kI_X1_isDone kS_X1_isDone kN_X1 kD_X1_isDone (show yX1_isDone.cls = RX1 ∧ yX1_isDone.cls ≠ "java/lang/invoke/MethodHandle" ∧ yX1_isDone.cls ≠ "java/lang/invoke/VarHandle" ∧ (parseMethodDescriptor yX1_isDone.desc).map (fun d => d.parameters.length) = some 0 from by decide +kernel) rfl rfl ⟨Nat.le_of_ble_eq_true rfl, Nat.le_of_ble_eq_true rfl⟩ rfl (lv_room (Nat.le_of_ble_eq_true rfl)) dX3_seesWhatBeganLater_1 ⟨Nat.zero_le _, Nat.zero_le _⟩ (fun r_1 hr_1 => ?_)
  refine lv_if_ne (tgt := 9) hx hb dX3_seesWhatBeganLater_4 (by decide) (fun c_4 => ?_) (fun c_4 => ?_)
  · refine lv_iconst (v := 1) hx hb dX3_seesWhatBeganLater_9 (by decide) ?_
    refine lv_istore_n (lv' := [(2, _), (0, _), (1, _)]) C.1 C.2.1 dX3_seesWhatBeganLater_10 rfl hl (by decide) rfl (fun ls hl => ?_)
    have hl := lv_sub hl (l' := [(2, .int (nI (0 + 1))), (0, .ref (E.1 0)), (1, .ref (E.2.2.2.2.1 o))]) [0, 1, 2] (by rw [show nI (0 + 1) = 1 from by decide +kernel]; rfl)
    have hdn : ¬ σ.1 3 o 8 = -1 := fun z => by rw [if_pos z] at hr_1; exact c_4 hr_1
    refine kl_late C hml w ok ok.2.2.1 h1 h2 (Nat.le_of_ble_eq_true rfl) (Nat.le_of_ble_eq_true rfl) (Nat.zero_le _) (Nat.zero_le _) ?_ ?_ bg 0 (by omega) (fun q h3 h4 => absurd h4 (by omega)) ls (lv_sub hl [0, 1, 2] rfl)
    · intro hI ls hl
      refine lv_iconst (v := 0) hx hb dX3_seesWhatBeganLater_61 (by decide) ?_
      exact W.zret (v := 0) (ty := .boolean) hx hb hr rfl (fun t ht hW => ⟨_, rfl, Or.inr ⟨rfl, fun ⟨_, q, z1, z2, z3⟩ => hI q z1 z2 z3⟩, ht⟩) (fun _ h => by cases h) dX3_seesWhatBeganLater_62
    · intro i hi hh ls hl
      refine lv_iconst (v := 1) hx hb dX3_seesWhatBeganLater_53 (by decide) ?_
      exact W.zret (v := 1) (ty := .boolean) hx hb hr rfl (fun t ht hW => ⟨_, rfl, Or.inl ⟨rfl, hdn, i + 1, by omega, by omega, hh⟩, ht⟩) (fun _ h => by cases h) dX3_seesWhatBeganLater_54
  · refine lv_iconst (v := 0) hx hb dX3_seesWhatBeganLater_7 (by decide) ?_
    exact W.zret (v := 0) (ty := .boolean) hx hb hr rfl (fun t ht hW => ⟨_, rfl, Or.inr ⟨rfl, fun z => z.1 (by by_cases y : σ.1 3 o 8 = -1; exact y; rw [if_neg y] at hr_1; exact absurd (hr_1.symm.trans c_4) (by decide))⟩, ht⟩) (fun _ h => by cases h) dX3_seesWhatBeganLater_8
set_option maxHeartbeats 4000000 in
set_option maxRecDepth 100000 in
theorem k_X3_strays (l : Launch) (D : va_G) (cI cZ cN cO : ClassId) (A : Nat → Prop) (E : CE) (n bg : Nat) (σ : CS) (o u : Nat) (ok : cOK n bg σ) (h1 : 1 ≤ o) (h2 : o ≤ bg) (g1 : 1 ≤ u) (g2 : u ≤ bg) : Met l yX3_strays (.code yX3_strays cX3_strays 7 (some .int) :: gw) ({ frames := 1, cells := 0, slots := 0, locals := 22 }) (va_Pc (.ref (E.1 0) :: [.ref ((E.2.2.2.2.1 o)), .ref ((E.2.2.2.2.1 u))]) (cH D cI cZ cN cO A E n bg σ)) (vp_Si (fun r => r = cStr n σ o u)) 0 0 (fun _ => False) := by
  refine Met.ofW (cc := cX3_strays) (maxL := 7) (ret := (some .int)) (by decide) rfl ?_
  intro p e s m args below meth c s₁ B hml hv
  obtain ⟨rfl, hP, hK, hD⟩ := hv
  have hx := B.exec
  have hb := B.bytes
  have hr := B.returns
  have hts := atoms_spec (ws := (.code yX3_strays cX3_strays 7 (some .int) :: gw)) B.pre
  have hg : ∀ w ∈ gw, w.before _ s = true := fun w h => hts w (List.mem_cons_of_mem _ h)
  have hown : s.vm.findClass RX3 = some m.cls := findClass_of_methodNamed B.named
  have hlocks := B.notSynchronized
  have C : Cx p c cX3_strays s m _ RX3 D (gTy cI cZ cN cO) := ⟨hx, hb, hown, hg, hK⟩
  have w : cWd D cI cN cO A s.heap E n bg σ s.heap [] := ⟨hP, hD, va_S.rf⟩
  have hl := lv_entry ([.ref ((E.1 0)), .ref ((E.2.2.2.2.1 o)), .ref ((E.2.2.2.2.1 u))]) (n := 7) (Nat.le_of_ble_eq_true rfl)
  rw [lg_entry_eq]
  generalize (lg_sl ([.ref ((E.1 0)), .ref ((E.2.2.2.2.1 o)), .ref ((E.2.2.2.2.1 u))]) ++ List.replicate (7 - (lg_sl ([.ref ((E.1 0)), .ref ((E.2.2.2.2.1 o)), .ref ((E.2.2.2.2.1 u))])).length) Slot.unset).toArray = ls at hl ⊢
  have hl : lv_has ls 7 [(0, .ref ((E.1 0))), (1, .ref ((E.2.2.2.2.1 o))), (2, .ref ((E.2.2.2.2.1 u)))] := hl
  refine lv_aload_n hx hb dX3_strays_0 rfl (lv_at hl 1 rfl) ?_
  refine lv_aload_n hx hb dX3_strays_1 rfl (lv_at hl 2 rfl) ?_
  refine c_callp (As := [.ref ((E.2.2.2.2.1 u))]) (rest := []) C (c_preX1 C w h1 h2) hml hl.1 (k_X1_seesAtMost l D cI cZ cN cO A E n bg _ o u ok h1 h2 g1 g2) kM_X3_330 kI_X1_seesAtMost kS_X1_seesAtMost kN_X1 kD_X1_seesAtMost (show yX1_seesAtMost.cls = RX1 ∧ yX1_seesAtMost.cls ≠ "java/lang/invoke/MethodHandle" ∧ yX1_seesAtMost.cls ≠ "java/lang/invoke/VarHandle" ∧ (parseMethodDescriptor yX1_seesAtMost.desc).map (fun d => d.parameters.length) = some 1 from by decide +kernel) rfl rfl ⟨Nat.le_of_ble_eq_true rfl, Nat.le_of_ble_eq_true rfl⟩ rfl (lv_room (Nat.le_of_ble_eq_true rfl)) dX3_strays_2 ⟨Nat.zero_le _, Nat.zero_le _⟩ (fun r_1 hr_1 => ?_)
  refine lv_istore_n (lv' := [(3, _), (0, _), (1, _), (2, _)]) C.1 C.2.1 dX3_strays_5 rfl hl (by decide) rfl (fun ls hl => ?_)
  refine lv_iconst (v := 0) hx hb dX3_strays_6 (by decide) ?_
  refine lv_istore (lv' := [(4, _), (3, _), (0, _), (1, _), (2, _)]) C.1 C.2.1 dX3_strays_7 hl (by decide) rfl (fun ls hl => ?_)
  refine lv_iload_n hx hb dX3_strays_9 rfl (lv_at hl 1 rfl) ?_
  refine lv_if_ne (tgt := 24) hx hb dX3_strays_10 (by decide) (fun c_10 => ?_) (fun c_10 => ?_)
  · refine lv_aload_n hx hb dX3_strays_24 rfl (lv_at hl 3 rfl) ?_
    refine c_callp (As := []) (rest := []) C (c_preX1 C w h1 h2) hml hl.1 (k_X1_isDone l D cI cZ cN cO A E n bg _ o ok h1 h2) kM_X3_81 kI_X1_isDone kS_X1_isDone kN_X1 kD_X1_isDone (show yX1_isDone.cls = RX1 ∧ yX1_isDone.cls ≠ "java/lang/invoke/MethodHandle" ∧ yX1_isDone.cls ≠ "java/lang/invoke/VarHandle" ∧ (parseMethodDescriptor yX1_isDone.desc).map (fun d => d.parameters.length) = some 0 from by decide +kernel) rfl rfl ⟨Nat.le_of_ble_eq_true rfl, Nat.le_of_ble_eq_true rfl⟩ rfl (lv_room (Nat.le_of_ble_eq_true rfl)) dX3_strays_25 ⟨Nat.zero_le _, Nat.zero_le _⟩ (fun r_2 hr_2 => ?_)
    refine lv_if_eq (tgt := 46) hx hb dX3_strays_28 (by decide) (fun c_28 => ?_) (fun c_28 => ?_)
    · refine lv_iconst (v := 0) hx hb dX3_strays_46 (by decide) ?_
      refine lv_istore (lv' := [(5, _), (4, _), (3, _), (0, _), (1, _), (2, _)]) C.1 C.2.1 dX3_strays_47 hl (by decide) rfl (fun ls hl => ?_)
      refine lv_aload_n hx hb dX3_strays_49 rfl (lv_at hl 4 rfl) ?_
      refine c_callp (As := []) (rest := []) C (c_preX1 C w h1 h2) hml hl.1 (k_X1_isUpdate l D cI cZ cN cO A E n bg _ o ok h1 h2) kM_X3_211 kI_X1_isUpdate kS_X1_isUpdate kN_X1 kD_X1_isUpdate (show yX1_isUpdate.cls = RX1 ∧ yX1_isUpdate.cls ≠ "java/lang/invoke/MethodHandle" ∧ yX1_isUpdate.cls ≠ "java/lang/invoke/VarHandle" ∧ (parseMethodDescriptor yX1_isUpdate.desc).map (fun d => d.parameters.length) = some 0 from by decide +kernel) rfl rfl ⟨Nat.le_of_ble_eq_true rfl, Nat.le_of_ble_eq_true rfl⟩ rfl (lv_room (Nat.le_of_ble_eq_true rfl)) dX3_strays_50 ⟨Nat.zero_le _, Nat.zero_le _⟩ (fun r_3 hr_3 => ?_)
      refine lv_if_eq (tgt := 72) hx hb dX3_strays_53 (by decide) (fun c_53 => ?_) (fun c_53 => ?_)
      · refine lv_iconst (v := 0) hx hb dX3_strays_72 (by decide) ?_
        refine lv_istore (lv' := [(6, _), (5, _), (4, _), (3, _), (0, _), (1, _), (2, _)]) C.1 C.2.1 dX3_strays_73 hl (by decide) rfl (fun ls hl => ?_)
        refine lv_iload hx hb dX3_strays_75 (lv_at hl 1 rfl) ?_
        refine lv_if_eq (tgt := 92) hx hb dX3_strays_77 (by decide) (fun c_77 => ?_) (fun c_77 => absurd rfl c_77)
        refine lv_iload hx hb dX3_strays_92 (lv_at hl 2 rfl) ?_
        have e1 : cif (¬ cLess n σ o u ∧ ¬ cLess n σ u o) (1 : Int32) 0 = 0 := cif_neg (fun z => z.1 (hr_1.elim (fun z => z.2) (fun z => absurd z.1 c_10)))
        have nah : ¬ cAhd σ o u := (fun z => z.1 (by by_cases y : σ.1 3 o 8 = -1; exact y; rw [if_neg y] at hr_2; exact absurd (hr_2.symm.trans c_28) (by decide)))
        have e2 : cif (cAhd σ o u ∧ (¬ cLess n σ o u ∨ cMis σ o u)) (1 : Int32) 0 = 0 := cif_neg (fun z => nah z.1)
        exact W.iret hx hb hr (fun t ht hW => ⟨_, rfl, (by unfold cStr; rw [e1, e2] <;> decide), ht⟩) (fun _ h => by cases h) dX3_strays_94
      · refine lv_aload_n hx hb dX3_strays_56 rfl (lv_at hl 5 rfl) ?_
        refine lv_aload_n hx hb dX3_strays_57 rfl (lv_at hl 4 rfl) ?_
        refine lv_aload_n hx hb dX3_strays_58 rfl (lv_at hl 4 rfl) ?_
        refine c_gX1_2 C w h1 h2 kF_X3_287 dX3_strays_59 ?_
        refine c_callp (As := [.ref ((E.2.2.2.2.1 o)), .int ((σ.1 3 o 2))]) (rest := []) C (c_preX1 C w g1 g2) hml hl.1 (k_X1_sees l D cI cZ cN cO A E n bg _ u o _ ok g1 g2 h1 h2) kM_X3_306 kI_X1_sees kS_X1_sees kN_X1 kD_X1_sees (show yX1_sees.cls = RX1 ∧ yX1_sees.cls ≠ "java/lang/invoke/MethodHandle" ∧ yX1_sees.cls ≠ "java/lang/invoke/VarHandle" ∧ (parseMethodDescriptor yX1_sees.desc).map (fun d => d.parameters.length) = some 2 from by decide +kernel) rfl rfl ⟨Nat.le_of_ble_eq_true rfl, Nat.le_of_ble_eq_true rfl⟩ rfl (lv_room (Nat.le_of_ble_eq_true rfl)) dX3_strays_62 ⟨Nat.zero_le _, Nat.zero_le _⟩ (fun r_4 hr_4 => ?_)
        refine lv_if_ne (tgt := 72) hx hb dX3_strays_65 (by decide) (fun c_65 => ?_) (fun c_65 => ?_)
        · refine lv_iconst (v := 0) hx hb dX3_strays_72 (by decide) ?_
          refine lv_istore (lv' := [(6, _), (5, _), (4, _), (3, _), (0, _), (1, _), (2, _)]) C.1 C.2.1 dX3_strays_73 hl (by decide) rfl (fun ls hl => ?_)
          refine lv_iload hx hb dX3_strays_75 (lv_at hl 1 rfl) ?_
          refine lv_if_eq (tgt := 92) hx hb dX3_strays_77 (by decide) (fun c_77 => ?_) (fun c_77 => absurd rfl c_77)
          refine lv_iload hx hb dX3_strays_92 (lv_at hl 2 rfl) ?_
          have e1 : cif (¬ cLess n σ o u ∧ ¬ cLess n σ u o) (1 : Int32) 0 = 0 := cif_neg (fun z => z.1 (hr_1.elim (fun z => z.2) (fun z => absurd z.1 c_10)))
          have nah : ¬ cAhd σ o u := (fun z => z.1 (by by_cases y : σ.1 3 o 8 = -1; exact y; rw [if_neg y] at hr_2; exact absurd (hr_2.symm.trans c_28) (by decide)))
          have e2 : cif (cAhd σ o u ∧ (¬ cLess n σ o u ∨ cMis σ o u)) (1 : Int32) 0 = 0 := cif_neg (fun z => nah z.1)
          exact W.iret hx hb hr (fun t ht hW => ⟨_, rfl, (by unfold cStr; rw [e1, e2] <;> decide), ht⟩) (fun _ h => by cases h) dX3_strays_94
        · refine lv_iconst (v := 1) hx hb dX3_strays_68 (by decide) ?_
          refine lv_goto (tgt := 73) hx hb dX3_strays_69 (by decide) ?_
          refine lv_istore (lv' := [(6, _), (5, _), (4, _), (3, _), (0, _), (1, _), (2, _)]) C.1 C.2.1 dX3_strays_73 hl (by decide) rfl (fun ls hl => ?_)
          refine lv_iload hx hb dX3_strays_75 (lv_at hl 1 rfl) ?_
          refine lv_if_eq (tgt := 92) hx hb dX3_strays_77 (by decide) (fun c_77 => ?_) (fun c_77 => absurd rfl c_77)
          refine lv_iload hx hb dX3_strays_92 (lv_at hl 2 rfl) ?_
          have e1 : cif (¬ cLess n σ o u ∧ ¬ cLess n σ u o) (1 : Int32) 0 = 0 := cif_neg (fun z => z.1 (hr_1.elim (fun z => z.2) (fun z => absurd z.1 c_10)))
          have nah : ¬ cAhd σ o u := (fun z => z.1 (by by_cases y : σ.1 3 o 8 = -1; exact y; rw [if_neg y] at hr_2; exact absurd (hr_2.symm.trans c_28) (by decide)))
          have e2 : cif (cAhd σ o u ∧ (¬ cLess n σ o u ∨ cMis σ o u)) (1 : Int32) 0 = 0 := cif_neg (fun z => nah z.1)
          exact W.iret hx hb hr (fun t ht hW => ⟨_, rfl, (by unfold cStr; rw [e1, e2] <;> decide), ht⟩) (fun _ h => by cases h) dX3_strays_94
    · refine lv_aload_n hx hb dX3_strays_31 rfl (lv_at hl 3 rfl) ?_
      refine c_gX1_8 C w h1 h2 kF_X3_275 dX3_strays_32 ?_
      refine lv_aload_n hx hb dX3_strays_35 rfl (lv_at hl 4 rfl) ?_
      refine c_gX1_5 C w g1 g2 kF_X3_333 dX3_strays_36 ?_
      refine lv_icmp_ge (tgt := 46) hx hb dX3_strays_39 (by decide) (fun c_39 => ?_) (fun c_39 => ?_)
      · refine lv_iconst (v := 0) hx hb dX3_strays_46 (by decide) ?_
        refine lv_istore (lv' := [(5, _), (4, _), (3, _), (0, _), (1, _), (2, _)]) C.1 C.2.1 dX3_strays_47 hl (by decide) rfl (fun ls hl => ?_)
        refine lv_aload_n hx hb dX3_strays_49 rfl (lv_at hl 4 rfl) ?_
        refine c_callp (As := []) (rest := []) C (c_preX1 C w h1 h2) hml hl.1 (k_X1_isUpdate l D cI cZ cN cO A E n bg _ o ok h1 h2) kM_X3_211 kI_X1_isUpdate kS_X1_isUpdate kN_X1 kD_X1_isUpdate (show yX1_isUpdate.cls = RX1 ∧ yX1_isUpdate.cls ≠ "java/lang/invoke/MethodHandle" ∧ yX1_isUpdate.cls ≠ "java/lang/invoke/VarHandle" ∧ (parseMethodDescriptor yX1_isUpdate.desc).map (fun d => d.parameters.length) = some 0 from by decide +kernel) rfl rfl ⟨Nat.le_of_ble_eq_true rfl, Nat.le_of_ble_eq_true rfl⟩ rfl (lv_room (Nat.le_of_ble_eq_true rfl)) dX3_strays_50 ⟨Nat.zero_le _, Nat.zero_le _⟩ (fun r_5 hr_5 => ?_)
        refine lv_if_eq (tgt := 72) hx hb dX3_strays_53 (by decide) (fun c_53 => ?_) (fun c_53 => ?_)
        · refine lv_iconst (v := 0) hx hb dX3_strays_72 (by decide) ?_
          refine lv_istore (lv' := [(6, _), (5, _), (4, _), (3, _), (0, _), (1, _), (2, _)]) C.1 C.2.1 dX3_strays_73 hl (by decide) rfl (fun ls hl => ?_)
          refine lv_iload hx hb dX3_strays_75 (lv_at hl 1 rfl) ?_
          refine lv_if_eq (tgt := 92) hx hb dX3_strays_77 (by decide) (fun c_77 => ?_) (fun c_77 => absurd rfl c_77)
          refine lv_iload hx hb dX3_strays_92 (lv_at hl 2 rfl) ?_
          have e1 : cif (¬ cLess n σ o u ∧ ¬ cLess n σ u o) (1 : Int32) 0 = 0 := cif_neg (fun z => z.1 (hr_1.elim (fun z => z.2) (fun z => absurd z.1 c_10)))
          have nah : ¬ cAhd σ o u := (fun z => absurd z.2 (Int32.not_lt.mpr c_39))
          have e2 : cif (cAhd σ o u ∧ (¬ cLess n σ o u ∨ cMis σ o u)) (1 : Int32) 0 = 0 := cif_neg (fun z => nah z.1)
          exact W.iret hx hb hr (fun t ht hW => ⟨_, rfl, (by unfold cStr; rw [e1, e2] <;> decide), ht⟩) (fun _ h => by cases h) dX3_strays_94
        · refine lv_aload_n hx hb dX3_strays_56 rfl (lv_at hl 5 rfl) ?_
          refine lv_aload_n hx hb dX3_strays_57 rfl (lv_at hl 4 rfl) ?_
          refine lv_aload_n hx hb dX3_strays_58 rfl (lv_at hl 4 rfl) ?_
          refine c_gX1_2 C w h1 h2 kF_X3_287 dX3_strays_59 ?_
          refine c_callp (As := [.ref ((E.2.2.2.2.1 o)), .int ((σ.1 3 o 2))]) (rest := []) C (c_preX1 C w g1 g2) hml hl.1 (k_X1_sees l D cI cZ cN cO A E n bg _ u o _ ok g1 g2 h1 h2) kM_X3_306 kI_X1_sees kS_X1_sees kN_X1 kD_X1_sees (show yX1_sees.cls = RX1 ∧ yX1_sees.cls ≠ "java/lang/invoke/MethodHandle" ∧ yX1_sees.cls ≠ "java/lang/invoke/VarHandle" ∧ (parseMethodDescriptor yX1_sees.desc).map (fun d => d.parameters.length) = some 2 from by decide +kernel) rfl rfl ⟨Nat.le_of_ble_eq_true rfl, Nat.le_of_ble_eq_true rfl⟩ rfl (lv_room (Nat.le_of_ble_eq_true rfl)) dX3_strays_62 ⟨Nat.zero_le _, Nat.zero_le _⟩ (fun r_6 hr_6 => ?_)
          refine lv_if_ne (tgt := 72) hx hb dX3_strays_65 (by decide) (fun c_65 => ?_) (fun c_65 => ?_)
          · refine lv_iconst (v := 0) hx hb dX3_strays_72 (by decide) ?_
            refine lv_istore (lv' := [(6, _), (5, _), (4, _), (3, _), (0, _), (1, _), (2, _)]) C.1 C.2.1 dX3_strays_73 hl (by decide) rfl (fun ls hl => ?_)
            refine lv_iload hx hb dX3_strays_75 (lv_at hl 1 rfl) ?_
            refine lv_if_eq (tgt := 92) hx hb dX3_strays_77 (by decide) (fun c_77 => ?_) (fun c_77 => absurd rfl c_77)
            refine lv_iload hx hb dX3_strays_92 (lv_at hl 2 rfl) ?_
            have e1 : cif (¬ cLess n σ o u ∧ ¬ cLess n σ u o) (1 : Int32) 0 = 0 := cif_neg (fun z => z.1 (hr_1.elim (fun z => z.2) (fun z => absurd z.1 c_10)))
            have nah : ¬ cAhd σ o u := (fun z => absurd z.2 (Int32.not_lt.mpr c_39))
            have e2 : cif (cAhd σ o u ∧ (¬ cLess n σ o u ∨ cMis σ o u)) (1 : Int32) 0 = 0 := cif_neg (fun z => nah z.1)
            exact W.iret hx hb hr (fun t ht hW => ⟨_, rfl, (by unfold cStr; rw [e1, e2] <;> decide), ht⟩) (fun _ h => by cases h) dX3_strays_94
          · refine lv_iconst (v := 1) hx hb dX3_strays_68 (by decide) ?_
            refine lv_goto (tgt := 73) hx hb dX3_strays_69 (by decide) ?_
            refine lv_istore (lv' := [(6, _), (5, _), (4, _), (3, _), (0, _), (1, _), (2, _)]) C.1 C.2.1 dX3_strays_73 hl (by decide) rfl (fun ls hl => ?_)
            refine lv_iload hx hb dX3_strays_75 (lv_at hl 1 rfl) ?_
            refine lv_if_eq (tgt := 92) hx hb dX3_strays_77 (by decide) (fun c_77 => ?_) (fun c_77 => absurd rfl c_77)
            refine lv_iload hx hb dX3_strays_92 (lv_at hl 2 rfl) ?_
            have e1 : cif (¬ cLess n σ o u ∧ ¬ cLess n σ u o) (1 : Int32) 0 = 0 := cif_neg (fun z => z.1 (hr_1.elim (fun z => z.2) (fun z => absurd z.1 c_10)))
            have nah : ¬ cAhd σ o u := (fun z => absurd z.2 (Int32.not_lt.mpr c_39))
            have e2 : cif (cAhd σ o u ∧ (¬ cLess n σ o u ∨ cMis σ o u)) (1 : Int32) 0 = 0 := cif_neg (fun z => nah z.1)
            exact W.iret hx hb hr (fun t ht hW => ⟨_, rfl, (by unfold cStr; rw [e1, e2] <;> decide), ht⟩) (fun _ h => by cases h) dX3_strays_94
      · refine lv_iconst (v := 1) hx hb dX3_strays_42 (by decide) ?_
        refine lv_goto (tgt := 47) hx hb dX3_strays_43 (by decide) ?_
        refine lv_istore (lv' := [(5, _), (4, _), (3, _), (0, _), (1, _), (2, _)]) C.1 C.2.1 dX3_strays_47 hl (by decide) rfl (fun ls hl => ?_)
        refine lv_aload_n hx hb dX3_strays_49 rfl (lv_at hl 4 rfl) ?_
        refine c_callp (As := []) (rest := []) C (c_preX1 C w h1 h2) hml hl.1 (k_X1_isUpdate l D cI cZ cN cO A E n bg _ o ok h1 h2) kM_X3_211 kI_X1_isUpdate kS_X1_isUpdate kN_X1 kD_X1_isUpdate (show yX1_isUpdate.cls = RX1 ∧ yX1_isUpdate.cls ≠ "java/lang/invoke/MethodHandle" ∧ yX1_isUpdate.cls ≠ "java/lang/invoke/VarHandle" ∧ (parseMethodDescriptor yX1_isUpdate.desc).map (fun d => d.parameters.length) = some 0 from by decide +kernel) rfl rfl ⟨Nat.le_of_ble_eq_true rfl, Nat.le_of_ble_eq_true rfl⟩ rfl (lv_room (Nat.le_of_ble_eq_true rfl)) dX3_strays_50 ⟨Nat.zero_le _, Nat.zero_le _⟩ (fun r_7 hr_7 => ?_)
        refine lv_if_eq (tgt := 72) hx hb dX3_strays_53 (by decide) (fun c_53 => ?_) (fun c_53 => ?_)
        · refine lv_iconst (v := 0) hx hb dX3_strays_72 (by decide) ?_
          refine lv_istore (lv' := [(6, _), (5, _), (4, _), (3, _), (0, _), (1, _), (2, _)]) C.1 C.2.1 dX3_strays_73 hl (by decide) rfl (fun ls hl => ?_)
          refine lv_iload hx hb dX3_strays_75 (lv_at hl 1 rfl) ?_
          refine lv_if_eq (tgt := 92) hx hb dX3_strays_77 (by decide) (fun c_77 => absurd c_77 (by decide)) (fun c_77 => ?_)
          refine lv_iload_n hx hb dX3_strays_80 rfl (lv_at hl 3 rfl) ?_
          refine lv_if_eq (tgt := 89) hx hb dX3_strays_81 (by decide) (fun c_81 => absurd c_81 c_10) (fun c_81 => ?_)
          refine lv_iload hx hb dX3_strays_84 (lv_at hl 0 rfl) ?_
          refine lv_if_eq (tgt := 92) hx hb dX3_strays_86 (by decide) (fun c_86 => ?_) (fun c_86 => absurd rfl c_86)
          refine lv_iload hx hb dX3_strays_92 (lv_at hl 2 rfl) ?_
          have e1 : cif (¬ cLess n σ o u ∧ ¬ cLess n σ u o) (1 : Int32) 0 = 0 := cif_neg (fun z => z.1 (hr_1.elim (fun z => z.2) (fun z => absurd z.1 c_10)))
          have yah : cAhd σ o u := ⟨(fun z => by rw [if_pos z] at hr_2; exact c_28 hr_2), Int32.not_le.mp c_39⟩
          have nmi : ¬ cMis σ o u := (fun z => z.1 (by by_cases y : 3 < σ.1 3 o 2; exact y; rw [if_neg y] at hr_7; exact absurd (hr_7.symm.trans c_53) (by decide)))
          have e2 : cif (cAhd σ o u ∧ (¬ cLess n σ o u ∨ cMis σ o u)) (1 : Int32) 0 = 0 := cif_neg (fun z => z.2.elim (fun y => y (hr_1.elim (fun z => z.2) (fun z => absurd z.1 c_10))) nmi)
          exact W.iret hx hb hr (fun t ht hW => ⟨_, rfl, (by unfold cStr; rw [e1, e2] <;> decide), ht⟩) (fun _ h => by cases h) dX3_strays_94
        · refine lv_aload_n hx hb dX3_strays_56 rfl (lv_at hl 5 rfl) ?_
          refine lv_aload_n hx hb dX3_strays_57 rfl (lv_at hl 4 rfl) ?_
          refine lv_aload_n hx hb dX3_strays_58 rfl (lv_at hl 4 rfl) ?_
          refine c_gX1_2 C w h1 h2 kF_X3_287 dX3_strays_59 ?_
          refine c_callp (As := [.ref ((E.2.2.2.2.1 o)), .int ((σ.1 3 o 2))]) (rest := []) C (c_preX1 C w g1 g2) hml hl.1 (k_X1_sees l D cI cZ cN cO A E n bg _ u o _ ok g1 g2 h1 h2) kM_X3_306 kI_X1_sees kS_X1_sees kN_X1 kD_X1_sees (show yX1_sees.cls = RX1 ∧ yX1_sees.cls ≠ "java/lang/invoke/MethodHandle" ∧ yX1_sees.cls ≠ "java/lang/invoke/VarHandle" ∧ (parseMethodDescriptor yX1_sees.desc).map (fun d => d.parameters.length) = some 2 from by decide +kernel) rfl rfl ⟨Nat.le_of_ble_eq_true rfl, Nat.le_of_ble_eq_true rfl⟩ rfl (lv_room (Nat.le_of_ble_eq_true rfl)) dX3_strays_62 ⟨Nat.zero_le _, Nat.zero_le _⟩ (fun r_8 hr_8 => ?_)
          refine lv_if_ne (tgt := 72) hx hb dX3_strays_65 (by decide) (fun c_65 => ?_) (fun c_65 => ?_)
          · refine lv_iconst (v := 0) hx hb dX3_strays_72 (by decide) ?_
            refine lv_istore (lv' := [(6, _), (5, _), (4, _), (3, _), (0, _), (1, _), (2, _)]) C.1 C.2.1 dX3_strays_73 hl (by decide) rfl (fun ls hl => ?_)
            refine lv_iload hx hb dX3_strays_75 (lv_at hl 1 rfl) ?_
            refine lv_if_eq (tgt := 92) hx hb dX3_strays_77 (by decide) (fun c_77 => absurd c_77 (by decide)) (fun c_77 => ?_)
            refine lv_iload_n hx hb dX3_strays_80 rfl (lv_at hl 3 rfl) ?_
            refine lv_if_eq (tgt := 89) hx hb dX3_strays_81 (by decide) (fun c_81 => absurd c_81 c_10) (fun c_81 => ?_)
            refine lv_iload hx hb dX3_strays_84 (lv_at hl 0 rfl) ?_
            refine lv_if_eq (tgt := 92) hx hb dX3_strays_86 (by decide) (fun c_86 => ?_) (fun c_86 => absurd rfl c_86)
            refine lv_iload hx hb dX3_strays_92 (lv_at hl 2 rfl) ?_
            have e1 : cif (¬ cLess n σ o u ∧ ¬ cLess n σ u o) (1 : Int32) 0 = 0 := cif_neg (fun z => z.1 (hr_1.elim (fun z => z.2) (fun z => absurd z.1 c_10)))
            have yah : cAhd σ o u := ⟨(fun z => by rw [if_pos z] at hr_2; exact c_28 hr_2), Int32.not_le.mp c_39⟩
            have nmi : ¬ cMis σ o u := (fun z => z.2 (ite_ne0 hr_8 c_65))
            have e2 : cif (cAhd σ o u ∧ (¬ cLess n σ o u ∨ cMis σ o u)) (1 : Int32) 0 = 0 := cif_neg (fun z => z.2.elim (fun y => y (hr_1.elim (fun z => z.2) (fun z => absurd z.1 c_10))) nmi)
            exact W.iret hx hb hr (fun t ht hW => ⟨_, rfl, (by unfold cStr; rw [e1, e2] <;> decide), ht⟩) (fun _ h => by cases h) dX3_strays_94
          · refine lv_iconst (v := 1) hx hb dX3_strays_68 (by decide) ?_
            refine lv_goto (tgt := 73) hx hb dX3_strays_69 (by decide) ?_
            refine lv_istore (lv' := [(6, _), (5, _), (4, _), (3, _), (0, _), (1, _), (2, _)]) C.1 C.2.1 dX3_strays_73 hl (by decide) rfl (fun ls hl => ?_)
            refine lv_iload hx hb dX3_strays_75 (lv_at hl 1 rfl) ?_
            refine lv_if_eq (tgt := 92) hx hb dX3_strays_77 (by decide) (fun c_77 => absurd c_77 (by decide)) (fun c_77 => ?_)
            refine lv_iload_n hx hb dX3_strays_80 rfl (lv_at hl 3 rfl) ?_
            refine lv_if_eq (tgt := 89) hx hb dX3_strays_81 (by decide) (fun c_81 => absurd c_81 c_10) (fun c_81 => ?_)
            refine lv_iload hx hb dX3_strays_84 (lv_at hl 0 rfl) ?_
            refine lv_if_eq (tgt := 92) hx hb dX3_strays_86 (by decide) (fun c_86 => absurd c_86 (by decide)) (fun c_86 => ?_)
            obtain ⟨x_9, ex_9⟩ : ∃ y : Int32, y = 0 + 1 := ⟨_, rfl⟩
            refine lv_iinc (v := x_9) (lv' := [(4, _), (6, _), (5, _), (3, _), (0, _), (1, _), (2, _)]) C.1 C.2.1 dX3_strays_89 hl (k := 2) rfl (by rw [ex_9]; rfl) (by decide) rfl (fun ls hl => ?_)
            refine lv_iload hx hb dX3_strays_92 (lv_at hl 0 rfl) ?_
            have e1 : cif (¬ cLess n σ o u ∧ ¬ cLess n σ u o) (1 : Int32) 0 = 0 := cif_neg (fun z => z.1 (hr_1.elim (fun z => z.2) (fun z => absurd z.1 c_10)))
            have yah : cAhd σ o u := ⟨(fun z => by rw [if_pos z] at hr_2; exact c_28 hr_2), Int32.not_le.mp c_39⟩
            have ymi : cMis σ o u := ⟨(fun z => by rw [if_pos z] at hr_7; exact c_53 hr_7), ite_eq0 hr_8 c_65⟩
            have e2 : cif (cAhd σ o u ∧ (¬ cLess n σ o u ∨ cMis σ o u)) (1 : Int32) 0 = 1 := cif_pos ⟨yah, Or.inr ymi⟩
            exact W.iret hx hb hr (fun t ht hW => ⟨_, rfl, (by unfold cStr; rw [e1, e2, ex_9] <;> decide), ht⟩) (fun _ h => by cases h) dX3_strays_94
  · refine lv_aload_n hx hb dX3_strays_13 rfl (lv_at hl 4 rfl) ?_
    refine lv_aload_n hx hb dX3_strays_14 rfl (lv_at hl 3 rfl) ?_
    refine c_callp (As := [.ref ((E.2.2.2.2.1 o))]) (rest := []) C (c_preX1 C w g1 g2) hml hl.1 (k_X1_seesAtMost l D cI cZ cN cO A E n bg _ u o ok g1 g2 h1 h2) kM_X3_330 kI_X1_seesAtMost kS_X1_seesAtMost kN_X1 kD_X1_seesAtMost (show yX1_seesAtMost.cls = RX1 ∧ yX1_seesAtMost.cls ≠ "java/lang/invoke/MethodHandle" ∧ yX1_seesAtMost.cls ≠ "java/lang/invoke/VarHandle" ∧ (parseMethodDescriptor yX1_seesAtMost.desc).map (fun d => d.parameters.length) = some 1 from by decide +kernel) rfl rfl ⟨Nat.le_of_ble_eq_true rfl, Nat.le_of_ble_eq_true rfl⟩ rfl (lv_room (Nat.le_of_ble_eq_true rfl)) dX3_strays_15 ⟨Nat.zero_le _, Nat.zero_le _⟩ (fun r_10 hr_10 => ?_)
    refine lv_if_ne (tgt := 24) hx hb dX3_strays_18 (by decide) (fun c_18 => ?_) (fun c_18 => ?_)
    · refine lv_aload_n hx hb dX3_strays_24 rfl (lv_at hl 3 rfl) ?_
      refine c_callp (As := []) (rest := []) C (c_preX1 C w h1 h2) hml hl.1 (k_X1_isDone l D cI cZ cN cO A E n bg _ o ok h1 h2) kM_X3_81 kI_X1_isDone kS_X1_isDone kN_X1 kD_X1_isDone (show yX1_isDone.cls = RX1 ∧ yX1_isDone.cls ≠ "java/lang/invoke/MethodHandle" ∧ yX1_isDone.cls ≠ "java/lang/invoke/VarHandle" ∧ (parseMethodDescriptor yX1_isDone.desc).map (fun d => d.parameters.length) = some 0 from by decide +kernel) rfl rfl ⟨Nat.le_of_ble_eq_true rfl, Nat.le_of_ble_eq_true rfl⟩ rfl (lv_room (Nat.le_of_ble_eq_true rfl)) dX3_strays_25 ⟨Nat.zero_le _, Nat.zero_le _⟩ (fun r_11 hr_11 => ?_)
      refine lv_if_eq (tgt := 46) hx hb dX3_strays_28 (by decide) (fun c_28 => ?_) (fun c_28 => ?_)
      · refine lv_iconst (v := 0) hx hb dX3_strays_46 (by decide) ?_
        refine lv_istore (lv' := [(5, _), (4, _), (3, _), (0, _), (1, _), (2, _)]) C.1 C.2.1 dX3_strays_47 hl (by decide) rfl (fun ls hl => ?_)
        refine lv_aload_n hx hb dX3_strays_49 rfl (lv_at hl 4 rfl) ?_
        refine c_callp (As := []) (rest := []) C (c_preX1 C w h1 h2) hml hl.1 (k_X1_isUpdate l D cI cZ cN cO A E n bg _ o ok h1 h2) kM_X3_211 kI_X1_isUpdate kS_X1_isUpdate kN_X1 kD_X1_isUpdate (show yX1_isUpdate.cls = RX1 ∧ yX1_isUpdate.cls ≠ "java/lang/invoke/MethodHandle" ∧ yX1_isUpdate.cls ≠ "java/lang/invoke/VarHandle" ∧ (parseMethodDescriptor yX1_isUpdate.desc).map (fun d => d.parameters.length) = some 0 from by decide +kernel) rfl rfl ⟨Nat.le_of_ble_eq_true rfl, Nat.le_of_ble_eq_true rfl⟩ rfl (lv_room (Nat.le_of_ble_eq_true rfl)) dX3_strays_50 ⟨Nat.zero_le _, Nat.zero_le _⟩ (fun r_12 hr_12 => ?_)
        refine lv_if_eq (tgt := 72) hx hb dX3_strays_53 (by decide) (fun c_53 => ?_) (fun c_53 => ?_)
        · refine lv_iconst (v := 0) hx hb dX3_strays_72 (by decide) ?_
          refine lv_istore (lv' := [(6, _), (5, _), (4, _), (3, _), (0, _), (1, _), (2, _)]) C.1 C.2.1 dX3_strays_73 hl (by decide) rfl (fun ls hl => ?_)
          refine lv_iload hx hb dX3_strays_75 (lv_at hl 1 rfl) ?_
          refine lv_if_eq (tgt := 92) hx hb dX3_strays_77 (by decide) (fun c_77 => ?_) (fun c_77 => absurd rfl c_77)
          refine lv_iload hx hb dX3_strays_92 (lv_at hl 2 rfl) ?_
          have e1 : cif (¬ cLess n σ o u ∧ ¬ cLess n σ u o) (1 : Int32) 0 = 0 := cif_neg (fun z => z.2 (hr_10.elim (fun z => z.2) (fun z => absurd z.1 c_18)))
          have nah : ¬ cAhd σ o u := (fun z => z.1 (by by_cases y : σ.1 3 o 8 = -1; exact y; rw [if_neg y] at hr_11; exact absurd (hr_11.symm.trans c_28) (by decide)))
          have e2 : cif (cAhd σ o u ∧ (¬ cLess n σ o u ∨ cMis σ o u)) (1 : Int32) 0 = 0 := cif_neg (fun z => nah z.1)
          exact W.iret hx hb hr (fun t ht hW => ⟨_, rfl, (by unfold cStr; rw [e1, e2] <;> decide), ht⟩) (fun _ h => by cases h) dX3_strays_94
        · refine lv_aload_n hx hb dX3_strays_56 rfl (lv_at hl 5 rfl) ?_
          refine lv_aload_n hx hb dX3_strays_57 rfl (lv_at hl 4 rfl) ?_
          refine lv_aload_n hx hb dX3_strays_58 rfl (lv_at hl 4 rfl) ?_
          refine c_gX1_2 C w h1 h2 kF_X3_287 dX3_strays_59 ?_
          refine c_callp (As := [.ref ((E.2.2.2.2.1 o)), .int ((σ.1 3 o 2))]) (rest := []) C (c_preX1 C w g1 g2) hml hl.1 (k_X1_sees l D cI cZ cN cO A E n bg _ u o _ ok g1 g2 h1 h2) kM_X3_306 kI_X1_sees kS_X1_sees kN_X1 kD_X1_sees (show yX1_sees.cls = RX1 ∧ yX1_sees.cls ≠ "java/lang/invoke/MethodHandle" ∧ yX1_sees.cls ≠ "java/lang/invoke/VarHandle" ∧ (parseMethodDescriptor yX1_sees.desc).map (fun d => d.parameters.length) = some 2 from by decide +kernel) rfl rfl ⟨Nat.le_of_ble_eq_true rfl, Nat.le_of_ble_eq_true rfl⟩ rfl (lv_room (Nat.le_of_ble_eq_true rfl)) dX3_strays_62 ⟨Nat.zero_le _, Nat.zero_le _⟩ (fun r_13 hr_13 => ?_)
          refine lv_if_ne (tgt := 72) hx hb dX3_strays_65 (by decide) (fun c_65 => ?_) (fun c_65 => ?_)
          · refine lv_iconst (v := 0) hx hb dX3_strays_72 (by decide) ?_
            refine lv_istore (lv' := [(6, _), (5, _), (4, _), (3, _), (0, _), (1, _), (2, _)]) C.1 C.2.1 dX3_strays_73 hl (by decide) rfl (fun ls hl => ?_)
            refine lv_iload hx hb dX3_strays_75 (lv_at hl 1 rfl) ?_
            refine lv_if_eq (tgt := 92) hx hb dX3_strays_77 (by decide) (fun c_77 => ?_) (fun c_77 => absurd rfl c_77)
            refine lv_iload hx hb dX3_strays_92 (lv_at hl 2 rfl) ?_
            have e1 : cif (¬ cLess n σ o u ∧ ¬ cLess n σ u o) (1 : Int32) 0 = 0 := cif_neg (fun z => z.2 (hr_10.elim (fun z => z.2) (fun z => absurd z.1 c_18)))
            have nah : ¬ cAhd σ o u := (fun z => z.1 (by by_cases y : σ.1 3 o 8 = -1; exact y; rw [if_neg y] at hr_11; exact absurd (hr_11.symm.trans c_28) (by decide)))
            have e2 : cif (cAhd σ o u ∧ (¬ cLess n σ o u ∨ cMis σ o u)) (1 : Int32) 0 = 0 := cif_neg (fun z => nah z.1)
            exact W.iret hx hb hr (fun t ht hW => ⟨_, rfl, (by unfold cStr; rw [e1, e2] <;> decide), ht⟩) (fun _ h => by cases h) dX3_strays_94
          · refine lv_iconst (v := 1) hx hb dX3_strays_68 (by decide) ?_
            refine lv_goto (tgt := 73) hx hb dX3_strays_69 (by decide) ?_
            refine lv_istore (lv' := [(6, _), (5, _), (4, _), (3, _), (0, _), (1, _), (2, _)]) C.1 C.2.1 dX3_strays_73 hl (by decide) rfl (fun ls hl => ?_)
            refine lv_iload hx hb dX3_strays_75 (lv_at hl 1 rfl) ?_
            refine lv_if_eq (tgt := 92) hx hb dX3_strays_77 (by decide) (fun c_77 => ?_) (fun c_77 => absurd rfl c_77)
            refine lv_iload hx hb dX3_strays_92 (lv_at hl 2 rfl) ?_
            have e1 : cif (¬ cLess n σ o u ∧ ¬ cLess n σ u o) (1 : Int32) 0 = 0 := cif_neg (fun z => z.2 (hr_10.elim (fun z => z.2) (fun z => absurd z.1 c_18)))
            have nah : ¬ cAhd σ o u := (fun z => z.1 (by by_cases y : σ.1 3 o 8 = -1; exact y; rw [if_neg y] at hr_11; exact absurd (hr_11.symm.trans c_28) (by decide)))
            have e2 : cif (cAhd σ o u ∧ (¬ cLess n σ o u ∨ cMis σ o u)) (1 : Int32) 0 = 0 := cif_neg (fun z => nah z.1)
            exact W.iret hx hb hr (fun t ht hW => ⟨_, rfl, (by unfold cStr; rw [e1, e2] <;> decide), ht⟩) (fun _ h => by cases h) dX3_strays_94
      · refine lv_aload_n hx hb dX3_strays_31 rfl (lv_at hl 3 rfl) ?_
        refine c_gX1_8 C w h1 h2 kF_X3_275 dX3_strays_32 ?_
        refine lv_aload_n hx hb dX3_strays_35 rfl (lv_at hl 4 rfl) ?_
        refine c_gX1_5 C w g1 g2 kF_X3_333 dX3_strays_36 ?_
        refine lv_icmp_ge (tgt := 46) hx hb dX3_strays_39 (by decide) (fun c_39 => ?_) (fun c_39 => ?_)
        · refine lv_iconst (v := 0) hx hb dX3_strays_46 (by decide) ?_
          refine lv_istore (lv' := [(5, _), (4, _), (3, _), (0, _), (1, _), (2, _)]) C.1 C.2.1 dX3_strays_47 hl (by decide) rfl (fun ls hl => ?_)
          refine lv_aload_n hx hb dX3_strays_49 rfl (lv_at hl 4 rfl) ?_
          refine c_callp (As := []) (rest := []) C (c_preX1 C w h1 h2) hml hl.1 (k_X1_isUpdate l D cI cZ cN cO A E n bg _ o ok h1 h2) kM_X3_211 kI_X1_isUpdate kS_X1_isUpdate kN_X1 kD_X1_isUpdate (show yX1_isUpdate.cls = RX1 ∧ yX1_isUpdate.cls ≠ "java/lang/invoke/MethodHandle" ∧ yX1_isUpdate.cls ≠ "java/lang/invoke/VarHandle" ∧ (parseMethodDescriptor yX1_isUpdate.desc).map (fun d => d.parameters.length) = some 0 from by decide +kernel) rfl rfl ⟨Nat.le_of_ble_eq_true rfl, Nat.le_of_ble_eq_true rfl⟩ rfl (lv_room (Nat.le_of_ble_eq_true rfl)) dX3_strays_50 ⟨Nat.zero_le _, Nat.zero_le _⟩ (fun r_14 hr_14 => ?_)
          refine lv_if_eq (tgt := 72) hx hb dX3_strays_53 (by decide) (fun c_53 => ?_) (fun c_53 => ?_)
          · refine lv_iconst (v := 0) hx hb dX3_strays_72 (by decide) ?_
            refine lv_istore (lv' := [(6, _), (5, _), (4, _), (3, _), (0, _), (1, _), (2, _)]) C.1 C.2.1 dX3_strays_73 hl (by decide) rfl (fun ls hl => ?_)
            refine lv_iload hx hb dX3_strays_75 (lv_at hl 1 rfl) ?_
            refine lv_if_eq (tgt := 92) hx hb dX3_strays_77 (by decide) (fun c_77 => ?_) (fun c_77 => absurd rfl c_77)
            refine lv_iload hx hb dX3_strays_92 (lv_at hl 2 rfl) ?_
            have e1 : cif (¬ cLess n σ o u ∧ ¬ cLess n σ u o) (1 : Int32) 0 = 0 := cif_neg (fun z => z.2 (hr_10.elim (fun z => z.2) (fun z => absurd z.1 c_18)))
            have nah : ¬ cAhd σ o u := (fun z => absurd z.2 (Int32.not_lt.mpr c_39))
            have e2 : cif (cAhd σ o u ∧ (¬ cLess n σ o u ∨ cMis σ o u)) (1 : Int32) 0 = 0 := cif_neg (fun z => nah z.1)
            exact W.iret hx hb hr (fun t ht hW => ⟨_, rfl, (by unfold cStr; rw [e1, e2] <;> decide), ht⟩) (fun _ h => by cases h) dX3_strays_94
          · refine lv_aload_n hx hb dX3_strays_56 rfl (lv_at hl 5 rfl) ?_
            refine lv_aload_n hx hb dX3_strays_57 rfl (lv_at hl 4 rfl) ?_
            refine lv_aload_n hx hb dX3_strays_58 rfl (lv_at hl 4 rfl) ?_
            refine c_gX1_2 C w h1 h2 kF_X3_287 dX3_strays_59 ?_
            refine c_callp (As := [.ref ((E.2.2.2.2.1 o)), .int ((σ.1 3 o 2))]) (rest := []) C (c_preX1 C w g1 g2) hml hl.1 (k_X1_sees l D cI cZ cN cO A E n bg _ u o _ ok g1 g2 h1 h2) kM_X3_306 kI_X1_sees kS_X1_sees kN_X1 kD_X1_sees (show yX1_sees.cls = RX1 ∧ yX1_sees.cls ≠ "java/lang/invoke/MethodHandle" ∧ yX1_sees.cls ≠ "java/lang/invoke/VarHandle" ∧ (parseMethodDescriptor yX1_sees.desc).map (fun d => d.parameters.length) = some 2 from by decide +kernel) rfl rfl ⟨Nat.le_of_ble_eq_true rfl, Nat.le_of_ble_eq_true rfl⟩ rfl (lv_room (Nat.le_of_ble_eq_true rfl)) dX3_strays_62 ⟨Nat.zero_le _, Nat.zero_le _⟩ (fun r_15 hr_15 => ?_)
            refine lv_if_ne (tgt := 72) hx hb dX3_strays_65 (by decide) (fun c_65 => ?_) (fun c_65 => ?_)
            · refine lv_iconst (v := 0) hx hb dX3_strays_72 (by decide) ?_
              refine lv_istore (lv' := [(6, _), (5, _), (4, _), (3, _), (0, _), (1, _), (2, _)]) C.1 C.2.1 dX3_strays_73 hl (by decide) rfl (fun ls hl => ?_)
              refine lv_iload hx hb dX3_strays_75 (lv_at hl 1 rfl) ?_
              refine lv_if_eq (tgt := 92) hx hb dX3_strays_77 (by decide) (fun c_77 => ?_) (fun c_77 => absurd rfl c_77)
              refine lv_iload hx hb dX3_strays_92 (lv_at hl 2 rfl) ?_
              have e1 : cif (¬ cLess n σ o u ∧ ¬ cLess n σ u o) (1 : Int32) 0 = 0 := cif_neg (fun z => z.2 (hr_10.elim (fun z => z.2) (fun z => absurd z.1 c_18)))
              have nah : ¬ cAhd σ o u := (fun z => absurd z.2 (Int32.not_lt.mpr c_39))
              have e2 : cif (cAhd σ o u ∧ (¬ cLess n σ o u ∨ cMis σ o u)) (1 : Int32) 0 = 0 := cif_neg (fun z => nah z.1)
              exact W.iret hx hb hr (fun t ht hW => ⟨_, rfl, (by unfold cStr; rw [e1, e2] <;> decide), ht⟩) (fun _ h => by cases h) dX3_strays_94
            · refine lv_iconst (v := 1) hx hb dX3_strays_68 (by decide) ?_
              refine lv_goto (tgt := 73) hx hb dX3_strays_69 (by decide) ?_
              refine lv_istore (lv' := [(6, _), (5, _), (4, _), (3, _), (0, _), (1, _), (2, _)]) C.1 C.2.1 dX3_strays_73 hl (by decide) rfl (fun ls hl => ?_)
              refine lv_iload hx hb dX3_strays_75 (lv_at hl 1 rfl) ?_
              refine lv_if_eq (tgt := 92) hx hb dX3_strays_77 (by decide) (fun c_77 => ?_) (fun c_77 => absurd rfl c_77)
              refine lv_iload hx hb dX3_strays_92 (lv_at hl 2 rfl) ?_
              have e1 : cif (¬ cLess n σ o u ∧ ¬ cLess n σ u o) (1 : Int32) 0 = 0 := cif_neg (fun z => z.2 (hr_10.elim (fun z => z.2) (fun z => absurd z.1 c_18)))
              have nah : ¬ cAhd σ o u := (fun z => absurd z.2 (Int32.not_lt.mpr c_39))
              have e2 : cif (cAhd σ o u ∧ (¬ cLess n σ o u ∨ cMis σ o u)) (1 : Int32) 0 = 0 := cif_neg (fun z => nah z.1)
              exact W.iret hx hb hr (fun t ht hW => ⟨_, rfl, (by unfold cStr; rw [e1, e2] <;> decide), ht⟩) (fun _ h => by cases h) dX3_strays_94
        · refine lv_iconst (v := 1) hx hb dX3_strays_42 (by decide) ?_
          refine lv_goto (tgt := 47) hx hb dX3_strays_43 (by decide) ?_
          refine lv_istore (lv' := [(5, _), (4, _), (3, _), (0, _), (1, _), (2, _)]) C.1 C.2.1 dX3_strays_47 hl (by decide) rfl (fun ls hl => ?_)
          refine lv_aload_n hx hb dX3_strays_49 rfl (lv_at hl 4 rfl) ?_
          refine c_callp (As := []) (rest := []) C (c_preX1 C w h1 h2) hml hl.1 (k_X1_isUpdate l D cI cZ cN cO A E n bg _ o ok h1 h2) kM_X3_211 kI_X1_isUpdate kS_X1_isUpdate kN_X1 kD_X1_isUpdate (show yX1_isUpdate.cls = RX1 ∧ yX1_isUpdate.cls ≠ "java/lang/invoke/MethodHandle" ∧ yX1_isUpdate.cls ≠ "java/lang/invoke/VarHandle" ∧ (parseMethodDescriptor yX1_isUpdate.desc).map (fun d => d.parameters.length) = some 0 from by decide +kernel) rfl rfl ⟨Nat.le_of_ble_eq_true rfl, Nat.le_of_ble_eq_true rfl⟩ rfl (lv_room (Nat.le_of_ble_eq_true rfl)) dX3_strays_50 ⟨Nat.zero_le _, Nat.zero_le _⟩ (fun r_16 hr_16 => ?_)
          refine lv_if_eq (tgt := 72) hx hb dX3_strays_53 (by decide) (fun c_53 => ?_) (fun c_53 => ?_)
          · refine lv_iconst (v := 0) hx hb dX3_strays_72 (by decide) ?_
            refine lv_istore (lv' := [(6, _), (5, _), (4, _), (3, _), (0, _), (1, _), (2, _)]) C.1 C.2.1 dX3_strays_73 hl (by decide) rfl (fun ls hl => ?_)
            refine lv_iload hx hb dX3_strays_75 (lv_at hl 1 rfl) ?_
            refine lv_if_eq (tgt := 92) hx hb dX3_strays_77 (by decide) (fun c_77 => absurd c_77 (by decide)) (fun c_77 => ?_)
            refine lv_iload_n hx hb dX3_strays_80 rfl (lv_at hl 3 rfl) ?_
            refine lv_if_eq (tgt := 89) hx hb dX3_strays_81 (by decide) (fun c_81 => ?_) (fun c_81 => absurd c_10 c_81)
            obtain ⟨x_17, ex_17⟩ : ∃ y : Int32, y = 0 + 1 := ⟨_, rfl⟩
            refine lv_iinc (v := x_17) (lv' := [(4, _), (6, _), (5, _), (3, _), (0, _), (1, _), (2, _)]) C.1 C.2.1 dX3_strays_89 hl (k := 2) rfl (by rw [ex_17]; rfl) (by decide) rfl (fun ls hl => ?_)
            refine lv_iload hx hb dX3_strays_92 (lv_at hl 0 rfl) ?_
            have e1 : cif (¬ cLess n σ o u ∧ ¬ cLess n σ u o) (1 : Int32) 0 = 0 := cif_neg (fun z => z.2 (hr_10.elim (fun z => z.2) (fun z => absurd z.1 c_18)))
            have yah : cAhd σ o u := ⟨(fun z => by rw [if_pos z] at hr_11; exact c_28 hr_11), Int32.not_le.mp c_39⟩
            have e2 : cif (cAhd σ o u ∧ (¬ cLess n σ o u ∨ cMis σ o u)) (1 : Int32) 0 = 1 := cif_pos ⟨yah, Or.inl (hr_1.elim (fun z => absurd (z.1.symm.trans c_10) (by decide)) (fun z => z.2))⟩
            exact W.iret hx hb hr (fun t ht hW => ⟨_, rfl, (by unfold cStr; rw [e1, e2, ex_17] <;> decide), ht⟩) (fun _ h => by cases h) dX3_strays_94
          · refine lv_aload_n hx hb dX3_strays_56 rfl (lv_at hl 5 rfl) ?_
            refine lv_aload_n hx hb dX3_strays_57 rfl (lv_at hl 4 rfl) ?_
            refine lv_aload_n hx hb dX3_strays_58 rfl (lv_at hl 4 rfl) ?_
            refine c_gX1_2 C w h1 h2 kF_X3_287 dX3_strays_59 ?_
            refine c_callp (As := [.ref ((E.2.2.2.2.1 o)), .int ((σ.1 3 o 2))]) (rest := []) C (c_preX1 C w g1 g2) hml hl.1 (k_X1_sees l D cI cZ cN cO A E n bg _ u o _ ok g1 g2 h1 h2) kM_X3_306 kI_X1_sees kS_X1_sees kN_X1 kD_X1_sees (show yX1_sees.cls = RX1 ∧ yX1_sees.cls ≠ "java/lang/invoke/MethodHandle" ∧ yX1_sees.cls ≠ "java/lang/invoke/VarHandle" ∧ (parseMethodDescriptor yX1_sees.desc).map (fun d => d.parameters.length) = some 2 from by decide +kernel) rfl rfl ⟨Nat.le_of_ble_eq_true rfl, Nat.le_of_ble_eq_true rfl⟩ rfl (lv_room (Nat.le_of_ble_eq_true rfl)) dX3_strays_62 ⟨Nat.zero_le _, Nat.zero_le _⟩ (fun r_18 hr_18 => ?_)
            refine lv_if_ne (tgt := 72) hx hb dX3_strays_65 (by decide) (fun c_65 => ?_) (fun c_65 => ?_)
            · refine lv_iconst (v := 0) hx hb dX3_strays_72 (by decide) ?_
              refine lv_istore (lv' := [(6, _), (5, _), (4, _), (3, _), (0, _), (1, _), (2, _)]) C.1 C.2.1 dX3_strays_73 hl (by decide) rfl (fun ls hl => ?_)
              refine lv_iload hx hb dX3_strays_75 (lv_at hl 1 rfl) ?_
              refine lv_if_eq (tgt := 92) hx hb dX3_strays_77 (by decide) (fun c_77 => absurd c_77 (by decide)) (fun c_77 => ?_)
              refine lv_iload_n hx hb dX3_strays_80 rfl (lv_at hl 3 rfl) ?_
              refine lv_if_eq (tgt := 89) hx hb dX3_strays_81 (by decide) (fun c_81 => ?_) (fun c_81 => absurd c_10 c_81)
              obtain ⟨x_19, ex_19⟩ : ∃ y : Int32, y = 0 + 1 := ⟨_, rfl⟩
              refine lv_iinc (v := x_19) (lv' := [(4, _), (6, _), (5, _), (3, _), (0, _), (1, _), (2, _)]) C.1 C.2.1 dX3_strays_89 hl (k := 2) rfl (by rw [ex_19]; rfl) (by decide) rfl (fun ls hl => ?_)
              refine lv_iload hx hb dX3_strays_92 (lv_at hl 0 rfl) ?_
              have e1 : cif (¬ cLess n σ o u ∧ ¬ cLess n σ u o) (1 : Int32) 0 = 0 := cif_neg (fun z => z.2 (hr_10.elim (fun z => z.2) (fun z => absurd z.1 c_18)))
              have yah : cAhd σ o u := ⟨(fun z => by rw [if_pos z] at hr_11; exact c_28 hr_11), Int32.not_le.mp c_39⟩
              have e2 : cif (cAhd σ o u ∧ (¬ cLess n σ o u ∨ cMis σ o u)) (1 : Int32) 0 = 1 := cif_pos ⟨yah, Or.inl (hr_1.elim (fun z => absurd (z.1.symm.trans c_10) (by decide)) (fun z => z.2))⟩
              exact W.iret hx hb hr (fun t ht hW => ⟨_, rfl, (by unfold cStr; rw [e1, e2, ex_19] <;> decide), ht⟩) (fun _ h => by cases h) dX3_strays_94
            · refine lv_iconst (v := 1) hx hb dX3_strays_68 (by decide) ?_
              refine lv_goto (tgt := 73) hx hb dX3_strays_69 (by decide) ?_
              refine lv_istore (lv' := [(6, _), (5, _), (4, _), (3, _), (0, _), (1, _), (2, _)]) C.1 C.2.1 dX3_strays_73 hl (by decide) rfl (fun ls hl => ?_)
              refine lv_iload hx hb dX3_strays_75 (lv_at hl 1 rfl) ?_
              refine lv_if_eq (tgt := 92) hx hb dX3_strays_77 (by decide) (fun c_77 => absurd c_77 (by decide)) (fun c_77 => ?_)
              refine lv_iload_n hx hb dX3_strays_80 rfl (lv_at hl 3 rfl) ?_
              refine lv_if_eq (tgt := 89) hx hb dX3_strays_81 (by decide) (fun c_81 => ?_) (fun c_81 => absurd c_10 c_81)
              obtain ⟨x_20, ex_20⟩ : ∃ y : Int32, y = 0 + 1 := ⟨_, rfl⟩
              refine lv_iinc (v := x_20) (lv' := [(4, _), (6, _), (5, _), (3, _), (0, _), (1, _), (2, _)]) C.1 C.2.1 dX3_strays_89 hl (k := 2) rfl (by rw [ex_20]; rfl) (by decide) rfl (fun ls hl => ?_)
              refine lv_iload hx hb dX3_strays_92 (lv_at hl 0 rfl) ?_
              have e1 : cif (¬ cLess n σ o u ∧ ¬ cLess n σ u o) (1 : Int32) 0 = 0 := cif_neg (fun z => z.2 (hr_10.elim (fun z => z.2) (fun z => absurd z.1 c_18)))
              have yah : cAhd σ o u := ⟨(fun z => by rw [if_pos z] at hr_11; exact c_28 hr_11), Int32.not_le.mp c_39⟩
              have e2 : cif (cAhd σ o u ∧ (¬ cLess n σ o u ∨ cMis σ o u)) (1 : Int32) 0 = 1 := cif_pos ⟨yah, Or.inl (hr_1.elim (fun z => absurd (z.1.symm.trans c_10) (by decide)) (fun z => z.2))⟩
              exact W.iret hx hb hr (fun t ht hW => ⟨_, rfl, (by unfold cStr; rw [e1, e2, ex_20] <;> decide), ht⟩) (fun _ h => by cases h) dX3_strays_94
    · obtain ⟨x_21, ex_21⟩ : ∃ y : Int32, y = 0 + 1 := ⟨_, rfl⟩
      refine lv_iinc (v := x_21) (lv' := [(4, _), (3, _), (0, _), (1, _), (2, _)]) C.1 C.2.1 dX3_strays_21 hl (k := 0) rfl (by rw [ex_21]; rfl) (by decide) rfl (fun ls hl => ?_)
      refine lv_aload_n hx hb dX3_strays_24 rfl (lv_at hl 3 rfl) ?_
      refine c_callp (As := []) (rest := []) C (c_preX1 C w h1 h2) hml hl.1 (k_X1_isDone l D cI cZ cN cO A E n bg _ o ok h1 h2) kM_X3_81 kI_X1_isDone kS_X1_isDone kN_X1 kD_X1_isDone (show yX1_isDone.cls = RX1 ∧ yX1_isDone.cls ≠ "java/lang/invoke/MethodHandle" ∧ yX1_isDone.cls ≠ "java/lang/invoke/VarHandle" ∧ (parseMethodDescriptor yX1_isDone.desc).map (fun d => d.parameters.length) = some 0 from by decide +kernel) rfl rfl ⟨Nat.le_of_ble_eq_true rfl, Nat.le_of_ble_eq_true rfl⟩ rfl (lv_room (Nat.le_of_ble_eq_true rfl)) dX3_strays_25 ⟨Nat.zero_le _, Nat.zero_le _⟩ (fun r_22 hr_22 => ?_)
      refine lv_if_eq (tgt := 46) hx hb dX3_strays_28 (by decide) (fun c_28 => ?_) (fun c_28 => ?_)
      · refine lv_iconst (v := 0) hx hb dX3_strays_46 (by decide) ?_
        refine lv_istore (lv' := [(5, _), (4, _), (3, _), (0, _), (1, _), (2, _)]) C.1 C.2.1 dX3_strays_47 hl (by decide) rfl (fun ls hl => ?_)
        refine lv_aload_n hx hb dX3_strays_49 rfl (lv_at hl 4 rfl) ?_
        refine c_callp (As := []) (rest := []) C (c_preX1 C w h1 h2) hml hl.1 (k_X1_isUpdate l D cI cZ cN cO A E n bg _ o ok h1 h2) kM_X3_211 kI_X1_isUpdate kS_X1_isUpdate kN_X1 kD_X1_isUpdate (show yX1_isUpdate.cls = RX1 ∧ yX1_isUpdate.cls ≠ "java/lang/invoke/MethodHandle" ∧ yX1_isUpdate.cls ≠ "java/lang/invoke/VarHandle" ∧ (parseMethodDescriptor yX1_isUpdate.desc).map (fun d => d.parameters.length) = some 0 from by decide +kernel) rfl rfl ⟨Nat.le_of_ble_eq_true rfl, Nat.le_of_ble_eq_true rfl⟩ rfl (lv_room (Nat.le_of_ble_eq_true rfl)) dX3_strays_50 ⟨Nat.zero_le _, Nat.zero_le _⟩ (fun r_23 hr_23 => ?_)
        refine lv_if_eq (tgt := 72) hx hb dX3_strays_53 (by decide) (fun c_53 => ?_) (fun c_53 => ?_)
        · refine lv_iconst (v := 0) hx hb dX3_strays_72 (by decide) ?_
          refine lv_istore (lv' := [(6, _), (5, _), (4, _), (3, _), (0, _), (1, _), (2, _)]) C.1 C.2.1 dX3_strays_73 hl (by decide) rfl (fun ls hl => ?_)
          refine lv_iload hx hb dX3_strays_75 (lv_at hl 1 rfl) ?_
          refine lv_if_eq (tgt := 92) hx hb dX3_strays_77 (by decide) (fun c_77 => ?_) (fun c_77 => absurd rfl c_77)
          refine lv_iload hx hb dX3_strays_92 (lv_at hl 2 rfl) ?_
          have e1 : cif (¬ cLess n σ o u ∧ ¬ cLess n σ u o) (1 : Int32) 0 = 1 := cif_pos ⟨(hr_1.elim (fun z => absurd (z.1.symm.trans c_10) (by decide)) (fun z => z.2)), (hr_10.elim (fun z => absurd (z.1.symm.trans c_18) (by decide)) (fun z => z.2))⟩
          have nah : ¬ cAhd σ o u := (fun z => z.1 (by by_cases y : σ.1 3 o 8 = -1; exact y; rw [if_neg y] at hr_22; exact absurd (hr_22.symm.trans c_28) (by decide)))
          have e2 : cif (cAhd σ o u ∧ (¬ cLess n σ o u ∨ cMis σ o u)) (1 : Int32) 0 = 0 := cif_neg (fun z => nah z.1)
          exact W.iret hx hb hr (fun t ht hW => ⟨_, rfl, (by unfold cStr; rw [e1, e2, ex_21] <;> decide), ht⟩) (fun _ h => by cases h) dX3_strays_94
        · refine lv_aload_n hx hb dX3_strays_56 rfl (lv_at hl 5 rfl) ?_
          refine lv_aload_n hx hb dX3_strays_57 rfl (lv_at hl 4 rfl) ?_
          refine lv_aload_n hx hb dX3_strays_58 rfl (lv_at hl 4 rfl) ?_
          refine c_gX1_2 C w h1 h2 kF_X3_287 dX3_strays_59 ?_
          refine c_callp (As := [.ref ((E.2.2.2.2.1 o)), .int ((σ.1 3 o 2))]) (rest := []) C (c_preX1 C w g1 g2) hml hl.1 (k_X1_sees l D cI cZ cN cO A E n bg _ u o _ ok g1 g2 h1 h2) kM_X3_306 kI_X1_sees kS_X1_sees kN_X1 kD_X1_sees (show yX1_sees.cls = RX1 ∧ yX1_sees.cls ≠ "java/lang/invoke/MethodHandle" ∧ yX1_sees.cls ≠ "java/lang/invoke/VarHandle" ∧ (parseMethodDescriptor yX1_sees.desc).map (fun d => d.parameters.length) = some 2 from by decide +kernel) rfl rfl ⟨Nat.le_of_ble_eq_true rfl, Nat.le_of_ble_eq_true rfl⟩ rfl (lv_room (Nat.le_of_ble_eq_true rfl)) dX3_strays_62 ⟨Nat.zero_le _, Nat.zero_le _⟩ (fun r_24 hr_24 => ?_)
          refine lv_if_ne (tgt := 72) hx hb dX3_strays_65 (by decide) (fun c_65 => ?_) (fun c_65 => ?_)
          · refine lv_iconst (v := 0) hx hb dX3_strays_72 (by decide) ?_
            refine lv_istore (lv' := [(6, _), (5, _), (4, _), (3, _), (0, _), (1, _), (2, _)]) C.1 C.2.1 dX3_strays_73 hl (by decide) rfl (fun ls hl => ?_)
            refine lv_iload hx hb dX3_strays_75 (lv_at hl 1 rfl) ?_
            refine lv_if_eq (tgt := 92) hx hb dX3_strays_77 (by decide) (fun c_77 => ?_) (fun c_77 => absurd rfl c_77)
            refine lv_iload hx hb dX3_strays_92 (lv_at hl 2 rfl) ?_
            have e1 : cif (¬ cLess n σ o u ∧ ¬ cLess n σ u o) (1 : Int32) 0 = 1 := cif_pos ⟨(hr_1.elim (fun z => absurd (z.1.symm.trans c_10) (by decide)) (fun z => z.2)), (hr_10.elim (fun z => absurd (z.1.symm.trans c_18) (by decide)) (fun z => z.2))⟩
            have nah : ¬ cAhd σ o u := (fun z => z.1 (by by_cases y : σ.1 3 o 8 = -1; exact y; rw [if_neg y] at hr_22; exact absurd (hr_22.symm.trans c_28) (by decide)))
            have e2 : cif (cAhd σ o u ∧ (¬ cLess n σ o u ∨ cMis σ o u)) (1 : Int32) 0 = 0 := cif_neg (fun z => nah z.1)
            exact W.iret hx hb hr (fun t ht hW => ⟨_, rfl, (by unfold cStr; rw [e1, e2, ex_21] <;> decide), ht⟩) (fun _ h => by cases h) dX3_strays_94
          · refine lv_iconst (v := 1) hx hb dX3_strays_68 (by decide) ?_
            refine lv_goto (tgt := 73) hx hb dX3_strays_69 (by decide) ?_
            refine lv_istore (lv' := [(6, _), (5, _), (4, _), (3, _), (0, _), (1, _), (2, _)]) C.1 C.2.1 dX3_strays_73 hl (by decide) rfl (fun ls hl => ?_)
            refine lv_iload hx hb dX3_strays_75 (lv_at hl 1 rfl) ?_
            refine lv_if_eq (tgt := 92) hx hb dX3_strays_77 (by decide) (fun c_77 => ?_) (fun c_77 => absurd rfl c_77)
            refine lv_iload hx hb dX3_strays_92 (lv_at hl 2 rfl) ?_
            have e1 : cif (¬ cLess n σ o u ∧ ¬ cLess n σ u o) (1 : Int32) 0 = 1 := cif_pos ⟨(hr_1.elim (fun z => absurd (z.1.symm.trans c_10) (by decide)) (fun z => z.2)), (hr_10.elim (fun z => absurd (z.1.symm.trans c_18) (by decide)) (fun z => z.2))⟩
            have nah : ¬ cAhd σ o u := (fun z => z.1 (by by_cases y : σ.1 3 o 8 = -1; exact y; rw [if_neg y] at hr_22; exact absurd (hr_22.symm.trans c_28) (by decide)))
            have e2 : cif (cAhd σ o u ∧ (¬ cLess n σ o u ∨ cMis σ o u)) (1 : Int32) 0 = 0 := cif_neg (fun z => nah z.1)
            exact W.iret hx hb hr (fun t ht hW => ⟨_, rfl, (by unfold cStr; rw [e1, e2, ex_21] <;> decide), ht⟩) (fun _ h => by cases h) dX3_strays_94
      · refine lv_aload_n hx hb dX3_strays_31 rfl (lv_at hl 3 rfl) ?_
        refine c_gX1_8 C w h1 h2 kF_X3_275 dX3_strays_32 ?_
        refine lv_aload_n hx hb dX3_strays_35 rfl (lv_at hl 4 rfl) ?_
        refine c_gX1_5 C w g1 g2 kF_X3_333 dX3_strays_36 ?_
        refine lv_icmp_ge (tgt := 46) hx hb dX3_strays_39 (by decide) (fun c_39 => ?_) (fun c_39 => ?_)
        · refine lv_iconst (v := 0) hx hb dX3_strays_46 (by decide) ?_
          refine lv_istore (lv' := [(5, _), (4, _), (3, _), (0, _), (1, _), (2, _)]) C.1 C.2.1 dX3_strays_47 hl (by decide) rfl (fun ls hl => ?_)
          refine lv_aload_n hx hb dX3_strays_49 rfl (lv_at hl 4 rfl) ?_
          refine c_callp (As := []) (rest := []) C (c_preX1 C w h1 h2) hml hl.1 (k_X1_isUpdate l D cI cZ cN cO A E n bg _ o ok h1 h2) kM_X3_211 kI_X1_isUpdate kS_X1_isUpdate kN_X1 kD_X1_isUpdate (show yX1_isUpdate.cls = RX1 ∧ yX1_isUpdate.cls ≠ "java/lang/invoke/MethodHandle" ∧ yX1_isUpdate.cls ≠ "java/lang/invoke/VarHandle" ∧ (parseMethodDescriptor yX1_isUpdate.desc).map (fun d => d.parameters.length) = some 0 from by decide +kernel) rfl rfl ⟨Nat.le_of_ble_eq_true rfl, Nat.le_of_ble_eq_true rfl⟩ rfl (lv_room (Nat.le_of_ble_eq_true rfl)) dX3_strays_50 ⟨Nat.zero_le _, Nat.zero_le _⟩ (fun r_25 hr_25 => ?_)
          refine lv_if_eq (tgt := 72) hx hb dX3_strays_53 (by decide) (fun c_53 => ?_) (fun c_53 => ?_)
          · refine lv_iconst (v := 0) hx hb dX3_strays_72 (by decide) ?_
            refine lv_istore (lv' := [(6, _), (5, _), (4, _), (3, _), (0, _), (1, _), (2, _)]) C.1 C.2.1 dX3_strays_73 hl (by decide) rfl (fun ls hl => ?_)
            refine lv_iload hx hb dX3_strays_75 (lv_at hl 1 rfl) ?_
            refine lv_if_eq (tgt := 92) hx hb dX3_strays_77 (by decide) (fun c_77 => ?_) (fun c_77 => absurd rfl c_77)
            refine lv_iload hx hb dX3_strays_92 (lv_at hl 2 rfl) ?_
            have e1 : cif (¬ cLess n σ o u ∧ ¬ cLess n σ u o) (1 : Int32) 0 = 1 := cif_pos ⟨(hr_1.elim (fun z => absurd (z.1.symm.trans c_10) (by decide)) (fun z => z.2)), (hr_10.elim (fun z => absurd (z.1.symm.trans c_18) (by decide)) (fun z => z.2))⟩
            have nah : ¬ cAhd σ o u := (fun z => absurd z.2 (Int32.not_lt.mpr c_39))
            have e2 : cif (cAhd σ o u ∧ (¬ cLess n σ o u ∨ cMis σ o u)) (1 : Int32) 0 = 0 := cif_neg (fun z => nah z.1)
            exact W.iret hx hb hr (fun t ht hW => ⟨_, rfl, (by unfold cStr; rw [e1, e2, ex_21] <;> decide), ht⟩) (fun _ h => by cases h) dX3_strays_94
          · refine lv_aload_n hx hb dX3_strays_56 rfl (lv_at hl 5 rfl) ?_
            refine lv_aload_n hx hb dX3_strays_57 rfl (lv_at hl 4 rfl) ?_
            refine lv_aload_n hx hb dX3_strays_58 rfl (lv_at hl 4 rfl) ?_
            refine c_gX1_2 C w h1 h2 kF_X3_287 dX3_strays_59 ?_
            refine c_callp (As := [.ref ((E.2.2.2.2.1 o)), .int ((σ.1 3 o 2))]) (rest := []) C (c_preX1 C w g1 g2) hml hl.1 (k_X1_sees l D cI cZ cN cO A E n bg _ u o _ ok g1 g2 h1 h2) kM_X3_306 kI_X1_sees kS_X1_sees kN_X1 kD_X1_sees (show yX1_sees.cls = RX1 ∧ yX1_sees.cls ≠ "java/lang/invoke/MethodHandle" ∧ yX1_sees.cls ≠ "java/lang/invoke/VarHandle" ∧ (parseMethodDescriptor yX1_sees.desc).map (fun d => d.parameters.length) = some 2 from by decide +kernel) rfl rfl ⟨Nat.le_of_ble_eq_true rfl, Nat.le_of_ble_eq_true rfl⟩ rfl (lv_room (Nat.le_of_ble_eq_true rfl)) dX3_strays_62 ⟨Nat.zero_le _, Nat.zero_le _⟩ (fun r_26 hr_26 => ?_)
            refine lv_if_ne (tgt := 72) hx hb dX3_strays_65 (by decide) (fun c_65 => ?_) (fun c_65 => ?_)
            · refine lv_iconst (v := 0) hx hb dX3_strays_72 (by decide) ?_
              refine lv_istore (lv' := [(6, _), (5, _), (4, _), (3, _), (0, _), (1, _), (2, _)]) C.1 C.2.1 dX3_strays_73 hl (by decide) rfl (fun ls hl => ?_)
              refine lv_iload hx hb dX3_strays_75 (lv_at hl 1 rfl) ?_
              refine lv_if_eq (tgt := 92) hx hb dX3_strays_77 (by decide) (fun c_77 => ?_) (fun c_77 => absurd rfl c_77)
              refine lv_iload hx hb dX3_strays_92 (lv_at hl 2 rfl) ?_
              have e1 : cif (¬ cLess n σ o u ∧ ¬ cLess n σ u o) (1 : Int32) 0 = 1 := cif_pos ⟨(hr_1.elim (fun z => absurd (z.1.symm.trans c_10) (by decide)) (fun z => z.2)), (hr_10.elim (fun z => absurd (z.1.symm.trans c_18) (by decide)) (fun z => z.2))⟩
              have nah : ¬ cAhd σ o u := (fun z => absurd z.2 (Int32.not_lt.mpr c_39))
              have e2 : cif (cAhd σ o u ∧ (¬ cLess n σ o u ∨ cMis σ o u)) (1 : Int32) 0 = 0 := cif_neg (fun z => nah z.1)
              exact W.iret hx hb hr (fun t ht hW => ⟨_, rfl, (by unfold cStr; rw [e1, e2, ex_21] <;> decide), ht⟩) (fun _ h => by cases h) dX3_strays_94
            · refine lv_iconst (v := 1) hx hb dX3_strays_68 (by decide) ?_
              refine lv_goto (tgt := 73) hx hb dX3_strays_69 (by decide) ?_
              refine lv_istore (lv' := [(6, _), (5, _), (4, _), (3, _), (0, _), (1, _), (2, _)]) C.1 C.2.1 dX3_strays_73 hl (by decide) rfl (fun ls hl => ?_)
              refine lv_iload hx hb dX3_strays_75 (lv_at hl 1 rfl) ?_
              refine lv_if_eq (tgt := 92) hx hb dX3_strays_77 (by decide) (fun c_77 => ?_) (fun c_77 => absurd rfl c_77)
              refine lv_iload hx hb dX3_strays_92 (lv_at hl 2 rfl) ?_
              have e1 : cif (¬ cLess n σ o u ∧ ¬ cLess n σ u o) (1 : Int32) 0 = 1 := cif_pos ⟨(hr_1.elim (fun z => absurd (z.1.symm.trans c_10) (by decide)) (fun z => z.2)), (hr_10.elim (fun z => absurd (z.1.symm.trans c_18) (by decide)) (fun z => z.2))⟩
              have nah : ¬ cAhd σ o u := (fun z => absurd z.2 (Int32.not_lt.mpr c_39))
              have e2 : cif (cAhd σ o u ∧ (¬ cLess n σ o u ∨ cMis σ o u)) (1 : Int32) 0 = 0 := cif_neg (fun z => nah z.1)
              exact W.iret hx hb hr (fun t ht hW => ⟨_, rfl, (by unfold cStr; rw [e1, e2, ex_21] <;> decide), ht⟩) (fun _ h => by cases h) dX3_strays_94
        · refine lv_iconst (v := 1) hx hb dX3_strays_42 (by decide) ?_
          refine lv_goto (tgt := 47) hx hb dX3_strays_43 (by decide) ?_
          refine lv_istore (lv' := [(5, _), (4, _), (3, _), (0, _), (1, _), (2, _)]) C.1 C.2.1 dX3_strays_47 hl (by decide) rfl (fun ls hl => ?_)
          refine lv_aload_n hx hb dX3_strays_49 rfl (lv_at hl 4 rfl) ?_
          refine c_callp (As := []) (rest := []) C (c_preX1 C w h1 h2) hml hl.1 (k_X1_isUpdate l D cI cZ cN cO A E n bg _ o ok h1 h2) kM_X3_211 kI_X1_isUpdate kS_X1_isUpdate kN_X1 kD_X1_isUpdate (show yX1_isUpdate.cls = RX1 ∧ yX1_isUpdate.cls ≠ "java/lang/invoke/MethodHandle" ∧ yX1_isUpdate.cls ≠ "java/lang/invoke/VarHandle" ∧ (parseMethodDescriptor yX1_isUpdate.desc).map (fun d => d.parameters.length) = some 0 from by decide +kernel) rfl rfl ⟨Nat.le_of_ble_eq_true rfl, Nat.le_of_ble_eq_true rfl⟩ rfl (lv_room (Nat.le_of_ble_eq_true rfl)) dX3_strays_50 ⟨Nat.zero_le _, Nat.zero_le _⟩ (fun r_27 hr_27 => ?_)
          refine lv_if_eq (tgt := 72) hx hb dX3_strays_53 (by decide) (fun c_53 => ?_) (fun c_53 => ?_)
          · refine lv_iconst (v := 0) hx hb dX3_strays_72 (by decide) ?_
            refine lv_istore (lv' := [(6, _), (5, _), (4, _), (3, _), (0, _), (1, _), (2, _)]) C.1 C.2.1 dX3_strays_73 hl (by decide) rfl (fun ls hl => ?_)
            refine lv_iload hx hb dX3_strays_75 (lv_at hl 1 rfl) ?_
            refine lv_if_eq (tgt := 92) hx hb dX3_strays_77 (by decide) (fun c_77 => absurd c_77 (by decide)) (fun c_77 => ?_)
            refine lv_iload_n hx hb dX3_strays_80 rfl (lv_at hl 3 rfl) ?_
            refine lv_if_eq (tgt := 89) hx hb dX3_strays_81 (by decide) (fun c_81 => ?_) (fun c_81 => absurd c_10 c_81)
            obtain ⟨x_28, ex_28⟩ : ∃ y : Int32, y = x_21 + 1 := ⟨_, rfl⟩
            refine lv_iinc (v := x_28) (lv' := [(4, _), (6, _), (5, _), (3, _), (0, _), (1, _), (2, _)]) C.1 C.2.1 dX3_strays_89 hl (k := 2) rfl (by rw [ex_28]; rfl) (by decide) rfl (fun ls hl => ?_)
            refine lv_iload hx hb dX3_strays_92 (lv_at hl 0 rfl) ?_
            have e1 : cif (¬ cLess n σ o u ∧ ¬ cLess n σ u o) (1 : Int32) 0 = 1 := cif_pos ⟨(hr_1.elim (fun z => absurd (z.1.symm.trans c_10) (by decide)) (fun z => z.2)), (hr_10.elim (fun z => absurd (z.1.symm.trans c_18) (by decide)) (fun z => z.2))⟩
            have yah : cAhd σ o u := ⟨(fun z => by rw [if_pos z] at hr_22; exact c_28 hr_22), Int32.not_le.mp c_39⟩
            have e2 : cif (cAhd σ o u ∧ (¬ cLess n σ o u ∨ cMis σ o u)) (1 : Int32) 0 = 1 := cif_pos ⟨yah, Or.inl (hr_1.elim (fun z => absurd (z.1.symm.trans c_10) (by decide)) (fun z => z.2))⟩
            exact W.iret hx hb hr (fun t ht hW => ⟨_, rfl, (by unfold cStr; rw [e1, e2, ex_28, ex_21] <;> decide), ht⟩) (fun _ h => by cases h) dX3_strays_94
          · refine lv_aload_n hx hb dX3_strays_56 rfl (lv_at hl 5 rfl) ?_
            refine lv_aload_n hx hb dX3_strays_57 rfl (lv_at hl 4 rfl) ?_
            refine lv_aload_n hx hb dX3_strays_58 rfl (lv_at hl 4 rfl) ?_
            refine c_gX1_2 C w h1 h2 kF_X3_287 dX3_strays_59 ?_
            refine c_callp (As := [.ref ((E.2.2.2.2.1 o)), .int ((σ.1 3 o 2))]) (rest := []) C (c_preX1 C w g1 g2) hml hl.1 (k_X1_sees l D cI cZ cN cO A E n bg _ u o _ ok g1 g2 h1 h2) kM_X3_306 kI_X1_sees kS_X1_sees kN_X1 kD_X1_sees (show yX1_sees.cls = RX1 ∧ yX1_sees.cls ≠ "java/lang/invoke/MethodHandle" ∧ yX1_sees.cls ≠ "java/lang/invoke/VarHandle" ∧ (parseMethodDescriptor yX1_sees.desc).map (fun d => d.parameters.length) = some 2 from by decide +kernel) rfl rfl ⟨Nat.le_of_ble_eq_true rfl, Nat.le_of_ble_eq_true rfl⟩ rfl (lv_room (Nat.le_of_ble_eq_true rfl)) dX3_strays_62 ⟨Nat.zero_le _, Nat.zero_le _⟩ (fun r_29 hr_29 => ?_)
            refine lv_if_ne (tgt := 72) hx hb dX3_strays_65 (by decide) (fun c_65 => ?_) (fun c_65 => ?_)
            · refine lv_iconst (v := 0) hx hb dX3_strays_72 (by decide) ?_
              refine lv_istore (lv' := [(6, _), (5, _), (4, _), (3, _), (0, _), (1, _), (2, _)]) C.1 C.2.1 dX3_strays_73 hl (by decide) rfl (fun ls hl => ?_)
              refine lv_iload hx hb dX3_strays_75 (lv_at hl 1 rfl) ?_
              refine lv_if_eq (tgt := 92) hx hb dX3_strays_77 (by decide) (fun c_77 => absurd c_77 (by decide)) (fun c_77 => ?_)
              refine lv_iload_n hx hb dX3_strays_80 rfl (lv_at hl 3 rfl) ?_
              refine lv_if_eq (tgt := 89) hx hb dX3_strays_81 (by decide) (fun c_81 => ?_) (fun c_81 => absurd c_10 c_81)
              obtain ⟨x_30, ex_30⟩ : ∃ y : Int32, y = x_21 + 1 := ⟨_, rfl⟩
              refine lv_iinc (v := x_30) (lv' := [(4, _), (6, _), (5, _), (3, _), (0, _), (1, _), (2, _)]) C.1 C.2.1 dX3_strays_89 hl (k := 2) rfl (by rw [ex_30]; rfl) (by decide) rfl (fun ls hl => ?_)
              refine lv_iload hx hb dX3_strays_92 (lv_at hl 0 rfl) ?_
              have e1 : cif (¬ cLess n σ o u ∧ ¬ cLess n σ u o) (1 : Int32) 0 = 1 := cif_pos ⟨(hr_1.elim (fun z => absurd (z.1.symm.trans c_10) (by decide)) (fun z => z.2)), (hr_10.elim (fun z => absurd (z.1.symm.trans c_18) (by decide)) (fun z => z.2))⟩
              have yah : cAhd σ o u := ⟨(fun z => by rw [if_pos z] at hr_22; exact c_28 hr_22), Int32.not_le.mp c_39⟩
              have e2 : cif (cAhd σ o u ∧ (¬ cLess n σ o u ∨ cMis σ o u)) (1 : Int32) 0 = 1 := cif_pos ⟨yah, Or.inl (hr_1.elim (fun z => absurd (z.1.symm.trans c_10) (by decide)) (fun z => z.2))⟩
              exact W.iret hx hb hr (fun t ht hW => ⟨_, rfl, (by unfold cStr; rw [e1, e2, ex_30, ex_21] <;> decide), ht⟩) (fun _ h => by cases h) dX3_strays_94
            · refine lv_iconst (v := 1) hx hb dX3_strays_68 (by decide) ?_
              refine lv_goto (tgt := 73) hx hb dX3_strays_69 (by decide) ?_
              refine lv_istore (lv' := [(6, _), (5, _), (4, _), (3, _), (0, _), (1, _), (2, _)]) C.1 C.2.1 dX3_strays_73 hl (by decide) rfl (fun ls hl => ?_)
              refine lv_iload hx hb dX3_strays_75 (lv_at hl 1 rfl) ?_
              refine lv_if_eq (tgt := 92) hx hb dX3_strays_77 (by decide) (fun c_77 => absurd c_77 (by decide)) (fun c_77 => ?_)
              refine lv_iload_n hx hb dX3_strays_80 rfl (lv_at hl 3 rfl) ?_
              refine lv_if_eq (tgt := 89) hx hb dX3_strays_81 (by decide) (fun c_81 => ?_) (fun c_81 => absurd c_10 c_81)
              obtain ⟨x_31, ex_31⟩ : ∃ y : Int32, y = x_21 + 1 := ⟨_, rfl⟩
              refine lv_iinc (v := x_31) (lv' := [(4, _), (6, _), (5, _), (3, _), (0, _), (1, _), (2, _)]) C.1 C.2.1 dX3_strays_89 hl (k := 2) rfl (by rw [ex_31]; rfl) (by decide) rfl (fun ls hl => ?_)
              refine lv_iload hx hb dX3_strays_92 (lv_at hl 0 rfl) ?_
              have e1 : cif (¬ cLess n σ o u ∧ ¬ cLess n σ u o) (1 : Int32) 0 = 1 := cif_pos ⟨(hr_1.elim (fun z => absurd (z.1.symm.trans c_10) (by decide)) (fun z => z.2)), (hr_10.elim (fun z => absurd (z.1.symm.trans c_18) (by decide)) (fun z => z.2))⟩
              have yah : cAhd σ o u := ⟨(fun z => by rw [if_pos z] at hr_22; exact c_28 hr_22), Int32.not_le.mp c_39⟩
              have e2 : cif (cAhd σ o u ∧ (¬ cLess n σ o u ∨ cMis σ o u)) (1 : Int32) 0 = 1 := cif_pos ⟨yah, Or.inl (hr_1.elim (fun z => absurd (z.1.symm.trans c_10) (by decide)) (fun z => z.2))⟩
              exact W.iret hx hb hr (fun t ht hW => ⟨_, rfl, (by unfold cStr; rw [e1, e2, ex_31, ex_21] <;> decide), ht⟩) (fun _ h => by cases h) dX3_strays_94
set_option maxHeartbeats 4000000 in
set_option maxRecDepth 100000 in
theorem kl_ast2 {p : Program} {l : Launch} {e : Env} {R : Room} {s : State} {m : MethodId} {args : Array Value} {below : List Frame} {meth : Method} {c : Code} {cells slots : Nat} {Q : State → Prop} {D : va_G} {cI cZ cN cO : ClassId} {A : Nat → Prop} {H0 : Heap} {E : CE} {n bg : Nat} {H : Heap} {locs : List Loc} (C : Cx p c cX3_astray s m args RX3 D (gTy cI cZ cN cO)) (hml : c.maxLocals = 6) {σ : CS} {o : Nat} {b0 : Int32} (w : cWd D cI cN cO A H0 E n bg σ H locs) (ok : cOK n bg σ) (hb5 : bg ≤ 511) (h1 : 1 ≤ o) (h2 : o ≤ bg) (hRf : 2 ≤ R.frames) (hRl : 48 ≤ R.locals) (hRc : cells + 0 ≤ R.cells) (hRs : slots + 0 ≤ R.slots) (kk : ∀ (v : Int32), (v = b0 + cIn n σ o (bg - o)) → ∀ ls : Array Slot, lv_has ls 6 [(4, .int (nI (o + (bg - o) + 1))), (1, .int v), (3, .ref ((E.2.2.2.2.1 o))), (2, .int (nI o)), (0, .ref ((E.1 0)))] → W p l e R s m args below meth c H locs cells slots Q (F0 m 94 ls [])) : ∀ (fu m_ : Nat), m_ + fu = bg - o → ∀ (v : Int32), (v = b0 + cIn n σ o m_) → ∀ ls : Array Slot, lv_has ls 6 [(4, .int (nI (o + m_ + 1))), (1, .int v), (3, .ref ((E.2.2.2.2.1 o))), (2, .int (nI o)), (0, .ref ((E.1 0)))] → W p l e R s m args below meth c H locs cells slots Q (F0 m 48 ls []) := by
  intro fu
  induction fu with
  | zero =>
    intro m_ hik
    intro v hI ls hl
    have hx := C.1
    have hb := C.2.1
    have hi : bg - o = m_ := by omega
    subst hi
    refine lv_iload hx hb dX3_astray_48 (lv_at hl 0 rfl) ?_
    refine lv_aload_n hx hb dX3_astray_50 rfl (lv_at hl 4 rfl) ?_
    refine c_gX3_3 C w kF_X3_119 dX3_astray_51 ?_
    rw [ok.bg]
    refine lv_icmp_gt (tgt := 94) hx hb dX3_astray_54 (by decide) (fun c_54 => ?_) (fun c_54 => absurd (nI_lt (by omega) (by omega)) c_54)
    exact kk v hI ls (lv_sub hl [0, 1, 2, 3, 4] rfl)
  | succ fu ih =>
    intro m_ hik
    intro v hI ls hl
    have hx := C.1
    have hb := C.2.1
    have hi : m_ < bg - o := by omega
    refine lv_iload hx hb dX3_astray_48 (lv_at hl 0 rfl) ?_
    refine lv_aload_n hx hb dX3_astray_50 rfl (lv_at hl 4 rfl) ?_
    refine c_gX3_3 C w kF_X3_119 dX3_astray_51 ?_
    rw [ok.bg]
    refine lv_icmp_gt (tgt := 94) hx hb dX3_astray_54 (by decide) (fun c_54 => absurd c_54 (nI_nlt (by omega) (by omega))) (fun c_54 => ?_)
    refine lv_aload_n hx hb dX3_astray_57 rfl (lv_at hl 4 rfl) ?_
    refine lv_iload hx hb dX3_astray_58 (lv_at hl 0 rfl) ?_
    refine c_callq (As := [.int (nI (o + m_ + 1))]) (rest := []) C (c_preX3 C w) hml hl.1 (k_find_yes l D cI cZ cN cO A E n bg _ (o + m_ + 1) ok (by omega) (by omega)) kM_X3_74 kI_X3_find kS_X3_find kN_X3 kD_X3_find (show yX3_find.cls = RX3 ∧ yX3_find.cls ≠ "java/lang/invoke/MethodHandle" ∧ yX3_find.cls ≠ "java/lang/invoke/VarHandle" ∧ (parseMethodDescriptor yX3_find.desc).map (fun d => d.parameters.length) = some 1 from by decide +kernel) rfl rfl ⟨(by show 0 + 1 ≤ R.frames; omega), (by show 8 + (2 + 11) + 0 ≤ R.locals; omega)⟩ rfl (lv_room (Nat.le_of_ble_eq_true rfl)) dX3_astray_60 ⟨hRc, hRs⟩ (fun r_1 hr_1 => ?_)
    subst hr_1
    dsimp only [va_rf]
    refine lv_astore (lv' := [(5, _), (4, _), (1, _), (3, _), (2, _), (0, _)]) C.1 C.2.1 dX3_astray_63 hl (by decide) rfl (fun ls hl => ?_)
    refine lv_aload hx hb dX3_astray_65 (lv_at hl 0 rfl) ?_
    refine lv_ifnull hx hb dX3_astray_67 ?_
    refine lv_aload hx hb dX3_astray_70 (lv_at hl 0 rfl) ?_
    refine c_gX1_7 C w (by omega) (by omega) kF_X3_89 dX3_astray_72 ?_
    refine lv_if_eq (tgt := 88) hx hb dX3_astray_75 (by decide) (fun c_75 => ?_) (fun c_75 => ?_)
    · obtain ⟨x_2, ex_2⟩ : ∃ y : Int32, y = (nI (o + m_ + 1)) + 1 := ⟨_, rfl⟩
      refine lv_iinc (v := x_2) (lv' := [(4, _), (5, _), (1, _), (3, _), (2, _), (0, _)]) C.1 C.2.1 dX3_astray_88 hl (k := 1) rfl (by rw [ex_2]; rfl) (by decide) rfl (fun ls hl => ?_)
      refine lv_goto (tgt := 48) hx hb dX3_astray_91 (by decide) ?_
      have hq : v = b0 + cIn n σ o (m_ + 1) := by rw [hI]; show _ = b0 + (cIn n σ o m_ + cif _ 0 _); rw [cif_pos c_75, Int32.add_zero]
      have hx2 : x_2 = nI (o + (m_ + 1) + 1) := by rw [ex_2]; exact nI_1 (o + m_ + 1)
      rw [hx2] at hl
      exact ih (m_ + 1) (by omega) v hq ls (lv_sub hl [0, 2, 3, 4, 5] rfl)
    · refine lv_iload_n hx hb dX3_astray_78 rfl (lv_at hl 2 rfl) ?_
      refine lv_aload_n hx hb dX3_astray_79 rfl (lv_at hl 5 rfl) ?_
      refine lv_aload_n hx hb dX3_astray_80 rfl (lv_at hl 3 rfl) ?_
      refine lv_aload hx hb dX3_astray_81 (lv_at hl 0 rfl) ?_
      refine c_callp (As := [.ref ((E.2.2.2.2.1 o)), .ref ((E.2.2.2.2.1 (o + m_ + 1)))]) (rest := [.int v]) C (c_preX3 C w) hml hl.1 (k_X3_strays l D cI cZ cN cO A E n bg _ o (o + m_ + 1) ok h1 h2 (by omega) (by omega)) kM_X3_135 kI_X3_strays kS_X3_strays kN_X3 kD_X3_strays (show yX3_strays.cls = RX3 ∧ yX3_strays.cls ≠ "java/lang/invoke/MethodHandle" ∧ yX3_strays.cls ≠ "java/lang/invoke/VarHandle" ∧ (parseMethodDescriptor yX3_strays.desc).map (fun d => d.parameters.length) = some 2 from by decide +kernel) rfl rfl ⟨(by show 1 + 1 ≤ R.frames; omega), (by show 8 + (7 + 11) + 22 ≤ R.locals; omega)⟩ rfl (lv_room (Nat.le_of_ble_eq_true rfl)) dX3_astray_83 ⟨hRc, hRs⟩ (fun r_3 hr_3 => ?_)
      subst hr_3
      refine lv_iadd hx hb dX3_astray_86 ?_
      refine lv_topi (fun t_4 et_4 => ?_)
      refine lv_istore_n (lv' := [(1, _), (5, _), (4, _), (3, _), (2, _), (0, _)]) C.1 C.2.1 dX3_astray_87 rfl hl (by decide) rfl (fun ls hl => ?_)
      obtain ⟨x_5, ex_5⟩ : ∃ y : Int32, y = (nI (o + m_ + 1)) + 1 := ⟨_, rfl⟩
      refine lv_iinc (v := x_5) (lv' := [(4, _), (1, _), (5, _), (3, _), (2, _), (0, _)]) C.1 C.2.1 dX3_astray_88 hl (k := 2) rfl (by rw [ex_5]; rfl) (by decide) rfl (fun ls hl => ?_)
      refine lv_goto (tgt := 48) hx hb dX3_astray_91 (by decide) ?_
      have hq : t_4 = b0 + cIn n σ o (m_ + 1) := by rw [et_4, hI]; show _ = b0 + (cIn n σ o m_ + cif _ 0 _); rw [cif_neg c_75, Int32.add_assoc]
      have hx2 : x_5 = nI (o + (m_ + 1) + 1) := by rw [ex_5]; exact nI_1 (o + m_ + 1)
      rw [hx2] at hl
      exact ih (m_ + 1) (by omega) t_4 hq ls (lv_sub hl [0, 1, 3, 4, 5] rfl)
set_option maxHeartbeats 4000000 in
set_option maxRecDepth 100000 in
theorem kl_ast1 {p : Program} {l : Launch} {e : Env} {R : Room} {s : State} {m : MethodId} {args : Array Value} {below : List Frame} {meth : Method} {c : Code} {cells slots : Nat} {Q : State → Prop} {D : va_G} {cI cZ cN cO : ClassId} {A : Nat → Prop} {H0 : Heap} {E : CE} {n bg : Nat} {H : Heap} {locs : List Loc} (C : Cx p c cX3_astray s m args RX3 D (gTy cI cZ cN cO)) (hml : c.maxLocals = 6) {σ : CS} (w : cWd D cI cN cO A H0 E n bg σ H locs) (ok : cOK n bg σ) (hb5 : bg ≤ 511) (hRf : 2 ≤ R.frames) (hRl : 48 ≤ R.locals) (hRc : cells + 0 ≤ R.cells) (hRs : slots + 0 ≤ R.slots) (kk : ∀ (v : Int32), (v = cAst n bg σ bg) → ∀ ls : Array Slot, lv_has ls 6 [(2, .int (nI (bg + 1))), (1, .int v), (0, .ref ((E.1 0)))] → W p l e R s m args below meth c H locs cells slots Q (F0 m 100 ls [])) : ∀ (fu i : Nat), i + fu = bg → ∀ (v : Int32), (v = cAst n bg σ i) → ∀ ls : Array Slot, lv_has ls 6 [(2, .int (nI (i + 1))), (1, .int v), (0, .ref ((E.1 0)))] → W p l e R s m args below meth c H locs cells slots Q (F0 m 4 ls []) := by
  intro fu
  induction fu with
  | zero =>
    intro i hik
    intro v hI ls hl
    have hx := C.1
    have hb := C.2.1
    have hi : bg = i := by omega
    subst hi
    refine lv_iload_n hx hb dX3_astray_4 rfl (lv_at hl 0 rfl) ?_
    refine lv_aload_n hx hb dX3_astray_5 rfl (lv_at hl 2 rfl) ?_
    refine c_gX3_3 C w kF_X3_119 dX3_astray_6 ?_
    rw [ok.bg]
    refine lv_icmp_gt (tgt := 100) hx hb dX3_astray_9 (by decide) (fun c_9 => ?_) (fun c_9 => absurd (nI_lt (by omega) (by omega)) c_9)
    exact kk v hI ls (lv_sub hl [0, 1, 2] rfl)
  | succ fu ih =>
    intro i hik
    intro v hI ls hl
    have hx := C.1
    have hb := C.2.1
    have hi : i < bg := by omega
    refine lv_iload_n hx hb dX3_astray_4 rfl (lv_at hl 0 rfl) ?_
    refine lv_aload_n hx hb dX3_astray_5 rfl (lv_at hl 2 rfl) ?_
    refine c_gX3_3 C w kF_X3_119 dX3_astray_6 ?_
    rw [ok.bg]
    refine lv_icmp_gt (tgt := 100) hx hb dX3_astray_9 (by decide) (fun c_9 => absurd c_9 (nI_nlt (by omega) (by omega))) (fun c_9 => ?_)
    refine lv_aload_n hx hb dX3_astray_12 rfl (lv_at hl 2 rfl) ?_
    refine lv_iload_n hx hb dX3_astray_13 rfl (lv_at hl 0 rfl) ?_
    refine c_callq (As := [.int (nI (i + 1))]) (rest := []) C (c_preX3 C w) hml hl.1 (k_find_yes l D cI cZ cN cO A E n bg _ (i + 1) ok (by omega) (by omega)) kM_X3_74 kI_X3_find kS_X3_find kN_X3 kD_X3_find (show yX3_find.cls = RX3 ∧ yX3_find.cls ≠ "java/lang/invoke/MethodHandle" ∧ yX3_find.cls ≠ "java/lang/invoke/VarHandle" ∧ (parseMethodDescriptor yX3_find.desc).map (fun d => d.parameters.length) = some 1 from by decide +kernel) rfl rfl ⟨(by show 0 + 1 ≤ R.frames; omega), (by show 8 + (2 + 11) + 0 ≤ R.locals; omega)⟩ rfl (lv_room (Nat.le_of_ble_eq_true rfl)) dX3_astray_14 ⟨hRc, hRs⟩ (fun r_1 hr_1 => ?_)
    subst hr_1
    dsimp only [va_rf]
    refine lv_astore_n (lv' := [(3, _), (2, _), (1, _), (0, _)]) C.1 C.2.1 dX3_astray_17 rfl hl (by decide) rfl (fun ls hl => ?_)
    refine lv_aload_n hx hb dX3_astray_18 rfl (lv_at hl 0 rfl) ?_
    refine lv_ifnull hx hb dX3_astray_19 ?_
    refine lv_aload_n hx hb dX3_astray_22 rfl (lv_at hl 0 rfl) ?_
    refine c_gX1_7 C w (by omega) (by omega) kF_X3_89 dX3_astray_23 ?_
    refine lv_if_ne (tgt := 32) hx hb dX3_astray_26 (by decide) (fun c_26 => ?_) (fun c_26 => ?_)
    · refine lv_aload_n hx hb dX3_astray_32 rfl (lv_at hl 3 rfl) ?_
      refine lv_aload_n hx hb dX3_astray_33 rfl (lv_at hl 0 rfl) ?_
      refine c_callp (As := [.ref ((E.2.2.2.2.1 (i + 1)))]) (rest := []) C (c_preX3 C w) hml hl.1 (k_X3_seesWhatBeganLater l D cI cZ cN cO A E n bg _ (i + 1) ok (by omega) (by omega)) kM_X3_131 kI_X3_seesWhatBeganLater kS_X3_seesWhatBeganLater kN_X3 kD_X3_seesWhatBeganLater (show yX3_seesWhatBeganLater.cls = RX3 ∧ yX3_seesWhatBeganLater.cls ≠ "java/lang/invoke/MethodHandle" ∧ yX3_seesWhatBeganLater.cls ≠ "java/lang/invoke/VarHandle" ∧ (parseMethodDescriptor yX3_seesWhatBeganLater.desc).map (fun d => d.parameters.length) = some 1 from by decide +kernel) rfl rfl ⟨(by show 1 + 1 ≤ R.frames; omega), (by show 8 + (4 + 11) + 22 ≤ R.locals; omega)⟩ rfl (lv_room (Nat.le_of_ble_eq_true rfl)) dX3_astray_34 ⟨hRc, hRs⟩ (fun r_2 hr_2 => ?_)
      refine lv_if_eq (tgt := 43) hx hb dX3_astray_37 (by decide) (fun c_37 => ?_) (fun c_37 => ?_)
      · refine lv_iload_n hx hb dX3_astray_43 rfl (lv_at hl 1 rfl) ?_
        refine lv_iconst (v := 1) hx hb dX3_astray_44 (by decide) ?_
        refine lv_iadd hx hb dX3_astray_45 ?_
        refine lv_topi (fun t_3 et_3 => ?_)
        refine lv_istore (lv' := [(4, _), (3, _), (2, _), (1, _), (0, _)]) C.1 C.2.1 dX3_astray_46 hl (by decide) rfl (fun ls hl => ?_)
        have hb0 : v = cAst n bg σ i + cif (cLate bg σ (i + 1)) 1 0 := by rw [hI, cif_neg (hr_2.elim (fun z => absurd (z.1.symm.trans c_37) (by decide)) (fun z => z.2)), Int32.add_zero]
        have hl := lv_sub hl (l' := [(4, .int (nI (i + 1 + 0 + 1))), (1, .int v), (3, .ref (E.2.2.2.2.1 (i + 1))), (2, .int (nI (i + 1))), (0, .ref (E.1 0))]) [0, 3, 1, 2, 4] (by rw [show nI (i + 1 + 0 + 1) = nI (i + 1) + 1 from (nI_1 (i + 1)).symm]; rw [show t_3 = nI (i + 1) + 1 from et_3]; rfl)
        refine kl_ast2 (b0 := v) C hml w ok hb5 (by omega) (by omega) hRf hRl hRc hRs ?_ (bg - (i + 1)) 0 (by omega) v (by show _ = _ + (0 : Int32); rw [Int32.add_zero]) ls (lv_sub hl [0, 1, 2, 3, 4] rfl)
        intro v2 hI2 ls hl
        obtain ⟨x_4, ex_4⟩ : ∃ y : Int32, y = (nI (i + 1)) + 1 := ⟨_, rfl⟩
        refine lv_iinc (v := x_4) (lv' := [(2, _), (4, _), (1, _), (3, _), (0, _)]) C.1 C.2.1 dX3_astray_94 hl (k := 3) rfl (by rw [ex_4]; rfl) (by decide) rfl (fun ls hl => ?_)
        refine lv_goto (tgt := 4) hx hb dX3_astray_97 (by decide) ?_
        have hq : v2 = cAst n bg σ (i + 1) := by rw [hI2, hb0]; show _ = cAst n bg σ i + cif _ 0 _; rw [cif_neg c_26, Int32.add_assoc]
        have hx2 : x_4 = nI (i + 1 + 1) := by rw [ex_4]; exact nI_1 (i + 1)
        rw [hx2] at hl
        exact ih (i + 1) (by omega) v2 hq ls (lv_sub hl [0, 2, 4] rfl)
      · obtain ⟨x_5, ex_5⟩ : ∃ y : Int32, y = v + 1 := ⟨_, rfl⟩
        refine lv_iinc (v := x_5) (lv' := [(1, _), (3, _), (2, _), (0, _)]) C.1 C.2.1 dX3_astray_40 hl (k := 2) rfl (by rw [ex_5]; rfl) (by decide) rfl (fun ls hl => ?_)
        refine lv_iload_n hx hb dX3_astray_43 rfl (lv_at hl 2 rfl) ?_
        refine lv_iconst (v := 1) hx hb dX3_astray_44 (by decide) ?_
        refine lv_iadd hx hb dX3_astray_45 ?_
        refine lv_topi (fun t_6 et_6 => ?_)
        refine lv_istore (lv' := [(4, _), (1, _), (3, _), (2, _), (0, _)]) C.1 C.2.1 dX3_astray_46 hl (by decide) rfl (fun ls hl => ?_)
        have hb0 : x_5 = cAst n bg σ i + cif (cLate bg σ (i + 1)) 1 0 := by rw [ex_5, hI, cif_pos (hr_2.elim (fun z => z.2) (fun z => absurd z.1 c_37))]
        have hl := lv_sub hl (l' := [(4, .int (nI (i + 1 + 0 + 1))), (1, .int x_5), (3, .ref (E.2.2.2.2.1 (i + 1))), (2, .int (nI (i + 1))), (0, .ref (E.1 0))]) [0, 1, 2, 3, 4] (by rw [show nI (i + 1 + 0 + 1) = nI (i + 1) + 1 from (nI_1 (i + 1)).symm]; rw [show t_6 = nI (i + 1) + 1 from et_6]; rfl)
        refine kl_ast2 (b0 := x_5) C hml w ok hb5 (by omega) (by omega) hRf hRl hRc hRs ?_ (bg - (i + 1)) 0 (by omega) x_5 (by show _ = _ + (0 : Int32); rw [Int32.add_zero]) ls (lv_sub hl [0, 1, 2, 3, 4] rfl)
        intro v2 hI2 ls hl
        obtain ⟨x_7, ex_7⟩ : ∃ y : Int32, y = (nI (i + 1)) + 1 := ⟨_, rfl⟩
        refine lv_iinc (v := x_7) (lv' := [(2, _), (4, _), (1, _), (3, _), (0, _)]) C.1 C.2.1 dX3_astray_94 hl (k := 3) rfl (by rw [ex_7]; rfl) (by decide) rfl (fun ls hl => ?_)
        refine lv_goto (tgt := 4) hx hb dX3_astray_97 (by decide) ?_
        have hq : v2 = cAst n bg σ (i + 1) := by rw [hI2, hb0]; show _ = cAst n bg σ i + cif _ 0 _; rw [cif_neg c_26, Int32.add_assoc]
        have hx2 : x_7 = nI (i + 1 + 1) := by rw [ex_7]; exact nI_1 (i + 1)
        rw [hx2] at hl
        exact ih (i + 1) (by omega) v2 hq ls (lv_sub hl [0, 2, 4] rfl)
    · refine lv_goto (tgt := 94) hx hb dX3_astray_29 (by decide) ?_
      obtain ⟨x_8, ex_8⟩ : ∃ y : Int32, y = (nI (i + 1)) + 1 := ⟨_, rfl⟩
      refine lv_iinc (v := x_8) (lv' := [(2, _), (3, _), (1, _), (0, _)]) C.1 C.2.1 dX3_astray_94 hl (k := 1) rfl (by rw [ex_8]; rfl) (by decide) rfl (fun ls hl => ?_)
      refine lv_goto (tgt := 4) hx hb dX3_astray_97 (by decide) ?_
      have hq : v = cAst n bg σ (i + 1) := by rw [hI]; show _ = cAst n bg σ i + cif _ 0 _; rw [cif_pos c_26, Int32.add_zero]
      have hx2 : x_8 = nI (i + 1 + 1) := by rw [ex_8]; exact nI_1 (i + 1)
      rw [hx2] at hl
      exact ih (i + 1) (by omega) v hq ls (lv_sub hl [0, 2, 3] rfl)
set_option maxHeartbeats 4000000 in
set_option maxRecDepth 100000 in
theorem k_X3_astray (l : Launch) (D : va_G) (cI cZ cN cO : ClassId) (A : Nat → Prop) (E : CE) (n bg : Nat) (σ : CS)  (ok : cOK n bg σ)  : Met l yX3_astray (.code yX3_astray cX3_astray 6 (some .int) :: gw) ({ frames := 2, cells := 0, slots := 0, locals := 48 }) (va_Pc (.ref (E.1 0) :: []) (cH D cI cZ cN cO A E n bg σ)) (vp_Si (fun r => r = cAst n bg σ bg)) 0 0 (fun _ => False) := by
  refine Met.ofW (cc := cX3_astray) (maxL := 6) (ret := (some .int)) (by decide) rfl ?_
  intro p e s m args below meth c s₁ B hml hv
  obtain ⟨rfl, hP, hK, hD⟩ := hv
  have hx := B.exec
  have hb := B.bytes
  have hr := B.returns
  have hts := atoms_spec (ws := (.code yX3_astray cX3_astray 6 (some .int) :: gw)) B.pre
  have hg : ∀ w ∈ gw, w.before _ s = true := fun w h => hts w (List.mem_cons_of_mem _ h)
  have hown : s.vm.findClass RX3 = some m.cls := findClass_of_methodNamed B.named
  have hlocks := B.notSynchronized
  have C : Cx p c cX3_astray s m _ RX3 D (gTy cI cZ cN cO) := ⟨hx, hb, hown, hg, hK⟩
  have w : cWd D cI cN cO A s.heap E n bg σ s.heap [] := ⟨hP, hD, va_S.rf⟩
  have hl := lv_entry ([.ref ((E.1 0))]) (n := 6) (Nat.le_of_ble_eq_true rfl)
  rw [lg_entry_eq]
  generalize (lg_sl ([.ref ((E.1 0))]) ++ List.replicate (6 - (lg_sl ([.ref ((E.1 0))])).length) Slot.unset).toArray = ls at hl ⊢
  have hl : lv_has ls 6 [(0, .ref ((E.1 0)))] := hl
  refine lv_iconst (v := 0) hx hb dX3_astray_0 (by decide) ?_
  refine lv_istore_n (lv' := [(1, _), (0, _)]) C.1 C.2.1 dX3_astray_1 rfl hl (by decide) rfl (fun ls hl => ?_)
  refine lv_iconst (v := 1) hx hb dX3_astray_2 (by decide) ?_
  refine lv_istore_n (lv' := [(2, _), (1, _), (0, _)]) C.1 C.2.1 dX3_astray_3 rfl hl (by decide) rfl (fun ls hl => ?_)
  have hl := lv_sub hl (l' := [(2, .int (nI (0 + 1))), (1, .int 0), (0, .ref (E.1 0))]) [0, 1, 2] (by rw [show nI (0 + 1) = 1 from by decide +kernel]; rfl)
  refine kl_ast1 C hml w ok ok.2.2.1 (Nat.le_of_ble_eq_true rfl) (Nat.le_of_ble_eq_true rfl) (Nat.zero_le _) (Nat.zero_le _) ?_ bg 0 (by omega) 0 rfl ls (lv_sub hl [0, 1, 2] rfl)
  intro v hI ls hl
  refine lv_iload_n hx hb dX3_astray_100 rfl (lv_at hl 1 rfl) ?_
  exact W.iret hx hb hr (fun t ht hW => ⟨_, rfl, hI, ht⟩) (fun _ h => by cases h) dX3_astray_101
