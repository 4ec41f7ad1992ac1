def cEnd (n k t : Nat) (σ : CS) : Prop := ¬ σ.1 2 k 7 = 1 ∧ (σ.1 2 k 7 = 3 ∨ (3 < σ.1 3 t 2 ∧ ¬ σ.1 3 t 9 ≤ 0 ∧ (cSame n k σ ∨ cAny n k σ)))
def cWrt (n k t : Nat) (σ : CS) : CS := cToV n k 5 2 3 (cI_ (cA_ σ 2 k 5 k (σ.2.1 2 k 5 k + 1)) 3 t 11 (σ.2.1 2 k 5 k + 1))
noncomputable def cUse (n k t : Nat) (r : Nat → Int32) (σ : CS) : CS := cif (3 < σ.1 3 t 2) (cEndOp k t (cSee n t r σ)) (cWrt n k t (cSee n t r σ))
theorem cSee_kd {n t : Nat} {r : Nat → Int32} {σ : CS} : (cSee n t r σ).1 3 t 2 = σ.1 3 t 2 := cI_ne (by decide)
def cCo (t : Nat) (σ : CS) : CS := cI_ (cI_ σ 3 t 9 (σ.1 3 t 9 + 1)) 0 0 8 (mx (σ.1 0 0 8) ((cI_ σ 3 t 9 (σ.1 3 t 9 + 1)).1 3 t 9))
def cBor (t q : Nat) (σ : CS) : CS := cI_ (cI_ σ 3 t 10 (σ.1 3 q 1)) 0 0 7 (σ.1 0 0 7 + 1)
noncomputable def cECo (n bg k t : Nat) (σ : CS) : CS := cif (σ.1 3 t 9 = 0) (cBegC n k (cRem1 n k (cCo t σ))) (cif (cSame n k σ) (cUse n k t ((cCo t σ).2.1 2 k 2) (cCo t σ)) (cif (cAny n k σ) (cUse n k t ((cCo t σ).2.1 3 (cLdr n bg k (cCo t σ)) 6) (cBor t (cLdr n bg k (cCo t σ)) (cCo t σ))) (cBegC n k (cRem0 n k (cCo t σ)))))
set_option maxHeartbeats 4000000 in
set_option maxRecDepth 100000 in
theorem k_X3_endsOperation (l : Launch) (D : va_G) (cI cZ cN cO : ClassId) (A : Nat → Prop) (E : CE) (n bg : Nat) (σ : CS) (k tt : Nat) (ok : cOK n bg σ) (hk : k < n) (htk : σ.2.2 k = tt) (h1 : 1 ≤ tt) (h2 : tt ≤ bg) (hld : ¬ σ.1 2 k 7 = 1 → ¬ σ.1 2 k 7 = 3 → ¬ σ.1 3 tt 9 ≤ 0 → cLdOk n bg k σ) : Met l yX3_endsOperation (.code yX3_endsOperation cX3_endsOperation 3 (some .boolean) :: gw) ({ frames := 2, cells := 0, slots := 0, locals := 45 }) (va_Pc (.ref (E.1 0) :: [.ref ((E.2.2.1 k))]) (cH D cI cZ cN cO A E n bg σ)) (vp_Si (fun r => (r = 1 ∧ cEnd n k tt σ) ∨ (r = 0 ∧ ¬ cEnd n k tt σ))) 0 0 (fun _ => False) := by
  refine Met.ofW (cc := cX3_endsOperation) (maxL := 3) (ret := (some .boolean)) (by decide) rfl ?_
  intro p e s m args below meth c s₁ B hml hv
  obtain ⟨rfl, hP, hK, hD⟩ := hv
  have hx := B.exec
  have hb := B.bytes
  have hr := B.returns
  have hts := atoms_spec (ws := (.code yX3_endsOperation cX3_endsOperation 3 (some .boolean) :: gw)) B.pre
  have hg : ∀ w ∈ gw, w.before _ s = true := fun w h => hts w (List.mem_cons_of_mem _ h)
  have hown : s.vm.findClass RX3 = some m.cls := findClass_of_methodNamed B.named
  have hlocks := B.notSynchronized
  have C : Cx p c cX3_endsOperation s m _ RX3 D (gTy cI cZ cN cO) := ⟨hx, hb, hown, hg, hK⟩
  have w : cWd D cI cN cO A s.heap E n bg σ s.heap [] := ⟨hP, hD, va_S.rf⟩
  have hl := lv_entry ([.ref ((E.1 0)), .ref ((E.2.2.1 k))]) (n := 3) (Nat.le_of_ble_eq_true rfl)
  rw [lg_entry_eq]
  generalize (lg_sl ([.ref ((E.1 0)), .ref ((E.2.2.1 k))]) ++ List.replicate (3 - (lg_sl ([.ref ((E.1 0)), .ref ((E.2.2.1 k))])).length) Slot.unset).toArray = ls at hl ⊢
  have hl : lv_has ls 3 [(0, .ref ((E.1 0))), (1, .ref ((E.2.2.1 k)))] := hl
  refine lv_aload_n hx hb dX3_endsOperation_0 rfl (lv_at hl 1 rfl) ?_
  refine c_gT1 (t := tt) C w hk htk h1 kF_X3_139 dX3_endsOperation_1 ?_
  refine lv_astore_n (lv' := [(2, _), (0, _), (1, _)]) C.1 C.2.1 dX3_endsOperation_4 rfl hl (by decide) rfl (fun ls hl => ?_)
  refine lv_aload_n hx hb dX3_endsOperation_5 rfl (lv_at hl 0 rfl) ?_
  refine lv_ifnull hx hb dX3_endsOperation_6 ?_
  refine lv_aload_n hx hb dX3_endsOperation_9 rfl (lv_at hl 2 rfl) ?_
  refine c_gX0_7 C w hk kF_X3_208 dX3_endsOperation_10 ?_
  refine lv_topi (fun t_1 et_1 => ?_)
  refine lv_iconst (v := 1) hx hb dX3_endsOperation_13 (by decide) ?_
  refine lv_icmp_ne (tgt := 19) hx hb dX3_endsOperation_14 (by decide) (fun c_14 => ?_) (fun c_14 => ?_)
  · refine lv_aload_n hx hb dX3_endsOperation_19 rfl (lv_at hl 2 rfl) ?_
    refine c_gX0_7 C w hk kF_X3_208 dX3_endsOperation_20 ?_
    refine lv_topi (fun t_2 et_2 => ?_)
    refine lv_iconst (v := 3) hx hb dX3_endsOperation_23 (by decide) ?_
    refine lv_icmp_ne (tgt := 29) hx hb dX3_endsOperation_24 (by decide) (fun c_24 => ?_) (fun c_24 => ?_)
    · refine lv_aload_n hx hb dX3_endsOperation_29 rfl (lv_at hl 0 rfl) ?_
      refine c_callp (As := []) (rest := []) C (c_preX1 C w h1 h2) hml hl.1 (k_X1_isUpdate l D cI cZ cN cO A E n bg _ tt ok h1 h2) kM_X3_211 kI_X1_isUpdate kS_X1_isUpdate kN_X1 kD_X1_isUpdate (show yX1_isUpdate.cls = RX1 ∧ yX1_isUpdate.cls ≠ "java/lang/invoke/MethodHandle" ∧ yX1_isUpdate.cls ≠ "java/lang/invoke/VarHandle" ∧ (parseMethodDescriptor yX1_isUpdate.desc).map (fun d => d.parameters.length) = some 0 from by decide +kernel) rfl rfl ⟨Nat.le_of_ble_eq_true rfl, Nat.le_of_ble_eq_true rfl⟩ rfl (lv_room (Nat.le_of_ble_eq_true rfl)) dX3_endsOperation_30 ⟨Nat.zero_le _, Nat.zero_le _⟩ (fun r_3 hr_3 => ?_)
      refine lv_if_ne (tgt := 62) hx hb dX3_endsOperation_33 (by decide) (fun c_33 => ?_) (fun c_33 => ?_)
      · refine lv_iconst (v := 0) hx hb dX3_endsOperation_62 (by decide) ?_
        subst et_2 et_1
        exact W.zret (v := 0) (ty := .boolean) hx hb hr rfl (fun t ht hW => ⟨_, rfl, Or.inr ⟨rfl, fun h => h.2.elim c_24 (fun z => c_33 (by rw [hr_3, if_pos z.1]))⟩, ht⟩) (fun _ h => by cases h) dX3_endsOperation_63
      · refine lv_aload_n hx hb dX3_endsOperation_36 rfl (lv_at hl 0 rfl) ?_
        refine c_gX1_9 C w h1 h2 kF_X3_214 dX3_endsOperation_37 ?_
        refine lv_topi (fun t_4 et_4 => ?_)
        refine lv_if_le (tgt := 62) hx hb dX3_endsOperation_40 (by decide) (fun c_40 => ?_) (fun c_40 => ?_)
        · refine lv_iconst (v := 0) hx hb dX3_endsOperation_62 (by decide) ?_
          subst et_4 et_2 et_1
          exact W.zret (v := 0) (ty := .boolean) hx hb hr rfl (fun t ht hW => ⟨_, rfl, Or.inr ⟨rfl, fun h => h.2.elim c_24 (fun z => z.2.1 c_40)⟩, ht⟩) (fun _ h => by cases h) dX3_endsOperation_63
        · refine lv_aload_n hx hb dX3_endsOperation_43 rfl (lv_at hl 2 rfl) ?_
          refine c_callp (As := []) (rest := []) C (c_preX0 C w hk) hml hl.1 (k_X0_collectsAreAlike l D cI cZ cN cO A E n bg _ k ok hk) kM_X3_217 kI_X0_collectsAreAlike kS_X0_collectsAreAlike kN_X0 kD_X0_collectsAreAlike (show yX0_collectsAreAlike.cls = RX0 ∧ yX0_collectsAreAlike.cls ≠ "java/lang/invoke/MethodHandle" ∧ yX0_collectsAreAlike.cls ≠ "java/lang/invoke/VarHandle" ∧ (parseMethodDescriptor yX0_collectsAreAlike.desc).map (fun d => d.parameters.length) = some 0 from by decide +kernel) rfl rfl ⟨Nat.le_of_ble_eq_true rfl, Nat.le_of_ble_eq_true rfl⟩ rfl (lv_room (Nat.le_of_ble_eq_true rfl)) dX3_endsOperation_44 ⟨Nat.zero_le _, Nat.zero_le _⟩ (fun r_5 hr_5 => ?_)
          refine lv_if_ne (tgt := 58) hx hb dX3_endsOperation_47 (by decide) (fun c_47 => ?_) (fun c_47 => ?_)
          · refine lv_iconst (v := 1) hx hb dX3_endsOperation_58 (by decide) ?_
            refine lv_goto (tgt := 63) hx hb dX3_endsOperation_59 (by decide) ?_
            subst et_4 et_2 et_1
            exact W.zret (v := 1) (ty := .boolean) hx hb hr rfl (fun t ht hW => ⟨_, rfl, Or.inl ⟨rfl, c_14, Or.inr ⟨(by by_cases z : 3 < σ.1 3 tt 2; exact z; rw [if_neg z] at hr_3; exact absurd (hr_3.symm.trans c_33) (by decide)), c_40, Or.inl (hr_5.elim (fun z => z.2) (fun z => absurd z.1 c_47))⟩⟩, ht⟩) (fun _ h => by cases h) dX3_endsOperation_63
          · refine lv_aload_n hx hb dX3_endsOperation_50 rfl (lv_at hl 1 rfl) ?_
            refine lv_aload_n hx hb dX3_endsOperation_51 rfl (lv_at hl 2 rfl) ?_
            refine c_callq (As := [.ref ((E.2.2.1 k))]) (rest := []) C (c_preX3 C w) hml hl.1 (k_lender l D cI cZ cN cO A E n bg _ k ok hk (hld (by rw [← et_1]; exact c_14) (by rw [← et_2]; exact c_24) (by rw [← et_4]; exact c_40))) kM_X3_220 kI_X3_lender kS_X3_lender kN_X3 kD_X3_lender (show yX3_lender.cls = RX3 ∧ yX3_lender.cls ≠ "java/lang/invoke/MethodHandle" ∧ yX3_lender.cls ≠ "java/lang/invoke/VarHandle" ∧ (parseMethodDescriptor yX3_lender.desc).map (fun d => d.parameters.length) = some 1 from by decide +kernel) rfl rfl ⟨Nat.le_of_ble_eq_true rfl, Nat.le_of_ble_eq_true rfl⟩ rfl (lv_room (Nat.le_of_ble_eq_true rfl)) dX3_endsOperation_52 ⟨Nat.zero_le _, Nat.zero_le _⟩ (fun r_6 hr_6 => ?_)
            by_cases hA : cAny n k σ
            · rw [cif_pos hA] at hr_6
              subst hr_6
              dsimp only [va_rf]
              refine lv_ifnull hx hb dX3_endsOperation_55 ?_
              refine lv_iconst (v := 1) hx hb dX3_endsOperation_58 (by decide) ?_
              refine lv_goto (tgt := 63) hx hb dX3_endsOperation_59 (by decide) ?_
              subst et_4 et_2 et_1
              exact W.zret (v := 1) (ty := .boolean) hx hb hr rfl (fun t ht hW => ⟨_, rfl, Or.inl ⟨rfl, c_14, Or.inr ⟨(by by_cases z : 3 < σ.1 3 tt 2; exact z; rw [if_neg z] at hr_3; exact absurd (hr_3.symm.trans c_33) (by decide)), c_40, Or.inr hA⟩⟩, ht⟩) (fun _ h => by cases h) dX3_endsOperation_63
            · rw [cif_neg hA] at hr_6
              subst hr_6
              dsimp only [va_rf]
              refine lv_ifnullN (tgt := 62) hx hb dX3_endsOperation_55 (by decide) ?_
              refine lv_iconst (v := 0) hx hb dX3_endsOperation_62 (by decide) ?_
              subst et_4 et_2 et_1
              exact W.zret (v := 0) (ty := .boolean) hx hb hr rfl (fun t ht hW => ⟨_, rfl, Or.inr ⟨rfl, fun h => h.2.elim c_24 (fun z => z.2.2.elim (fun q => hr_5.elim (fun y => absurd (y.1.symm.trans c_47) (by decide)) (fun y => y.2 q)) hA)⟩, ht⟩) (fun _ h => by cases h) dX3_endsOperation_63
    · refine lv_iconst (v := 1) hx hb dX3_endsOperation_27 (by decide) ?_
      subst et_2 et_1
      exact W.zret (v := 1) (ty := .boolean) hx hb hr rfl (fun t ht hW => ⟨_, rfl, Or.inl ⟨rfl, c_14, Or.inl c_24⟩, ht⟩) (fun _ h => by cases h) dX3_endsOperation_28
  · refine lv_iconst (v := 0) hx hb dX3_endsOperation_17 (by decide) ?_
    subst et_1
    exact W.zret (v := 0) (ty := .boolean) hx hb hr rfl (fun t ht hW => ⟨_, rfl, Or.inr ⟨rfl, fun h => h.1 c_14⟩, ht⟩) (fun _ h => by cases h) dX3_endsOperation_18
set_option maxHeartbeats 4000000 in
set_option maxRecDepth 100000 in
theorem k_useNq (l : Launch) (D : va_G) (cI cZ cN cO : ClassId) (A : Nat → Prop) (E : CE) (n bg : Nat) (σ : CS) (k tt : Nat) (ok : cOK n bg σ) (hk : k < n) (h1 : 1 ≤ tt) (h2 : tt ≤ bg) (hq : 3 < σ.1 3 tt 2) : Met l yX3_useView (.code yX3_useView cX3_useView 4 none :: gw) ({ frames := 3, cells := 0, slots := 0, locals := 91 }) (va_Pc (.ref (E.1 0) :: [.ref ((E.2.2.1 k)), .ref ((E.2.2.2.2.1 tt)), .ref ((E.2.2.2.1 k 2))]) (cH D cI cZ cN cO A E n bg σ)) (va_Qv (fun _ : Unit => True) (fun _ t => cH D cI cZ cN cO A E n bg (cEndOp k tt (cSee n tt (σ.2.1 2 k 2) σ)) t ∧ cOK n bg (cEndOp k tt (cSee n tt (σ.2.1 2 k 2) σ))) A) 0 0 A := by
  refine Met.ofW (cc := cX3_useView) (maxL := 4) (ret := none) (by decide) rfl ?_
  intro p e s m args below meth c s₁ B hml hv
  obtain ⟨rfl, hP, hK, hD⟩ := hv
  have hx := B.exec
  have hb := B.bytes
  have hr := B.returns
  have hts := atoms_spec (ws := (.code yX3_useView cX3_useView 4 none :: gw)) B.pre
  have hg : ∀ w ∈ gw, w.before _ s = true := fun w h => hts w (List.mem_cons_of_mem _ h)
  have hown : s.vm.findClass RX3 = some m.cls := findClass_of_methodNamed B.named
  have hlocks := B.notSynchronized
  have C : Cx p c cX3_useView s m _ RX3 D (gTy cI cZ cN cO) := ⟨hx, hb, hown, hg, hK⟩
  have w : cWd D cI cN cO A s.heap E n bg σ s.heap [] := ⟨hP, hD, va_S.rf⟩
  have hl := lv_entry ([.ref ((E.1 0)), .ref ((E.2.2.1 k)), .ref ((E.2.2.2.2.1 tt)), .ref ((E.2.2.2.1 k 2))]) (n := 4) (Nat.le_of_ble_eq_true rfl)
  rw [lg_entry_eq]
  generalize (lg_sl ([.ref ((E.1 0)), .ref ((E.2.2.1 k)), .ref ((E.2.2.2.2.1 tt)), .ref ((E.2.2.2.1 k 2))]) ++ List.replicate (4 - (lg_sl ([.ref ((E.1 0)), .ref ((E.2.2.1 k)), .ref ((E.2.2.2.2.1 tt)), .ref ((E.2.2.2.1 k 2))])).length) Slot.unset).toArray = ls at hl ⊢
  have hl : lv_has ls 4 [(0, .ref ((E.1 0))), (1, .ref ((E.2.2.1 k))), (2, .ref ((E.2.2.2.2.1 tt))), (3, .ref ((E.2.2.2.1 k 2)))] := hl
  refine lv_aload_n hx hb dX3_useView_0 rfl (lv_at hl 2 rfl) ?_
  refine lv_aload_n hx hb dX3_useView_1 rfl (lv_at hl 3 rfl) ?_
  refine c_callv (As := [.ref ((E.2.2.2.1 k 2))]) (rest := []) C (c_preX1 C w h1 h2) w.2.2 hml hl.1 (k_seeN l D cI cZ cN cO A E n bg _ tt k ok h1 h2 hk) kM_X3_265 kI_X1_see kS_X1_see kN_X1 kD_X1_see (show yX1_see.cls = RX1 ∧ yX1_see.cls ≠ "java/lang/invoke/MethodHandle" ∧ yX1_see.cls ≠ "java/lang/invoke/VarHandle" ∧ (parseMethodDescriptor yX1_see.desc).map (fun d => d.parameters.length) = some 1 from by decide +kernel) rfl rfl ⟨Nat.le_of_ble_eq_true rfl, Nat.le_of_ble_eq_true rfl⟩ rfl (lv_room (Nat.le_of_ble_eq_true rfl)) dX3_useView_2 ⟨Nat.zero_le _, Nat.zero_le _⟩ (fun H locs w ok => ?_)
  refine lv_aload_n hx hb dX3_useView_5 rfl (lv_at hl 2 rfl) ?_
  refine c_callp (As := []) (rest := []) C (c_preX1 C w h1 h2) hml hl.1 (k_X1_isUpdate l D cI cZ cN cO A E n bg _ tt ok h1 h2) kM_X3_211 kI_X1_isUpdate kS_X1_isUpdate kN_X1 kD_X1_isUpdate (show yX1_isUpdate.cls = RX1 ∧ yX1_isUpdate.cls ≠ "java/lang/invoke/MethodHandle" ∧ yX1_isUpdate.cls ≠ "java/lang/invoke/VarHandle" ∧ (parseMethodDescriptor yX1_isUpdate.desc).map (fun d => d.parameters.length) = some 0 from by decide +kernel) rfl rfl ⟨Nat.le_of_ble_eq_true rfl, Nat.le_of_ble_eq_true rfl⟩ rfl (lv_room (Nat.le_of_ble_eq_true rfl)) dX3_useView_6 ⟨Nat.zero_le _, Nat.zero_le _⟩ (fun r_1 hr_1 => ?_)
  rw [cSee_kd, if_pos hq] at hr_1
  subst hr_1
  refine lv_if_eq (tgt := 34) hx hb dX3_useView_9 (by decide) (fun c_9 => ?_) (fun c_9 => absurd rfl c_9)
  refine lv_aload_n hx hb dX3_useView_34 rfl (lv_at hl 0 rfl) ?_
  refine lv_aload_n hx hb dX3_useView_35 rfl (lv_at hl 1 rfl) ?_
  refine lv_aload_n hx hb dX3_useView_36 rfl (lv_at hl 2 rfl) ?_
  refine c_callv (As := [.ref ((E.2.2.1 k)), .ref ((E.2.2.2.2.1 tt))]) (rest := []) C (c_preX3 C w) w.2.2 hml hl.1 (k_X3_endOperation l D cI cZ cN cO A E n bg _ k tt ok hk h1 h2) kM_X3_235 kI_X3_endOperation kS_X3_endOperation kN_X3 kD_X3_endOperation (show yX3_endOperation.cls = RX3 ∧ yX3_endOperation.cls ≠ "java/lang/invoke/MethodHandle" ∧ yX3_endOperation.cls ≠ "java/lang/invoke/VarHandle" ∧ (parseMethodDescriptor yX3_endOperation.desc).map (fun d => d.parameters.length) = some 2 from by decide +kernel) rfl rfl ⟨Nat.le_of_ble_eq_true rfl, Nat.le_of_ble_eq_true rfl⟩ rfl (lv_room (Nat.le_of_ble_eq_true rfl)) dX3_useView_37 ⟨Nat.zero_le _, Nat.zero_le _⟩ (fun H locs w ok => ?_)
  exact W.vret hx hb hr (fun t ht hW => ⟨⟨(), rfl, trivial, ⟨by rw [ht]; exact w.1, va_K.moved hW.alike hK, w.2.1⟩, ok⟩, w.2.2.F ht⟩) w.2.2.2.2 dX3_useView_40
set_option maxHeartbeats 4000000 in
set_option maxRecDepth 100000 in
theorem k_useNu (l : Launch) (D : va_G) (cI cZ cN cO : ClassId) (A : Nat → Prop) (E : CE) (n bg : Nat) (σ : CS) (k tt : Nat) (ok : cOK n bg σ) (hk : k < n) (h1 : 1 ≤ tt) (h2 : tt ≤ bg) (hq : ¬ 3 < σ.1 3 tt 2) (hrm : lnN σ + n ≤ 2000) : Met l yX3_useView (.code yX3_useView cX3_useView 4 none :: gw) ({ frames := 3, cells := 0, slots := 0, locals := 91 }) (va_Pc (.ref (E.1 0) :: [.ref ((E.2.2.1 k)), .ref ((E.2.2.2.2.1 tt)), .ref ((E.2.2.2.1 k 2))]) (cH D cI cZ cN cO A E n bg σ)) (va_Qv (fun _ : Unit => True) (fun _ t => cH D cI cZ cN cO A E n bg (cWrt n k tt (cSee n tt (σ.2.1 2 k 2) σ)) t ∧ cOK n bg (cWrt n k tt (cSee n tt (σ.2.1 2 k 2) σ))) A) 0 0 A := by
  refine Met.ofW (cc := cX3_useView) (maxL := 4) (ret := none) (by decide) rfl ?_
  intro p e s m args below meth c s₁ B hml hv
  obtain ⟨rfl, hP, hK, hD⟩ := hv
  have hx := B.exec
  have hb := B.bytes
  have hr := B.returns
  have hts := atoms_spec (ws := (.code yX3_useView cX3_useView 4 none :: gw)) B.pre
  have hg : ∀ w ∈ gw, w.before _ s = true := fun w h => hts w (List.mem_cons_of_mem _ h)
  have hown : s.vm.findClass RX3 = some m.cls := findClass_of_methodNamed B.named
  have hlocks := B.notSynchronized
  have C : Cx p c cX3_useView s m _ RX3 D (gTy cI cZ cN cO) := ⟨hx, hb, hown, hg, hK⟩
  have w : cWd D cI cN cO A s.heap E n bg σ s.heap [] := ⟨hP, hD, va_S.rf⟩
  have hl := lv_entry ([.ref ((E.1 0)), .ref ((E.2.2.1 k)), .ref ((E.2.2.2.2.1 tt)), .ref ((E.2.2.2.1 k 2))]) (n := 4) (Nat.le_of_ble_eq_true rfl)
  rw [lg_entry_eq]
  generalize (lg_sl ([.ref ((E.1 0)), .ref ((E.2.2.1 k)), .ref ((E.2.2.2.2.1 tt)), .ref ((E.2.2.2.1 k 2))]) ++ List.replicate (4 - (lg_sl ([.ref ((E.1 0)), .ref ((E.2.2.1 k)), .ref ((E.2.2.2.2.1 tt)), .ref ((E.2.2.2.1 k 2))])).length) Slot.unset).toArray = ls at hl ⊢
  have hl : lv_has ls 4 [(0, .ref ((E.1 0))), (1, .ref ((E.2.2.1 k))), (2, .ref ((E.2.2.2.2.1 tt))), (3, .ref ((E.2.2.2.1 k 2)))] := hl
  refine lv_aload_n hx hb dX3_useView_0 rfl (lv_at hl 2 rfl) ?_
  refine lv_aload_n hx hb dX3_useView_1 rfl (lv_at hl 3 rfl) ?_
  refine c_callv (As := [.ref ((E.2.2.2.1 k 2))]) (rest := []) C (c_preX1 C w h1 h2) w.2.2 hml hl.1 (k_seeN l D cI cZ cN cO A E n bg _ tt k ok h1 h2 hk) kM_X3_265 kI_X1_see kS_X1_see kN_X1 kD_X1_see (show yX1_see.cls = RX1 ∧ yX1_see.cls ≠ "java/lang/invoke/MethodHandle" ∧ yX1_see.cls ≠ "java/lang/invoke/VarHandle" ∧ (parseMethodDescriptor yX1_see.desc).map (fun d => d.parameters.length) = some 1 from by decide +kernel) rfl rfl ⟨Nat.le_of_ble_eq_true rfl, Nat.le_of_ble_eq_true rfl⟩ rfl (lv_room (Nat.le_of_ble_eq_true rfl)) dX3_useView_2 ⟨Nat.zero_le _, Nat.zero_le _⟩ (fun H locs w ok => ?_)
  refine lv_aload_n hx hb dX3_useView_5 rfl (lv_at hl 2 rfl) ?_
  refine c_callp (As := []) (rest := []) C (c_preX1 C w h1 h2) hml hl.1 (k_X1_isUpdate l D cI cZ cN cO A E n bg _ tt ok h1 h2) kM_X3_211 kI_X1_isUpdate kS_X1_isUpdate kN_X1 kD_X1_isUpdate (show yX1_isUpdate.cls = RX1 ∧ yX1_isUpdate.cls ≠ "java/lang/invoke/MethodHandle" ∧ yX1_isUpdate.cls ≠ "java/lang/invoke/VarHandle" ∧ (parseMethodDescriptor yX1_isUpdate.desc).map (fun d => d.parameters.length) = some 0 from by decide +kernel) rfl rfl ⟨Nat.le_of_ble_eq_true rfl, Nat.le_of_ble_eq_true rfl⟩ rfl (lv_room (Nat.le_of_ble_eq_true rfl)) dX3_useView_6 ⟨Nat.zero_le _, Nat.zero_le _⟩ (fun r_1 hr_1 => ?_)
  rw [cSee_kd, if_neg hq] at hr_1
  subst hr_1
  refine lv_if_eq (tgt := 34) hx hb dX3_useView_9 (by decide) (fun c_9 => absurd c_9 (by decide)) (fun c_9 => ?_)
  refine lv_aload_n hx hb dX3_useView_12 rfl (lv_at hl 2 rfl) ?_
  refine lv_aload_n hx hb dX3_useView_13 rfl (lv_at hl 1 rfl) ?_
  refine c_calli (As := []) (rest := [.ref ((E.2.2.2.2.1 tt))]) C (c_preX0 C w hk) w.2.2 hml hl.1 (k_X0_lengthenLog l D cI cZ cN cO A E n bg _ k ok hk) kM_X3_269 kI_X0_lengthenLog kS_X0_lengthenLog kN_X0 kD_X0_lengthenLog (show yX0_lengthenLog.cls = RX0 ∧ yX0_lengthenLog.cls ≠ "java/lang/invoke/MethodHandle" ∧ yX0_lengthenLog.cls ≠ "java/lang/invoke/VarHandle" ∧ (parseMethodDescriptor yX0_lengthenLog.desc).map (fun d => d.parameters.length) = some 0 from by decide +kernel) rfl rfl ⟨Nat.le_of_ble_eq_true rfl, Nat.le_of_ble_eq_true rfl⟩ rfl (lv_room (Nat.le_of_ble_eq_true rfl)) dX3_useView_14 ⟨Nat.zero_le _, Nat.zero_le _⟩ (fun r_2 H locs hr_2 w ok => ?_)
  refine c_pX1_11 (v := r_2) C w h1 h2 kF_X3_262 dX3_useView_17 (fun H locs w => ?_)
  have ok : cOK n bg _ := cOK.put ok (kd := 3) (ix := tt) (f := 11) (v := r_2) rfl
  refine lv_aload_n hx hb dX3_useView_20 rfl (lv_at hl 0 rfl) ?_
  refine lv_aload_n hx hb dX3_useView_21 rfl (lv_at hl 1 rfl) ?_
  refine lv_iconst (v := 2) hx hb dX3_useView_22 (by decide) ?_
  refine lv_iconst (v := 3) hx hb dX3_useView_23 (by decide) ?_
  refine lv_aload_n hx hb dX3_useView_24 rfl (lv_at hl 1 rfl) ?_
  refine c_gX0_5 C w hk kF_X3_272 dX3_useView_25 ?_
  subst hr_2
  refine c_callv (As := [.ref ((E.2.2.1 k)), .int 2, .int 3, .ref ((E.2.2.2.1 k 5))]) (rest := []) C (c_preX3 C w) w.2.2 hml hl.1 (k_toV5 l D cI cZ cN cO A E n bg _ k 2 3 ok hk hrm) kM_X3_227 kI_X3_sendToAll kS_X3_sendToAll kN_X3 kD_X3_sendToAll (show yX3_sendToAll.cls = RX3 ∧ yX3_sendToAll.cls ≠ "java/lang/invoke/MethodHandle" ∧ yX3_sendToAll.cls ≠ "java/lang/invoke/VarHandle" ∧ (parseMethodDescriptor yX3_sendToAll.desc).map (fun d => d.parameters.length) = some 4 from by decide +kernel) rfl rfl ⟨Nat.le_of_ble_eq_true rfl, Nat.le_of_ble_eq_true rfl⟩ rfl (lv_room (Nat.le_of_ble_eq_true rfl)) dX3_useView_28 ⟨Nat.zero_le _, Nat.zero_le _⟩ (fun H locs w ok => ?_)
  refine lv_goto (tgt := 40) hx hb dX3_useView_31 (by decide) ?_
  exact W.vret hx hb hr (fun t ht hW => ⟨⟨(), rfl, trivial, ⟨by rw [ht]; exact w.1, va_K.moved hW.alike hK, w.2.1⟩, ok⟩, w.2.2.F ht⟩) w.2.2.2.2 dX3_useView_40
set_option maxHeartbeats 4000000 in
set_option maxRecDepth 100000 in
theorem k_useN (l : Launch) (D : va_G) (cI cZ cN cO : ClassId) (A : Nat → Prop) (E : CE) (n bg : Nat) (σ : CS) (k tt : Nat) (ok : cOK n bg σ) (hk : k < n) (h1 : 1 ≤ tt) (h2 : tt ≤ bg) (hrm : ¬ 3 < σ.1 3 tt 2 → lnN σ + n ≤ 2000) : Met l yX3_useView (.code yX3_useView cX3_useView 4 none :: gw) ({ frames := 3, cells := 0, slots := 0, locals := 91 }) (va_Pc (.ref (E.1 0) :: [.ref (E.2.2.1 k), .ref (E.2.2.2.2.1 tt), .ref (E.2.2.2.1 k 2)]) (cH D cI cZ cN cO A E n bg σ)) (va_Qv (fun _ : Unit => True) (fun _ t => cH D cI cZ cN cO A E n bg (cUse n k tt (σ.2.1 2 k 2) σ) t ∧ cOK n bg (cUse n k tt (σ.2.1 2 k 2) σ)) A) 0 0 A := by
  by_cases hq : 3 < σ.1 3 tt 2
  · unfold cUse; rw [cif_pos hq]; exact k_useNq l D cI cZ cN cO A E n bg σ k tt ok hk h1 h2 hq
  · unfold cUse; rw [cif_neg hq]; exact k_useNu l D cI cZ cN cO A E n bg σ k tt ok hk h1 h2 hq (hrm hq)
set_option maxHeartbeats 4000000 in
set_option maxRecDepth 100000 in
theorem k_useOq (l : Launch) (D : va_G) (cI cZ cN cO : ClassId) (A : Nat → Prop) (E : CE) (n bg : Nat) (σ : CS) (k tt : Nat) (q : Nat) (ok : cOK n bg σ) (hk : k < n) (h1 : 1 ≤ tt) (h2 : tt ≤ bg) (g1 : 1 ≤ q) (g2 : q ≤ bg) (hq : 3 < σ.1 3 tt 2) : Met l yX3_useView (.code yX3_useView cX3_useView 4 none :: gw) ({ frames := 3, cells := 0, slots := 0, locals := 91 }) (va_Pc (.ref (E.1 0) :: [.ref ((E.2.2.1 k)), .ref ((E.2.2.2.2.1 tt)), .ref ((E.2.2.2.2.2 q))]) (cH D cI cZ cN cO A E n bg σ)) (va_Qv (fun _ : Unit => True) (fun _ t => cH D cI cZ cN cO A E n bg (cEndOp k tt (cSee n tt (σ.2.1 3 q 6) σ)) t ∧ cOK n bg (cEndOp k tt (cSee n tt (σ.2.1 3 q 6) σ))) A) 0 0 A := by
  refine Met.ofW (cc := cX3_useView) (maxL := 4) (ret := none) (by decide) rfl ?_
  intro p e s m args below meth c s₁ B hml hv
  obtain ⟨rfl, hP, hK, hD⟩ := hv
  have hx := B.exec
  have hb := B.bytes
  have hr := B.returns
  have hts := atoms_spec (ws := (.code yX3_useView cX3_useView 4 none :: gw)) B.pre
  have hg : ∀ w ∈ gw, w.before _ s = true := fun w h => hts w (List.mem_cons_of_mem _ h)
  have hown : s.vm.findClass RX3 = some m.cls := findClass_of_methodNamed B.named
  have hlocks := B.notSynchronized
  have C : Cx p c cX3_useView s m _ RX3 D (gTy cI cZ cN cO) := ⟨hx, hb, hown, hg, hK⟩
  have w : cWd D cI cN cO A s.heap E n bg σ s.heap [] := ⟨hP, hD, va_S.rf⟩
  have hl := lv_entry ([.ref ((E.1 0)), .ref ((E.2.2.1 k)), .ref ((E.2.2.2.2.1 tt)), .ref ((E.2.2.2.2.2 q))]) (n := 4) (Nat.le_of_ble_eq_true rfl)
  rw [lg_entry_eq]
  generalize (lg_sl ([.ref ((E.1 0)), .ref ((E.2.2.1 k)), .ref ((E.2.2.2.2.1 tt)), .ref ((E.2.2.2.2.2 q))]) ++ List.replicate (4 - (lg_sl ([.ref ((E.1 0)), .ref ((E.2.2.1 k)), .ref ((E.2.2.2.2.1 tt)), .ref ((E.2.2.2.2.2 q))])).length) Slot.unset).toArray = ls at hl ⊢
  have hl : lv_has ls 4 [(0, .ref ((E.1 0))), (1, .ref ((E.2.2.1 k))), (2, .ref ((E.2.2.2.2.1 tt))), (3, .ref ((E.2.2.2.2.2 q)))] := hl
  refine lv_aload_n hx hb dX3_useView_0 rfl (lv_at hl 2 rfl) ?_
  refine lv_aload_n hx hb dX3_useView_1 rfl (lv_at hl 3 rfl) ?_
  refine c_callv (As := [.ref ((E.2.2.2.2.2 q))]) (rest := []) C (c_preX1 C w h1 h2) w.2.2 hml hl.1 (k_seeO l D cI cZ cN cO A E n bg _ tt q ok h1 h2 g1 g2) kM_X3_265 kI_X1_see kS_X1_see kN_X1 kD_X1_see (show yX1_see.cls = RX1 ∧ yX1_see.cls ≠ "java/lang/invoke/MethodHandle" ∧ yX1_see.cls ≠ "java/lang/invoke/VarHandle" ∧ (parseMethodDescriptor yX1_see.desc).map (fun d => d.parameters.length) = some 1 from by decide +kernel) rfl rfl ⟨Nat.le_of_ble_eq_true rfl, Nat.le_of_ble_eq_true rfl⟩ rfl (lv_room (Nat.le_of_ble_eq_true rfl)) dX3_useView_2 ⟨Nat.zero_le _, Nat.zero_le _⟩ (fun H locs w ok => ?_)
  refine lv_aload_n hx hb dX3_useView_5 rfl (lv_at hl 2 rfl) ?_
  refine c_callp (As := []) (rest := []) C (c_preX1 C w h1 h2) hml hl.1 (k_X1_isUpdate l D cI cZ cN cO A E n bg _ tt ok h1 h2) kM_X3_211 kI_X1_isUpdate kS_X1_isUpdate kN_X1 kD_X1_isUpdate (show yX1_isUpdate.cls = RX1 ∧ yX1_isUpdate.cls ≠ "java/lang/invoke/MethodHandle" ∧ yX1_isUpdate.cls ≠ "java/lang/invoke/VarHandle" ∧ (parseMethodDescriptor yX1_isUpdate.desc).map (fun d => d.parameters.length) = some 0 from by decide +kernel) rfl rfl ⟨Nat.le_of_ble_eq_true rfl, Nat.le_of_ble_eq_true rfl⟩ rfl (lv_room (Nat.le_of_ble_eq_true rfl)) dX3_useView_6 ⟨Nat.zero_le _, Nat.zero_le _⟩ (fun r_1 hr_1 => ?_)
  rw [cSee_kd, if_pos hq] at hr_1
  subst hr_1
  refine lv_if_eq (tgt := 34) hx hb dX3_useView_9 (by decide) (fun c_9 => ?_) (fun c_9 => absurd rfl c_9)
  refine lv_aload_n hx hb dX3_useView_34 rfl (lv_at hl 0 rfl) ?_
  refine lv_aload_n hx hb dX3_useView_35 rfl (lv_at hl 1 rfl) ?_
  refine lv_aload_n hx hb dX3_useView_36 rfl (lv_at hl 2 rfl) ?_
  refine c_callv (As := [.ref ((E.2.2.1 k)), .ref ((E.2.2.2.2.1 tt))]) (rest := []) C (c_preX3 C w) w.2.2 hml hl.1 (k_X3_endOperation l D cI cZ cN cO A E n bg _ k tt ok hk h1 h2) kM_X3_235 kI_X3_endOperation kS_X3_endOperation kN_X3 kD_X3_endOperation (show yX3_endOperation.cls = RX3 ∧ yX3_endOperation.cls ≠ "java/lang/invoke/MethodHandle" ∧ yX3_endOperation.cls ≠ "java/lang/invoke/VarHandle" ∧ (parseMethodDescriptor yX3_endOperation.desc).map (fun d => d.parameters.length) = some 2 from by decide +kernel) rfl rfl ⟨Nat.le_of_ble_eq_true rfl, Nat.le_of_ble_eq_true rfl⟩ rfl (lv_room (Nat.le_of_ble_eq_true rfl)) dX3_useView_37 ⟨Nat.zero_le _, Nat.zero_le _⟩ (fun H locs w ok => ?_)
  exact W.vret hx hb hr (fun t ht hW => ⟨⟨(), rfl, trivial, ⟨by rw [ht]; exact w.1, va_K.moved hW.alike hK, w.2.1⟩, ok⟩, w.2.2.F ht⟩) w.2.2.2.2 dX3_useView_40
set_option maxHeartbeats 4000000 in
set_option maxRecDepth 100000 in
theorem k_useOu (l : Launch) (D : va_G) (cI cZ cN cO : ClassId) (A : Nat → Prop) (E : CE) (n bg : Nat) (σ : CS) (k tt : Nat) (q : Nat) (ok : cOK n bg σ) (hk : k < n) (h1 : 1 ≤ tt) (h2 : tt ≤ bg) (g1 : 1 ≤ q) (g2 : q ≤ bg) (hq : ¬ 3 < σ.1 3 tt 2) (hrm : lnN σ + n ≤ 2000) : Met l yX3_useView (.code yX3_useView cX3_useView 4 none :: gw) ({ frames := 3, cells := 0, slots := 0, locals := 91 }) (va_Pc (.ref (E.1 0) :: [.ref ((E.2.2.1 k)), .ref ((E.2.2.2.2.1 tt)), .ref ((E.2.2.2.2.2 q))]) (cH D cI cZ cN cO A E n bg σ)) (va_Qv (fun _ : Unit => True) (fun _ t => cH D cI cZ cN cO A E n bg (cWrt n k tt (cSee n tt (σ.2.1 3 q 6) σ)) t ∧ cOK n bg (cWrt n k tt (cSee n tt (σ.2.1 3 q 6) σ))) A) 0 0 A := by
  refine Met.ofW (cc := cX3_useView) (maxL := 4) (ret := none) (by decide) rfl ?_
  intro p e s m args below meth c s₁ B hml hv
  obtain ⟨rfl, hP, hK, hD⟩ := hv
  have hx := B.exec
  have hb := B.bytes
  have hr := B.returns
  have hts := atoms_spec (ws := (.code yX3_useView cX3_useView 4 none :: gw)) B.pre
  have hg : ∀ w ∈ gw, w.before _ s = true := fun w h => hts w (List.mem_cons_of_mem _ h)
  have hown : s.vm.findClass RX3 = some m.cls := findClass_of_methodNamed B.named
  have hlocks := B.notSynchronized
  have C : Cx p c cX3_useView s m _ RX3 D (gTy cI cZ cN cO) := ⟨hx, hb, hown, hg, hK⟩
  have w : cWd D cI cN cO A s.heap E n bg σ s.heap [] := ⟨hP, hD, va_S.rf⟩
  have hl := lv_entry ([.ref ((E.1 0)), .ref ((E.2.2.1 k)), .ref ((E.2.2.2.2.1 tt)), .ref ((E.2.2.2.2.2 q))]) (n := 4) (Nat.le_of_ble_eq_true rfl)
  rw [lg_entry_eq]
  generalize (lg_sl ([.ref ((E.1 0)), .ref ((E.2.2.1 k)), .ref ((E.2.2.2.2.1 tt)), .ref ((E.2.2.2.2.2 q))]) ++ List.replicate (4 - (lg_sl ([.ref ((E.1 0)), .ref ((E.2.2.1 k)), .ref ((E.2.2.2.2.1 tt)), .ref ((E.2.2.2.2.2 q))])).length) Slot.unset).toArray = ls at hl ⊢
  have hl : lv_has ls 4 [(0, .ref ((E.1 0))), (1, .ref ((E.2.2.1 k))), (2, .ref ((E.2.2.2.2.1 tt))), (3, .ref ((E.2.2.2.2.2 q)))] := hl
  refine lv_aload_n hx hb dX3_useView_0 rfl (lv_at hl 2 rfl) ?_
  refine lv_aload_n hx hb dX3_useView_1 rfl (lv_at hl 3 rfl) ?_
  refine c_callv (As := [.ref ((E.2.2.2.2.2 q))]) (rest := []) C (c_preX1 C w h1 h2) w.2.2 hml hl.1 (k_seeO l D cI cZ cN cO A E n bg _ tt q ok h1 h2 g1 g2) kM_X3_265 kI_X1_see kS_X1_see kN_X1 kD_X1_see (show yX1_see.cls = RX1 ∧ yX1_see.cls ≠ "java/lang/invoke/MethodHandle" ∧ yX1_see.cls ≠ "java/lang/invoke/VarHandle" ∧ (parseMethodDescriptor yX1_see.desc).map (fun d => d.parameters.length) = some 1 from by decide +kernel) rfl rfl ⟨Nat.le_of_ble_eq_true rfl, Nat.le_of_ble_eq_true rfl⟩ rfl (lv_room (Nat.le_of_ble_eq_true rfl)) dX3_useView_2 ⟨Nat.zero_le _, Nat.zero_le _⟩ (fun H locs w ok => ?_)
  refine lv_aload_n hx hb dX3_useView_5 rfl (lv_at hl 2 rfl) ?_
  refine c_callp (As := []) (rest := []) C (c_preX1 C w h1 h2) hml hl.1 (k_X1_isUpdate l D cI cZ cN cO A E n bg _ tt ok h1 h2) kM_X3_211 kI_X1_isUpdate kS_X1_isUpdate kN_X1 kD_X1_isUpdate (show yX1_isUpdate.cls = RX1 ∧ yX1_isUpdate.cls ≠ "java/lang/invoke/MethodHandle" ∧ yX1_isUpdate.cls ≠ "java/lang/invoke/VarHandle" ∧ (parseMethodDescriptor yX1_isUpdate.desc).map (fun d => d.parameters.length) = some 0 from by decide +kernel) rfl rfl ⟨Nat.le_of_ble_eq_true rfl, Nat.le_of_ble_eq_true rfl⟩ rfl (lv_room (Nat.le_of_ble_eq_true rfl)) dX3_useView_6 ⟨Nat.zero_le _, Nat.zero_le _⟩ (fun r_1 hr_1 => ?_)
  rw [cSee_kd, if_neg hq] at hr_1
  subst hr_1
  refine lv_if_eq (tgt := 34) hx hb dX3_useView_9 (by decide) (fun c_9 => absurd c_9 (by decide)) (fun c_9 => ?_)
  refine lv_aload_n hx hb dX3_useView_12 rfl (lv_at hl 2 rfl) ?_
  refine lv_aload_n hx hb dX3_useView_13 rfl (lv_at hl 1 rfl) ?_
  refine c_calli (As := []) (rest := [.ref ((E.2.2.2.2.1 tt))]) C (c_preX0 C w hk) w.2.2 hml hl.1 (k_X0_lengthenLog l D cI cZ cN cO A E n bg _ k ok hk) kM_X3_269 kI_X0_lengthenLog kS_X0_lengthenLog kN_X0 kD_X0_lengthenLog (show yX0_lengthenLog.cls = RX0 ∧ yX0_lengthenLog.cls ≠ "java/lang/invoke/MethodHandle" ∧ yX0_lengthenLog.cls ≠ "java/lang/invoke/VarHandle" ∧ (parseMethodDescriptor yX0_lengthenLog.desc).map (fun d => d.parameters.length) = some 0 from by decide +kernel) rfl rfl ⟨Nat.le_of_ble_eq_true rfl, Nat.le_of_ble_eq_true rfl⟩ rfl (lv_room (Nat.le_of_ble_eq_true rfl)) dX3_useView_14 ⟨Nat.zero_le _, Nat.zero_le _⟩ (fun r_2 H locs hr_2 w ok => ?_)
  refine c_pX1_11 (v := r_2) C w h1 h2 kF_X3_262 dX3_useView_17 (fun H locs w => ?_)
  have ok : cOK n bg _ := cOK.put ok (kd := 3) (ix := tt) (f := 11) (v := r_2) rfl
  refine lv_aload_n hx hb dX3_useView_20 rfl (lv_at hl 0 rfl) ?_
  refine lv_aload_n hx hb dX3_useView_21 rfl (lv_at hl 1 rfl) ?_
  refine lv_iconst (v := 2) hx hb dX3_useView_22 (by decide) ?_
  refine lv_iconst (v := 3) hx hb dX3_useView_23 (by decide) ?_
  refine lv_aload_n hx hb dX3_useView_24 rfl (lv_at hl 1 rfl) ?_
  refine c_gX0_5 C w hk kF_X3_272 dX3_useView_25 ?_
  subst hr_2
  refine c_callv (As := [.ref ((E.2.2.1 k)), .int 2, .int 3, .ref ((E.2.2.2.1 k 5))]) (rest := []) C (c_preX3 C w) w.2.2 hml hl.1 (k_toV5 l D cI cZ cN cO A E n bg _ k 2 3 ok hk hrm) kM_X3_227 kI_X3_sendToAll kS_X3_sendToAll kN_X3 kD_X3_sendToAll (show yX3_sendToAll.cls = RX3 ∧ yX3_sendToAll.cls ≠ "java/lang/invoke/MethodHandle" ∧ yX3_sendToAll.cls ≠ "java/lang/invoke/VarHandle" ∧ (parseMethodDescriptor yX3_sendToAll.desc).map (fun d => d.parameters.length) = some 4 from by decide +kernel) rfl rfl ⟨Nat.le_of_ble_eq_true rfl, Nat.le_of_ble_eq_true rfl⟩ rfl (lv_room (Nat.le_of_ble_eq_true rfl)) dX3_useView_28 ⟨Nat.zero_le _, Nat.zero_le _⟩ (fun H locs w ok => ?_)
  refine lv_goto (tgt := 40) hx hb dX3_useView_31 (by decide) ?_
  exact W.vret hx hb hr (fun t ht hW => ⟨⟨(), rfl, trivial, ⟨by rw [ht]; exact w.1, va_K.moved hW.alike hK, w.2.1⟩, ok⟩, w.2.2.F ht⟩) w.2.2.2.2 dX3_useView_40
set_option maxHeartbeats 4000000 in
set_option maxRecDepth 100000 in
theorem k_useO (l : Launch) (D : va_G) (cI cZ cN cO : ClassId) (A : Nat → Prop) (E : CE) (n bg : Nat) (σ : CS) (k tt : Nat) (q : Nat) (ok : cOK n bg σ) (hk : k < n) (h1 : 1 ≤ tt) (h2 : tt ≤ bg) (g1 : 1 ≤ q) (g2 : q ≤ bg) (hrm : ¬ 3 < σ.1 3 tt 2 → lnN σ + n ≤ 2000) : Met l yX3_useView (.code yX3_useView cX3_useView 4 none :: gw) ({ frames := 3, cells := 0, slots := 0, locals := 91 }) (va_Pc (.ref (E.1 0) :: [.ref (E.2.2.1 k), .ref (E.2.2.2.2.1 tt), .ref (E.2.2.2.2.2 q)]) (cH D cI cZ cN cO A E n bg σ)) (va_Qv (fun _ : Unit => True) (fun _ t => cH D cI cZ cN cO A E n bg (cUse n k tt (σ.2.1 3 q 6) σ) t ∧ cOK n bg (cUse n k tt (σ.2.1 3 q 6) σ)) A) 0 0 A := by
  by_cases hq : 3 < σ.1 3 tt 2
  · unfold cUse; rw [cif_pos hq]; exact k_useOq l D cI cZ cN cO A E n bg σ k tt q ok hk h1 h2 g1 g2 hq
  · unfold cUse; rw [cif_neg hq]; exact k_useOu l D cI cZ cN cO A E n bg σ k tt q ok hk h1 h2 g1 g2 hq (hrm hq)
theorem cCo_kd {t : Nat} {σ : CS} : (cCo t σ).1 3 t 2 = σ.1 3 t 2 := (cI_ne (by decide)).trans (cI_ne (by decide))
theorem cBor_kd {t q : Nat} {σ : CS} : (cBor t q σ).1 3 t 2 = σ.1 3 t 2 := (cI_ne (by decide)).trans (cI_ne (by decide))
set_option maxHeartbeats 4000000 in
set_option maxRecDepth 100000 in
theorem k_ecoA (l : Launch) (D : va_G) (cI cZ cN cO : ClassId) (A : Nat → Prop) (E : CE) (n bg : Nat) (σ : CS) (k tt : Nat) (ok : cOK n bg σ) (hk : k < n) (h1 : 1 ≤ tt) (h2 : tt ≤ bg) (h0 : σ.1 3 tt 9 = 0) (hrm : lnN σ + n ≤ 2000) : Met l yX3_endCollect (.code yX3_endCollect cX3_endCollect 5 none :: gw) ({ frames := 4, cells := 0, slots := 0, locals := 114 }) (va_Pc (.ref (E.1 0) :: [.ref ((E.2.2.1 k)), .ref ((E.2.2.2.2.1 tt))]) (cH D cI cZ cN cO A E n bg σ)) (va_Qv (fun _ : Unit => True) (fun _ t => cH D cI cZ cN cO A E n bg (cBegC n k (cRem1 n k (cCo tt σ))) t ∧ cOK n bg (cBegC n k (cRem1 n k (cCo tt σ)))) A) 0 0 A := by
  refine Met.ofW (cc := cX3_endCollect) (maxL := 5) (ret := none) (by decide) rfl ?_
  intro p e s m args below meth c s₁ B hml hv
  obtain ⟨rfl, hP, hK, hD⟩ := hv
  have hx := B.exec
  have hb := B.bytes
  have hr := B.returns
  have hts := atoms_spec (ws := (.code yX3_endCollect cX3_endCollect 5 none :: gw)) B.pre
  have hg : ∀ w ∈ gw, w.before _ s = true := fun w h => hts w (List.mem_cons_of_mem _ h)
  have hown : s.vm.findClass RX3 = some m.cls := findClass_of_methodNamed B.named
  have hlocks := B.notSynchronized
  have C : Cx p c cX3_endCollect s m _ RX3 D (gTy cI cZ cN cO) := ⟨hx, hb, hown, hg, hK⟩
  have w : cWd D cI cN cO A s.heap E n bg σ s.heap [] := ⟨hP, hD, va_S.rf⟩
  have hl := lv_entry ([.ref ((E.1 0)), .ref ((E.2.2.1 k)), .ref ((E.2.2.2.2.1 tt))]) (n := 5) (Nat.le_of_ble_eq_true rfl)
  rw [lg_entry_eq]
  generalize (lg_sl ([.ref ((E.1 0)), .ref ((E.2.2.1 k)), .ref ((E.2.2.2.2.1 tt))]) ++ List.replicate (5 - (lg_sl ([.ref ((E.1 0)), .ref ((E.2.2.1 k)), .ref ((E.2.2.2.2.1 tt))])).length) Slot.unset).toArray = ls at hl ⊢
  have hl : lv_has ls 5 [(0, .ref ((E.1 0))), (1, .ref ((E.2.2.1 k))), (2, .ref ((E.2.2.2.2.1 tt)))] := hl
  refine lv_aload_n hx hb dX3_endCollect_0 rfl (lv_at hl 2 rfl) ?_
  refine c_gX1_9 C w h1 h2 kF_X3_214 dX3_endCollect_1 ?_
  refine lv_if_ne (tgt := 11) hx hb dX3_endCollect_4 (by decide) (fun c_4 => absurd h0 c_4) (fun c_4 => ?_)
  refine lv_iconst (v := 1) hx hb dX3_endCollect_7 (by decide) ?_
  refine lv_goto (tgt := 12) hx hb dX3_endCollect_8 (by decide) ?_
  refine lv_istore_n (lv' := [(3, _), (0, _), (1, _), (2, _)]) C.1 C.2.1 dX3_endCollect_12 rfl hl (by decide) rfl (fun ls hl => ?_)
  refine lv_aload_n hx hb dX3_endCollect_13 rfl (lv_at hl 3 rfl) ?_
  refine lv_dup hx hb dX3_endCollect_14 rfl ?_
  refine c_gX1_9 C w h1 h2 kF_X3_214 dX3_endCollect_15 ?_
  refine lv_topi (fun t_1 et_1 => ?_)
  refine lv_iconst (v := 1) hx hb dX3_endCollect_18 (by decide) ?_
  refine lv_iadd hx hb dX3_endCollect_19 ?_
  refine lv_topi (fun t_2 et_2 => ?_)
  refine c_pX1_9 (v := t_2) C w h1 h2 kF_X3_214 dX3_endCollect_20 (fun H locs w => ?_)
  have ok : cOK n bg _ := cOK.put ok (kd := 3) (ix := tt) (f := 9) (v := t_2) rfl
  refine lv_aload_n hx hb dX3_endCollect_23 rfl (lv_at hl 1 rfl) ?_
  refine lv_aload_n hx hb dX3_endCollect_24 rfl (lv_at hl 1 rfl) ?_
  refine c_gX3_8 C w kF_X3_128 dX3_endCollect_25 ?_
  refine lv_topi (fun t_3 et_3 => ?_)
  refine lv_aload_n hx hb dX3_endCollect_28 rfl (lv_at hl 3 rfl) ?_
  refine c_gX1_9 C w h1 h2 kF_X3_214 dX3_endCollect_29 ?_
  refine lv_topi (fun t_4 et_4 => ?_)
  refine va_mmax C.1 C.2.1 (hml.trans hl.1.symm) C.2.2.1 (C.2.2.2.1 _ kM_X3_241) (C.2.2.2.1 _ kT_Lib_Math_max_name) (C.2.2.2.1 _ kN_java_lang_Math) (C.2.2.2.1 _ kD_Lib_Math_max_name) (Nat.le_of_ble_eq_true rfl) (Nat.le_of_ble_eq_true rfl) (Nat.zero_le _) (Nat.zero_le _) dX3_endCollect_32 ?_
  refine lv_topi (fun t_5 et_5 => ?_)
  have et_5 : t_5 = mx t_3 t_4 := et_5
  refine c_pX3_8 (v := t_5) C w kF_X3_128 dX3_endCollect_35 (fun H locs w => ?_)
  have ok : cOK n bg _ := cOK.put ok (kd := 0) (ix := 0) (f := 8) (v := t_5) rfl
  subst et_5 et_4 et_3 et_2 et_1
  have w : cWd D cI cN cO A s.heap E n bg (cCo tt σ) H locs := w
  have ok : cOK n bg (cCo tt σ) := ok
  refine lv_iload_n hx hb dX3_endCollect_38 rfl (lv_at hl 0 rfl) ?_
  refine lv_if_ne (tgt := 60) hx hb dX3_endCollect_39 (by decide) (fun c_39 => ?_) (fun c_39 => absurd c_39 (by decide))
  refine lv_iload_n hx hb dX3_endCollect_60 rfl (lv_at hl 0 rfl) ?_
  refine lv_if_eq (tgt := 68) hx hb dX3_endCollect_61 (by decide) (fun c_61 => absurd c_61 (by decide)) (fun c_61 => ?_)
  refine lv_null hx hb dX3_endCollect_64 ?_
  refine lv_goto (tgt := 73) hx hb dX3_endCollect_65 (by decide) ?_
  refine lv_astoreN (lv' := [(4, _), (3, _), (0, _), (1, _), (2, _)]) C.1 C.2.1 dX3_endCollect_73 hl (by decide) rfl (fun ls hl => ?_)
  refine lv_aloadN hx hb dX3_endCollect_75 (lv_at hl 0 rfl) ?_
  refine lv_ifnullN (tgt := 111) hx hb dX3_endCollect_77 (by decide) ?_
  refine lv_aload_n hx hb dX3_endCollect_111 rfl (lv_at hl 3 rfl) ?_
  refine lv_iload_n hx hb dX3_endCollect_112 rfl (lv_at hl 1 rfl) ?_
  refine c_callv (As := [.int 1]) (rest := []) C (c_preX0 C w hk) w.2.2 hml hl.1 (k_rem1 l D cI cZ cN cO A E n bg _ k ok hk) kM_X3_255 kI_X0_rememberCollect kS_X0_rememberCollect kN_X0 kD_X0_rememberCollect (show yX0_rememberCollect.cls = RX0 ∧ yX0_rememberCollect.cls ≠ "java/lang/invoke/MethodHandle" ∧ yX0_rememberCollect.cls ≠ "java/lang/invoke/VarHandle" ∧ (parseMethodDescriptor yX0_rememberCollect.desc).map (fun d => d.parameters.length) = some 1 from by decide +kernel) rfl rfl ⟨Nat.le_of_ble_eq_true rfl, Nat.le_of_ble_eq_true rfl⟩ rfl (lv_room (Nat.le_of_ble_eq_true rfl)) dX3_endCollect_113 ⟨Nat.zero_le _, Nat.zero_le _⟩ (fun H locs w ok => ?_)
  refine lv_aload_n hx hb dX3_endCollect_116 rfl (lv_at hl 2 rfl) ?_
  refine lv_aload_n hx hb dX3_endCollect_117 rfl (lv_at hl 3 rfl) ?_
  refine c_callv (As := [.ref ((E.2.2.1 k))]) (rest := []) C (c_preX3 C w) w.2.2 hml hl.1 (k_X3_beginCollect l D cI cZ cN cO A E n bg _ k ok hk hrm) kM_X3_153 kI_X3_beginCollect kS_X3_beginCollect kN_X3 kD_X3_beginCollect (show yX3_beginCollect.cls = RX3 ∧ yX3_beginCollect.cls ≠ "java/lang/invoke/MethodHandle" ∧ yX3_beginCollect.cls ≠ "java/lang/invoke/VarHandle" ∧ (parseMethodDescriptor yX3_beginCollect.desc).map (fun d => d.parameters.length) = some 1 from by decide +kernel) rfl rfl ⟨Nat.le_of_ble_eq_true rfl, Nat.le_of_ble_eq_true rfl⟩ rfl (lv_room (Nat.le_of_ble_eq_true rfl)) dX3_endCollect_118 ⟨Nat.zero_le _, Nat.zero_le _⟩ (fun H locs w ok => ?_)
  exact W.vret hx hb hr (fun t ht hW => ⟨⟨(), rfl, trivial, ⟨by rw [ht]; exact w.1, va_K.moved hW.alike hK, w.2.1⟩, ok⟩, w.2.2.F ht⟩) w.2.2.2.2 dX3_endCollect_121
set_option maxHeartbeats 4000000 in
set_option maxRecDepth 100000 in
theorem k_ecoB (l : Launch) (D : va_G) (cI cZ cN cO : ClassId) (A : Nat → Prop) (E : CE) (n bg : Nat) (σ : CS) (k tt : Nat) (ok : cOK n bg σ) (hk : k < n) (h1 : 1 ≤ tt) (h2 : tt ≤ bg) (h0 : ¬ σ.1 3 tt 9 = 0) (hsm : cSame n k σ) (hrm : ¬ 3 < σ.1 3 tt 2 → lnN σ + n ≤ 2000) : Met l yX3_endCollect (.code yX3_endCollect cX3_endCollect 5 none :: gw) ({ frames := 4, cells := 0, slots := 0, locals := 114 }) (va_Pc (.ref (E.1 0) :: [.ref ((E.2.2.1 k)), .ref ((E.2.2.2.2.1 tt))]) (cH D cI cZ cN cO A E n bg σ)) (va_Qv (fun _ : Unit => True) (fun _ t => cH D cI cZ cN cO A E n bg (cUse n k tt ((cCo tt σ).2.1 2 k 2) (cCo tt σ)) t ∧ cOK n bg (cUse n k tt ((cCo tt σ).2.1 2 k 2) (cCo tt σ))) A) 0 0 A := by
  refine Met.ofW (cc := cX3_endCollect) (maxL := 5) (ret := none) (by decide) rfl ?_
  intro p e s m args below meth c s₁ B hml hv
  obtain ⟨rfl, hP, hK, hD⟩ := hv
  have hx := B.exec
  have hb := B.bytes
  have hr := B.returns
  have hts := atoms_spec (ws := (.code yX3_endCollect cX3_endCollect 5 none :: gw)) B.pre
  have hg : ∀ w ∈ gw, w.before _ s = true := fun w h => hts w (List.mem_cons_of_mem _ h)
  have hown : s.vm.findClass RX3 = some m.cls := findClass_of_methodNamed B.named
  have hlocks := B.notSynchronized
  have C : Cx p c cX3_endCollect s m _ RX3 D (gTy cI cZ cN cO) := ⟨hx, hb, hown, hg, hK⟩
  have w : cWd D cI cN cO A s.heap E n bg σ s.heap [] := ⟨hP, hD, va_S.rf⟩
  have hl := lv_entry ([.ref ((E.1 0)), .ref ((E.2.2.1 k)), .ref ((E.2.2.2.2.1 tt))]) (n := 5) (Nat.le_of_ble_eq_true rfl)
  rw [lg_entry_eq]
  generalize (lg_sl ([.ref ((E.1 0)), .ref ((E.2.2.1 k)), .ref ((E.2.2.2.2.1 tt))]) ++ List.replicate (5 - (lg_sl ([.ref ((E.1 0)), .ref ((E.2.2.1 k)), .ref ((E.2.2.2.2.1 tt))])).length) Slot.unset).toArray = ls at hl ⊢
  have hl : lv_has ls 5 [(0, .ref ((E.1 0))), (1, .ref ((E.2.2.1 k))), (2, .ref ((E.2.2.2.2.1 tt)))] := hl
  refine lv_aload_n hx hb dX3_endCollect_0 rfl (lv_at hl 2 rfl) ?_
  refine c_gX1_9 C w h1 h2 kF_X3_214 dX3_endCollect_1 ?_
  refine lv_if_ne (tgt := 11) hx hb dX3_endCollect_4 (by decide) (fun c_4 => ?_) (fun c_4 => absurd c_4 h0)
  refine lv_iconst (v := 0) hx hb dX3_endCollect_11 (by decide) ?_
  refine lv_istore_n (lv' := [(3, _), (0, _), (1, _), (2, _)]) C.1 C.2.1 dX3_endCollect_12 rfl hl (by decide) rfl (fun ls hl => ?_)
  refine lv_aload_n hx hb dX3_endCollect_13 rfl (lv_at hl 3 rfl) ?_
  refine lv_dup hx hb dX3_endCollect_14 rfl ?_
  refine c_gX1_9 C w h1 h2 kF_X3_214 dX3_endCollect_15 ?_
  refine lv_topi (fun t_1 et_1 => ?_)
  refine lv_iconst (v := 1) hx hb dX3_endCollect_18 (by decide) ?_
  refine lv_iadd hx hb dX3_endCollect_19 ?_
  refine lv_topi (fun t_2 et_2 => ?_)
  refine c_pX1_9 (v := t_2) C w h1 h2 kF_X3_214 dX3_endCollect_20 (fun H locs w => ?_)
  have ok : cOK n bg _ := cOK.put ok (kd := 3) (ix := tt) (f := 9) (v := t_2) rfl
  refine lv_aload_n hx hb dX3_endCollect_23 rfl (lv_at hl 1 rfl) ?_
  refine lv_aload_n hx hb dX3_endCollect_24 rfl (lv_at hl 1 rfl) ?_
  refine c_gX3_8 C w kF_X3_128 dX3_endCollect_25 ?_
  refine lv_topi (fun t_3 et_3 => ?_)
  refine lv_aload_n hx hb dX3_endCollect_28 rfl (lv_at hl 3 rfl) ?_
  refine c_gX1_9 C w h1 h2 kF_X3_214 dX3_endCollect_29 ?_
  refine lv_topi (fun t_4 et_4 => ?_)
  refine va_mmax C.1 C.2.1 (hml.trans hl.1.symm) C.2.2.1 (C.2.2.2.1 _ kM_X3_241) (C.2.2.2.1 _ kT_Lib_Math_max_name) (C.2.2.2.1 _ kN_java_lang_Math) (C.2.2.2.1 _ kD_Lib_Math_max_name) (Nat.le_of_ble_eq_true rfl) (Nat.le_of_ble_eq_true rfl) (Nat.zero_le _) (Nat.zero_le _) dX3_endCollect_32 ?_
  refine lv_topi (fun t_5 et_5 => ?_)
  have et_5 : t_5 = mx t_3 t_4 := et_5
  refine c_pX3_8 (v := t_5) C w kF_X3_128 dX3_endCollect_35 (fun H locs w => ?_)
  have ok : cOK n bg _ := cOK.put ok (kd := 0) (ix := 0) (f := 8) (v := t_5) rfl
  subst et_5 et_4 et_3 et_2 et_1
  have w : cWd D cI cN cO A s.heap E n bg (cCo tt σ) H locs := w
  have ok : cOK n bg (cCo tt σ) := ok
  refine lv_iload_n hx hb dX3_endCollect_38 rfl (lv_at hl 0 rfl) ?_
  refine lv_if_ne (tgt := 60) hx hb dX3_endCollect_39 (by decide) (fun c_39 => absurd rfl c_39) (fun c_39 => ?_)
  refine lv_aload_n hx hb dX3_endCollect_42 rfl (lv_at hl 2 rfl) ?_
  refine c_callp (As := []) (rest := []) C (c_preX0 C w hk) hml hl.1 (k_X0_collectsAreAlike l D cI cZ cN cO A E n bg _ k ok hk) kM_X3_217 kI_X0_collectsAreAlike kS_X0_collectsAreAlike kN_X0 kD_X0_collectsAreAlike (show yX0_collectsAreAlike.cls = RX0 ∧ yX0_collectsAreAlike.cls ≠ "java/lang/invoke/MethodHandle" ∧ yX0_collectsAreAlike.cls ≠ "java/lang/invoke/VarHandle" ∧ (parseMethodDescriptor yX0_collectsAreAlike.desc).map (fun d => d.parameters.length) = some 0 from by decide +kernel) rfl rfl ⟨Nat.le_of_ble_eq_true rfl, Nat.le_of_ble_eq_true rfl⟩ rfl (lv_room (Nat.le_of_ble_eq_true rfl)) dX3_endCollect_43 ⟨Nat.zero_le _, Nat.zero_le _⟩ (fun r_6 hr_6 => ?_)
  obtain rfl : r_6 = 1 := hr_6.elim (fun z => z.1) (fun z => absurd hsm z.2)
  refine lv_if_eq (tgt := 60) hx hb dX3_endCollect_46 (by decide) (fun c_46 => absurd c_46 (by decide)) (fun c_46 => ?_)
  refine lv_aload_n hx hb dX3_endCollect_49 rfl (lv_at hl 1 rfl) ?_
  refine lv_aload_n hx hb dX3_endCollect_50 rfl (lv_at hl 2 rfl) ?_
  refine lv_aload_n hx hb dX3_endCollect_51 rfl (lv_at hl 3 rfl) ?_
  refine lv_aload_n hx hb dX3_endCollect_52 rfl (lv_at hl 2 rfl) ?_
  refine c_gX0_2 C w hk kF_X3_224 dX3_endCollect_53 ?_
  refine c_callv (As := [.ref ((E.2.2.1 k)), .ref ((E.2.2.2.2.1 tt)), .ref ((E.2.2.2.1 k 2))]) (rest := []) C (c_preX3 C w) w.2.2 hml hl.1 (k_useN l D cI cZ cN cO A E n bg _ k tt ok hk h1 h2 (fun z => hrm (by rw [cCo_kd] at z; exact z))) kM_X3_246 kI_X3_useView kS_X3_useView kN_X3 kD_X3_useView (show yX3_useView.cls = RX3 ∧ yX3_useView.cls ≠ "java/lang/invoke/MethodHandle" ∧ yX3_useView.cls ≠ "java/lang/invoke/VarHandle" ∧ (parseMethodDescriptor yX3_useView.desc).map (fun d => d.parameters.length) = some 3 from by decide +kernel) rfl rfl ⟨Nat.le_of_ble_eq_true rfl, Nat.le_of_ble_eq_true rfl⟩ rfl (lv_room (Nat.le_of_ble_eq_true rfl)) dX3_endCollect_56 ⟨Nat.zero_le _, Nat.zero_le _⟩ (fun H locs w ok => ?_)
  exact W.vret hx hb hr (fun t ht hW => ⟨⟨(), rfl, trivial, ⟨by rw [ht]; exact w.1, va_K.moved hW.alike hK, w.2.1⟩, ok⟩, w.2.2.F ht⟩) w.2.2.2.2 dX3_endCollect_59
set_option maxHeartbeats 4000000 in
set_option maxRecDepth 100000 in
theorem k_ecoC (l : Launch) (D : va_G) (cI cZ cN cO : ClassId) (A : Nat → Prop) (E : CE) (n bg : Nat) (σ : CS) (k tt : Nat) (ok : cOK n bg σ) (hk : k < n) (h1 : 1 ≤ tt) (h2 : tt ≤ bg) (h0 : ¬ σ.1 3 tt 9 = 0) (hsm : ¬ cSame n k σ) (hA : cAny n k σ) (hld : cLdOk n bg k (cCo tt σ)) (hrm : ¬ 3 < σ.1 3 tt 2 → lnN σ + n ≤ 2000) : Met l yX3_endCollect (.code yX3_endCollect cX3_endCollect 5 none :: gw) ({ frames := 4, cells := 0, slots := 0, locals := 114 }) (va_Pc (.ref (E.1 0) :: [.ref ((E.2.2.1 k)), .ref ((E.2.2.2.2.1 tt))]) (cH D cI cZ cN cO A E n bg σ)) (va_Qv (fun _ : Unit => True) (fun _ t => cH D cI cZ cN cO A E n bg (cUse n k tt ((cCo tt σ).2.1 3 (cLdr n bg k (cCo tt σ)) 6) (cBor tt (cLdr n bg k (cCo tt σ)) (cCo tt σ))) t ∧ cOK n bg (cUse n k tt ((cCo tt σ).2.1 3 (cLdr n bg k (cCo tt σ)) 6) (cBor tt (cLdr n bg k (cCo tt σ)) (cCo tt σ)))) A) 0 0 A := by
  refine Met.ofW (cc := cX3_endCollect) (maxL := 5) (ret := none) (by decide) rfl ?_
  intro p e s m args below meth c s₁ B hml hv
  obtain ⟨rfl, hP, hK, hD⟩ := hv
  have hx := B.exec
  have hb := B.bytes
  have hr := B.returns
  have hts := atoms_spec (ws := (.code yX3_endCollect cX3_endCollect 5 none :: gw)) B.pre
  have hg : ∀ w ∈ gw, w.before _ s = true := fun w h => hts w (List.mem_cons_of_mem _ h)
  have hown : s.vm.findClass RX3 = some m.cls := findClass_of_methodNamed B.named
  have hlocks := B.notSynchronized
  have C : Cx p c cX3_endCollect s m _ RX3 D (gTy cI cZ cN cO) := ⟨hx, hb, hown, hg, hK⟩
  have w : cWd D cI cN cO A s.heap E n bg σ s.heap [] := ⟨hP, hD, va_S.rf⟩
  have hl := lv_entry ([.ref ((E.1 0)), .ref ((E.2.2.1 k)), .ref ((E.2.2.2.2.1 tt))]) (n := 5) (Nat.le_of_ble_eq_true rfl)
  rw [lg_entry_eq]
  generalize (lg_sl ([.ref ((E.1 0)), .ref ((E.2.2.1 k)), .ref ((E.2.2.2.2.1 tt))]) ++ List.replicate (5 - (lg_sl ([.ref ((E.1 0)), .ref ((E.2.2.1 k)), .ref ((E.2.2.2.2.1 tt))])).length) Slot.unset).toArray = ls at hl ⊢
  have hl : lv_has ls 5 [(0, .ref ((E.1 0))), (1, .ref ((E.2.2.1 k))), (2, .ref ((E.2.2.2.2.1 tt)))] := hl
  refine lv_aload_n hx hb dX3_endCollect_0 rfl (lv_at hl 2 rfl) ?_
  refine c_gX1_9 C w h1 h2 kF_X3_214 dX3_endCollect_1 ?_
  refine lv_if_ne (tgt := 11) hx hb dX3_endCollect_4 (by decide) (fun c_4 => ?_) (fun c_4 => absurd c_4 h0)
  refine lv_iconst (v := 0) hx hb dX3_endCollect_11 (by decide) ?_
  refine lv_istore_n (lv' := [(3, _), (0, _), (1, _), (2, _)]) C.1 C.2.1 dX3_endCollect_12 rfl hl (by decide) rfl (fun ls hl => ?_)
  refine lv_aload_n hx hb dX3_endCollect_13 rfl (lv_at hl 3 rfl) ?_
  refine lv_dup hx hb dX3_endCollect_14 rfl ?_
  refine c_gX1_9 C w h1 h2 kF_X3_214 dX3_endCollect_15 ?_
  refine lv_topi (fun t_1 et_1 => ?_)
  refine lv_iconst (v := 1) hx hb dX3_endCollect_18 (by decide) ?_
  refine lv_iadd hx hb dX3_endCollect_19 ?_
  refine lv_topi (fun t_2 et_2 => ?_)
  refine c_pX1_9 (v := t_2) C w h1 h2 kF_X3_214 dX3_endCollect_20 (fun H locs w => ?_)
  have ok : cOK n bg _ := cOK.put ok (kd := 3) (ix := tt) (f := 9) (v := t_2) rfl
  refine lv_aload_n hx hb dX3_endCollect_23 rfl (lv_at hl 1 rfl) ?_
  refine lv_aload_n hx hb dX3_endCollect_24 rfl (lv_at hl 1 rfl) ?_
  refine c_gX3_8 C w kF_X3_128 dX3_endCollect_25 ?_
  refine lv_topi (fun t_3 et_3 => ?_)
  refine lv_aload_n hx hb dX3_endCollect_28 rfl (lv_at hl 3 rfl) ?_
  refine c_gX1_9 C w h1 h2 kF_X3_214 dX3_endCollect_29 ?_
  refine lv_topi (fun t_4 et_4 => ?_)
  refine va_mmax C.1 C.2.1 (hml.trans hl.1.symm) C.2.2.1 (C.2.2.2.1 _ kM_X3_241) (C.2.2.2.1 _ kT_Lib_Math_max_name) (C.2.2.2.1 _ kN_java_lang_Math) (C.2.2.2.1 _ kD_Lib_Math_max_name) (Nat.le_of_ble_eq_true rfl) (Nat.le_of_ble_eq_true rfl) (Nat.zero_le _) (Nat.zero_le _) dX3_endCollect_32 ?_
  refine lv_topi (fun t_5 et_5 => ?_)
  have et_5 : t_5 = mx t_3 t_4 := et_5
  refine c_pX3_8 (v := t_5) C w kF_X3_128 dX3_endCollect_35 (fun H locs w => ?_)
  have ok : cOK n bg _ := cOK.put ok (kd := 0) (ix := 0) (f := 8) (v := t_5) rfl
  subst et_5 et_4 et_3 et_2 et_1
  have w : cWd D cI cN cO A s.heap E n bg (cCo tt σ) H locs := w
  have ok : cOK n bg (cCo tt σ) := ok
  obtain ⟨g1, g2, -⟩ := lst_of1 (hld hA)
  refine lv_iload_n hx hb dX3_endCollect_38 rfl (lv_at hl 0 rfl) ?_
  refine lv_if_ne (tgt := 60) hx hb dX3_endCollect_39 (by decide) (fun c_39 => absurd rfl c_39) (fun c_39 => ?_)
  refine lv_aload_n hx hb dX3_endCollect_42 rfl (lv_at hl 2 rfl) ?_
  refine c_callp (As := []) (rest := []) C (c_preX0 C w hk) hml hl.1 (k_X0_collectsAreAlike l D cI cZ cN cO A E n bg _ k ok hk) kM_X3_217 kI_X0_collectsAreAlike kS_X0_collectsAreAlike kN_X0 kD_X0_collectsAreAlike (show yX0_collectsAreAlike.cls = RX0 ∧ yX0_collectsAreAlike.cls ≠ "java/lang/invoke/MethodHandle" ∧ yX0_collectsAreAlike.cls ≠ "java/lang/invoke/VarHandle" ∧ (parseMethodDescriptor yX0_collectsAreAlike.desc).map (fun d => d.parameters.length) = some 0 from by decide +kernel) rfl rfl ⟨Nat.le_of_ble_eq_true rfl, Nat.le_of_ble_eq_true rfl⟩ rfl (lv_room (Nat.le_of_ble_eq_true rfl)) dX3_endCollect_43 ⟨Nat.zero_le _, Nat.zero_le _⟩ (fun r_6 hr_6 => ?_)
  obtain rfl : r_6 = 0 := hr_6.elim (fun z => absurd z.2 hsm) (fun z => z.1)
  refine lv_if_eq (tgt := 60) hx hb dX3_endCollect_46 (by decide) (fun c_46 => ?_) (fun c_46 => absurd rfl c_46)
  refine lv_iload_n hx hb dX3_endCollect_60 rfl (lv_at hl 0 rfl) ?_
  refine lv_if_eq (tgt := 68) hx hb dX3_endCollect_61 (by decide) (fun c_61 => ?_) (fun c_61 => absurd rfl c_61)
  refine lv_aload_n hx hb dX3_endCollect_68 rfl (lv_at hl 1 rfl) ?_
  refine lv_aload_n hx hb dX3_endCollect_69 rfl (lv_at hl 2 rfl) ?_
  refine c_callq (As := [.ref ((E.2.2.1 k))]) (rest := []) C (c_preX3 C w) hml hl.1 (k_lender l D cI cZ cN cO A E n bg _ k ok hk hld) kM_X3_220 kI_X3_lender kS_X3_lender kN_X3 kD_X3_lender (show yX3_lender.cls = RX3 ∧ yX3_lender.cls ≠ "java/lang/invoke/MethodHandle" ∧ yX3_lender.cls ≠ "java/lang/invoke/VarHandle" ∧ (parseMethodDescriptor yX3_lender.desc).map (fun d => d.parameters.length) = some 1 from by decide +kernel) rfl rfl ⟨Nat.le_of_ble_eq_true rfl, Nat.le_of_ble_eq_true rfl⟩ rfl (lv_room (Nat.le_of_ble_eq_true rfl)) dX3_endCollect_70 ⟨Nat.zero_le _, Nat.zero_le _⟩ (fun r_7 hr_7 => ?_)
  rw [cif_pos (show cAny n k (cCo tt σ) from hA)] at hr_7
  subst hr_7
  dsimp only [va_rf]
  refine lv_astore (lv' := [(4, _), (3, _), (0, _), (1, _), (2, _)]) C.1 C.2.1 dX3_endCollect_73 hl (by decide) rfl (fun ls hl => ?_)
  refine lv_aload hx hb dX3_endCollect_75 (lv_at hl 0 rfl) ?_
  refine lv_ifnull hx hb dX3_endCollect_77 ?_
  refine lv_aload_n hx hb dX3_endCollect_80 rfl (lv_at hl 4 rfl) ?_
  refine lv_aload hx hb dX3_endCollect_81 (lv_at hl 0 rfl) ?_
  refine c_gX1_1 C w g1 g2 kF_X3_250 dX3_endCollect_83 ?_
  refine lv_topi (fun t_8 et_8 => ?_)
  refine c_pX1_10 (v := t_8) C w h1 h2 kF_X3_253 dX3_endCollect_86 (fun H locs w => ?_)
  have ok : cOK n bg _ := cOK.put ok (kd := 3) (ix := tt) (f := 10) (v := t_8) rfl
  refine lv_aload_n hx hb dX3_endCollect_89 rfl (lv_at hl 2 rfl) ?_
  refine lv_dup hx hb dX3_endCollect_90 rfl ?_
  refine c_gX3_7 C w kF_X3_125 dX3_endCollect_91 ?_
  refine lv_topi (fun t_9 et_9 => ?_)
  refine lv_iconst (v := 1) hx hb dX3_endCollect_94 (by decide) ?_
  refine lv_iadd hx hb dX3_endCollect_95 ?_
  refine lv_topi (fun t_10 et_10 => ?_)
  refine c_pX3_7 (v := t_10) C w kF_X3_125 dX3_endCollect_96 (fun H locs w => ?_)
  have ok : cOK n bg _ := cOK.put ok (kd := 0) (ix := 0) (f := 7) (v := t_10) rfl
  subst et_10 et_9 et_8
  have w : cWd D cI cN cO A s.heap E n bg (cBor tt (cLdr n bg k (cCo tt σ)) (cCo tt σ)) H locs := w
  have ok : cOK n bg (cBor tt (cLdr n bg k (cCo tt σ)) (cCo tt σ)) := ok
  refine lv_aload_n hx hb dX3_endCollect_99 rfl (lv_at hl 2 rfl) ?_
  refine lv_aload_n hx hb dX3_endCollect_100 rfl (lv_at hl 3 rfl) ?_
  refine lv_aload_n hx hb dX3_endCollect_101 rfl (lv_at hl 4 rfl) ?_
  refine lv_aload hx hb dX3_endCollect_102 (lv_at hl 0 rfl) ?_
  refine c_gX1_6 C w g1 g2 kF_X3_92 dX3_endCollect_104 ?_
  refine c_callv (As := [.ref ((E.2.2.1 k)), .ref ((E.2.2.2.2.1 tt)), .ref ((E.2.2.2.2.2 (cLdr n bg k (cCo tt σ))))]) (rest := []) C (c_preX3 C w) w.2.2 hml hl.1 (k_useO l D cI cZ cN cO A E n bg _ k tt (cLdr n bg k (cCo tt σ)) ok hk h1 h2 g1 g2 (fun z => hrm (by rw [cBor_kd, cCo_kd] at z; exact z))) kM_X3_246 kI_X3_useView kS_X3_useView kN_X3 kD_X3_useView (show yX3_useView.cls = RX3 ∧ yX3_useView.cls ≠ "java/lang/invoke/MethodHandle" ∧ yX3_useView.cls ≠ "java/lang/invoke/VarHandle" ∧ (parseMethodDescriptor yX3_useView.desc).map (fun d => d.parameters.length) = some 3 from by decide +kernel) rfl rfl ⟨Nat.le_of_ble_eq_true rfl, Nat.le_of_ble_eq_true rfl⟩ rfl (lv_room (Nat.le_of_ble_eq_true rfl)) dX3_endCollect_107 ⟨Nat.zero_le _, Nat.zero_le _⟩ (fun H locs w ok => ?_)
  exact W.vret hx hb hr (fun t ht hW => ⟨⟨(), rfl, trivial, ⟨by rw [ht]; exact w.1, va_K.moved hW.alike hK, w.2.1⟩, ok⟩, w.2.2.F ht⟩) w.2.2.2.2 dX3_endCollect_110
set_option maxHeartbeats 4000000 in
set_option maxRecDepth 100000 in
theorem k_ecoD (l : Launch) (D : va_G) (cI cZ cN cO : ClassId) (A : Nat → Prop) (E : CE) (n bg : Nat) (σ : CS) (k tt : Nat) (ok : cOK n bg σ) (hk : k < n) (h1 : 1 ≤ tt) (h2 : tt ≤ bg) (h0 : ¬ σ.1 3 tt 9 = 0) (hsm : ¬ cSame n k σ) (hA : ¬ cAny n k σ) (hrm : lnN σ + n ≤ 2000) : Met l yX3_endCollect (.code yX3_endCollect cX3_endCollect 5 none :: gw) ({ frames := 4, cells := 0, slots := 0, locals := 114 }) (va_Pc (.ref (E.1 0) :: [.ref ((E.2.2.1 k)), .ref ((E.2.2.2.2.1 tt))]) (cH D cI cZ cN cO A E n bg σ)) (va_Qv (fun _ : Unit => True) (fun _ t => cH D cI cZ cN cO A E n bg (cBegC n k (cRem0 n k (cCo tt σ))) t ∧ cOK n bg (cBegC n k (cRem0 n k (cCo tt σ)))) A) 0 0 A := by
  refine Met.ofW (cc := cX3_endCollect) (maxL := 5) (ret := none) (by decide) rfl ?_
  intro p e s m args below meth c s₁ B hml hv
  obtain ⟨rfl, hP, hK, hD⟩ := hv
  have hx := B.exec
  have hb := B.bytes
  have hr := B.returns
  have hts := atoms_spec (ws := (.code yX3_endCollect cX3_endCollect 5 none :: gw)) B.pre
  have hg : ∀ w ∈ gw, w.before _ s = true := fun w h => hts w (List.mem_cons_of_mem _ h)
  have hown : s.vm.findClass RX3 = some m.cls := findClass_of_methodNamed B.named
  have hlocks := B.notSynchronized
  have C : Cx p c cX3_endCollect s m _ RX3 D (gTy cI cZ cN cO) := ⟨hx, hb, hown, hg, hK⟩
  have w : cWd D cI cN cO A s.heap E n bg σ s.heap [] := ⟨hP, hD, va_S.rf⟩
  have hl := lv_entry ([.ref ((E.1 0)), .ref ((E.2.2.1 k)), .ref ((E.2.2.2.2.1 tt))]) (n := 5) (Nat.le_of_ble_eq_true rfl)
  rw [lg_entry_eq]
  generalize (lg_sl ([.ref ((E.1 0)), .ref ((E.2.2.1 k)), .ref ((E.2.2.2.2.1 tt))]) ++ List.replicate (5 - (lg_sl ([.ref ((E.1 0)), .ref ((E.2.2.1 k)), .ref ((E.2.2.2.2.1 tt))])).length) Slot.unset).toArray = ls at hl ⊢
  have hl : lv_has ls 5 [(0, .ref ((E.1 0))), (1, .ref ((E.2.2.1 k))), (2, .ref ((E.2.2.2.2.1 tt)))] := hl
  refine lv_aload_n hx hb dX3_endCollect_0 rfl (lv_at hl 2 rfl) ?_
  refine c_gX1_9 C w h1 h2 kF_X3_214 dX3_endCollect_1 ?_
  refine lv_if_ne (tgt := 11) hx hb dX3_endCollect_4 (by decide) (fun c_4 => ?_) (fun c_4 => absurd c_4 h0)
  refine lv_iconst (v := 0) hx hb dX3_endCollect_11 (by decide) ?_
  refine lv_istore_n (lv' := [(3, _), (0, _), (1, _), (2, _)]) C.1 C.2.1 dX3_endCollect_12 rfl hl (by decide) rfl (fun ls hl => ?_)
  refine lv_aload_n hx hb dX3_endCollect_13 rfl (lv_at hl 3 rfl) ?_
  refine lv_dup hx hb dX3_endCollect_14 rfl ?_
  refine c_gX1_9 C w h1 h2 kF_X3_214 dX3_endCollect_15 ?_
  refine lv_topi (fun t_1 et_1 => ?_)
  refine lv_iconst (v := 1) hx hb dX3_endCollect_18 (by decide) ?_
  refine lv_iadd hx hb dX3_endCollect_19 ?_
  refine lv_topi (fun t_2 et_2 => ?_)
  refine c_pX1_9 (v := t_2) C w h1 h2 kF_X3_214 dX3_endCollect_20 (fun H locs w => ?_)
  have ok : cOK n bg _ := cOK.put ok (kd := 3) (ix := tt) (f := 9) (v := t_2) rfl
  refine lv_aload_n hx hb dX3_endCollect_23 rfl (lv_at hl 1 rfl) ?_
  refine lv_aload_n hx hb dX3_endCollect_24 rfl (lv_at hl 1 rfl) ?_
  refine c_gX3_8 C w kF_X3_128 dX3_endCollect_25 ?_
  refine lv_topi (fun t_3 et_3 => ?_)
  refine lv_aload_n hx hb dX3_endCollect_28 rfl (lv_at hl 3 rfl) ?_
  refine c_gX1_9 C w h1 h2 kF_X3_214 dX3_endCollect_29 ?_
  refine lv_topi (fun t_4 et_4 => ?_)
  refine va_mmax C.1 C.2.1 (hml.trans hl.1.symm) C.2.2.1 (C.2.2.2.1 _ kM_X3_241) (C.2.2.2.1 _ kT_Lib_Math_max_name) (C.2.2.2.1 _ kN_java_lang_Math) (C.2.2.2.1 _ kD_Lib_Math_max_name) (Nat.le_of_ble_eq_true rfl) (Nat.le_of_ble_eq_true rfl) (Nat.zero_le _) (Nat.zero_le _) dX3_endCollect_32 ?_
  refine lv_topi (fun t_5 et_5 => ?_)
  have et_5 : t_5 = mx t_3 t_4 := et_5
  refine c_pX3_8 (v := t_5) C w kF_X3_128 dX3_endCollect_35 (fun H locs w => ?_)
  have ok : cOK n bg _ := cOK.put ok (kd := 0) (ix := 0) (f := 8) (v := t_5) rfl
  subst et_5 et_4 et_3 et_2 et_1
  have w : cWd D cI cN cO A s.heap E n bg (cCo tt σ) H locs := w
  have ok : cOK n bg (cCo tt σ) := ok
  refine lv_iload_n hx hb dX3_endCollect_38 rfl (lv_at hl 0 rfl) ?_
  refine lv_if_ne (tgt := 60) hx hb dX3_endCollect_39 (by decide) (fun c_39 => absurd rfl c_39) (fun c_39 => ?_)
  refine lv_aload_n hx hb dX3_endCollect_42 rfl (lv_at hl 2 rfl) ?_
  refine c_callp (As := []) (rest := []) C (c_preX0 C w hk) hml hl.1 (k_X0_collectsAreAlike l D cI cZ cN cO A E n bg _ k ok hk) kM_X3_217 kI_X0_collectsAreAlike kS_X0_collectsAreAlike kN_X0 kD_X0_collectsAreAlike (show yX0_collectsAreAlike.cls = RX0 ∧ yX0_collectsAreAlike.cls ≠ "java/lang/invoke/MethodHandle" ∧ yX0_collectsAreAlike.cls ≠ "java/lang/invoke/VarHandle" ∧ (parseMethodDescriptor yX0_collectsAreAlike.desc).map (fun d => d.parameters.length) = some 0 from by decide +kernel) rfl rfl ⟨Nat.le_of_ble_eq_true rfl, Nat.le_of_ble_eq_true rfl⟩ rfl (lv_room (Nat.le_of_ble_eq_true rfl)) dX3_endCollect_43 ⟨Nat.zero_le _, Nat.zero_le _⟩ (fun r_6 hr_6 => ?_)
  obtain rfl : r_6 = 0 := hr_6.elim (fun z => absurd z.2 hsm) (fun z => z.1)
  refine lv_if_eq (tgt := 60) hx hb dX3_endCollect_46 (by decide) (fun c_46 => ?_) (fun c_46 => absurd rfl c_46)
  refine lv_iload_n hx hb dX3_endCollect_60 rfl (lv_at hl 0 rfl) ?_
  refine lv_if_eq (tgt := 68) hx hb dX3_endCollect_61 (by decide) (fun c_61 => ?_) (fun c_61 => absurd rfl c_61)
  refine lv_aload_n hx hb dX3_endCollect_68 rfl (lv_at hl 1 rfl) ?_
  refine lv_aload_n hx hb dX3_endCollect_69 rfl (lv_at hl 2 rfl) ?_
  refine c_callq (As := [.ref ((E.2.2.1 k))]) (rest := []) C (c_preX3 C w) hml hl.1 (k_lender l D cI cZ cN cO A E n bg _ k ok hk (fun z => absurd z hA)) kM_X3_220 kI_X3_lender kS_X3_lender kN_X3 kD_X3_lender (show yX3_lender.cls = RX3 ∧ yX3_lender.cls ≠ "java/lang/invoke/MethodHandle" ∧ yX3_lender.cls ≠ "java/lang/invoke/VarHandle" ∧ (parseMethodDescriptor yX3_lender.desc).map (fun d => d.parameters.length) = some 1 from by decide +kernel) rfl rfl ⟨Nat.le_of_ble_eq_true rfl, Nat.le_of_ble_eq_true rfl⟩ rfl (lv_room (Nat.le_of_ble_eq_true rfl)) dX3_endCollect_70 ⟨Nat.zero_le _, Nat.zero_le _⟩ (fun r_7 hr_7 => ?_)
  rw [cif_neg (show ¬ cAny n k (cCo tt σ) from hA)] at hr_7
  subst hr_7
  dsimp only [va_rf]
  refine lv_astoreN (lv' := [(4, _), (3, _), (0, _), (1, _), (2, _)]) C.1 C.2.1 dX3_endCollect_73 hl (by decide) rfl (fun ls hl => ?_)
  refine lv_aloadN hx hb dX3_endCollect_75 (lv_at hl 0 rfl) ?_
  refine lv_ifnullN (tgt := 111) hx hb dX3_endCollect_77 (by decide) ?_
  refine lv_aload_n hx hb dX3_endCollect_111 rfl (lv_at hl 3 rfl) ?_
  refine lv_iload_n hx hb dX3_endCollect_112 rfl (lv_at hl 1 rfl) ?_
  refine c_callv (As := [.int 0]) (rest := []) C (c_preX0 C w hk) w.2.2 hml hl.1 (k_rem0 l D cI cZ cN cO A E n bg _ k ok hk) kM_X3_255 kI_X0_rememberCollect kS_X0_rememberCollect kN_X0 kD_X0_rememberCollect (show yX0_rememberCollect.cls = RX0 ∧ yX0_rememberCollect.cls ≠ "java/lang/invoke/MethodHandle" ∧ yX0_rememberCollect.cls ≠ "java/lang/invoke/VarHandle" ∧ (parseMethodDescriptor yX0_rememberCollect.desc).map (fun d => d.parameters.length) = some 1 from by decide +kernel) rfl rfl ⟨Nat.le_of_ble_eq_true rfl, Nat.le_of_ble_eq_true rfl⟩ rfl (lv_room (Nat.le_of_ble_eq_true rfl)) dX3_endCollect_113 ⟨Nat.zero_le _, Nat.zero_le _⟩ (fun H locs w ok => ?_)
  refine lv_aload_n hx hb dX3_endCollect_116 rfl (lv_at hl 2 rfl) ?_
  refine lv_aload_n hx hb dX3_endCollect_117 rfl (lv_at hl 3 rfl) ?_
  refine c_callv (As := [.ref ((E.2.2.1 k))]) (rest := []) C (c_preX3 C w) w.2.2 hml hl.1 (k_X3_beginCollect l D cI cZ cN cO A E n bg _ k ok hk hrm) kM_X3_153 kI_X3_beginCollect kS_X3_beginCollect kN_X3 kD_X3_beginCollect (show yX3_beginCollect.cls = RX3 ∧ yX3_beginCollect.cls ≠ "java/lang/invoke/MethodHandle" ∧ yX3_beginCollect.cls ≠ "java/lang/invoke/VarHandle" ∧ (parseMethodDescriptor yX3_beginCollect.desc).map (fun d => d.parameters.length) = some 1 from by decide +kernel) rfl rfl ⟨Nat.le_of_ble_eq_true rfl, Nat.le_of_ble_eq_true rfl⟩ rfl (lv_room (Nat.le_of_ble_eq_true rfl)) dX3_endCollect_118 ⟨Nat.zero_le _, Nat.zero_le _⟩ (fun H locs w ok => ?_)
  exact W.vret hx hb hr (fun t ht hW => ⟨⟨(), rfl, trivial, ⟨by rw [ht]; exact w.1, va_K.moved hW.alike hK, w.2.1⟩, ok⟩, w.2.2.F ht⟩) w.2.2.2.2 dX3_endCollect_121
set_option maxHeartbeats 4000000 in
set_option maxRecDepth 100000 in
theorem k_eco (l : Launch) (D : va_G) (cI cZ cN cO : ClassId) (A : Nat → Prop) (E : CE) (n bg : Nat) (σ : CS) (k tt : Nat) (ok : cOK n bg σ) (hk : k < n) (h1 : 1 ≤ tt) (h2 : tt ≤ bg) (hrm : ¬ (3 < σ.1 3 tt 2 ∧ ¬ σ.1 3 tt 9 = 0 ∧ (cSame n k σ ∨ cAny n k σ)) → lnN σ + n ≤ 2000) (hld : ¬ σ.1 3 tt 9 = 0 → ¬ cSame n k σ → cLdOk n bg k (cCo tt σ)) : Met l yX3_endCollect (.code yX3_endCollect cX3_endCollect 5 none :: gw) ({ frames := 4, cells := 0, slots := 0, locals := 114 }) (va_Pc (.ref (E.1 0) :: [.ref (E.2.2.1 k), .ref (E.2.2.2.2.1 tt)]) (cH D cI cZ cN cO A E n bg σ)) (va_Qv (fun _ : Unit => True) (fun _ t => cH D cI cZ cN cO A E n bg (cECo n bg k tt σ) t ∧ cOK n bg (cECo n bg k tt σ)) A) 0 0 A := by
  by_cases h0 : σ.1 3 tt 9 = 0
  · unfold cECo; rw [cif_pos h0]; exact k_ecoA l D cI cZ cN cO A E n bg σ k tt ok hk h1 h2 h0 (hrm (fun z => z.2.1 h0))
  · by_cases hsm : cSame n k σ
    · unfold cECo; rw [cif_neg h0, cif_pos hsm]; exact k_ecoB l D cI cZ cN cO A E n bg σ k tt ok hk h1 h2 h0 hsm (fun q => hrm (fun z => q z.1))
    · by_cases hA : cAny n k σ
      · unfold cECo; rw [cif_neg h0, cif_neg hsm, cif_pos hA]; exact k_ecoC l D cI cZ cN cO A E n bg σ k tt ok hk h1 h2 h0 hsm hA (hld h0 hsm) (fun q => hrm (fun z => q z.1))
      · unfold cECo; rw [cif_neg h0, cif_neg hsm, cif_neg hA]; exact k_ecoD l D cI cZ cN cO A E n bg σ k tt ok hk h1 h2 h0 hsm hA (hrm (fun z => z.2.2.elim hsm hA))
