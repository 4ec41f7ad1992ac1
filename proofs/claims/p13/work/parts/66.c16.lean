theorem mMid_05 {n : Nat} {x : Ms} {m : MS} : (mMid n x m).1 0 0 5 = m.1 0 0 5 := by
  have hto : ∀ (kd ph k : Nat) (v : Nat → Nat) (m : MS), (mTo n kd ph k v m).1 0 0 5 = m.1 0 0 5 := fun kd ph k v m => by simp [mTo, mEnter, mI, mR, mL]
  have hbc : ∀ (k : Nat) (m : MS), (mBegC n k m).1 0 0 5 = m.1 0 0 5 := fun k m => by simp [mBegC, mR]; exact hto _ _ _ _ _
  have hen : ∀ (k t : Nat) (m : MS), (mEndOp k t m).1 0 0 5 = m.1 0 0 5 := fun k t m => by simp [mEndOp, mI]
  have hus : ∀ (k t : Nat) (r : Nat → Nat) (m : MS), (mUse n k t r m).1 0 0 5 = m.1 0 0 5 := fun k t r m => by
    unfold mUse cif
    split
    · rw [hen]; simp [mSee, mI, mR]
    · unfold mWrt; rw [hto]; simp [mWrt0, mSee, mI, mR]
  have hec : ∀ (k t : Nat) (m : MS), (mECo n k t m).1 0 0 5 = m.1 0 0 5 := fun k t m => by
    unfold mECo cif
    split
    · rw [hbc]; simp [mRem, mCo, mI, mR]
    · split
      · rw [hus]; simp [mCo, mI]
      · split
        · rw [hus]; simp [mBor, mCo, mI]
        · rw [hbc]; simp [mRem, mMvd, mCo, mI, mR]
  unfold mMid cif
  split
  · rfl
  · split
    · simp [mSnd, mI, mL]
    · split
      · simp [mSnd, mUp, mI, mL, mR]
      · split
        · unfold mHr2 cif
          split
          · exact mH1_e03 0 0 5 (by decide)
          · split
            · rw [hto]; exact mH1_e03 0 0 5 (by decide)
            · split
              · rw [hec]; exact mH1_e03 0 0 5 (by decide)
              · rw [hen]; exact mH1_e03 0 0 5 (by decide)
        · rfl
theorem mCome_05 {n a : Nat} {x : Ms} {m : MS} : (mCome n a x m).1 0 0 5 = m.1 0 0 5 + 1 := by
  unfold mCome; rw [mMid_05]; simp [mOff, mI, mL]
/-- the first message comes, t times at most: the state then, and how often -/
noncomputable def mCalm (n : Nat) : Nat → MS → MS × Nat
  | 0, m => (m, 0)
  | t + 1, m => match m.2.2[0]? with
    | none => (m, 0)
    | some x => cif (2000 < m.2.2.length - 1 + mLeads n x m) (m, 0) ((mCalm n t (mCome n 0 x m)).1, (mCalm n t (mCome n 0 x m)).2 + 1)
theorem mCalm_0 {n : Nat} {m : MS} : mCalm n 0 m = (m, 0) := rfl
theorem mCalm_e {n t : Nat} {m : MS} (h : m.2.2[0]? = none) : mCalm n (t + 1) m = (m, 0) := by simp only [mCalm, h]
theorem mCalm_no {n t : Nat} {m : MS} {x : Ms} (h : m.2.2[0]? = some x) (hr : 2000 < m.2.2.length - 1 + mLeads n x m) : mCalm n (t + 1) m = (m, 0) := by simp only [mCalm, h]; rw [cif_pos hr]
theorem mCalm_go {n t : Nat} {m : MS} {x : Ms} (h : m.2.2[0]? = some x) (hr : ¬ 2000 < m.2.2.length - 1 + mLeads n x m) : mCalm n (t + 1) m = ((mCalm n t (mCome n 0 x m)).1, (mCalm n t (mCome n 0 x m)).2 + 1) := by
  rw [show mCalm n (t + 1) m = (match m.2.2[0]? with | none => (m, 0) | some x => cif (2000 < m.2.2.length - 1 + mLeads n x m) (m, 0) ((mCalm n t (mCome n 0 x m)).1, (mCalm n t (mCome n 0 x m)).2 + 1)) from rfl, h]
  exact cif_neg hr
theorem mCalm_ok {n : Nat} : ∀ (t : Nat) (m : MS), mInv n m → mInv n (mCalm n t m).1 ∧ (mCalm n t m).1.1 0 0 5 ≤ m.1 0 0 5 + t ∧ (mCalm n t m).2 ≤ t
  | 0, m, h => ⟨h, by simp [mCalm_0], by simp [mCalm_0]⟩
  | t + 1, m, h => by
    cases hx : m.2.2[0]? with
    | none => rw [mCalm_e hx]; exact ⟨h, by simp, by simp⟩
    | some x =>
      by_cases hr : 2000 < m.2.2.length - 1 + mLeads n x m
      · rw [mCalm_no hx hr]; exact ⟨h, by simp, by simp⟩
      · rw [mCalm_go hx hr]
        have := mCalm_ok t (mCome n 0 x m) (mCome_inv h hx)
        rw [mCome_05] at this
        exact ⟨this.1, by simp only; omega, by simp only; omega⟩
set_option maxHeartbeats 4000000 in
set_option maxRecDepth 100000 in
theorem kl_calm {p : Program} {l : Launch} {e : Env} {R : Room} {s : State} {m : MethodId} {args : Array Value} {below : List Frame} {meth : Method} {c : Code} {cells slots : Nat} {Q : State → Prop} {D : va_G} {cI cZ cN cO : ClassId} {A : Nat → Prop} {H0 : Heap} {E : CE} {n bg : Nat} (C : Cx p c cX3_calm s m args RX3 D (gTy cI cZ cN cO)) (hml : c.maxLocals = 3) {p0 : Nat} (hp : p0 ≤ 2000) (hRf : 7 ≤ R.frames) (hRl : 185 ≤ R.locals) (hRc : cells + 0 ≤ R.cells) (hRs : slots + 0 ≤ R.slots) : ∀ (fu i : Nat), i + fu = p0 → ∀ (σ : CS) (M : MS) (H : Heap) (locs : List Loc), cWd D cI cN cO A H0 E n bg σ H locs → cOK n bg σ → CR n bg σ M → mInv n M → M.1 0 0 5 + fu < 2 ^ 31 → (∀ (σ1 : CS) (H : Heap) (locs : List Loc), cWd D cI cN cO A H0 E n bg σ1 H locs → cOK n bg σ1 → CR n bg σ1 (mCalm n fu M).1 → ∀ ls : Array Slot, lv_has ls 3 [(2, .int (nI (i + (mCalm n fu M).2))), (0, .ref ((E.1 0))), (1, .int (nI p0))] → W p l e R s m args below meth c H locs cells slots Q (F0 m 54 ls [])) → ∀ ls : Array Slot, lv_has ls 3 [(2, .int (nI i)), (0, .ref ((E.1 0))), (1, .int (nI p0))] → W p l e R s m args below meth c H locs cells slots Q (F0 m 23 ls []) := by
  intro fu
  induction fu with
  | zero =>
    intro i hik σ M H locs w ok hCR hi hM kk ls hl
    have hx := C.1
    have hb := C.2.1
    simp only [mCalm_0, Nat.add_zero] at kk
    refine lv_iload_n hx hb dX3_calm_23 rfl (lv_at hl 0 rfl) ?_
    refine lv_iload_n hx hb dX3_calm_24 rfl (lv_at hl 2 rfl) ?_
    refine lv_icmp_ge (tgt := 54) hx hb dX3_calm_25 (by decide) (fun c_25 => ?_) (fun c_25 => absurd (nI_le (by omega) (by omega)) c_25)
    exact kk σ H locs w ok hCR ls (lv_sub hl [0, 1, 2] rfl)
  | succ fu ih =>
    intro i hik σ M H locs w ok hCR hi hM kk ls hl
    have hx := C.1
    have hb := C.2.1
    cases hx0 : M.2.2[0]? with
    | none =>
      have hno : ¬ holds σ 0 := fun q => by
        have hl0 : M.2.2.length = 0 := by simpa using hx0
        have h2 := q.2
        rw [hCR.2.2.2.2.2.1, hl0, nI_0] at h2
        exact absurd h2 (by decide)
      simp only [mCalm_e hx0, Nat.add_zero] at kk
      refine lv_iload_n hx hb dX3_calm_23 rfl (lv_at hl 0 rfl) ?_
      refine lv_iload_n hx hb dX3_calm_24 rfl (lv_at hl 2 rfl) ?_
      refine lv_icmp_ge (tgt := 54) hx hb dX3_calm_25 (by decide) (fun c_25 => absurd c_25 (nI_ge (by omega) (by omega))) (fun c_25 => ?_)
      refine lv_aload_n hx hb dX3_calm_28 rfl (lv_at hl 1 rfl) ?_
      refine c_gX3_1 C w kF_X3_23 dX3_calm_29 ?_
      refine lv_iconst (v := 0) hx hb dX3_calm_32 (by decide) ?_
      refine c_callp (As := [.int 0]) (rest := []) C (c_preX2 C w) hml hl.1 (k_X2_holds l D cI cZ cN cO A E n bg _ 0 ok ) kM_X3_55 kI_X2_holds kS_X2_holds kN_X2 kD_X2_holds (show yX2_holds.cls = RX2 ∧ yX2_holds.cls ≠ "java/lang/invoke/MethodHandle" ∧ yX2_holds.cls ≠ "java/lang/invoke/VarHandle" ∧ (parseMethodDescriptor yX2_holds.desc).map (fun d => d.parameters.length) = some 1 from by decide +kernel) rfl rfl ⟨(by show 0 + 1 ≤ R.frames; omega), (by show 8 + (2 + 11) + 0 ≤ R.locals; omega)⟩ rfl (lv_room (Nat.le_of_ble_eq_true rfl)) dX3_calm_33 ⟨hRc, hRs⟩ (fun r_1 hr_1 => ?_)
      refine lv_if_eq (tgt := 54) hx hb dX3_calm_36 (by decide) (fun c_36 => ?_) (fun c_36 => absurd (ite_ne0 hr_1 c_36) hno)
      exact kk σ H locs w ok hCR ls (lv_sub hl [0, 1, 2] rfl)
    | some x =>
      obtain ⟨g1, g2, g3, g4, g5, g6, g7, g8⟩ := hCR.come (a := 0) hi ok.2.1 ok.1 (by omega) hx0
      have hyes : holds σ 0 := by have := holds_k ok g1; rw [nI_0] at this; exact this
      refine lv_iload_n hx hb dX3_calm_23 rfl (lv_at hl 0 rfl) ?_
      refine lv_iload_n hx hb dX3_calm_24 rfl (lv_at hl 2 rfl) ?_
      refine lv_icmp_ge (tgt := 54) hx hb dX3_calm_25 (by decide) (fun c_25 => absurd c_25 (nI_ge (by omega) (by omega))) (fun c_25 => ?_)
      refine lv_aload_n hx hb dX3_calm_28 rfl (lv_at hl 1 rfl) ?_
      refine c_gX3_1 C w kF_X3_23 dX3_calm_29 ?_
      refine lv_iconst (v := 0) hx hb dX3_calm_32 (by decide) ?_
      refine c_callp (As := [.int 0]) (rest := []) C (c_preX2 C w) hml hl.1 (k_X2_holds l D cI cZ cN cO A E n bg _ 0 ok ) kM_X3_55 kI_X2_holds kS_X2_holds kN_X2 kD_X2_holds (show yX2_holds.cls = RX2 ∧ yX2_holds.cls ≠ "java/lang/invoke/MethodHandle" ∧ yX2_holds.cls ≠ "java/lang/invoke/VarHandle" ∧ (parseMethodDescriptor yX2_holds.desc).map (fun d => d.parameters.length) = some 1 from by decide +kernel) rfl rfl ⟨(by show 0 + 1 ≤ R.frames; omega), (by show 8 + (2 + 11) + 0 ≤ R.locals; omega)⟩ rfl (lv_room (Nat.le_of_ble_eq_true rfl)) dX3_calm_33 ⟨hRc, hRs⟩ (fun r_1 hr_1 => ?_)
      refine lv_if_eq (tgt := 54) hx hb dX3_calm_36 (by decide) (fun c_36 => absurd hyes (ite_eq0 hr_1 c_36)) (fun c_36 => ?_)
      refine lv_aload_n hx hb dX3_calm_39 rfl (lv_at hl 1 rfl) ?_
      refine lv_iconst (v := 0) hx hb dX3_calm_40 (by decide) ?_
      rw [show (0 : Int32) = nI 0 from nI_0.symm]
      by_cases hro : 2000 < M.2.2.length - 1 + mLeads n x M
      · simp only [mCalm_no hx0 hro, Nat.add_zero] at kk
        refine c_calli (As := [.int (nI 0)]) (rest := []) C (c_preX3 C w) w.2.2 hml hl.1 (k_come_no l D cI cZ cN cO A E n bg _ 0 (slN σ 0) x.2.2.1 ok g1 rfl g2 g3 g4 (g7.mpr hro)) kM_X3_60 kI_X3_come kS_X3_come kN_X3 kD_X3_come (show yX3_come.cls = RX3 ∧ yX3_come.cls ≠ "java/lang/invoke/MethodHandle" ∧ yX3_come.cls ≠ "java/lang/invoke/VarHandle" ∧ (parseMethodDescriptor yX3_come.desc).map (fun d => d.parameters.length) = some 1 from by decide +kernel) rfl rfl ⟨(by show 6 + 1 ≤ R.frames; omega), (by show 8 + (5 + 11) + 161 ≤ R.locals; omega)⟩ rfl (lv_room (Nat.le_of_ble_eq_true rfl)) dX3_calm_41 ⟨hRc, hRs⟩ (fun r_2 H locs hr_2 w ok => ?_)
        refine lv_iconst (v := (-1)) hx hb dX3_calm_44 (by decide) ?_
        refine lv_icmp_eq (tgt := 54) hx hb dX3_calm_45 (by decide) (fun c_45 => ?_) (fun c_45 => absurd hr_2 c_45)
        exact kk σ H locs w ok hCR ls (lv_sub hl [0, 1, 2] rfl)
      · have g9 := g8 hro
        simp only [mCalm_go hx0 hro] at kk
        refine c_calli (As := [.int (nI 0)]) (rest := []) C (c_preX3 C w) w.2.2 hml hl.1 (k_come_go l D cI cZ cN cO A E n bg _ 0 (slN σ 0) x.2.2.1 ok g1 rfl g2 g3 g4 (fun q => hro (g7.mp q)) g9.1) kM_X3_60 kI_X3_come kS_X3_come kN_X3 kD_X3_come (show yX3_come.cls = RX3 ∧ yX3_come.cls ≠ "java/lang/invoke/MethodHandle" ∧ yX3_come.cls ≠ "java/lang/invoke/VarHandle" ∧ (parseMethodDescriptor yX3_come.desc).map (fun d => d.parameters.length) = some 1 from by decide +kernel) rfl rfl ⟨(by show 6 + 1 ≤ R.frames; omega), (by show 8 + (5 + 11) + 161 ≤ R.locals; omega)⟩ rfl (lv_room (Nat.le_of_ble_eq_true rfl)) dX3_calm_41 ⟨hRc, hRs⟩ (fun r_3 H locs hr_3 w ok => ?_)
        refine lv_iconst (v := (-1)) hx hb dX3_calm_44 (by decide) ?_
        refine lv_icmp_eq (tgt := 54) hx hb dX3_calm_45 (by decide) (fun c_45 => absurd (by rw [← c_45, hr_3, g5]) (nI_nm1 (show x.1 < 2 ^ 31 by omega))) (fun c_45 => ?_)
        obtain ⟨x_4, ex_4⟩ : ∃ y : Int32, y = (nI i) + 1 := ⟨_, rfl⟩
        refine lv_iinc (v := x_4) (lv' := [(2, _), (0, _), (1, _)]) C.1 C.2.1 dX3_calm_48 hl (k := 0) rfl (by rw [ex_4]; rfl) (by decide) rfl (fun ls hl => ?_)
        refine lv_goto (tgt := 23) hx hb dX3_calm_51 (by decide) ?_
        have hx2 : x_4 = nI (i + 1) := by rw [ex_4]; exact nI_1 i
        rw [hx2] at hl
        exact ih (i + 1) (by omega) _ _ H locs w ok g9.2 (mCome_inv hi hx0) (by rw [mCome_05]; omega) (fun σ1 H locs w ok h ls hl => kk σ1 H locs w ok h ls (by rw [show i + ((mCalm n fu (mCome n 0 x M)).2 + 1) = i + 1 + (mCalm n fu (mCome n 0 x M)).2 from by omega]; exact hl)) ls (lv_sub hl [0, 1, 2] rfl)
set_option maxHeartbeats 4000000 in
set_option maxRecDepth 100000 in
theorem k_calm (l : Launch) (D : va_G) (cI cZ cN cO : ClassId) (A : Nat → Prop) (E : CE) (n bg : Nat) (σ : CS) (M : MS) (p0 : Nat) (ok : cOK n bg σ) (hCR : CR n bg σ M) (hi : mInv n M) (hM : M.1 0 0 5 + p0 < 2 ^ 31) (hp : p0 ≤ 2000) : Met l yX3_calm (.code yX3_calm cX3_calm 3 (some .int) :: gw) ({ frames := 7, cells := 0, slots := 0, locals := 185 }) (va_Pc (.ref (E.1 0) :: [.int (nI p0)]) (cH D cI cZ cN cO A E n bg σ)) (va_Qi (fun (r : Int32) (_ : Unit) => r = nI (mCalm n p0 M).2) (fun _ t => ∃ σ1 : CS, cH D cI cZ cN cO A E n bg σ1 t ∧ cOK n bg σ1 ∧ CR n bg σ1 (mCalm n p0 M).1) A) 0 0 A := by
  refine Met.ofW (cc := cX3_calm) (maxL := 3) (ret := (some .int)) (by decide) rfl ?_
  intro p e s m args below meth c s₁ B hml hv
  obtain ⟨rfl, hP, hK, hD⟩ := hv
  have hx := B.exec
  have hb := B.bytes
  have hr := B.returns
  have hts := atoms_spec (ws := (.code yX3_calm cX3_calm 3 (some .int) :: gw)) B.pre
  have hg : ∀ w ∈ gw, w.before _ s = true := fun w h => hts w (List.mem_cons_of_mem _ h)
  have hown : s.vm.findClass RX3 = some m.cls := findClass_of_methodNamed B.named
  have hlocks := B.notSynchronized
  have C : Cx p c cX3_calm s m _ RX3 D (gTy cI cZ cN cO) := ⟨hx, hb, hown, hg, hK⟩
  have w : cWd D cI cN cO A s.heap E n bg σ s.heap [] := ⟨hP, hD, va_S.rf⟩
  have hl := lv_entry ([.ref ((E.1 0)), .int (nI p0)]) (n := 3) (Nat.le_of_ble_eq_true rfl)
  rw [lg_entry_eq]
  generalize (lg_sl ([.ref ((E.1 0)), .int (nI p0)]) ++ List.replicate (3 - (lg_sl ([.ref ((E.1 0)), .int (nI p0)])).length) Slot.unset).toArray = ls at hl ⊢
  have hl : lv_has ls 3 [(0, .ref ((E.1 0))), (1, .int (nI p0))] := hl
  refine lv_iload_n hx hb dX3_calm_0 rfl (lv_at hl 1 rfl) ?_
  refine lv_if_lt (tgt := 11) hx hb dX3_calm_1 (by decide) (fun c_1 => absurd c_1 (nI_pos (by omega))) (fun c_1 => ?_)
  refine lv_iload_n hx hb dX3_calm_4 rfl (lv_at hl 1 rfl) ?_
  refine lv_sipush (v := 2000) hx hb dX3_calm_5 (by decide) ?_
  refine lv_icmp_le (tgt := 21) hx hb dX3_calm_8 (by decide) (fun c_8 => ?_) (fun c_8 => absurd (by rw [show (2000 : Int32) = nI 2000 from nI_2000.symm]; exact nI_le hp (by decide)) c_8)
  refine lv_iconst (v := 0) hx hb dX3_calm_21 (by decide) ?_
  refine lv_istore_n (lv' := [(2, _), (0, _), (1, _)]) C.1 C.2.1 dX3_calm_22 rfl hl (by decide) rfl (fun ls hl => ?_)
  rw [show (0 : Int32) = nI 0 from nI_0.symm] at hl
  refine kl_calm C hml hp (Nat.le_of_ble_eq_true rfl) (Nat.le_of_ble_eq_true rfl) (Nat.zero_le _) (Nat.zero_le _) p0 0 (by omega) σ M _ _ w ok hCR hi hM ?_ ls (lv_sub hl [0, 1, 2] rfl)
  intro σ1 H locs w ok h ls hl
  rw [Nat.zero_add] at hl
  refine lv_iload_n hx hb dX3_calm_54 rfl (lv_at hl 0 rfl) ?_
  exact W.iret hx hb hr (fun t ht hW => ⟨⟨_, (), rfl, rfl, σ1, ⟨by rw [ht]; exact w.1, va_K.moved hW.alike hK, w.2.1⟩, ok, h⟩, w.2.2.F ht⟩) w.2.2.2.2 dX3_calm_55
