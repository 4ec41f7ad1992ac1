theorem itr_n1 {f : Nat → RS → RS} (h : ∀ i σ, (f i σ).1 1 = σ.1 1) : ∀ (n : Nat) (σ : RS), (itr f n σ).1 1 = σ.1 1
  | 0, _ => rfl
  | n + 1, σ => (h n _).trans (itr_n1 h n σ)
theorem rToC_n1 {n : Nat} {k : Int32} {σ : RS} : (rToC n k σ).1 1 = σ.1 1 := (itr_n1 (fun i σ => rSend_1 (by decide)) n _).trans rfl
theorem rVec_n1 {q j n : Nat} {k : Int32} {σ : RS} : (itr (rVec q k j) n σ).1 1 = σ.1 1 := itr_n1 (fun _ _ => by rfl) n _
theorem rToS_n1 {n q : Nat} {k : Int32} {σ : RS} : (rToS n q k σ).1 1 = σ.1 1 := (itr_n1 (fun i σ => rVec_n1.trans (rSend_1 (by decide))) n _).trans rfl
theorem rCol_n1 {n : Nat} {k : Int32} {σ : RS} : (rCol n k σ).1 1 = σ.1 1 := rToC_n1.trans ((itr_n1 (fun _ _ => by rfl) n _).trans rfl)
theorem rBeg_n1 {n : Nat} {k a b c : Int32} {σ : RS} : (rBeg n k a b c σ).1 1 = σ.1 1 := rCol_n1.trans ((itr_n1 (fun _ _ => by rfl) n _).trans (by simp [rA_1, rI_1]))
theorem rTkS_n1 {n : Nat} {k : Int32} {σ : RS} : (rTkS n k σ).1 1 = σ.1 1 := by
  unfold rTkS; rw [rI_1, if_neg (by decide), rA_1, rA_1]; exact itr_n1 (fun _ _ => by rfl) n _
theorem rTkB_n1 {n j : Nat} {k : Int32} {σ : RS} : (rTkB n k j σ).1 1 = σ.1 1 := by
  unfold rTkB; rw [rI_1, if_neg (by decide), rA_1, rA_1]; exact itr_n1 (fun _ _ => by rfl) n _
theorem rWr_n1 {n : Nat} {k o : Int32} {σ : RS} : (rWr n k o σ).1 1 = σ.1 1 := by
  unfold rWr; rw [rToS_n1, rA_1]; exact (itr_n1 (fun _ _ => by rfl) n _).trans rfl
theorem rThr_n1 {n : Nat} {k : Int32} {σ : RS} : (rThr n k σ).1 1 = σ.1 1 := by
  unfold rThr cif
  split
  · split
    · split
      · rw [rWr_n1, rTkS_n1]
      · exact rTkS_n1
    · split
      · rw [rWr_n1, rTkB_n1]
      · exact rTkB_n1
  · unfold rThN; rw [rCol_n1, rA_1]; exact itr_n1 (fun _ _ => by rfl) n _
theorem rHr2_n1 {n : Nat} {k : Int32} {σ : RS} : (rHr2 n k σ).1 1 = σ.1 1 := by
  unfold rHr2 cif
  split
  · split
    · rw [rToS_n1, rA_1]; exact itr_n1 (fun _ _ => by rfl) n _
    · split
      · exact rThr_n1
      · rfl
  · rfl
theorem rMid_n1 {n : Nat} {x : Int32} {σ : RS} : (rMid n x σ).1 1 = σ.1 1 := by
  unfold rMid cif
  split
  · split
    · exact rVec_n1.trans (rSend_1 (by decide))
    · split
      · unfold rRepS; rw [rSend_1 (by decide)]; exact itr_n1 (fun _ _ => by rfl) n _
      · split
        · unfold rHr; rw [rHr2_n1]; unfold rH1 cif; split
          · exact (itr_n1 (fun _ _ => by rfl) n _).trans rfl
          · rfl
        · rfl
  · rfl
theorem rCome_n1 {n a mn : Nat} {x : Int32} {σ : RS} : (rCome n x (rOff a mn σ)).1 1 = σ.1 1 := by
  unfold rCome; rw [rA_1, rMid_n1]; unfold rOff
  rw [rI_1, if_neg (by decide), rI_1, if_neg (by decide), rI_1, if_neg (by decide)]; exact itr_n1 (fun _ _ => by rfl) _ _
set_option maxHeartbeats 4000000 in
set_option maxRecDepth 100000 in
theorem ql_calm {p : Program} {l : Launch} {e : Env} {R : Room} {s : State} {m : MethodId} {args : Array Value} {below : List Frame} {meth : Method} {c : Code} {cells slots : Nat} {Q : State → Prop} {D : va_G} {cI cZ cN cO : ClassId} {A : Nat → Prop} {H0 : Heap} {mm : Nat} {d : Nat → Nat} {n : Nat} (C : Cx p c cX4_calm s m args RX4 D (gTy cI cZ cN cO)) (hml : c.maxLocals = 3) {p0 : Nat} (hp : p0 ≤ 2000) (hRf : 6 ≤ R.frames) (hRl : 146 ≤ R.locals) (hRc : cells + 0 ≤ R.cells) (hRs : slots + 0 ≤ R.slots) : ∀ (fu i : Nat), i + fu = p0 → ∀ (σ : RS) (M : MS) (H : Heap) (locs : List Loc), rWd D cI cZ A H0 mm d σ H locs → rOK n σ → RR n σ 2001 0 M → σ.1 1 = 0 → mInv n M → M.1 0 0 5 + fu < 2 ^ 31 → (∀ (σ1 : RS) (H : Heap) (locs : List Loc), rWd D cI cZ A H0 mm d σ1 H locs → rOK n σ1 → RR n σ1 2001 0 (mCalm n fu M).1 → σ1.1 1 = 0 → ∀ ls : Array Slot, lv_has ls 3 [(2, .int (nI (i + (mCalm n fu M).2))), (0, .ref mm), (1, .int (nI p0))] → W p l e R s m args below meth c H locs cells slots Q (F0 m 56 ls [])) → ∀ ls : Array Slot, lv_has ls 3 [(2, .int (nI i)), (0, .ref mm), (1, .int (nI p0))] → W p l e R s m args below meth c H locs cells slots Q (F0 m 22 ls []) := by
  intro fu
  induction fu with
  | zero =>
    intro i hik σ M H locs w ok hRR hT hi hM kk ls hl
    have hx := C.1
    have hb := C.2.1
    simp only [mCalm_0, Nat.add_zero] at kk
    refine lv_aload_n hx hb dX4_calm_22 rfl (lv_at hl 1 rfl) ?_
    refine r_get_1 C w dX4_calm_23 ?_
    rw [hT]
    refine lv_if_ne (tgt := 56) hx hb dX4_calm_26 (by decide) (fun c_26 => absurd rfl c_26) (fun c_26 => ?_)
    refine lv_iload_n hx hb dX4_calm_29 rfl (lv_at hl 0 rfl) ?_
    refine lv_iload_n hx hb dX4_calm_30 rfl (lv_at hl 2 rfl) ?_
    refine lv_icmp_ge (tgt := 56) hx hb dX4_calm_31 (by decide) (fun c_31 => ?_) (fun c_31 => absurd (nI_le (by omega) (by omega)) c_31)
    exact kk σ H locs w ok hRR hT ls (lv_sub hl [0, 1, 2] rfl)
  | succ fu ih =>
    intro i hik σ M H locs w ok hRR hT hi hM kk ls hl
    have hx := C.1
    have hb := C.2.1
    cases hx0 : M.2.2[0]? with
    | none =>
      have hl0 : M.2.2.length = 0 := by simpa using hx0
      simp only [mCalm_e hx0, Nat.add_zero] at kk
      refine lv_aload_n hx hb dX4_calm_22 rfl (lv_at hl 1 rfl) ?_
      refine r_get_1 C w dX4_calm_23 ?_
      rw [hT]
      refine lv_if_ne (tgt := 56) hx hb dX4_calm_26 (by decide) (fun c_26 => absurd rfl c_26) (fun c_26 => ?_)
      refine lv_iload_n hx hb dX4_calm_29 rfl (lv_at hl 0 rfl) ?_
      refine lv_iload_n hx hb dX4_calm_30 rfl (lv_at hl 2 rfl) ?_
      refine lv_icmp_ge (tgt := 56) hx hb dX4_calm_31 (by decide) (fun c_31 => absurd c_31 (nI_ge (by omega) (by omega))) (fun c_31 => ?_)
      refine lv_aload_n hx hb dX4_calm_34 rfl (lv_at hl 1 rfl) ?_
      refine r_get_9 C w dX4_calm_35 ?_
      rw [hRR.2.1.2.1]
      refine lv_if_le (tgt := 56) hx hb dX4_calm_38 (by decide) (fun c_38 => ?_) (fun c_38 => absurd (by rw [hl0, nI_0]; exact Int32.le_refl _) c_38)
      exact kk σ H locs w ok hRR hT ls (lv_sub hl [0, 1, 2] rfl)
    | some x =>
      have hal : 0 < M.2.2.length := (List.getElem?_eq_some_iff.mp hx0).1
      have hl2 := hRR.2.1.1
      have hx3 := (hi.2.2.1.2.2 x (List.mem_of_getElem? hx0)).1
      have hle := mLeads_le (n := n) (x := x) (m := M) (by have := ok.1; omega)
      have hn9 := ok.2.1
      have e9 : ∀ N, N ≤ n → nI M.2.2.length + (nI N - 1) = nI (M.2.2.length - 1 + N) := fun N hN => by
        have : nI M.2.2.length + (nI N - 1) = nI M.2.2.length - 1 + nI N := by rw [Int32.sub_eq_add_neg, Int32.sub_eq_add_neg, Int32.add_comm (nI N), ← Int32.add_assoc]
        rw [this, nI_m1 (by omega), nI_add]
      obtain ⟨g1, g2, g3, g4⟩ := hRR.come (a := 0) hi ok.2.1 (by omega) hx0
      refine lv_aload_n hx hb dX4_calm_22 rfl (lv_at hl 1 rfl) ?_
      refine r_get_1 C w dX4_calm_23 ?_
      rw [hT]
      refine lv_if_ne (tgt := 56) hx hb dX4_calm_26 (by decide) (fun c_26 => absurd rfl c_26) (fun c_26 => ?_)
      refine lv_iload_n hx hb dX4_calm_29 rfl (lv_at hl 0 rfl) ?_
      refine lv_iload_n hx hb dX4_calm_30 rfl (lv_at hl 2 rfl) ?_
      refine lv_icmp_ge (tgt := 56) hx hb dX4_calm_31 (by decide) (fun c_31 => absurd c_31 (nI_ge (by omega) (by omega))) (fun c_31 => ?_)
      refine lv_aload_n hx hb dX4_calm_34 rfl (lv_at hl 1 rfl) ?_
      refine r_get_9 C w dX4_calm_35 ?_
      rw [hRR.2.1.2.1]
      refine lv_if_le (tgt := 56) hx hb dX4_calm_38 (by decide) (fun c_38 => absurd c_38 (nI_nle (by omega) (by omega))) (fun c_38 => ?_)
      refine lv_aload_n hx hb dX4_calm_41 rfl (lv_at hl 1 rfl) ?_
      refine lv_iconst (v := 0) hx hb dX4_calm_42 (by decide) ?_
      rw [show (0 : Int32) = nI 0 from nI_0.symm]
      by_cases hro : 2000 < M.2.2.length - 1 + mLeads n x M
      · simp only [mCalm_no hx0 hro, Nat.add_zero] at kk
        refine r_calli (As := [.int (nI 0)]) (rest := []) C w hml hl.1 (q_come_no l D cI cZ cN cO A mm d n _ 0 M.2.2.length (nI (rSl σ 0)) ok hal hl2 hRR.2.1.2.1 (g2 ok) (vp_in_nI g1 (by decide)) (fun r h => by rw [g3 r h, hRR.2.1.2.1, e9 _ hle, show (2000 : Int32) = nI 2000 from nI_2000.symm, nI_ltI (by decide) (by omega)]; exact hro)) kM_X4_195 kI_X4_come kS_X4_come kD_X4_come (show yX4_come.cls = RX4 ∧ yX4_come.cls ≠ "java/lang/invoke/MethodHandle" ∧ yX4_come.cls ≠ "java/lang/invoke/VarHandle" ∧ (parseMethodDescriptor yX4_come.desc).map (fun d => d.parameters.length) = some 1 from by decide +kernel) rfl rfl ⟨(by show 5 + 1 ≤ R.frames; omega), (by show 8 + (4 + 11) + 123 ≤ R.locals; omega)⟩ rfl (lv_room (Nat.le_of_ble_eq_true rfl)) dX4_calm_43 ⟨hRc, hRs⟩ (fun r_1 H locs hr_1 w ok => ?_)
        refine lv_iconst (v := (-1)) hx hb dX4_calm_46 (by decide) ?_
        refine lv_icmp_eq (tgt := 56) hx hb dX4_calm_47 (by decide) (fun c_47 => ?_) (fun c_47 => absurd hr_1 c_47)
        exact kk σ H locs w ok hRR hT ls (lv_sub hl [0, 1, 2] rfl)
      · have g9 := g4 hro
        simp only [mCalm_go hx0 hro] at kk
        refine r_calli (As := [.int (nI 0)]) (rest := []) C w hml hl.1 (q_come_go l D cI cZ cN cO A mm d n _ 0 M.2.2.length (nI (rSl σ 0)) ok hal hl2 hRR.2.1.2.1 (g2 ok) (vp_in_nI g1 (by decide)) (fun r h => by rw [g3 r h, hRR.2.1.2.1, e9 _ hle, show (2000 : Int32) = nI 2000 from nI_2000.symm, nI_ltI (by decide) (by omega)]; exact hro) g9.1) kM_X4_195 kI_X4_come kS_X4_come kD_X4_come (show yX4_come.cls = RX4 ∧ yX4_come.cls ≠ "java/lang/invoke/MethodHandle" ∧ yX4_come.cls ≠ "java/lang/invoke/VarHandle" ∧ (parseMethodDescriptor yX4_come.desc).map (fun d => d.parameters.length) = some 1 from by decide +kernel) rfl rfl ⟨(by show 5 + 1 ≤ R.frames; omega), (by show 8 + (4 + 11) + 123 ≤ R.locals; omega)⟩ rfl (lv_room (Nat.le_of_ble_eq_true rfl)) dX4_calm_43 ⟨hRc, hRs⟩ (fun r_2 H locs hr_2 w ok => ?_)
        refine lv_iconst (v := (-1)) hx hb dX4_calm_46 (by decide) ?_
        refine lv_icmp_eq (tgt := 56) hx hb dX4_calm_47 (by decide) (fun c_47 => absurd (by rw [← c_47, hr_2, g9.2.1]) (nI_nm1 (show x.1 < 2 ^ 31 by omega))) (fun c_47 => ?_)
        obtain ⟨x_3, ex_3⟩ : ∃ y : Int32, y = (nI i) + 1 := ⟨_, rfl⟩
        refine lv_iinc (v := x_3) (lv' := [(2, _), (0, _), (1, _)]) C.1 C.2.1 dX4_calm_50 hl (k := 0) rfl (by rw [ex_3]; rfl) (by decide) rfl (fun ls hl => ?_)
        refine lv_goto (tgt := 22) hx hb dX4_calm_53 (by decide) ?_
        have hx2 : x_3 = nI (i + 1) := by rw [ex_3]; exact nI_1 i
        rw [hx2] at hl
        exact ih (i + 1) (by omega) _ _ H locs w ok g9.2.2 (rCome_n1.trans hT) (mCome_inv hi hx0) (by rw [mCome_05]; omega) (fun σ1 H locs w ok h h1 ls hl => kk σ1 H locs w ok h h1 ls (by rw [show i + ((mCalm n fu (mCome n 0 x M)).2 + 1) = i + 1 + (mCalm n fu (mCome n 0 x M)).2 from by omega]; exact hl)) ls (lv_sub hl [0, 1, 2] rfl)
set_option maxHeartbeats 4000000 in
set_option maxRecDepth 100000 in
theorem q_calm (l : Launch) (D : va_G) (cI cZ cN cO : ClassId) (A : Nat → Prop) (mm : Nat) (d : Nat → Nat) (n : Nat) (σ : RS) (M : MS) (p0 : Nat) (ok : rOK n σ) (hRR : RR n σ 2001 0 M) (hi : mInv n M) (hM : M.1 0 0 5 + p0 < 2 ^ 31) (hp : p0 ≤ 2000) : Met l yX4_calm (.code yX4_calm cX4_calm 3 (some .int) :: gw) ({ frames := 6, cells := 0, slots := 0, locals := 146 }) (va_Pc (.ref mm :: [.int (nI p0)]) (rH D cI cZ cN cO A mm d σ)) (va_Qi (fun (r : Int32) (_ : Unit) => r = nI (mCalm n p0 M).2) (fun _ t => ∃ σ1 : RS, rH D cI cZ cN cO A mm d σ1 t ∧ rOK n σ1 ∧ RR n σ1 2001 0 (mCalm n p0 M).1 ∧ σ1.1 1 = 0) A) 0 0 A := by
  refine Met.ofW (cc := cX4_calm) (maxL := 3) (ret := (some .int)) (by decide) rfl ?_
  intro p e s m args below meth c s₁ B hml hv
  obtain ⟨rfl, hP, hK, hD⟩ := hv
  have hx := B.exec
  have hb := B.bytes
  have hr := B.returns
  have hts := atoms_spec (ws := (.code yX4_calm cX4_calm 3 (some .int) :: gw)) B.pre
  have hg : ∀ w ∈ gw, w.before _ s = true := fun w h => hts w (List.mem_cons_of_mem _ h)
  have hown : s.vm.findClass RX4 = some m.cls := findClass_of_methodNamed B.named
  have hlocks := B.notSynchronized
  have C : Cx p c cX4_calm s m _ RX4 D (gTy cI cZ cN cO) := ⟨hx, hb, hown, hg, hK⟩
  have w : rWd D cI cZ A s.heap mm d σ s.heap [] := ⟨hP, hD, va_S.rf⟩
  have hl := lv_entry ([.ref mm, .int (nI p0)]) (n := 3) (Nat.le_of_ble_eq_true rfl)
  rw [lg_entry_eq]
  generalize (lg_sl ([.ref mm, .int (nI p0)]) ++ List.replicate (3 - (lg_sl ([.ref mm, .int (nI p0)])).length) Slot.unset).toArray = ls at hl ⊢
  have hl : lv_has ls 3 [(0, .ref mm), (1, .int (nI p0))] := hl
  refine lv_aload_n hx hb dX4_calm_0 rfl (lv_at hl 0 rfl) ?_
  refine lv_iload_n hx hb dX4_calm_1 rfl (lv_at hl 1 rfl) ?_
  refine lv_if_lt (tgt := 12) hx hb dX4_calm_2 (by decide) (fun c_2 => absurd c_2 (nI_pos (by omega))) (fun c_2 => ?_)
  refine lv_iload_n hx hb dX4_calm_5 rfl (lv_at hl 1 rfl) ?_
  refine lv_sipush (v := 2000) hx hb dX4_calm_6 (by decide) ?_
  refine lv_icmp_le (tgt := 16) hx hb dX4_calm_9 (by decide) (fun c_9 => ?_) (fun c_9 => absurd (by rw [show (2000 : Int32) = nI 2000 from nI_2000.symm]; exact nI_le hp (by decide)) c_9)
  refine lv_iconst (v := 0) hx hb dX4_calm_16 (by decide) ?_
  refine r_put_1 C w dX4_calm_17 (fun H locs w => ?_)
  have ok : rOK n _ := rOK.put ok (k := 1) (v := 0) (by decide) (fun h => absurd h (by decide)) (fun h => absurd h (by decide))
  refine lv_iconst (v := 0) hx hb dX4_calm_20 (by decide) ?_
  refine lv_istore_n (lv' := [(2, _), (0, _), (1, _)]) C.1 C.2.1 dX4_calm_21 rfl hl (by decide) rfl (fun ls hl => ?_)
  rw [show (0 : Int32) = nI 0 from nI_0.symm] at hl
  refine ql_calm C hml hp (Nat.le_of_ble_eq_true rfl) (Nat.le_of_ble_eq_true rfl) (Nat.zero_le _) (Nat.zero_le _) p0 0 (by omega) _ M _ _ w ok hRR.skip1 (by rw [rI_1, if_pos rfl]) hi hM ?_ ls (lv_sub hl [0, 1, 2] rfl)
  intro σ1 H locs w ok h h1 ls hl
  rw [Nat.zero_add] at hl
  refine lv_iload_n hx hb dX4_calm_56 rfl (lv_at hl 0 rfl) ?_
  exact W.iret hx hb hr (fun t ht hW => ⟨⟨_, (), rfl, rfl, σ1, ⟨by rw [ht]; exact w.1, va_K.moved hW.alike hK, w.2.1⟩, ok, h, h1⟩, w.2.2.F ht⟩) w.2.2.2.2 dX4_calm_57
set_option maxHeartbeats 4000000 in
set_option maxRecDepth 100000 in
theorem q_calm_bad (l : Launch) (D : va_G) (cI cZ cN cO : ClassId) (A : Nat → Prop) (mm : Nat) (d : Nat → Nat) (n : Nat) (σ : RS) (p0 : Int32) (ok : rOK n σ) (hbad : p0 < 0 ∨ ¬ p0 ≤ 2000) : Met l yX4_calm (.code yX4_calm cX4_calm 3 (some .int) :: gw) ({ frames := 6, cells := 0, slots := 0, locals := 146 }) (va_Pc (.ref mm :: [.int p0]) (rH D cI cZ cN cO A mm d σ)) (va_Qi (fun (r : Int32) (_ : Unit) => r = 0) (fun _ t => rH D cI cZ cN cO A mm d (rI σ 1 1) t ∧ rOK n (rI σ 1 1)) A) 0 0 A := by
  refine Met.ofW (cc := cX4_calm) (maxL := 3) (ret := (some .int)) (by decide) rfl ?_
  intro p e s m args below meth c s₁ B hml hv
  obtain ⟨rfl, hP, hK, hD⟩ := hv
  have hx := B.exec
  have hb := B.bytes
  have hr := B.returns
  have hts := atoms_spec (ws := (.code yX4_calm cX4_calm 3 (some .int) :: gw)) B.pre
  have hg : ∀ w ∈ gw, w.before _ s = true := fun w h => hts w (List.mem_cons_of_mem _ h)
  have hown : s.vm.findClass RX4 = some m.cls := findClass_of_methodNamed B.named
  have hlocks := B.notSynchronized
  have C : Cx p c cX4_calm s m _ RX4 D (gTy cI cZ cN cO) := ⟨hx, hb, hown, hg, hK⟩
  have w : rWd D cI cZ A s.heap mm d σ s.heap [] := ⟨hP, hD, va_S.rf⟩
  have hl := lv_entry ([.ref mm, .int p0]) (n := 3) (Nat.le_of_ble_eq_true rfl)
  rw [lg_entry_eq]
  generalize (lg_sl ([.ref mm, .int p0]) ++ List.replicate (3 - (lg_sl ([.ref mm, .int p0])).length) Slot.unset).toArray = ls at hl ⊢
  have hl : lv_has ls 3 [(0, .ref mm), (1, .int p0)] := hl
  refine lv_aload_n hx hb dX4_calm_0 rfl (lv_at hl 0 rfl) ?_
  refine lv_iload_n hx hb dX4_calm_1 rfl (lv_at hl 1 rfl) ?_
  refine lv_if_lt (tgt := 12) hx hb dX4_calm_2 (by decide) (fun c_2 => ?_) (fun c_2 => ?_)
  · refine lv_iconst (v := 1) hx hb dX4_calm_12 (by decide) ?_
    refine lv_goto (tgt := 17) hx hb dX4_calm_13 (by decide) ?_
    refine r_put_1 C w dX4_calm_17 (fun H locs w => ?_)
    have ok : rOK n _ := rOK.put ok (k := 1) (v := 1) (by decide) (fun h => absurd h (by decide)) (fun h => absurd h (by decide))
    refine lv_iconst (v := 0) hx hb dX4_calm_20 (by decide) ?_
    refine lv_istore_n (lv' := [(2, _), (0, _), (1, _)]) C.1 C.2.1 dX4_calm_21 rfl hl (by decide) rfl (fun ls hl => ?_)
    refine lv_aload_n hx hb dX4_calm_22 rfl (lv_at hl 1 rfl) ?_
    refine r_get_1 C w dX4_calm_23 ?_
    rw [show (rI σ 1 1).1 1 = 1 from rfl]
    refine lv_if_ne (tgt := 56) hx hb dX4_calm_26 (by decide) (fun c_26 => ?_) (fun c_26 => absurd c_26 (by decide))
    refine lv_iload_n hx hb dX4_calm_56 rfl (lv_at hl 0 rfl) ?_
    exact W.iret hx hb hr (fun t ht hW => ⟨⟨_, (), rfl, rfl, ⟨by rw [ht]; exact w.1, va_K.moved hW.alike hK, w.2.1⟩, ok⟩, w.2.2.F ht⟩) w.2.2.2.2 dX4_calm_57
  · refine lv_iload_n hx hb dX4_calm_5 rfl (lv_at hl 1 rfl) ?_
    refine lv_sipush (v := 2000) hx hb dX4_calm_6 (by decide) ?_
    refine lv_icmp_le (tgt := 16) hx hb dX4_calm_9 (by decide) (fun c_9 => (hbad.elim (fun z => absurd z c_2) (fun z => absurd c_9 z))) (fun c_9 => ?_)
    refine lv_iconst (v := 1) hx hb dX4_calm_12 (by decide) ?_
    refine lv_goto (tgt := 17) hx hb dX4_calm_13 (by decide) ?_
    refine r_put_1 C w dX4_calm_17 (fun H locs w => ?_)
    have ok : rOK n _ := rOK.put ok (k := 1) (v := 1) (by decide) (fun h => absurd h (by decide)) (fun h => absurd h (by decide))
    refine lv_iconst (v := 0) hx hb dX4_calm_20 (by decide) ?_
    refine lv_istore_n (lv' := [(2, _), (0, _), (1, _)]) C.1 C.2.1 dX4_calm_21 rfl hl (by decide) rfl (fun ls hl => ?_)
    refine lv_aload_n hx hb dX4_calm_22 rfl (lv_at hl 1 rfl) ?_
    refine r_get_1 C w dX4_calm_23 ?_
    rw [show (rI σ 1 1).1 1 = 1 from rfl]
    refine lv_if_ne (tgt := 56) hx hb dX4_calm_26 (by decide) (fun c_26 => ?_) (fun c_26 => absurd c_26 (by decide))
    refine lv_iload_n hx hb dX4_calm_56 rfl (lv_at hl 0 rfl) ?_
    exact W.iret hx hb hr (fun t ht hW => ⟨⟨_, (), rfl, rfl, ⟨by rw [ht]; exact w.1, va_K.moved hW.alike hK, w.2.1⟩, ok⟩, w.2.2.F ht⟩) w.2.2.2.2 dX4_calm_57
