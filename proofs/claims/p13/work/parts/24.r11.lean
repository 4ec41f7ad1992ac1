theorem itr_fst {f : Nat → RS → RS} (h : ∀ i σ, (f i σ).1 = σ.1) : ∀ (n : Nat) (σ : RS), (itr f n σ).1 = σ.1 := by
  intro n σ
  induction n with
  | zero => rfl
  | succ n ih => exact (h n _).trans ih
def rSh (a i : Nat) (σ : RS) : RS := rA σ 8 (nI (a + 1 + i) - 1).toNatClampNeg (σ.2 8 (nI (a + 1 + i)).toNatClampNeg)
/-- message a of mn leaves the row -/
def rOff (a mn : Nat) (σ : RS) : RS := rI (rI (rI (itr (rSh a) (mn - (a + 1)) σ) 9 ((itr (rSh a) (mn - (a + 1)) σ).1 9 - 1)) 11 ((itr (rSh a) (mn - (a + 1)) σ).1 11 + 1)) 12 ((itr (rSh a) (mn - (a + 1)) σ).1 12 + 1)
noncomputable def rH1 (n : Nat) (x : Int32) (σ : RS) : RS := cif (σ.2 2 x.toNatClampNeg = 1) (itr (rMax 21 (σ.2 4 x.toNatClampNeg) x) n (rH0 (σ.2 4 x.toNatClampNeg) σ)) (rH0 (σ.2 4 x.toNatClampNeg) σ)
noncomputable def rHr (n : Nat) (x : Int32) (σ : RS) : RS := rHr2 n (σ.2 4 x.toNatClampNeg) (rH1 n x σ)
/-- what a message in slot x does as it comes -/
noncomputable def rMid (n : Nat) (x : Int32) (σ : RS) : RS := cif (σ.2 13 (σ.2 4 x.toNatClampNeg).toNatClampNeg = 0) (cif (σ.2 2 x.toNatClampNeg = 0) (rRepC n x σ) (cif (σ.2 2 x.toNatClampNeg = 2) (rRepS n x σ) (cif (rCnt x σ) (rHr n x σ) σ))) σ
noncomputable def rCome (n : Nat) (x : Int32) (σ : RS) : RS := rA (rMid n x σ) 7 x.toNatClampNeg 0
def rCOk (n : Nat) (x : Int32) (σ : RS) : Prop := (σ.2 13 (σ.2 4 x.toNatClampNeg).toNatClampNeg = 0 → (σ.2 2 x.toNatClampNeg = 0 ∨ σ.2 2 x.toNatClampNeg = 2) → rRm σ (0 + 1)) ∧ (σ.2 13 (σ.2 4 x.toNatClampNeg).toNatClampNeg = 0 → ¬ σ.2 2 x.toNatClampNeg = 0 → ¬ σ.2 2 x.toNatClampNeg = 2 → rCnt x σ → rHOk n (σ.2 4 x.toNatClampNeg) (rH1 n x σ))
theorem nI_m1 {a : Nat} (h : 1 ≤ a) : nI a - 1 = nI (a - 1) := by
  obtain ⟨b, rfl⟩ : ∃ b, a = b + 1 := ⟨a - 1, by omega⟩
  exact nI_pred b
set_option maxHeartbeats 4000000 in
set_option maxRecDepth 100000 in
/-- hears(x) -/
theorem q_hears (l : Launch) (D : va_G) (cI cZ cN cO : ClassId) (A : Nat → Prop) (mm : Nat) (d : Nat → Nat) (n : Nat) (σ : RS) (x : Int32) (ok : rOK n σ) (hx1 : vp_in x 2001) (hok : rHOk n (σ.2 4 x.toNatClampNeg) (rH1 n x σ)) : Met l yX4_hears (.code yX4_hears cX4_hears 5 none :: gw) ({ frames := 4, cells := 0, slots := 0, locals := 99 }) (va_Pc (.ref mm :: [.int x]) (rH D cI cZ cN cO A mm d σ)) (va_Qv (fun _ : Unit => True) (fun _ t => rH D cI cZ cN cO A mm d (rHr n x σ) t ∧ rOK n (rHr n x σ)) A) 0 0 A := by
  have hk : vp_in (σ.2 4 x.toNatClampNeg) n := ok.at 4 rfl _
  by_cases h1 : σ.2 2 x.toNatClampNeg = 1
  · have e : rH1 n x σ = itr (rMax 21 (σ.2 4 x.toNatClampNeg) x) n (rH0 (σ.2 4 x.toNatClampNeg) σ) := cif_pos h1
    unfold rHr; rw [e]; rw [e] at hok
    exact q_hearsR l D cI cZ cN cO A mm d n σ x _ ok hx1 rfl hk h1 hok
  · have e : rH1 n x σ = rH0 (σ.2 4 x.toNatClampNeg) σ := cif_neg h1
    unfold rHr; rw [e]; rw [e] at hok
    exact q_hearsA l D cI cZ cN cO A mm d n σ x _ ok hx1 rfl hk h1 hok
set_option maxHeartbeats 4000000 in
set_option maxRecDepth 100000 in
theorem ql_shift {p : Program} {l : Launch} {e : Env} {R : Room} {s : State} {m : MethodId} {args : Array Value} {below : List Frame} {meth : Method} {c : Code} {cells slots : Nat} {Q : State → Prop} {D : va_G} {cI cZ cN cO : ClassId} {A : Nat → Prop} {H0 : Heap} {mm : Nat} {d : Nat → Nat} {n : Nat} (C : Cx p c cX4_come s m args RX4 D (gTy cI cZ cN cO)) (hml : c.maxLocals = 4) {σ : RS} {x : Int32} {a mn : Nat} (ha : a < mn) (hm : mn ≤ 2000) (hmn : σ.1 9 = nI mn) (kk : ∀ (H : Heap) (locs : List Loc), rWd D cI cZ A H0 mm d (itr (rSh a) ((mn - (a + 1))) σ) H locs → rOK n (itr (rSh a) ((mn - (a + 1))) σ) → ∀ ls : Array Slot, lv_has ls 4 [(3, .int (nI (a + 1 + ((mn - (a + 1)))))), (2, .int x), (0, .ref mm), (1, .int (nI a))] → W p l e R s m args below meth c H locs cells slots Q (F0 m 55 ls [])) : ∀ (fu i : Nat), i + fu = (mn - (a + 1)) → ∀ (H : Heap) (locs : List Loc), rWd D cI cZ A H0 mm d (itr (rSh a) i σ) H locs → rOK n (itr (rSh a) i σ) → ∀ ls : Array Slot, lv_has ls 4 [(3, .int (nI (a + 1 + i))), (2, .int x), (0, .ref mm), (1, .int (nI a))] → W p l e R s m args below meth c H locs cells slots Q (F0 m 27 ls []) := by
  intro fu
  induction fu with
  | zero =>
    intro i hik
    intro H locs w ok ls hl
    have hx := C.1
    have hb := C.2.1
    have hi : i = mn - (a + 1) := by omega
    subst hi
    refine lv_iload_n hx hb dX4_come_27 rfl (lv_at hl 0 rfl) ?_
    refine lv_aload_n hx hb dX4_come_28 rfl (lv_at hl 2 rfl) ?_
    refine r_get_9 C w dX4_come_29 ?_
    rw [show (itr (rSh a) (mn - (a + 1)) σ).1 9 = nI mn from by rw [itr_fst (f := rSh a) (fun _ _ => rfl) (mn - (a + 1)) σ]; exact hmn]
    refine lv_icmp_ge (tgt := 55) hx hb dX4_come_32 (by decide) (fun c_32 => ?_) (fun c_32 => absurd (nI_le (by omega) (by omega)) c_32)
    exact kk _ _ w ok ls (lv_sub hl [0, 1, 2, 3] rfl)
  | succ fu ih =>
    intro i hik
    intro H locs w ok ls hl
    have hx := C.1
    have hb := C.2.1
    have hi : i < (mn - (a + 1)) := by omega
    refine lv_iload_n hx hb dX4_come_27 rfl (lv_at hl 0 rfl) ?_
    refine lv_aload_n hx hb dX4_come_28 rfl (lv_at hl 2 rfl) ?_
    refine r_get_9 C w dX4_come_29 ?_
    rw [show (itr (rSh a) i σ).1 9 = nI mn from by rw [itr_fst (f := rSh a) (fun _ _ => rfl) i σ]; exact hmn]
    refine lv_icmp_ge (tgt := 55) hx hb dX4_come_32 (by decide) (fun c_32 => absurd c_32 (nI_ge (by omega) (by omega))) (fun c_32 => ?_)
    refine lv_aload_n hx hb dX4_come_35 rfl (lv_at hl 2 rfl) ?_
    refine r_get_8 C w dX4_come_36 ?_
    refine lv_iload_n hx hb dX4_come_39 rfl (lv_at hl 0 rfl) ?_
    refine lv_iconst (v := 1) hx hb dX4_come_40 (by decide) ?_
    refine lv_isub hx hb dX4_come_41 ?_
    refine lv_topi (fun t_1 et_1 => ?_)
    refine lv_aload_n hx hb dX4_come_42 rfl (lv_at hl 2 rfl) ?_
    refine r_get_8 C w dX4_come_43 ?_
    refine lv_iload_n hx hb dX4_come_46 rfl (lv_at hl 0 rfl) ?_
    refine r_ld_8 C w (vp_in_nI (by omega) (by omega)) dX4_come_47 ?_
    refine lv_topi (fun t_2 et_2 => ?_)
    refine r_st_8 C w (by rw [et_1, nI_m1 (by omega)]; exact vp_in_nI (by omega) (by omega)) dX4_come_48 (fun H locs w => ?_)
    have ok : rOK n _ := rOK.st ok (k := 8) (i := t_1.toNatClampNeg) (v := t_2) (fun b hb => by cases hb; rw [et_2]; exact ok.at 8 rfl _)
    obtain ⟨x_3, ex_3⟩ : ∃ y : Int32, y = (nI (a + 1 + i)) + 1 := ⟨_, rfl⟩
    refine lv_iinc (v := x_3) (lv' := [(3, _), (2, _), (0, _), (1, _)]) C.1 C.2.1 dX4_come_49 hl (k := 0) rfl (by rw [ex_3]; rfl) (by decide) rfl (fun ls hl => ?_)
    refine lv_goto (tgt := 27) hx hb dX4_come_52 (by decide) ?_
    subst et_2 et_1
    have hx2 : x_3 = nI (a + 1 + (i + 1)) := by rw [ex_3]; exact nI_1 _
    rw [hx2] at hl
    exact ih (i + 1) (by omega) _ _ w ok ls (lv_sub hl [0, 1, 2, 3] rfl)
set_option maxHeartbeats 4000000 in
set_option maxRecDepth 100000 in
theorem q_come_no (l : Launch) (D : va_G) (cI cZ cN cO : ClassId) (A : Nat → Prop) (mm : Nat) (d : Nat → Nat) (n : Nat) (σ : RS) (a mn : Nat) (x : Int32) (ok : rOK n σ) (ha : a < mn) (hm : mn ≤ 2000) (hmn : σ.1 9 = nI mn) (hxr : σ.2 8 (nI a).toNatClampNeg = x) (hx1 : vp_in x 2001) (hno : ∀ r, rWant n x σ r → (2000 : Int32) < σ.1 9 + (r - 1)) : Met l yX4_come (.code yX4_come cX4_come 4 (some .int) :: gw) ({ frames := 5, cells := 0, slots := 0, locals := 123 }) (va_Pc (.ref mm :: [.int (nI a)]) (rH D cI cZ cN cO A mm d σ)) (va_Qi (fun (r : Int32) (_ : Unit) => r = -1) (fun _ t => rH D cI cZ cN cO A mm d (σ) t ∧ rOK n (σ)) A) 0 0 A := by
  refine Met.ofW (cc := cX4_come) (maxL := 4) (ret := (some .int)) (by decide) rfl ?_
  intro p e s m args below meth c s₁ B hml hv
  obtain ⟨rfl, hP, hK, hD⟩ := hv
  have hx := B.exec
  have hb := B.bytes
  have hr := B.returns
  have hts := atoms_spec (ws := (.code yX4_come cX4_come 4 (some .int) :: gw)) B.pre
  have hg : ∀ w ∈ gw, w.before _ s = true := fun w h => hts w (List.mem_cons_of_mem _ h)
  have hown : s.vm.findClass RX4 = some m.cls := findClass_of_methodNamed B.named
  have hlocks := B.notSynchronized
  have C : Cx p c cX4_come s m _ RX4 D (gTy cI cZ cN cO) := ⟨hx, hb, hown, hg, hK⟩
  have w : rWd D cI cZ A s.heap mm d σ s.heap [] := ⟨hP, hD, va_S.rf⟩
  have hl := lv_entry ([.ref mm, .int (nI a)]) (n := 4) (Nat.le_of_ble_eq_true rfl)
  rw [lg_entry_eq]
  generalize (lg_sl ([.ref mm, .int (nI a)]) ++ List.replicate (4 - (lg_sl ([.ref mm, .int (nI a)])).length) Slot.unset).toArray = ls at hl ⊢
  have hl : lv_has ls 4 [(0, .ref mm), (1, .int (nI a))] := hl
  refine lv_aload_n hx hb dX4_come_0 rfl (lv_at hl 0 rfl) ?_
  refine r_get_8 C w dX4_come_1 ?_
  refine lv_iload_n hx hb dX4_come_4 rfl (lv_at hl 1 rfl) ?_
  refine r_ld_8 C w (vp_in_nI (by omega) (by omega)) dX4_come_5 ?_
  rw [hxr]
  refine lv_istore_n (lv' := [(2, _), (0, _), (1, _)]) C.1 C.2.1 dX4_come_6 rfl hl (by decide) rfl (fun ls hl => ?_)
  refine lv_aload_n hx hb dX4_come_7 rfl (lv_at hl 1 rfl) ?_
  refine lv_aload_n hx hb dX4_come_8 rfl (lv_at hl 1 rfl) ?_
  refine lv_iload_n hx hb dX4_come_9 rfl (lv_at hl 0 rfl) ?_
  refine r_callp (As := [.int x]) (rest := [.ref mm]) C w hml hl.1 (q_wanted l D cI cZ cN cO A mm d n _ x ok hx1) kM_X4_183 kI_X4_wanted kS_X4_wanted kD_X4_wanted (show yX4_wanted.cls = RX4 ∧ yX4_wanted.cls ≠ "java/lang/invoke/MethodHandle" ∧ yX4_wanted.cls ≠ "java/lang/invoke/VarHandle" ∧ (parseMethodDescriptor yX4_wanted.desc).map (fun d => d.parameters.length) = some 1 from by decide +kernel) rfl rfl ⟨Nat.le_of_ble_eq_true rfl, Nat.le_of_ble_eq_true rfl⟩ rfl (lv_room (Nat.le_of_ble_eq_true rfl)) dX4_come_10 ⟨Nat.zero_le _, Nat.zero_le _⟩ (fun r_1 hr_1 => ?_)
  refine lv_iconst (v := 1) hx hb dX4_come_13 (by decide) ?_
  refine lv_isub hx hb dX4_come_14 ?_
  refine lv_topi (fun t_2 et_2 => ?_)
  refine r_callp (As := [.int t_2]) (rest := []) C w hml hl.1 (q_hasRoom l D cI cZ cN cO A mm d n _ t_2 ok ) kM_X4_132 kI_X4_hasRoom kS_X4_hasRoom kD_X4_hasRoom (show yX4_hasRoom.cls = RX4 ∧ yX4_hasRoom.cls ≠ "java/lang/invoke/MethodHandle" ∧ yX4_hasRoom.cls ≠ "java/lang/invoke/VarHandle" ∧ (parseMethodDescriptor yX4_hasRoom.desc).map (fun d => d.parameters.length) = some 1 from by decide +kernel) rfl rfl ⟨Nat.le_of_ble_eq_true rfl, Nat.le_of_ble_eq_true rfl⟩ rfl (lv_room (Nat.le_of_ble_eq_true rfl)) dX4_come_15 ⟨Nat.zero_le _, Nat.zero_le _⟩ (fun r_3 hr_3 => ?_)
  refine lv_if_ne (tgt := 23) hx hb dX4_come_18 (by decide) (fun c_18 => absurd (by rw [et_2]; exact hno _ hr_1) (ite_ne0 hr_3 c_18)) (fun c_18 => ?_)
  refine lv_iconst (v := (-1)) hx hb dX4_come_21 (by decide) ?_
  exact W.iret hx hb hr (fun t ht hW => ⟨⟨_, (), rfl, rfl, ⟨by rw [ht]; exact w.1, va_K.moved hW.alike hK, w.2.1⟩, ok⟩, w.2.2.F ht⟩) w.2.2.2.2 dX4_come_22
set_option maxHeartbeats 4000000 in
set_option maxRecDepth 100000 in
theorem q_come_go (l : Launch) (D : va_G) (cI cZ cN cO : ClassId) (A : Nat → Prop) (mm : Nat) (d : Nat → Nat) (n : Nat) (σ : RS) (a mn : Nat) (x : Int32) (ok : rOK n σ) (ha : a < mn) (hm : mn ≤ 2000) (hmn : σ.1 9 = nI mn) (hxr : σ.2 8 (nI a).toNatClampNeg = x) (hx1 : vp_in x 2001) (hgo : ∀ r, rWant n x σ r → ¬ (2000 : Int32) < σ.1 9 + (r - 1)) (hok : rCOk n x (rOff a mn σ)) : Met l yX4_come (.code yX4_come cX4_come 4 (some .int) :: gw) ({ frames := 5, cells := 0, slots := 0, locals := 123 }) (va_Pc (.ref mm :: [.int (nI a)]) (rH D cI cZ cN cO A mm d σ)) (va_Qi (fun (r : Int32) (_ : Unit) => r = (rCome n x (rOff a mn σ)).2 2 x.toNatClampNeg) (fun _ t => rH D cI cZ cN cO A mm d (rCome n x (rOff a mn σ)) t ∧ rOK n (rCome n x (rOff a mn σ))) A) 0 0 A := by
  refine Met.ofW (cc := cX4_come) (maxL := 4) (ret := (some .int)) (by decide) rfl ?_
  intro p e s m args below meth c s₁ B hml hv
  obtain ⟨rfl, hP, hK, hD⟩ := hv
  have hx := B.exec
  have hb := B.bytes
  have hr := B.returns
  have hts := atoms_spec (ws := (.code yX4_come cX4_come 4 (some .int) :: gw)) B.pre
  have hg : ∀ w ∈ gw, w.before _ s = true := fun w h => hts w (List.mem_cons_of_mem _ h)
  have hown : s.vm.findClass RX4 = some m.cls := findClass_of_methodNamed B.named
  have hlocks := B.notSynchronized
  have C : Cx p c cX4_come s m _ RX4 D (gTy cI cZ cN cO) := ⟨hx, hb, hown, hg, hK⟩
  have w : rWd D cI cZ A s.heap mm d σ s.heap [] := ⟨hP, hD, va_S.rf⟩
  have hl := lv_entry ([.ref mm, .int (nI a)]) (n := 4) (Nat.le_of_ble_eq_true rfl)
  rw [lg_entry_eq]
  generalize (lg_sl ([.ref mm, .int (nI a)]) ++ List.replicate (4 - (lg_sl ([.ref mm, .int (nI a)])).length) Slot.unset).toArray = ls at hl ⊢
  have hl : lv_has ls 4 [(0, .ref mm), (1, .int (nI a))] := hl
  refine lv_aload_n hx hb dX4_come_0 rfl (lv_at hl 0 rfl) ?_
  refine r_get_8 C w dX4_come_1 ?_
  refine lv_iload_n hx hb dX4_come_4 rfl (lv_at hl 1 rfl) ?_
  refine r_ld_8 C w (vp_in_nI (by omega) (by omega)) dX4_come_5 ?_
  rw [hxr]
  refine lv_istore_n (lv' := [(2, _), (0, _), (1, _)]) C.1 C.2.1 dX4_come_6 rfl hl (by decide) rfl (fun ls hl => ?_)
  refine lv_aload_n hx hb dX4_come_7 rfl (lv_at hl 1 rfl) ?_
  refine lv_aload_n hx hb dX4_come_8 rfl (lv_at hl 1 rfl) ?_
  refine lv_iload_n hx hb dX4_come_9 rfl (lv_at hl 0 rfl) ?_
  refine r_callp (As := [.int x]) (rest := [.ref mm]) C w hml hl.1 (q_wanted l D cI cZ cN cO A mm d n _ x ok hx1) kM_X4_183 kI_X4_wanted kS_X4_wanted kD_X4_wanted (show yX4_wanted.cls = RX4 ∧ yX4_wanted.cls ≠ "java/lang/invoke/MethodHandle" ∧ yX4_wanted.cls ≠ "java/lang/invoke/VarHandle" ∧ (parseMethodDescriptor yX4_wanted.desc).map (fun d => d.parameters.length) = some 1 from by decide +kernel) rfl rfl ⟨Nat.le_of_ble_eq_true rfl, Nat.le_of_ble_eq_true rfl⟩ rfl (lv_room (Nat.le_of_ble_eq_true rfl)) dX4_come_10 ⟨Nat.zero_le _, Nat.zero_le _⟩ (fun r_1 hr_1 => ?_)
  refine lv_iconst (v := 1) hx hb dX4_come_13 (by decide) ?_
  refine lv_isub hx hb dX4_come_14 ?_
  refine lv_topi (fun t_2 et_2 => ?_)
  refine r_callp (As := [.int t_2]) (rest := []) C w hml hl.1 (q_hasRoom l D cI cZ cN cO A mm d n _ t_2 ok ) kM_X4_132 kI_X4_hasRoom kS_X4_hasRoom kD_X4_hasRoom (show yX4_hasRoom.cls = RX4 ∧ yX4_hasRoom.cls ≠ "java/lang/invoke/MethodHandle" ∧ yX4_hasRoom.cls ≠ "java/lang/invoke/VarHandle" ∧ (parseMethodDescriptor yX4_hasRoom.desc).map (fun d => d.parameters.length) = some 1 from by decide +kernel) rfl rfl ⟨Nat.le_of_ble_eq_true rfl, Nat.le_of_ble_eq_true rfl⟩ rfl (lv_room (Nat.le_of_ble_eq_true rfl)) dX4_come_15 ⟨Nat.zero_le _, Nat.zero_le _⟩ (fun r_3 hr_3 => ?_)
  refine lv_if_ne (tgt := 23) hx hb dX4_come_18 (by decide) (fun c_18 => ?_) (fun c_18 => absurd (show ¬ (2000 : Int32) < σ.1 9 + t_2 from by rw [et_2]; exact hgo _ hr_1) (ite_eq0 hr_3 c_18))
  refine lv_iload_n hx hb dX4_come_23 rfl (lv_at hl 2 rfl) ?_
  refine lv_iconst (v := 1) hx hb dX4_come_24 (by decide) ?_
  refine lv_iadd hx hb dX4_come_25 ?_
  refine lv_topi (fun t_4 et_4 => ?_)
  refine lv_istore_n (lv' := [(3, _), (2, _), (0, _), (1, _)]) C.1 C.2.1 dX4_come_26 rfl hl (by decide) rfl (fun ls hl => ?_)
  have hl : lv_has ls 4 [(3, .int (nI (a + 1 + 0))), (2, .int x), (0, .ref mm), (1, .int (nI a))] := lv_sub hl [0, 1, 2, 3] (by rw [et_4, nI_1]; rfl)
  refine ql_shift C hml ha hm hmn ?_ (mn - (a + 1)) 0 (by omega) _ _ w ok ls hl
  intro H locs w ok ls hl
  refine lv_aload_n hx hb dX4_come_55 rfl (lv_at hl 2 rfl) ?_
  refine lv_dup hx hb dX4_come_56 rfl ?_
  refine r_get_9 C w dX4_come_57 ?_
  refine lv_topi (fun t_5 et_5 => ?_)
  refine lv_iconst (v := 1) hx hb dX4_come_60 (by decide) ?_
  refine lv_isub hx hb dX4_come_61 ?_
  refine lv_topi (fun t_6 et_6 => ?_)
  refine r_put_9 C w dX4_come_62 (fun H locs w => ?_)
  have ok : rOK n _ := rOK.put ok (k := 9) (v := t_6) (by decide) (fun _ => by rw [et_6, et_5, itr_fst (f := rSh a) (fun _ _ => rfl), hmn, nI_m1 (by omega)]; exact vp_in_nI (by omega) (by omega)) (fun h => absurd h (by decide))
  refine lv_aload_n hx hb dX4_come_65 rfl (lv_at hl 2 rfl) ?_
  refine lv_dup hx hb dX4_come_66 rfl ?_
  refine r_get_11 C w dX4_come_67 ?_
  refine lv_topi (fun t_7 et_7 => ?_)
  refine lv_iconst (v := 1) hx hb dX4_come_70 (by decide) ?_
  refine lv_iadd hx hb dX4_come_71 ?_
  refine lv_topi (fun t_8 et_8 => ?_)
  refine r_put_11 C w dX4_come_72 (fun H locs w => ?_)
  have ok : rOK n _ := rOK.put ok (k := 11) (v := t_8) (by decide) (fun h => absurd h (by decide)) (fun h => absurd h (by decide))
  refine lv_aload_n hx hb dX4_come_75 rfl (lv_at hl 2 rfl) ?_
  refine lv_dup hx hb dX4_come_76 rfl ?_
  refine r_get_12 C w dX4_come_77 ?_
  refine lv_topi (fun t_9 et_9 => ?_)
  refine lv_iconst (v := 1) hx hb dX4_come_80 (by decide) ?_
  refine lv_iadd hx hb dX4_come_81 ?_
  refine lv_topi (fun t_10 et_10 => ?_)
  refine r_put_12 C w dX4_come_82 (fun H locs w => ?_)
  have ok : rOK n _ := rOK.put ok (k := 12) (v := t_10) (by decide) (fun h => absurd h (by decide)) (fun h => absurd h (by decide))
  subst et_10 et_9 et_8 et_7 et_6 et_5
  obtain ⟨σ3, hσ3⟩ : ∃ z, z = rOff a mn σ := ⟨_, rfl⟩
  have w : rWd D cI cZ A s.heap mm d σ3 H locs := by rw [hσ3]; exact w
  have ok : rOK n σ3 := by rw [hσ3]; exact ok
  rw [← hσ3] at hok ⊢
  clear hσ3
  have hk : vp_in (σ3.2 4 x.toNatClampNeg) n := ok.at 4 rfl _
  by_cases hd : σ3.2 13 (σ3.2 4 x.toNatClampNeg).toNatClampNeg = 0
  · by_cases h0 : σ3.2 2 x.toNatClampNeg = 0
    · refine lv_aload_n hx hb dX4_come_85 rfl (lv_at hl 2 rfl) ?_
      refine r_get_13 C w dX4_come_86 ?_
      refine lv_aload_n hx hb dX4_come_89 rfl (lv_at hl 2 rfl) ?_
      refine r_get_4 C w dX4_come_90 ?_
      refine lv_iload_n hx hb dX4_come_93 rfl (lv_at hl 1 rfl) ?_
      refine r_ld_4 C w hx1 dX4_come_94 ?_
      refine r_ld_13 C w (ok.n31 hk) dX4_come_95 ?_
      refine lv_topi (fun t_11 et_11 => ?_)
      refine lv_if_ne (tgt := 103) hx hb dX4_come_96 (by decide) (fun c_96 => absurd (show t_11 = 0 from by rw [et_11]; exact hd) c_96) (fun c_96 => ?_)
      refine lv_iconst (v := 1) hx hb dX4_come_99 (by decide) ?_
      refine lv_goto (tgt := 104) hx hb dX4_come_100 (by decide) ?_
      refine lv_istore_n (lv' := [(3, _), (2, _), (0, _), (1, _)]) C.1 C.2.1 dX4_come_104 rfl hl (by decide) rfl (fun ls hl => ?_)
      refine lv_iload_n hx hb dX4_come_105 rfl (lv_at hl 0 rfl) ?_
      refine lv_if_eq (tgt := 136) hx hb dX4_come_106 (by decide) (fun c_106 => absurd c_106 (by decide)) (fun c_106 => ?_)
      refine lv_aload_n hx hb dX4_come_109 rfl (lv_at hl 2 rfl) ?_
      refine r_get_2 C w dX4_come_110 ?_
      refine lv_iload_n hx hb dX4_come_113 rfl (lv_at hl 1 rfl) ?_
      refine r_ld_2 C w hx1 dX4_come_114 ?_
      refine lv_topi (fun t_12 et_12 => ?_)
      refine lv_if_eq (tgt := 128) hx hb dX4_come_115 (by decide) (fun c_115 => ?_) (fun c_115 => absurd (show t_12 = 0 from by rw [et_12]; exact h0) c_115)
      refine lv_aload_n hx hb dX4_come_128 rfl (lv_at hl 2 rfl) ?_
      refine lv_iload_n hx hb dX4_come_129 rfl (lv_at hl 1 rfl) ?_
      subst et_12 et_11
      refine r_callv (As := [.int x]) (rest := []) C w hml hl.1 (q_repC l D cI cZ cN cO A mm d n _ x ok hx1 h0 (hok.1 hd (Or.inl h0))) kM_X4_189 kI_X4_replies kS_X4_replies kD_X4_replies (show yX4_replies.cls = RX4 ∧ yX4_replies.cls ≠ "java/lang/invoke/MethodHandle" ∧ yX4_replies.cls ≠ "java/lang/invoke/VarHandle" ∧ (parseMethodDescriptor yX4_replies.desc).map (fun d => d.parameters.length) = some 1 from by decide +kernel) rfl rfl ⟨Nat.le_of_ble_eq_true rfl, Nat.le_of_ble_eq_true rfl⟩ rfl (lv_room (Nat.le_of_ble_eq_true rfl)) dX4_come_130 ⟨Nat.zero_le _, Nat.zero_le _⟩ (fun H locs w ok => ?_)
      refine lv_goto (tgt := 153) hx hb dX4_come_133 (by decide) ?_
      have w : rWd D cI cZ A s.heap mm d (rMid n x σ3) H locs := by unfold rMid; rw [cif_pos hd, cif_pos h0]; exact w
      have ok : rOK n (rMid n x σ3) := by unfold rMid; rw [cif_pos hd, cif_pos h0]; exact ok
      refine lv_aload_n hx hb dX4_come_153 rfl (lv_at hl 2 rfl) ?_
      refine r_get_7 C w dX4_come_154 ?_
      refine lv_iload_n hx hb dX4_come_157 rfl (lv_at hl 1 rfl) ?_
      refine lv_iconst (v := 0) hx hb dX4_come_158 (by decide) ?_
      refine r_st_7 (v := 0) C w rfl hx1 dX4_come_159 (fun H locs w => ?_)
      have ok : rOK n _ := rOK.st ok (k := 7) (i := x.toNatClampNeg) (v := 0) (fun b hb => by cases hb)
      refine lv_aload_n hx hb dX4_come_160 rfl (lv_at hl 2 rfl) ?_
      refine r_get_2 C w dX4_come_161 ?_
      refine lv_iload_n hx hb dX4_come_164 rfl (lv_at hl 1 rfl) ?_
      refine r_ld_2 C w hx1 dX4_come_165 ?_
      refine lv_topi (fun t_13 et_13 => ?_)
      exact W.iret hx hb hr (fun t ht hW => ⟨⟨_, (), rfl, et_13, ⟨by rw [ht]; exact w.1, va_K.moved hW.alike hK, w.2.1⟩, ok⟩, w.2.2.F ht⟩) w.2.2.2.2 dX4_come_166
    · by_cases h2 : σ3.2 2 x.toNatClampNeg = 2
      · refine lv_aload_n hx hb dX4_come_85 rfl (lv_at hl 2 rfl) ?_
        refine r_get_13 C w dX4_come_86 ?_
        refine lv_aload_n hx hb dX4_come_89 rfl (lv_at hl 2 rfl) ?_
        refine r_get_4 C w dX4_come_90 ?_
        refine lv_iload_n hx hb dX4_come_93 rfl (lv_at hl 1 rfl) ?_
        refine r_ld_4 C w hx1 dX4_come_94 ?_
        refine r_ld_13 C w (ok.n31 hk) dX4_come_95 ?_
        refine lv_topi (fun t_14 et_14 => ?_)
        refine lv_if_ne (tgt := 103) hx hb dX4_come_96 (by decide) (fun c_96 => absurd (show t_14 = 0 from by rw [et_14]; exact hd) c_96) (fun c_96 => ?_)
        refine lv_iconst (v := 1) hx hb dX4_come_99 (by decide) ?_
        refine lv_goto (tgt := 104) hx hb dX4_come_100 (by decide) ?_
        refine lv_istore_n (lv' := [(3, _), (2, _), (0, _), (1, _)]) C.1 C.2.1 dX4_come_104 rfl hl (by decide) rfl (fun ls hl => ?_)
        refine lv_iload_n hx hb dX4_come_105 rfl (lv_at hl 0 rfl) ?_
        refine lv_if_eq (tgt := 136) hx hb dX4_come_106 (by decide) (fun c_106 => absurd c_106 (by decide)) (fun c_106 => ?_)
        refine lv_aload_n hx hb dX4_come_109 rfl (lv_at hl 2 rfl) ?_
        refine r_get_2 C w dX4_come_110 ?_
        refine lv_iload_n hx hb dX4_come_113 rfl (lv_at hl 1 rfl) ?_
        refine r_ld_2 C w hx1 dX4_come_114 ?_
        refine lv_topi (fun t_15 et_15 => ?_)
        refine lv_if_eq (tgt := 128) hx hb dX4_come_115 (by decide) (fun c_115 => absurd (show σ3.2 2 x.toNatClampNeg = 0 from by rw [← et_15]; exact c_115) h0) (fun c_115 => ?_)
        refine lv_aload_n hx hb dX4_come_118 rfl (lv_at hl 2 rfl) ?_
        refine r_get_2 C w dX4_come_119 ?_
        refine lv_iload_n hx hb dX4_come_122 rfl (lv_at hl 1 rfl) ?_
        refine r_ld_2 C w hx1 dX4_come_123 ?_
        refine lv_topi (fun t_16 et_16 => ?_)
        refine lv_iconst (v := 2) hx hb dX4_come_124 (by decide) ?_
        refine lv_icmp_ne (tgt := 136) hx hb dX4_come_125 (by decide) (fun c_125 => absurd (show t_16 = 2 from by rw [et_16]; exact h2) c_125) (fun c_125 => ?_)
        refine lv_aload_n hx hb dX4_come_128 rfl (lv_at hl 2 rfl) ?_
        refine lv_iload_n hx hb dX4_come_129 rfl (lv_at hl 1 rfl) ?_
        subst et_16 et_15 et_14
        refine r_callv (As := [.int x]) (rest := []) C w hml hl.1 (q_repS l D cI cZ cN cO A mm d n _ x ok hx1 h2 (hok.1 hd (Or.inr h2))) kM_X4_189 kI_X4_replies kS_X4_replies kD_X4_replies (show yX4_replies.cls = RX4 ∧ yX4_replies.cls ≠ "java/lang/invoke/MethodHandle" ∧ yX4_replies.cls ≠ "java/lang/invoke/VarHandle" ∧ (parseMethodDescriptor yX4_replies.desc).map (fun d => d.parameters.length) = some 1 from by decide +kernel) rfl rfl ⟨Nat.le_of_ble_eq_true rfl, Nat.le_of_ble_eq_true rfl⟩ rfl (lv_room (Nat.le_of_ble_eq_true rfl)) dX4_come_130 ⟨Nat.zero_le _, Nat.zero_le _⟩ (fun H locs w ok => ?_)
        refine lv_goto (tgt := 153) hx hb dX4_come_133 (by decide) ?_
        have w : rWd D cI cZ A s.heap mm d (rMid n x σ3) H locs := by unfold rMid; rw [cif_pos hd, cif_neg h0, cif_pos h2]; exact w
        have ok : rOK n (rMid n x σ3) := by unfold rMid; rw [cif_pos hd, cif_neg h0, cif_pos h2]; exact ok
        refine lv_aload_n hx hb dX4_come_153 rfl (lv_at hl 2 rfl) ?_
        refine r_get_7 C w dX4_come_154 ?_
        refine lv_iload_n hx hb dX4_come_157 rfl (lv_at hl 1 rfl) ?_
        refine lv_iconst (v := 0) hx hb dX4_come_158 (by decide) ?_
        refine r_st_7 (v := 0) C w rfl hx1 dX4_come_159 (fun H locs w => ?_)
        have ok : rOK n _ := rOK.st ok (k := 7) (i := x.toNatClampNeg) (v := 0) (fun b hb => by cases hb)
        refine lv_aload_n hx hb dX4_come_160 rfl (lv_at hl 2 rfl) ?_
        refine r_get_2 C w dX4_come_161 ?_
        refine lv_iload_n hx hb dX4_come_164 rfl (lv_at hl 1 rfl) ?_
        refine r_ld_2 C w hx1 dX4_come_165 ?_
        refine lv_topi (fun t_17 et_17 => ?_)
        exact W.iret hx hb hr (fun t ht hW => ⟨⟨_, (), rfl, et_17, ⟨by rw [ht]; exact w.1, va_K.moved hW.alike hK, w.2.1⟩, ok⟩, w.2.2.F ht⟩) w.2.2.2.2 dX4_come_166
      · by_cases hc : rCnt x σ3
        · refine lv_aload_n hx hb dX4_come_85 rfl (lv_at hl 2 rfl) ?_
          refine r_get_13 C w dX4_come_86 ?_
          refine lv_aload_n hx hb dX4_come_89 rfl (lv_at hl 2 rfl) ?_
          refine r_get_4 C w dX4_come_90 ?_
          refine lv_iload_n hx hb dX4_come_93 rfl (lv_at hl 1 rfl) ?_
          refine r_ld_4 C w hx1 dX4_come_94 ?_
          refine r_ld_13 C w (ok.n31 hk) dX4_come_95 ?_
          refine lv_topi (fun t_18 et_18 => ?_)
          refine lv_if_ne (tgt := 103) hx hb dX4_come_96 (by decide) (fun c_96 => absurd (show t_18 = 0 from by rw [et_18]; exact hd) c_96) (fun c_96 => ?_)
          refine lv_iconst (v := 1) hx hb dX4_come_99 (by decide) ?_
          refine lv_goto (tgt := 104) hx hb dX4_come_100 (by decide) ?_
          refine lv_istore_n (lv' := [(3, _), (2, _), (0, _), (1, _)]) C.1 C.2.1 dX4_come_104 rfl hl (by decide) rfl (fun ls hl => ?_)
          refine lv_iload_n hx hb dX4_come_105 rfl (lv_at hl 0 rfl) ?_
          refine lv_if_eq (tgt := 136) hx hb dX4_come_106 (by decide) (fun c_106 => absurd c_106 (by decide)) (fun c_106 => ?_)
          refine lv_aload_n hx hb dX4_come_109 rfl (lv_at hl 2 rfl) ?_
          refine r_get_2 C w dX4_come_110 ?_
          refine lv_iload_n hx hb dX4_come_113 rfl (lv_at hl 1 rfl) ?_
          refine r_ld_2 C w hx1 dX4_come_114 ?_
          refine lv_topi (fun t_19 et_19 => ?_)
          refine lv_if_eq (tgt := 128) hx hb dX4_come_115 (by decide) (fun c_115 => absurd (show σ3.2 2 x.toNatClampNeg = 0 from by rw [← et_19]; exact c_115) h0) (fun c_115 => ?_)
          refine lv_aload_n hx hb dX4_come_118 rfl (lv_at hl 2 rfl) ?_
          refine r_get_2 C w dX4_come_119 ?_
          refine lv_iload_n hx hb dX4_come_122 rfl (lv_at hl 1 rfl) ?_
          refine r_ld_2 C w hx1 dX4_come_123 ?_
          refine lv_topi (fun t_20 et_20 => ?_)
          refine lv_iconst (v := 2) hx hb dX4_come_124 (by decide) ?_
          refine lv_icmp_ne (tgt := 136) hx hb dX4_come_125 (by decide) (fun c_125 => ?_) (fun c_125 => absurd (show σ3.2 2 x.toNatClampNeg = 2 from by rw [← et_20]; exact c_125) h2)
          refine lv_iload_n hx hb dX4_come_136 rfl (lv_at hl 0 rfl) ?_
          refine lv_if_eq (tgt := 153) hx hb dX4_come_137 (by decide) (fun c_137 => absurd c_137 (by decide)) (fun c_137 => ?_)
          refine lv_aload_n hx hb dX4_come_140 rfl (lv_at hl 2 rfl) ?_
          refine lv_iload_n hx hb dX4_come_141 rfl (lv_at hl 1 rfl) ?_
          refine r_callp (As := [.int x]) (rest := []) C w hml hl.1 (q_counts l D cI cZ cN cO A mm d n _ x ok hx1) kM_X4_171 kI_X4_counts kS_X4_counts kD_X4_counts (show yX4_counts.cls = RX4 ∧ yX4_counts.cls ≠ "java/lang/invoke/MethodHandle" ∧ yX4_counts.cls ≠ "java/lang/invoke/VarHandle" ∧ (parseMethodDescriptor yX4_counts.desc).map (fun d => d.parameters.length) = some 1 from by decide +kernel) rfl rfl ⟨Nat.le_of_ble_eq_true rfl, Nat.le_of_ble_eq_true rfl⟩ rfl (lv_room (Nat.le_of_ble_eq_true rfl)) dX4_come_142 ⟨Nat.zero_le _, Nat.zero_le _⟩ (fun r_21 hr_21 => ?_)
          obtain rfl : r_21 = 1 := hr_21.elim (fun h => h.1) (fun h => absurd hc h.2)
          refine lv_if_eq (tgt := 153) hx hb dX4_come_145 (by decide) (fun c_145 => absurd c_145 (by decide)) (fun c_145 => ?_)
          refine lv_aload_n hx hb dX4_come_148 rfl (lv_at hl 2 rfl) ?_
          refine lv_iload_n hx hb dX4_come_149 rfl (lv_at hl 1 rfl) ?_
          subst et_20 et_19 et_18
          refine r_callv (As := [.int x]) (rest := []) C w hml hl.1 (q_hears l D cI cZ cN cO A mm d n _ x ok hx1 (hok.2 hd h0 h2 hc)) kM_X4_192 kI_X4_hears kS_X4_hears kD_X4_hears (show yX4_hears.cls = RX4 ∧ yX4_hears.cls ≠ "java/lang/invoke/MethodHandle" ∧ yX4_hears.cls ≠ "java/lang/invoke/VarHandle" ∧ (parseMethodDescriptor yX4_hears.desc).map (fun d => d.parameters.length) = some 1 from by decide +kernel) rfl rfl ⟨Nat.le_of_ble_eq_true rfl, Nat.le_of_ble_eq_true rfl⟩ rfl (lv_room (Nat.le_of_ble_eq_true rfl)) dX4_come_150 ⟨Nat.zero_le _, Nat.zero_le _⟩ (fun H locs w ok => ?_)
          have w : rWd D cI cZ A s.heap mm d (rMid n x σ3) H locs := by unfold rMid; rw [cif_pos hd, cif_neg h0, cif_neg h2, cif_pos hc]; exact w
          have ok : rOK n (rMid n x σ3) := by unfold rMid; rw [cif_pos hd, cif_neg h0, cif_neg h2, cif_pos hc]; exact ok
          refine lv_aload_n hx hb dX4_come_153 rfl (lv_at hl 2 rfl) ?_
          refine r_get_7 C w dX4_come_154 ?_
          refine lv_iload_n hx hb dX4_come_157 rfl (lv_at hl 1 rfl) ?_
          refine lv_iconst (v := 0) hx hb dX4_come_158 (by decide) ?_
          refine r_st_7 (v := 0) C w rfl hx1 dX4_come_159 (fun H locs w => ?_)
          have ok : rOK n _ := rOK.st ok (k := 7) (i := x.toNatClampNeg) (v := 0) (fun b hb => by cases hb)
          refine lv_aload_n hx hb dX4_come_160 rfl (lv_at hl 2 rfl) ?_
          refine r_get_2 C w dX4_come_161 ?_
          refine lv_iload_n hx hb dX4_come_164 rfl (lv_at hl 1 rfl) ?_
          refine r_ld_2 C w hx1 dX4_come_165 ?_
          refine lv_topi (fun t_22 et_22 => ?_)
          exact W.iret hx hb hr (fun t ht hW => ⟨⟨_, (), rfl, et_22, ⟨by rw [ht]; exact w.1, va_K.moved hW.alike hK, w.2.1⟩, ok⟩, w.2.2.F ht⟩) w.2.2.2.2 dX4_come_166
        · refine lv_aload_n hx hb dX4_come_85 rfl (lv_at hl 2 rfl) ?_
          refine r_get_13 C w dX4_come_86 ?_
          refine lv_aload_n hx hb dX4_come_89 rfl (lv_at hl 2 rfl) ?_
          refine r_get_4 C w dX4_come_90 ?_
          refine lv_iload_n hx hb dX4_come_93 rfl (lv_at hl 1 rfl) ?_
          refine r_ld_4 C w hx1 dX4_come_94 ?_
          refine r_ld_13 C w (ok.n31 hk) dX4_come_95 ?_
          refine lv_topi (fun t_23 et_23 => ?_)
          refine lv_if_ne (tgt := 103) hx hb dX4_come_96 (by decide) (fun c_96 => absurd (show t_23 = 0 from by rw [et_23]; exact hd) c_96) (fun c_96 => ?_)
          refine lv_iconst (v := 1) hx hb dX4_come_99 (by decide) ?_
          refine lv_goto (tgt := 104) hx hb dX4_come_100 (by decide) ?_
          refine lv_istore_n (lv' := [(3, _), (2, _), (0, _), (1, _)]) C.1 C.2.1 dX4_come_104 rfl hl (by decide) rfl (fun ls hl => ?_)
          refine lv_iload_n hx hb dX4_come_105 rfl (lv_at hl 0 rfl) ?_
          refine lv_if_eq (tgt := 136) hx hb dX4_come_106 (by decide) (fun c_106 => absurd c_106 (by decide)) (fun c_106 => ?_)
          refine lv_aload_n hx hb dX4_come_109 rfl (lv_at hl 2 rfl) ?_
          refine r_get_2 C w dX4_come_110 ?_
          refine lv_iload_n hx hb dX4_come_113 rfl (lv_at hl 1 rfl) ?_
          refine r_ld_2 C w hx1 dX4_come_114 ?_
          refine lv_topi (fun t_24 et_24 => ?_)
          refine lv_if_eq (tgt := 128) hx hb dX4_come_115 (by decide) (fun c_115 => absurd (show σ3.2 2 x.toNatClampNeg = 0 from by rw [← et_24]; exact c_115) h0) (fun c_115 => ?_)
          refine lv_aload_n hx hb dX4_come_118 rfl (lv_at hl 2 rfl) ?_
          refine r_get_2 C w dX4_come_119 ?_
          refine lv_iload_n hx hb dX4_come_122 rfl (lv_at hl 1 rfl) ?_
          refine r_ld_2 C w hx1 dX4_come_123 ?_
          refine lv_topi (fun t_25 et_25 => ?_)
          refine lv_iconst (v := 2) hx hb dX4_come_124 (by decide) ?_
          refine lv_icmp_ne (tgt := 136) hx hb dX4_come_125 (by decide) (fun c_125 => ?_) (fun c_125 => absurd (show σ3.2 2 x.toNatClampNeg = 2 from by rw [← et_25]; exact c_125) h2)
          refine lv_iload_n hx hb dX4_come_136 rfl (lv_at hl 0 rfl) ?_
          refine lv_if_eq (tgt := 153) hx hb dX4_come_137 (by decide) (fun c_137 => absurd c_137 (by decide)) (fun c_137 => ?_)
          refine lv_aload_n hx hb dX4_come_140 rfl (lv_at hl 2 rfl) ?_
          refine lv_iload_n hx hb dX4_come_141 rfl (lv_at hl 1 rfl) ?_
          refine r_callp (As := [.int x]) (rest := []) C w hml hl.1 (q_counts l D cI cZ cN cO A mm d n _ x ok hx1) kM_X4_171 kI_X4_counts kS_X4_counts kD_X4_counts (show yX4_counts.cls = RX4 ∧ yX4_counts.cls ≠ "java/lang/invoke/MethodHandle" ∧ yX4_counts.cls ≠ "java/lang/invoke/VarHandle" ∧ (parseMethodDescriptor yX4_counts.desc).map (fun d => d.parameters.length) = some 1 from by decide +kernel) rfl rfl ⟨Nat.le_of_ble_eq_true rfl, Nat.le_of_ble_eq_true rfl⟩ rfl (lv_room (Nat.le_of_ble_eq_true rfl)) dX4_come_142 ⟨Nat.zero_le _, Nat.zero_le _⟩ (fun r_26 hr_26 => ?_)
          obtain rfl : r_26 = 0 := hr_26.elim (fun h => absurd h.2 hc) (fun h => h.1)
          refine lv_if_eq (tgt := 153) hx hb dX4_come_145 (by decide) (fun c_145 => ?_) (fun c_145 => absurd rfl c_145)
          subst et_25 et_24 et_23
          have w : rWd D cI cZ A s.heap mm d (rMid n x σ3) H locs := by unfold rMid; rw [cif_pos hd, cif_neg h0, cif_neg h2, cif_neg hc]; exact w
          have ok : rOK n (rMid n x σ3) := by unfold rMid; rw [cif_pos hd, cif_neg h0, cif_neg h2, cif_neg hc]; exact ok
          refine lv_aload_n hx hb dX4_come_153 rfl (lv_at hl 2 rfl) ?_
          refine r_get_7 C w dX4_come_154 ?_
          refine lv_iload_n hx hb dX4_come_157 rfl (lv_at hl 1 rfl) ?_
          refine lv_iconst (v := 0) hx hb dX4_come_158 (by decide) ?_
          refine r_st_7 (v := 0) C w rfl hx1 dX4_come_159 (fun H locs w => ?_)
          have ok : rOK n _ := rOK.st ok (k := 7) (i := x.toNatClampNeg) (v := 0) (fun b hb => by cases hb)
          refine lv_aload_n hx hb dX4_come_160 rfl (lv_at hl 2 rfl) ?_
          refine r_get_2 C w dX4_come_161 ?_
          refine lv_iload_n hx hb dX4_come_164 rfl (lv_at hl 1 rfl) ?_
          refine r_ld_2 C w hx1 dX4_come_165 ?_
          refine lv_topi (fun t_27 et_27 => ?_)
          exact W.iret hx hb hr (fun t ht hW => ⟨⟨_, (), rfl, et_27, ⟨by rw [ht]; exact w.1, va_K.moved hW.alike hK, w.2.1⟩, ok⟩, w.2.2.F ht⟩) w.2.2.2.2 dX4_come_166
  · refine lv_aload_n hx hb dX4_come_85 rfl (lv_at hl 2 rfl) ?_
    refine r_get_13 C w dX4_come_86 ?_
    refine lv_aload_n hx hb dX4_come_89 rfl (lv_at hl 2 rfl) ?_
    refine r_get_4 C w dX4_come_90 ?_
    refine lv_iload_n hx hb dX4_come_93 rfl (lv_at hl 1 rfl) ?_
    refine r_ld_4 C w hx1 dX4_come_94 ?_
    refine r_ld_13 C w (ok.n31 hk) dX4_come_95 ?_
    refine lv_topi (fun t_28 et_28 => ?_)
    refine lv_if_ne (tgt := 103) hx hb dX4_come_96 (by decide) (fun c_96 => ?_) (fun c_96 => absurd (show σ3.2 13 (σ3.2 4 x.toNatClampNeg).toNatClampNeg = 0 from by rw [← et_28]; exact c_96) hd)
    refine lv_iconst (v := 0) hx hb dX4_come_103 (by decide) ?_
    refine lv_istore_n (lv' := [(3, _), (2, _), (0, _), (1, _)]) C.1 C.2.1 dX4_come_104 rfl hl (by decide) rfl (fun ls hl => ?_)
    refine lv_iload_n hx hb dX4_come_105 rfl (lv_at hl 0 rfl) ?_
    refine lv_if_eq (tgt := 136) hx hb dX4_come_106 (by decide) (fun c_106 => ?_) (fun c_106 => absurd rfl c_106)
    refine lv_iload_n hx hb dX4_come_136 rfl (lv_at hl 0 rfl) ?_
    refine lv_if_eq (tgt := 153) hx hb dX4_come_137 (by decide) (fun c_137 => ?_) (fun c_137 => absurd rfl c_137)
    subst et_28
    have w : rWd D cI cZ A s.heap mm d (rMid n x σ3) H locs := by unfold rMid; rw [cif_neg hd]; exact w
    have ok : rOK n (rMid n x σ3) := by unfold rMid; rw [cif_neg hd]; exact ok
    refine lv_aload_n hx hb dX4_come_153 rfl (lv_at hl 2 rfl) ?_
    refine r_get_7 C w dX4_come_154 ?_
    refine lv_iload_n hx hb dX4_come_157 rfl (lv_at hl 1 rfl) ?_
    refine lv_iconst (v := 0) hx hb dX4_come_158 (by decide) ?_
    refine r_st_7 (v := 0) C w rfl hx1 dX4_come_159 (fun H locs w => ?_)
    have ok : rOK n _ := rOK.st ok (k := 7) (i := x.toNatClampNeg) (v := 0) (fun b hb => by cases hb)
    refine lv_aload_n hx hb dX4_come_160 rfl (lv_at hl 2 rfl) ?_
    refine r_get_2 C w dX4_come_161 ?_
    refine lv_iload_n hx hb dX4_come_164 rfl (lv_at hl 1 rfl) ?_
    refine r_ld_2 C w hx1 dX4_come_165 ?_
    refine lv_topi (fun t_29 et_29 => ?_)
    exact W.iret hx hb hr (fun t ht hW => ⟨⟨_, (), rfl, et_29, ⟨by rw [ht]; exact w.1, va_K.moved hW.alike hK, w.2.1⟩, ok⟩, w.2.2.F ht⟩) w.2.2.2.2 dX4_come_166
