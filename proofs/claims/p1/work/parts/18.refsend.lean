set_option maxHeartbeats 4000000 in
set_option maxRecDepth 100000 in
theorem c_X4_answer (l : Launch) (dC : Nat → ClassId) (dI : Nat → Nat → Nat) (cI cZ cN cO : ClassId) (m0 d2 d3 d4 d5 d6 d7 d8 d13 d14 d15 d16 d17 d18 d19 d20 d21 d22 d23 d24 d25 d26 d27 d28 d29 d30 d31 d32 d33 d34 d35 d36 d39 n : Nat) (p0 p1 : Int32) (sz : Nat)  : Met l yX4_answer (.code yX4_answer cX4_answer 13 (some .long) :: gw) ({ frames := 1, cells := 0, slots := 0, locals := 21 }) (va_Pc [.ref m0, .int p0] (fun U => U.heap.size = sz ∧ va_P (dC, dI) vwCl [(m0, .inr (4, [.int (nI n), .int 0, .ref d2, .ref d3, .ref d4, .ref d5, .ref d6, .ref d7, .ref d8, .int 0, .int 0, .int 0, .int 0, .ref d13, .ref d14, .ref d15, .ref d16, .ref d17, .ref d18, .ref d19, .ref d20, .ref d21, .ref d22, .ref d23, .ref d24, .ref d25, .ref d26, .ref d27, .ref d28, .ref d29, .ref d30, .ref d31, .ref d32, .ref d33, .ref d34, .ref d35, .ref d36, .int 0, .int 0, .ref d39, .int 0]))] U.heap ∧ va_K (dC, dI) vwCl (gTy cI cZ cN cO) U ∧ va_D (fun _ => True) [(m0, .inr (4, [.int (nI n), .int 0, .ref d2, .ref d3, .ref d4, .ref d5, .ref d6, .ref d7, .ref d8, .int 0, .int 0, .int 0, .int 0, .ref d13, .ref d14, .ref d15, .ref d16, .ref d17, .ref d18, .ref d19, .ref d20, .ref d21, .ref d22, .ref d23, .ref d24, .ref d25, .ref d26, .ref d27, .ref d28, .ref d29, .ref d30, .ref d31, .ref d32, .ref d33, .ref d34, .ref d35, .ref d36, .int 0, .int 0, .ref d39, .int 0]))])) (va_Ql (fun (r : Int64) (_ : Unit) => r = 0) (fun (_ : Unit) (t : State) => va_P (dC, dI) vwCl [] t.heap ∧ va_K (dC, dI) vwCl (gTy cI cZ cN cO) t ∧ va_D (va_A [(m0, .inr (4, [.int (nI n), .int 0, .ref d2, .ref d3, .ref d4, .ref d5, .ref d6, .ref d7, .ref d8, .int 0, .int 0, .int 0, .int 0, .ref d13, .ref d14, .ref d15, .ref d16, .ref d17, .ref d18, .ref d19, .ref d20, .ref d21, .ref d22, .ref d23, .ref d24, .ref d25, .ref d26, .ref d27, .ref d28, .ref d29, .ref d30, .ref d31, .ref d32, .ref d33, .ref d34, .ref d35, .ref d36, .int 0, .int 0, .ref d39, .int 0]))] sz) []) (va_A [(m0, .inr (4, [.int (nI n), .int 0, .ref d2, .ref d3, .ref d4, .ref d5, .ref d6, .ref d7, .ref d8, .int 0, .int 0, .int 0, .int 0, .ref d13, .ref d14, .ref d15, .ref d16, .ref d17, .ref d18, .ref d19, .ref d20, .ref d21, .ref d22, .ref d23, .ref d24, .ref d25, .ref d26, .ref d27, .ref d28, .ref d29, .ref d30, .ref d31, .ref d32, .ref d33, .ref d34, .ref d35, .ref d36, .int 0, .int 0, .ref d39, .int 0]))] sz)) (0) (0) (va_A [(m0, .inr (4, [.int (nI n), .int 0, .ref d2, .ref d3, .ref d4, .ref d5, .ref d6, .ref d7, .ref d8, .int 0, .int 0, .int 0, .int 0, .ref d13, .ref d14, .ref d15, .ref d16, .ref d17, .ref d18, .ref d19, .ref d20, .ref d21, .ref d22, .ref d23, .ref d24, .ref d25, .ref d26, .ref d27, .ref d28, .ref d29, .ref d30, .ref d31, .ref d32, .ref d33, .ref d34, .ref d35, .ref d36, .int 0, .int 0, .ref d39, .int 0]))] sz) := by
  refine Met.ofW (cc := cX4_answer) (maxL := 13) (ret := (some .long)) (by decide) rfl ?_
  intro p e s m args below meth c s₁ B hml hv
  obtain ⟨rfl, hsz, hP, hK, hD0⟩ := hv
  have hx := B.exec
  have hb := B.bytes
  have hr := B.returns
  have hts := atoms_spec (ws := (.code yX4_answer cX4_answer 13 (some .long) :: gw)) B.pre
  have hg : ∀ w ∈ gw, w.before _ s = true := fun w h => hts w (List.mem_cons_of_mem _ h)
  have hown : s.vm.findClass RX4 = some m.cls := findClass_of_methodNamed B.named
  have hlocks := B.notSynchronized
  subst hsz
  have hD := hD0.self (sz := s.heap.size)
  generalize hAe : va_A [(m0, .inr (4, [.int (nI n), .int 0, .ref d2, .ref d3, .ref d4, .ref d5, .ref d6, .ref d7, .ref d8, .int 0, .int 0, .int 0, .int 0, .ref d13, .ref d14, .ref d15, .ref d16, .ref d17, .ref d18, .ref d19, .ref d20, .ref d21, .ref d22, .ref d23, .ref d24, .ref d25, .ref d26, .ref d27, .ref d28, .ref d29, .ref d30, .ref d31, .ref d32, .ref d33, .ref d34, .ref d35, .ref d36, .int 0, .int 0, .ref d39, .int 0]))] s.heap.size = A at hD ⊢
  have hA : ∀ q : Nat, s.heap.size ≤ q → A q := fun q h => by rw [← hAe]; exact Or.inr h
  have hS : va_S A s.heap s.heap [] := va_S.rf
  obtain ⟨H, eH⟩ : ∃ z, z = s.heap := ⟨_, rfl⟩
  obtain ⟨locs, elocs⟩ : ∃ z : List Loc, z = [] := ⟨_, rfl⟩
  have hP : va_P (dC, dI) vwCl [(m0, .inr (4, [.int (nI n), .int 0, .ref d2, .ref d3, .ref d4, .ref d5, .ref d6, .ref d7, .ref d8, .int 0, .int 0, .int 0, .int 0, .ref d13, .ref d14, .ref d15, .ref d16, .ref d17, .ref d18, .ref d19, .ref d20, .ref d21, .ref d22, .ref d23, .ref d24, .ref d25, .ref d26, .ref d27, .ref d28, .ref d29, .ref d30, .ref d31, .ref d32, .ref d33, .ref d34, .ref d35, .ref d36, .int 0, .int 0, .ref d39, .int 0]))] H := by rw [eH]; exact hP
  have hS : va_S A s.heap H locs := by rw [eH, elocs]; exact hS
  have hl := lv_entry ([.ref m0, .int p0]) (n := 13) (Nat.le_of_ble_eq_true rfl)
  rw [lg_entry_eq]
  generalize (lg_sl ([.ref m0, .int p0]) ++ List.replicate (13 - (lg_sl ([.ref m0, .int p0])).length) Slot.unset).toArray = ls at hl ⊢
  have hl : lv_has ls 13 [(0, .ref m0), (1, .int p0)] := hl
  rw [← elocs]
  suffices hgoal : ∀ HH, H = HH → W p l e (headSpec (.code yX4_answer cX4_answer 13 (some .long) :: gw) ({ frames := 1, cells := 0, slots := 0, locals := 21 })).room s m _ below meth c HH locs 0 0 _ (F0 m 0 ls []) from hgoal _ eH
  rintro _ rfl
  refine lv_aload_n hx hb dX4_answer_0 rfl (lv_at hl 0 rfl) ?_
  refine lv_iconst (v := 0) hx hb dX4_answer_1 (by decide) ?_
  refine va_put (D := (dC, dI)) (ci := 4) (v := .int 0) (ty := .int) (C := RX4) (T := TX4) (N := 41) hx hb hg inX4 tyX4 tyX4_ok nmX4 hown hK hP hD hS 0 rfl rfl 1 (by decide) (hg _ kF_X4_112) (fun _ h9 => h9) rfl (by decide +kernel) rfl rfl (Nat.le_of_ble_eq_true rfl) dX4_answer_2 (fun H locs hP hD hS => ?_)
  have hP : va_P (dC, dI) vwCl [(m0, .inr (4, [.int (nI n), .int 0, .ref d2, .ref d3, .ref d4, .ref d5, .ref d6, .ref d7, .ref d8, .int 0, .int 0, .int 0, .int 0, .ref d13, .ref d14, .ref d15, .ref d16, .ref d17, .ref d18, .ref d19, .ref d20, .ref d21, .ref d22, .ref d23, .ref d24, .ref d25, .ref d26, .ref d27, .ref d28, .ref d29, .ref d30, .ref d31, .ref d32, .ref d33, .ref d34, .ref d35, .ref d36, .int 0, .int 0, .ref d39, .int 0]))] H := hP
  have hD : va_D A [(m0, .inr (4, [.int (nI n), .int 0, .ref d2, .ref d3, .ref d4, .ref d5, .ref d6, .ref d7, .ref d8, .int 0, .int 0, .int 0, .int 0, .ref d13, .ref d14, .ref d15, .ref d16, .ref d17, .ref d18, .ref d19, .ref d20, .ref d21, .ref d22, .ref d23, .ref d24, .ref d25, .ref d26, .ref d27, .ref d28, .ref d29, .ref d30, .ref d31, .ref d32, .ref d33, .ref d34, .ref d35, .ref d36, .int 0, .int 0, .ref d39, .int 0]))] := hD
  refine lv_aload_n hx hb dX4_answer_5 rfl (lv_at hl 0 rfl) ?_
  refine lv_iload_n hx hb dX4_answer_6 rfl (lv_at hl 1 rfl) ?_
  have hPc := hP.sub (ws' := [(m0, .inr (4, [.int (nI n), .int 0, .ref d2, .ref d3, .ref d4, .ref d5, .ref d6, .ref d7, .ref d8, .int 0, .int 0, .int 0, .int 0, .ref d13, .ref d14, .ref d15, .ref d16, .ref d17, .ref d18, .ref d19, .ref d20, .ref d21, .ref d22, .ref d23, .ref d24, .ref d25, .ref d26, .ref d27, .ref d28, .ref d29, .ref d30, .ref d31, .ref d32, .ref d33, .ref d34, .ref d35, .ref d36, .int 0, .int 0, .ref d39, .int 0]))]) [0] rfl
  refine vp_callSi (W.runV (As := [.int p0]) (rest := []) ⟨hx, hb, hml, hown, hg⟩ (c_X4_isOperation l dC dI cI cZ cN cO m0 d2 d3 d4 d5 d6 d7 d8 d13 d14 d15 d16 d17 d18 d19 d20 d21 d22 d23 d24 d25 d26 d27 d28 d29 d30 d31 d32 d33 d34 d35 d36 d39 n 0 p0) (cwV 1 hg (gw_V kM_X4_198 kI_X4_isOperation kS_X4_isOperation kN_X4 kD_X4_isOperation) rfl rfl rfl (by decide +kernel) ⟨Nat.le_of_ble_eq_true rfl, Nat.le_of_ble_eq_true rfl⟩) ⟨fun a U g mk q => by obtain ⟨q0, qP, qK⟩ := q; exact ⟨q0, qP, va_K.moved (u := U) (U := U.calling g mk a) (Vm.Alike.refl U.vm) qK⟩, va_recv hK hP (ci := 4) (q0 := 0) rfl rfl, fun U hU hW => ⟨rfl, by rw [hU]; exact hPc, va_K.moved hW.alike hK⟩⟩ rfl rfl hl.1 rfl (lv_room (Nat.le_of_ble_eq_true rfl)) dX4_answer_7 ⟨Nat.zero_le _, Nat.zero_le _⟩) (fun r_1 hr_1 => ?_)
  refine lv_if_eq (tgt := 31) hx hb dX4_answer_10 (by decide) (fun c_10 => ?_) (fun c_10 => absurd hr_1 c_10)
  refine lv_lconst (v := 0) hx hb dX4_answer_31 (by decide) ?_
  have hP9 := hP.sub (ws' := []) [] rfl
  have hD9 := hD.sub (ws' := []) [] (by decide) rfl
  refine W.widen (k := 0) (n := 0) (by omega) (by omega) ?_
  exact W.lret (v := 0) hx hb hr (fun t ht hW => ⟨⟨_, (), rfl, rfl, by rw [ht]; exact hP9, va_K.moved hW.alike hK, hD9⟩, hS.F ht⟩) hS.2.2 dX4_answer_32
set_option maxHeartbeats 4000000 in
set_option maxRecDepth 100000 in
theorem lp_X4_count {p : Program} {l : Launch} {e : Env} {R : Room} {s : State} {m : MethodId} {args : Array Value} {below : List Frame} {meth : Method} {c : Code} {cells slots : Nat} {Q : State → Prop} {dC : Nat → ClassId} {dI : Nat → Nat → Nat} {cI cZ cN cO : ClassId} {H : Heap} {locs : List Loc} (hx : p.tables.exec = Jvm.exec) (hb : c.code = cX4_count) (hml : c.maxLocals = 6) (hown : s.vm.findClass RX4 = some m.cls) (hg : ∀ w ∈ gw, w.before args s = true) (hK : va_K (dC, dI) vwCl (gTy cI cZ cN cO) s) (m0 d2 d3 d4 d5 d6 d7 d8 d13 d14 d15 d16 d17 d18 d19 d20 d21 d22 d23 d24 d25 d26 d27 d28 d29 d30 d31 d32 d33 d34 d35 d36 d39 n : Nat) (p0 : Int32) (hn : n ≤ 31) (kk : va_P (dC, dI) vwCl [(m0, .inr (4, [.int (nI n), .int 0, .ref d2, .ref d3, .ref d4, .ref d5, .ref d6, .ref d7, .ref d8, .int 0, .int 0, .int 0, .int 0, .ref d13, .ref d14, .ref d15, .ref d16, .ref d17, .ref d18, .ref d19, .ref d20, .ref d21, .ref d22, .ref d23, .ref d24, .ref d25, .ref d26, .ref d27, .ref d28, .ref d29, .ref d30, .ref d31, .ref d32, .ref d33, .ref d34, .ref d35, .ref d36, .int 0, .int 0, .ref d39, .int 0])), (d13, .inl (cZ, 31, .inl ((fun _ => 0))))] H → ∀ ls : Array Slot, lv_has ls 6 [(3, .int (nI n)), (2, .int (nI n)), (0, .ref m0), (1, .int p0)] → W p l e R s m args below meth c H locs cells slots Q (F0 m 40 ls [])) : ∀ (k i : Nat), i + k = n → va_P (dC, dI) vwCl [(m0, .inr (4, [.int (nI n), .int 0, .ref d2, .ref d3, .ref d4, .ref d5, .ref d6, .ref d7, .ref d8, .int 0, .int 0, .int 0, .int 0, .ref d13, .ref d14, .ref d15, .ref d16, .ref d17, .ref d18, .ref d19, .ref d20, .ref d21, .ref d22, .ref d23, .ref d24, .ref d25, .ref d26, .ref d27, .ref d28, .ref d29, .ref d30, .ref d31, .ref d32, .ref d33, .ref d34, .ref d35, .ref d36, .int 0, .int 0, .ref d39, .int 0])), (d13, .inl (cZ, 31, .inl ((fun _ => 0))))] H → ∀ ls : Array Slot, lv_has ls 6 [(3, .int (nI i)), (2, .int (nI i)), (0, .ref m0), (1, .int p0)] → W p l e R s m args below meth c H locs cells slots Q (F0 m 9 ls []) := by
  intro k
  induction k with
  | zero =>
    intro i hik
    intro  hP ls hl
    have hi : n = i := by omega
    subst hi
    refine lv_iload_n hx hb dX4_count_9 rfl (lv_at hl 0 rfl) ?_
    refine lv_aload_n hx hb dX4_count_10 rfl (lv_at hl 2 rfl) ?_
    refine va_get (D := (dC, dI)) (ci := 4) (v := .int (nI n)) (C := RX4) (T := TX4) (N := 41) hx hb hg inX4 hown hK hP 0 rfl rfl 0 (by decide) (hg _ kF_X4_108) (fun _ h9 => h9) rfl dX4_count_11 ?_
    refine lv_icmp_ge (tgt := 40) hx hb dX4_count_14 (by decide) (fun c_14 => ?_) (fun c_14 => absurd (Int32.le_refl _) c_14)
    exact kk  hP ls (lv_sub hl [0, 1, 2, 3] rfl)
  | succ k ih =>
    intro i hik
    intro  hP ls hl
    have hi : i < n := by omega
    refine lv_iload_n hx hb dX4_count_9 rfl (lv_at hl 0 rfl) ?_
    refine lv_aload_n hx hb dX4_count_10 rfl (lv_at hl 2 rfl) ?_
    refine va_get (D := (dC, dI)) (ci := 4) (v := .int (nI n)) (C := RX4) (T := TX4) (N := 41) hx hb hg inX4 hown hK hP 0 rfl rfl 0 (by decide) (hg _ kF_X4_108) (fun _ h9 => h9) rfl dX4_count_11 ?_
    refine lv_icmp_ge (tgt := 40) hx hb dX4_count_14 (by decide) (fun c_14 => absurd c_14 (nI_ge hi (by omega))) (fun c_14 => ?_)
    refine lv_iload_n hx hb dX4_count_17 rfl (lv_at hl 1 rfl) ?_
    refine lv_aload_n hx hb dX4_count_18 rfl (lv_at hl 2 rfl) ?_
    refine va_get (D := (dC, dI)) (ci := 4) (v := .ref d13) (C := RX4) (T := TX4) (N := 41) hx hb hg inX4 hown hK hP 0 rfl rfl 13 (by decide) (hg _ kF_X4_33) (fun _ h9 => h9) rfl dX4_count_19 ?_
    refine lv_iload_n hx hb dX4_count_22 rfl (lv_at hl 0 rfl) ?_
    refine va_zald hx hb hK hP 1 1 rfl rfl (vp_in_nI (by omega) (by omega)) dX4_count_23 ?_
    refine lv_topi (fun t_1 et_1 => ?_)
    refine lv_if_eq (tgt := 31) hx hb dX4_count_24 (by decide) (fun c_24 => ?_) (fun c_24 => absurd (by assumption) c_24)
    refine lv_iconst (v := 1) hx hb dX4_count_31 (by decide) ?_
    refine lv_iadd hx hb dX4_count_32 ?_
    refine lv_topi (fun t_2 et_2 => ?_)
    refine lv_istore_n (lv' := [(2, .int t_2), (3, .int (nI i)), (0, .ref m0), (1, .int p0)]) hx hb dX4_count_33 rfl hl (by decide) rfl (fun ls hl => ?_)
    obtain ⟨x_3, ex_3⟩ : ∃ y : Int32, y = (nI i) + 1 := ⟨_, rfl⟩
    refine lv_iinc (v := x_3) (lv' := [(3, .int x_3), (2, .int t_2), (0, .ref m0), (1, .int p0)]) hx hb dX4_count_34 hl (k := 1) rfl (by rw [ex_3]; rfl) (by decide) rfl (fun ls hl => ?_)
    refine lv_goto (tgt := 9) hx hb dX4_count_37 (by decide) ?_
    have hx4 : x_3 = nI (i + 1) := by rw [ex_3]; exact nI_1 i
    have hx1 : t_2 = nI (i + 1) := by rw [et_2]; exact nI_1 i
    rw [hx4, hx1] at hl
    exact ih (i + 1) (by omega)  hP ls (lv_sub hl [0, 1, 2, 3] rfl)
set_option maxHeartbeats 4000000 in
set_option maxRecDepth 100000 in
theorem c_X4_count (l : Launch) (dC : Nat → ClassId) (dI : Nat → Nat → Nat) (cI cZ cN cO : ClassId) (m0 d2 d3 d4 d5 d6 d7 d8 d13 d14 d15 d16 d17 d18 d19 d20 d21 d22 d23 d24 d25 d26 d27 d28 d29 d30 d31 d32 d33 d34 d35 d36 d39 n : Nat) (p0 p1 : Int32) (sz : Nat) (hn : n ≤ 31) : Met l yX4_count (.code yX4_count cX4_count 6 (some .int) :: gw) ({ frames := 1, cells := 0, slots := 0, locals := 21 }) (va_Pc [.ref m0, .int p0] (fun U => U.heap.size = sz ∧ va_P (dC, dI) vwCl [(m0, .inr (4, [.int (nI n), .int 0, .ref d2, .ref d3, .ref d4, .ref d5, .ref d6, .ref d7, .ref d8, .int 0, .int 0, .int 0, .int 0, .ref d13, .ref d14, .ref d15, .ref d16, .ref d17, .ref d18, .ref d19, .ref d20, .ref d21, .ref d22, .ref d23, .ref d24, .ref d25, .ref d26, .ref d27, .ref d28, .ref d29, .ref d30, .ref d31, .ref d32, .ref d33, .ref d34, .ref d35, .ref d36, .int 0, .int 0, .ref d39, .int 0])), (d13, .inl (cZ, 31, .inl ((fun _ => 0))))] U.heap ∧ va_K (dC, dI) vwCl (gTy cI cZ cN cO) U ∧ va_D (fun _ => True) [(m0, .inr (4, [.int (nI n), .int 0, .ref d2, .ref d3, .ref d4, .ref d5, .ref d6, .ref d7, .ref d8, .int 0, .int 0, .int 0, .int 0, .ref d13, .ref d14, .ref d15, .ref d16, .ref d17, .ref d18, .ref d19, .ref d20, .ref d21, .ref d22, .ref d23, .ref d24, .ref d25, .ref d26, .ref d27, .ref d28, .ref d29, .ref d30, .ref d31, .ref d32, .ref d33, .ref d34, .ref d35, .ref d36, .int 0, .int 0, .ref d39, .int 0])), (d13, .inl (cZ, 31, .inl ((fun _ => 0))))])) (va_Qi (fun (r : Int32) (_ : Unit) => r = fCount n p0) (fun (_ : Unit) (t : State) => va_P (dC, dI) vwCl [] t.heap ∧ va_K (dC, dI) vwCl (gTy cI cZ cN cO) t ∧ va_D (va_A [(m0, .inr (4, [.int (nI n), .int 0, .ref d2, .ref d3, .ref d4, .ref d5, .ref d6, .ref d7, .ref d8, .int 0, .int 0, .int 0, .int 0, .ref d13, .ref d14, .ref d15, .ref d16, .ref d17, .ref d18, .ref d19, .ref d20, .ref d21, .ref d22, .ref d23, .ref d24, .ref d25, .ref d26, .ref d27, .ref d28, .ref d29, .ref d30, .ref d31, .ref d32, .ref d33, .ref d34, .ref d35, .ref d36, .int 0, .int 0, .ref d39, .int 0])), (d13, .inl (cZ, 31, .inl ((fun _ => 0))))] sz) []) (va_A [(m0, .inr (4, [.int (nI n), .int 0, .ref d2, .ref d3, .ref d4, .ref d5, .ref d6, .ref d7, .ref d8, .int 0, .int 0, .int 0, .int 0, .ref d13, .ref d14, .ref d15, .ref d16, .ref d17, .ref d18, .ref d19, .ref d20, .ref d21, .ref d22, .ref d23, .ref d24, .ref d25, .ref d26, .ref d27, .ref d28, .ref d29, .ref d30, .ref d31, .ref d32, .ref d33, .ref d34, .ref d35, .ref d36, .int 0, .int 0, .ref d39, .int 0])), (d13, .inl (cZ, 31, .inl ((fun _ => 0))))] sz)) (0) (0) (va_A [(m0, .inr (4, [.int (nI n), .int 0, .ref d2, .ref d3, .ref d4, .ref d5, .ref d6, .ref d7, .ref d8, .int 0, .int 0, .int 0, .int 0, .ref d13, .ref d14, .ref d15, .ref d16, .ref d17, .ref d18, .ref d19, .ref d20, .ref d21, .ref d22, .ref d23, .ref d24, .ref d25, .ref d26, .ref d27, .ref d28, .ref d29, .ref d30, .ref d31, .ref d32, .ref d33, .ref d34, .ref d35, .ref d36, .int 0, .int 0, .ref d39, .int 0])), (d13, .inl (cZ, 31, .inl ((fun _ => 0))))] sz) := by
  refine Met.ofW (cc := cX4_count) (maxL := 6) (ret := (some .int)) (by decide) rfl ?_
  intro p e s m args below meth c s₁ B hml hv
  obtain ⟨rfl, hsz, hP, hK, hD0⟩ := hv
  have hx := B.exec
  have hb := B.bytes
  have hr := B.returns
  have hts := atoms_spec (ws := (.code yX4_count cX4_count 6 (some .int) :: gw)) B.pre
  have hg : ∀ w ∈ gw, w.before _ s = true := fun w h => hts w (List.mem_cons_of_mem _ h)
  have hown : s.vm.findClass RX4 = some m.cls := findClass_of_methodNamed B.named
  have hlocks := B.notSynchronized
  subst hsz
  have hD := hD0.self (sz := s.heap.size)
  generalize hAe : va_A [(m0, .inr (4, [.int (nI n), .int 0, .ref d2, .ref d3, .ref d4, .ref d5, .ref d6, .ref d7, .ref d8, .int 0, .int 0, .int 0, .int 0, .ref d13, .ref d14, .ref d15, .ref d16, .ref d17, .ref d18, .ref d19, .ref d20, .ref d21, .ref d22, .ref d23, .ref d24, .ref d25, .ref d26, .ref d27, .ref d28, .ref d29, .ref d30, .ref d31, .ref d32, .ref d33, .ref d34, .ref d35, .ref d36, .int 0, .int 0, .ref d39, .int 0])), (d13, .inl (cZ, 31, .inl ((fun _ => 0))))] s.heap.size = A at hD ⊢
  have hA : ∀ q : Nat, s.heap.size ≤ q → A q := fun q h => by rw [← hAe]; exact Or.inr h
  have hS : va_S A s.heap s.heap [] := va_S.rf
  obtain ⟨H, eH⟩ : ∃ z, z = s.heap := ⟨_, rfl⟩
  obtain ⟨locs, elocs⟩ : ∃ z : List Loc, z = [] := ⟨_, rfl⟩
  have hP : va_P (dC, dI) vwCl [(m0, .inr (4, [.int (nI n), .int 0, .ref d2, .ref d3, .ref d4, .ref d5, .ref d6, .ref d7, .ref d8, .int 0, .int 0, .int 0, .int 0, .ref d13, .ref d14, .ref d15, .ref d16, .ref d17, .ref d18, .ref d19, .ref d20, .ref d21, .ref d22, .ref d23, .ref d24, .ref d25, .ref d26, .ref d27, .ref d28, .ref d29, .ref d30, .ref d31, .ref d32, .ref d33, .ref d34, .ref d35, .ref d36, .int 0, .int 0, .ref d39, .int 0])), (d13, .inl (cZ, 31, .inl ((fun _ => 0))))] H := by rw [eH]; exact hP
  have hS : va_S A s.heap H locs := by rw [eH, elocs]; exact hS
  have hl := lv_entry ([.ref m0, .int p0]) (n := 6) (Nat.le_of_ble_eq_true rfl)
  rw [lg_entry_eq]
  generalize (lg_sl ([.ref m0, .int p0]) ++ List.replicate (6 - (lg_sl ([.ref m0, .int p0])).length) Slot.unset).toArray = ls at hl ⊢
  have hl : lv_has ls 6 [(0, .ref m0), (1, .int p0)] := hl
  rw [← elocs]
  suffices hgoal : ∀ HH, H = HH → W p l e (headSpec (.code yX4_count cX4_count 6 (some .int) :: gw) ({ frames := 1, cells := 0, slots := 0, locals := 21 })).room s m _ below meth c HH locs 0 0 _ (F0 m 0 ls []) from hgoal _ eH
  rintro _ rfl
  refine lv_aload_n hx hb dX4_count_0 rfl (lv_at hl 0 rfl) ?_
  refine lv_iconst (v := 0) hx hb dX4_count_1 (by decide) ?_
  refine va_put (D := (dC, dI)) (ci := 4) (v := .int 0) (ty := .int) (C := RX4) (T := TX4) (N := 41) hx hb hg inX4 tyX4 tyX4_ok nmX4 hown hK hP hD hS 0 rfl rfl 1 (by decide) (hg _ kF_X4_112) (fun _ h9 => h9) rfl (by decide +kernel) rfl rfl (Nat.le_of_ble_eq_true rfl) dX4_count_2 (fun H locs hP hD hS => ?_)
  have hP : va_P (dC, dI) vwCl [(m0, .inr (4, [.int (nI n), .int 0, .ref d2, .ref d3, .ref d4, .ref d5, .ref d6, .ref d7, .ref d8, .int 0, .int 0, .int 0, .int 0, .ref d13, .ref d14, .ref d15, .ref d16, .ref d17, .ref d18, .ref d19, .ref d20, .ref d21, .ref d22, .ref d23, .ref d24, .ref d25, .ref d26, .ref d27, .ref d28, .ref d29, .ref d30, .ref d31, .ref d32, .ref d33, .ref d34, .ref d35, .ref d36, .int 0, .int 0, .ref d39, .int 0])), (d13, .inl (cZ, 31, .inl ((fun _ => 0))))] H := hP
  have hD : va_D A [(m0, .inr (4, [.int (nI n), .int 0, .ref d2, .ref d3, .ref d4, .ref d5, .ref d6, .ref d7, .ref d8, .int 0, .int 0, .int 0, .int 0, .ref d13, .ref d14, .ref d15, .ref d16, .ref d17, .ref d18, .ref d19, .ref d20, .ref d21, .ref d22, .ref d23, .ref d24, .ref d25, .ref d26, .ref d27, .ref d28, .ref d29, .ref d30, .ref d31, .ref d32, .ref d33, .ref d34, .ref d35, .ref d36, .int 0, .int 0, .ref d39, .int 0])), (d13, .inl (cZ, 31, .inl ((fun _ => 0))))] := hD
  refine lv_iconst (v := 0) hx hb dX4_count_5 (by decide) ?_
  refine lv_istore_n (lv' := [(2, .int 0), (0, .ref m0), (1, .int p0)]) hx hb dX4_count_6 rfl hl (by decide) rfl (fun ls hl => ?_)
  refine lv_iconst (v := 0) hx hb dX4_count_7 (by decide) ?_
  refine lv_istore_n (lv' := [(3, .int 0), (2, .int 0), (0, .ref m0), (1, .int p0)]) hx hb dX4_count_8 rfl hl (by decide) rfl (fun ls hl => ?_)
  rw [← nI_0] at hl
  refine lp_X4_count hx hb hml hown hg hK m0 d2 d3 d4 d5 d6 d7 d8 d13 d14 d15 d16 d17 d18 d19 d20 d21 d22 d23 d24 d25 d26 d27 d28 d29 d30 d31 d32 d33 d34 d35 d36 d39 n p0 hn ?_ n 0 (by omega) hP ls (lv_sub hl [0, 1, 2, 3] rfl)
  clear hP
  intro hP ls hl
  refine lv_iconst (v := 0) hx hb dX4_count_40 (by decide) ?_
  refine lv_istore_n (lv' := [(3, .int 0), (2, .int (nI n)), (0, .ref m0), (1, .int p0)]) hx hb dX4_count_41 rfl hl (by decide) rfl (fun ls hl => ?_)
  refine lv_iconst (v := 0) hx hb dX4_count_42 (by decide) ?_
  refine lv_istore (lv' := [(4, .int 0), (3, .int 0), (2, .int (nI n)), (0, .ref m0), (1, .int p0)]) hx hb dX4_count_43 hl (by decide) rfl (fun ls hl => ?_)
  refine lv_iconst (v := 1) hx hb dX4_count_45 (by decide) ?_
  refine lv_istore (lv' := [(5, .int 1), (4, .int 0), (3, .int 0), (2, .int (nI n)), (0, .ref m0), (1, .int p0)]) hx hb dX4_count_46 hl (by decide) rfl (fun ls hl => ?_)
  refine lv_iload hx hb dX4_count_48 (lv_at hl 0 rfl) ?_
  refine lv_aload_n hx hb dX4_count_50 rfl (lv_at hl 4 rfl) ?_
  refine va_get (D := (dC, dI)) (ci := 4) (v := .int 0) (C := RX4) (T := TX4) (N := 41) hx hb hg inX4 hown hK hP 0 rfl rfl 37 (by decide) (hg _ kF_X4_129) (fun _ h9 => h9) rfl dX4_count_51 ?_
  refine lv_icmp_gt (tgt := 96) hx hb dX4_count_54 (by decide) (fun c_54 => ?_) (fun c_54 => absurd (by decide) c_54)
  refine lv_iload_n hx hb dX4_count_96 rfl (lv_at hl 5 rfl) ?_
  rcases gSw p0 9 9 rfl (by decide) with hsw | ⟨j, hj, hjx⟩
  · refine lv_tableOut (tgt := 194) hx hb dX4_count_97 hsw (by decide) ?_
    refine lv_iconst (v := (-1)) hx hb dX4_count_194 (by decide) ?_
    have hP9 := hP.sub (ws' := []) [] rfl
    have hD9 := hD.sub (ws' := []) [] (by decide) rfl
    refine W.widen (k := 0) (n := 0) (by omega) (by omega) ?_
    exact W.iret (v := (-1)) hx hb hr (fun t ht hW => ⟨⟨_, (), rfl, (by first | exact (if_pos hsw).symm | (unfold fCount; rw [if_neg (by decide +kernel)]; first | exact (if_pos (by decide +kernel)).symm | exact (if_neg (by decide +kernel)).symm)), by rw [ht]; exact hP9, va_K.moved hW.alike hK, hD9⟩, hS.F ht⟩) hS.2.2 dX4_count_195
  · rcases (show j = 0 ∨ j = 1 ∨ j = 2 ∨ j = 3 ∨ j = 4 ∨ j = 5 ∨ j = 6 ∨ j = 7 ∨ j = 8 ∨ j = 9 by omega) with hj0 | hj0 | hj0 | hj0 | hj0 | hj0 | hj0 | hj0 | hj0 | hj0
    · rw [hj0] at hjx
      subst hjx
      refine lv_tableIn (off := 55) (tgt := 152) hx hb dX4_count_97 (by decide +kernel) (by decide +kernel) (by decide +kernel) (by decide) ?_
      refine lv_aload_n hx hb dX4_count_152 rfl (lv_at hl 4 rfl) ?_
      refine va_get (D := (dC, dI)) (ci := 4) (v := .int (nI n)) (C := RX4) (T := TX4) (N := 41) hx hb hg inX4 hown hK hP 0 rfl rfl 0 (by decide) (hg _ kF_X4_108) (fun _ h9 => h9) rfl dX4_count_153 ?_
      have hP9 := hP.sub (ws' := []) [] rfl
      have hD9 := hD.sub (ws' := []) [] (by decide) rfl
      refine W.widen (k := 0) (n := 0) (by omega) (by omega) ?_
      exact W.iret (v := nI n) hx hb hr (fun t ht hW => ⟨⟨_, (), rfl, (by first | exact (if_pos hsw).symm | (unfold fCount; rw [if_neg (by decide +kernel)]; first | exact (if_pos (by decide +kernel)).symm | exact (if_neg (by decide +kernel)).symm)), by rw [ht]; exact hP9, va_K.moved hW.alike hK, hD9⟩, hS.F ht⟩) hS.2.2 dX4_count_156
    · rw [hj0] at hjx
      subst hjx
      refine lv_tableIn (off := 60) (tgt := 157) hx hb dX4_count_97 (by decide +kernel) (by decide +kernel) (by decide +kernel) (by decide) ?_
      refine lv_iload_n hx hb dX4_count_157 rfl (lv_at hl 3 rfl) ?_
      have hP9 := hP.sub (ws' := []) [] rfl
      have hD9 := hD.sub (ws' := []) [] (by decide) rfl
      refine W.widen (k := 0) (n := 0) (by omega) (by omega) ?_
      exact W.iret (v := nI n) hx hb hr (fun t ht hW => ⟨⟨_, (), rfl, (by first | exact (if_pos hsw).symm | (unfold fCount; rw [if_neg (by decide +kernel)]; first | exact (if_pos (by decide +kernel)).symm | exact (if_neg (by decide +kernel)).symm)), by rw [ht]; exact hP9, va_K.moved hW.alike hK, hD9⟩, hS.F ht⟩) hS.2.2 dX4_count_158
    · rw [hj0] at hjx
      subst hjx
      refine lv_tableIn (off := 62) (tgt := 159) hx hb dX4_count_97 (by decide +kernel) (by decide +kernel) (by decide +kernel) (by decide) ?_
      refine lv_aload_n hx hb dX4_count_159 rfl (lv_at hl 4 rfl) ?_
      refine va_get (D := (dC, dI)) (ci := 4) (v := .int 0) (C := RX4) (T := TX4) (N := 41) hx hb hg inX4 hown hK hP 0 rfl rfl 9 (by decide) (hg _ kF_X4_115) (fun _ h9 => h9) rfl dX4_count_160 ?_
      have hP9 := hP.sub (ws' := []) [] rfl
      have hD9 := hD.sub (ws' := []) [] (by decide) rfl
      refine W.widen (k := 0) (n := 0) (by omega) (by omega) ?_
      exact W.iret (v := 0) hx hb hr (fun t ht hW => ⟨⟨_, (), rfl, (by first | exact (if_pos hsw).symm | (unfold fCount; rw [if_neg (by decide +kernel)]; first | exact (if_pos (by decide +kernel)).symm | exact (if_neg (by decide +kernel)).symm)), by rw [ht]; exact hP9, va_K.moved hW.alike hK, hD9⟩, hS.F ht⟩) hS.2.2 dX4_count_163
    · rw [hj0] at hjx
      subst hjx
      refine lv_tableIn (off := 67) (tgt := 164) hx hb dX4_count_97 (by decide +kernel) (by decide +kernel) (by decide +kernel) (by decide) ?_
      refine lv_aload_n hx hb dX4_count_164 rfl (lv_at hl 4 rfl) ?_
      refine va_get (D := (dC, dI)) (ci := 4) (v := .int 0) (C := RX4) (T := TX4) (N := 41) hx hb hg inX4 hown hK hP 0 rfl rfl 10 (by decide) (hg _ kF_X4_118) (fun _ h9 => h9) rfl dX4_count_165 ?_
      have hP9 := hP.sub (ws' := []) [] rfl
      have hD9 := hD.sub (ws' := []) [] (by decide) rfl
      refine W.widen (k := 0) (n := 0) (by omega) (by omega) ?_
      exact W.iret (v := 0) hx hb hr (fun t ht hW => ⟨⟨_, (), rfl, (by first | exact (if_pos hsw).symm | (unfold fCount; rw [if_neg (by decide +kernel)]; first | exact (if_pos (by decide +kernel)).symm | exact (if_neg (by decide +kernel)).symm)), by rw [ht]; exact hP9, va_K.moved hW.alike hK, hD9⟩, hS.F ht⟩) hS.2.2 dX4_count_168
    · rw [hj0] at hjx
      subst hjx
      refine lv_tableIn (off := 72) (tgt := 169) hx hb dX4_count_97 (by decide +kernel) (by decide +kernel) (by decide +kernel) (by decide) ?_
      refine lv_aload_n hx hb dX4_count_169 rfl (lv_at hl 4 rfl) ?_
      refine va_get (D := (dC, dI)) (ci := 4) (v := .int 0) (C := RX4) (T := TX4) (N := 41) hx hb hg inX4 hown hK hP 0 rfl rfl 11 (by decide) (hg _ kF_X4_186) (fun _ h9 => h9) rfl dX4_count_170 ?_
      have hP9 := hP.sub (ws' := []) [] rfl
      have hD9 := hD.sub (ws' := []) [] (by decide) rfl
      refine W.widen (k := 0) (n := 0) (by omega) (by omega) ?_
      exact W.iret (v := 0) hx hb hr (fun t ht hW => ⟨⟨_, (), rfl, (by first | exact (if_pos hsw).symm | (unfold fCount; rw [if_neg (by decide +kernel)]; first | exact (if_pos (by decide +kernel)).symm | exact (if_neg (by decide +kernel)).symm)), by rw [ht]; exact hP9, va_K.moved hW.alike hK, hD9⟩, hS.F ht⟩) hS.2.2 dX4_count_173
    · rw [hj0] at hjx
      subst hjx
      refine lv_tableIn (off := 77) (tgt := 174) hx hb dX4_count_97 (by decide +kernel) (by decide +kernel) (by decide +kernel) (by decide) ?_
      refine lv_aload_n hx hb dX4_count_174 rfl (lv_at hl 4 rfl) ?_
      refine va_get (D := (dC, dI)) (ci := 4) (v := .int 0) (C := RX4) (T := TX4) (N := 41) hx hb hg inX4 hown hK hP 0 rfl rfl 37 (by decide) (hg _ kF_X4_129) (fun _ h9 => h9) rfl dX4_count_175 ?_
      have hP9 := hP.sub (ws' := []) [] rfl
      have hD9 := hD.sub (ws' := []) [] (by decide) rfl
      refine W.widen (k := 0) (n := 0) (by omega) (by omega) ?_
      exact W.iret (v := 0) hx hb hr (fun t ht hW => ⟨⟨_, (), rfl, (by first | exact (if_pos hsw).symm | (unfold fCount; rw [if_neg (by decide +kernel)]; first | exact (if_pos (by decide +kernel)).symm | exact (if_neg (by decide +kernel)).symm)), by rw [ht]; exact hP9, va_K.moved hW.alike hK, hD9⟩, hS.F ht⟩) hS.2.2 dX4_count_178
    · rw [hj0] at hjx
      subst hjx
      refine lv_tableIn (off := 82) (tgt := 179) hx hb dX4_count_97 (by decide +kernel) (by decide +kernel) (by decide +kernel) (by decide) ?_
      refine lv_iload_n hx hb dX4_count_179 rfl (lv_at hl 2 rfl) ?_
      have hP9 := hP.sub (ws' := []) [] rfl
      have hD9 := hD.sub (ws' := []) [] (by decide) rfl
      refine W.widen (k := 0) (n := 0) (by omega) (by omega) ?_
      exact W.iret (v := 0) hx hb hr (fun t ht hW => ⟨⟨_, (), rfl, (by first | exact (if_pos hsw).symm | (unfold fCount; rw [if_neg (by decide +kernel)]; first | exact (if_pos (by decide +kernel)).symm | exact (if_neg (by decide +kernel)).symm)), by rw [ht]; exact hP9, va_K.moved hW.alike hK, hD9⟩, hS.F ht⟩) hS.2.2 dX4_count_180
    · rw [hj0] at hjx
      subst hjx
      refine lv_tableIn (off := 84) (tgt := 181) hx hb dX4_count_97 (by decide +kernel) (by decide +kernel) (by decide +kernel) (by decide) ?_
      refine lv_aload_n hx hb dX4_count_181 rfl (lv_at hl 4 rfl) ?_
      refine va_get (D := (dC, dI)) (ci := 4) (v := .int 0) (C := RX4) (T := TX4) (N := 41) hx hb hg inX4 hown hK hP 0 rfl rfl 12 (by decide) (hg _ kF_X4_136) (fun _ h9 => h9) rfl dX4_count_182 ?_
      have hP9 := hP.sub (ws' := []) [] rfl
      have hD9 := hD.sub (ws' := []) [] (by decide) rfl
      refine W.widen (k := 0) (n := 0) (by omega) (by omega) ?_
      exact W.iret (v := 0) hx hb hr (fun t ht hW => ⟨⟨_, (), rfl, (by first | exact (if_pos hsw).symm | (unfold fCount; rw [if_neg (by decide +kernel)]; first | exact (if_pos (by decide +kernel)).symm | exact (if_neg (by decide +kernel)).symm)), by rw [ht]; exact hP9, va_K.moved hW.alike hK, hD9⟩, hS.F ht⟩) hS.2.2 dX4_count_185
    · rw [hj0] at hjx
      subst hjx
      refine lv_tableIn (off := 89) (tgt := 186) hx hb dX4_count_97 (by decide +kernel) (by decide +kernel) (by decide +kernel) (by decide) ?_
      refine lv_aload_n hx hb dX4_count_186 rfl (lv_at hl 4 rfl) ?_
      refine va_get (D := (dC, dI)) (ci := 4) (v := .int 0) (C := RX4) (T := TX4) (N := 41) hx hb hg inX4 hown hK hP 0 rfl rfl 38 (by decide) (hg _ kF_X4_156) (fun _ h9 => h9) rfl dX4_count_187 ?_
      have hP9 := hP.sub (ws' := []) [] rfl
      have hD9 := hD.sub (ws' := []) [] (by decide) rfl
      refine W.widen (k := 0) (n := 0) (by omega) (by omega) ?_
      exact W.iret (v := 0) hx hb hr (fun t ht hW => ⟨⟨_, (), rfl, (by first | exact (if_pos hsw).symm | (unfold fCount; rw [if_neg (by decide +kernel)]; first | exact (if_pos (by decide +kernel)).symm | exact (if_neg (by decide +kernel)).symm)), by rw [ht]; exact hP9, va_K.moved hW.alike hK, hD9⟩, hS.F ht⟩) hS.2.2 dX4_count_190
    · rw [hj0] at hjx
      subst hjx
      refine lv_tableIn (off := 94) (tgt := 191) hx hb dX4_count_97 (by decide +kernel) (by decide +kernel) (by decide +kernel) (by decide) ?_
      refine lv_iload hx hb dX4_count_191 (lv_at hl 1 rfl) ?_
      have hP9 := hP.sub (ws' := []) [] rfl
      have hD9 := hD.sub (ws' := []) [] (by decide) rfl
      refine W.widen (k := 0) (n := 0) (by omega) (by omega) ?_
      exact W.iret (v := 0) hx hb hr (fun t ht hW => ⟨⟨_, (), rfl, (by first | exact (if_pos hsw).symm | (unfold fCount; rw [if_neg (by decide +kernel)]; first | exact (if_pos (by decide +kernel)).symm | exact (if_neg (by decide +kernel)).symm)), by rw [ht]; exact hP9, va_K.moved hW.alike hK, hD9⟩, hS.F ht⟩) hS.2.2 dX4_count_193
set_option maxHeartbeats 4000000 in
set_option maxRecDepth 100000 in
theorem lp_X4_send {p : Program} {l : Launch} {e : Env} {R : Room} {s : State} {m : MethodId} {args : Array Value} {below : List Frame} {meth : Method} {c : Code} {cells slots : Nat} {Q : State → Prop} {dC : Nat → ClassId} {dI : Nat → Nat → Nat} {cI cZ cN cO : ClassId} {H : Heap} {locs : List Loc} (hx : p.tables.exec = Jvm.exec) (hb : c.code = cX4_send) (hml : c.maxLocals = 6) (hown : s.vm.findClass RX4 = some m.cls) (hg : ∀ w ∈ gw, w.before args s = true) (hK : va_K (dC, dI) vwCl (gTy cI cZ cN cO) s) (m0 d2 d3 d4 d5 d6 d7 d8 d13 d14 d15 d16 d17 d18 d19 d20 d21 d22 d23 d24 d25 d26 d27 d28 d29 d30 d31 d32 d33 d34 d35 d36 d39 n : Nat) (i : Nat) (th op mt q1 q2 q3 q4 : Int32) (u : Nat → Int32) (hi : i < 2001) (hu : (∀ j, j < i → u j = 1) ∧ (∀ j, i ≤ j → u j = 0)) (kk : va_P (dC, dI) vwCl [(m0, .inr (4, [.int (nI n), .int th, .ref d2, .ref d3, .ref d4, .ref d5, .ref d6, .ref d7, .ref d8, .int ((nI i)), .int ((nI i)), .int 0, .int mt, .ref d13, .ref d14, .ref d15, .ref d16, .ref d17, .ref d18, .ref d19, .ref d20, .ref d21, .ref d22, .ref d23, .ref d24, .ref d25, .ref d26, .ref d27, .ref d28, .ref d29, .ref d30, .ref d31, .ref d32, .ref d33, .ref d34, .ref d35, .ref d36, .int op, .int 0, .ref d39, .int 0])), (d7, .inl (cZ, 2001, .inl u))] H → ∀ ls : Array Slot, lv_has ls 6 [(5, .int (nI i)), (0, .ref m0), (1, .int q1), (2, .int q2), (3, .int q3), (4, .int q4)] → W p l e R s m args below meth c H locs cells slots Q (F0 m 19 ls [])) : ∀ (k j : Nat), j + k = i → va_P (dC, dI) vwCl [(m0, .inr (4, [.int (nI n), .int th, .ref d2, .ref d3, .ref d4, .ref d5, .ref d6, .ref d7, .ref d8, .int ((nI i)), .int ((nI i)), .int 0, .int mt, .ref d13, .ref d14, .ref d15, .ref d16, .ref d17, .ref d18, .ref d19, .ref d20, .ref d21, .ref d22, .ref d23, .ref d24, .ref d25, .ref d26, .ref d27, .ref d28, .ref d29, .ref d30, .ref d31, .ref d32, .ref d33, .ref d34, .ref d35, .ref d36, .int op, .int 0, .ref d39, .int 0])), (d7, .inl (cZ, 2001, .inl u))] H → ∀ ls : Array Slot, lv_has ls 6 [(5, .int (nI j)), (0, .ref m0), (1, .int q1), (2, .int q2), (3, .int q3), (4, .int q4)] → W p l e R s m args below meth c H locs cells slots Q (F0 m 3 ls []) := by
  intro k
  induction k with
  | zero =>
    intro j hik
    intro  hP ls hl
    have hi : i = j := by omega
    subst hi
    refine lv_aload_n hx hb dX4_send_3 rfl (lv_at hl 1 rfl) ?_
    refine va_get (D := (dC, dI)) (ci := 4) (v := .ref d7) (C := RX4) (T := TX4) (N := 41) hx hb hg inX4 hown hK hP 0 rfl rfl 7 (by decide) (hg _ kF_X4_26) (fun _ h9 => h9) rfl dX4_send_4 ?_
    refine lv_iload hx hb dX4_send_7 (lv_at hl 0 rfl) ?_
    refine va_zald hx hb hK hP 1 1 rfl rfl (vp_in_nI (by omega) (by omega)) dX4_send_9 ?_
    refine lv_topi (fun t_1 et_1 => ?_)
    refine lv_if_eq (tgt := 19) hx hb dX4_send_10 (by decide) (fun c_10 => ?_) (fun c_10 => absurd (by rw [et_1, nI_clamp (by omega)]; exact hu.2 _ (Nat.le_refl _)) c_10)
    exact kk  hP ls (lv_sub hl [0, 1, 2, 3, 4, 5] rfl)
  | succ k ih =>
    intro j hik
    intro  hP ls hl
    have hi : j < i := by omega
    refine lv_aload_n hx hb dX4_send_3 rfl (lv_at hl 1 rfl) ?_
    refine va_get (D := (dC, dI)) (ci := 4) (v := .ref d7) (C := RX4) (T := TX4) (N := 41) hx hb hg inX4 hown hK hP 0 rfl rfl 7 (by decide) (hg _ kF_X4_26) (fun _ h9 => h9) rfl dX4_send_4 ?_
    refine lv_iload hx hb dX4_send_7 (lv_at hl 0 rfl) ?_
    refine va_zald hx hb hK hP 1 1 rfl rfl (vp_in_nI (by omega) (by omega)) dX4_send_9 ?_
    refine lv_topi (fun t_1 et_1 => ?_)
    refine lv_if_eq (tgt := 19) hx hb dX4_send_10 (by decide) (fun c_10 => absurd c_10 (by rw [et_1, nI_clamp (by omega), hu.1 _ hi]; decide)) (fun c_10 => ?_)
    obtain ⟨x_2, ex_2⟩ : ∃ y : Int32, y = (nI j) + 1 := ⟨_, rfl⟩
    refine lv_iinc (v := x_2) (lv' := [(5, .int x_2), (0, .ref m0), (1, .int q1), (2, .int q2), (3, .int q3), (4, .int q4)]) hx hb dX4_send_13 hl (k := 0) rfl (by rw [ex_2]; rfl) (by decide) rfl (fun ls hl => ?_)
    refine lv_goto (tgt := 3) hx hb dX4_send_16 (by decide) ?_
    have hx4 : x_2 = nI (j + 1) := by rw [ex_2]; exact nI_1 j
    rw [hx4] at hl
    exact ih (j + 1) (by omega)  hP ls (lv_sub hl [0, 1, 2, 3, 4, 5] rfl)
set_option maxHeartbeats 4000000 in
set_option maxRecDepth 100000 in
/-- send: the next slot -/
theorem c_X4_send (l : Launch) (dC : Nat → ClassId) (dI : Nat → Nat → Nat) (cI cZ cN cO : ClassId) (m0 d2 d3 d4 d5 d6 d7 d8 d13 d14 d15 d16 d17 d18 d19 d20 d21 d22 d23 d24 d25 d26 d27 d28 d29 d30 d31 d32 d33 d34 d35 d36 d39 n : Nat) (i : Nat) (th op mt q1 q2 q3 q4 : Int32) (f2 : Nat → Int32) (f3 : Nat → Int32) (f4 : Nat → Int32) (f5 : Nat → Int32) (f8 : Nat → Int32) (u : Nat → Int32) (sz : Nat) (hi : i < 2001) (hu : (∀ j, j < i → u j = 1) ∧ (∀ j, i ≤ j → u j = 0)) : Met l yX4_send (.code yX4_send cX4_send 6 (some .int) :: gw) ({ frames := 0, cells := 0, slots := 0, locals := 0 }) (va_Pc [.ref m0, .int q1, .int q2, .int q3, .int q4] (fun U => U.heap.size = sz ∧ va_P (dC, dI) vwCl [(m0, .inr (4, [.int (nI n), .int th, .ref d2, .ref d3, .ref d4, .ref d5, .ref d6, .ref d7, .ref d8, .int ((nI i)), .int ((nI i)), .int 0, .int mt, .ref d13, .ref d14, .ref d15, .ref d16, .ref d17, .ref d18, .ref d19, .ref d20, .ref d21, .ref d22, .ref d23, .ref d24, .ref d25, .ref d26, .ref d27, .ref d28, .ref d29, .ref d30, .ref d31, .ref d32, .ref d33, .ref d34, .ref d35, .ref d36, .int op, .int 0, .ref d39, .int 0])), (d2, .inl (cI, 2001, .inl f2)), (d3, .inl (cI, 2001, .inl f3)), (d4, .inl (cI, 2001, .inl f4)), (d5, .inl (cI, 2001, .inl f5)), (d8, .inl (cI, 2001, .inl f8)), (d7, .inl (cZ, 2001, .inl u))] U.heap ∧ va_K (dC, dI) vwCl (gTy cI cZ cN cO) U ∧ va_D (fun _ => True) [(m0, .inr (4, [.int (nI n), .int th, .ref d2, .ref d3, .ref d4, .ref d5, .ref d6, .ref d7, .ref d8, .int ((nI i)), .int ((nI i)), .int 0, .int mt, .ref d13, .ref d14, .ref d15, .ref d16, .ref d17, .ref d18, .ref d19, .ref d20, .ref d21, .ref d22, .ref d23, .ref d24, .ref d25, .ref d26, .ref d27, .ref d28, .ref d29, .ref d30, .ref d31, .ref d32, .ref d33, .ref d34, .ref d35, .ref d36, .int op, .int 0, .ref d39, .int 0])), (d2, .inl (cI, 2001, .inl f2)), (d3, .inl (cI, 2001, .inl f3)), (d4, .inl (cI, 2001, .inl f4)), (d5, .inl (cI, 2001, .inl f5)), (d8, .inl (cI, 2001, .inl f8)), (d7, .inl (cZ, 2001, .inl u))])) (va_Qi (fun (r : Int32) (_ : Unit) => r = nI i) (fun (_ : Unit) (t : State) => ∃ g2 g3 g4 g5 g8 v : Nat → Int32, ((∀ j, j < i + 1 → v j = 1) ∧ (∀ j, i + 1 ≤ j → v j = 0)) ∧ va_P (dC, dI) vwCl [(m0, .inr (4, [.int (nI n), .int th, .ref d2, .ref d3, .ref d4, .ref d5, .ref d6, .ref d7, .ref d8, .int ((nI (i + 1))), .int ((nI (i + 1))), .int 0, .int mt, .ref d13, .ref d14, .ref d15, .ref d16, .ref d17, .ref d18, .ref d19, .ref d20, .ref d21, .ref d22, .ref d23, .ref d24, .ref d25, .ref d26, .ref d27, .ref d28, .ref d29, .ref d30, .ref d31, .ref d32, .ref d33, .ref d34, .ref d35, .ref d36, .int op, .int 0, .ref d39, .int 0])), (d2, .inl (cI, 2001, .inl g2)), (d3, .inl (cI, 2001, .inl g3)), (d4, .inl (cI, 2001, .inl g4)), (d5, .inl (cI, 2001, .inl g5)), (d8, .inl (cI, 2001, .inl g8)), (d7, .inl (cZ, 2001, .inl v))] t.heap ∧ va_K (dC, dI) vwCl (gTy cI cZ cN cO) t ∧ va_D (va_A [(m0, .inr (4, [.int (nI n), .int th, .ref d2, .ref d3, .ref d4, .ref d5, .ref d6, .ref d7, .ref d8, .int ((nI i)), .int ((nI i)), .int 0, .int mt, .ref d13, .ref d14, .ref d15, .ref d16, .ref d17, .ref d18, .ref d19, .ref d20, .ref d21, .ref d22, .ref d23, .ref d24, .ref d25, .ref d26, .ref d27, .ref d28, .ref d29, .ref d30, .ref d31, .ref d32, .ref d33, .ref d34, .ref d35, .ref d36, .int op, .int 0, .ref d39, .int 0])), (d2, .inl (cI, 2001, .inl f2)), (d3, .inl (cI, 2001, .inl f3)), (d4, .inl (cI, 2001, .inl f4)), (d5, .inl (cI, 2001, .inl f5)), (d8, .inl (cI, 2001, .inl f8)), (d7, .inl (cZ, 2001, .inl u))] sz) [(m0, .inr (4, [.int (nI n), .int th, .ref d2, .ref d3, .ref d4, .ref d5, .ref d6, .ref d7, .ref d8, .int ((nI (i + 1))), .int ((nI (i + 1))), .int 0, .int mt, .ref d13, .ref d14, .ref d15, .ref d16, .ref d17, .ref d18, .ref d19, .ref d20, .ref d21, .ref d22, .ref d23, .ref d24, .ref d25, .ref d26, .ref d27, .ref d28, .ref d29, .ref d30, .ref d31, .ref d32, .ref d33, .ref d34, .ref d35, .ref d36, .int op, .int 0, .ref d39, .int 0])), (d2, .inl (cI, 2001, .inl g2)), (d3, .inl (cI, 2001, .inl g3)), (d4, .inl (cI, 2001, .inl g4)), (d5, .inl (cI, 2001, .inl g5)), (d8, .inl (cI, 2001, .inl g8)), (d7, .inl (cZ, 2001, .inl v))]) (va_A [(m0, .inr (4, [.int (nI n), .int th, .ref d2, .ref d3, .ref d4, .ref d5, .ref d6, .ref d7, .ref d8, .int ((nI i)), .int ((nI i)), .int 0, .int mt, .ref d13, .ref d14, .ref d15, .ref d16, .ref d17, .ref d18, .ref d19, .ref d20, .ref d21, .ref d22, .ref d23, .ref d24, .ref d25, .ref d26, .ref d27, .ref d28, .ref d29, .ref d30, .ref d31, .ref d32, .ref d33, .ref d34, .ref d35, .ref d36, .int op, .int 0, .ref d39, .int 0])), (d2, .inl (cI, 2001, .inl f2)), (d3, .inl (cI, 2001, .inl f3)), (d4, .inl (cI, 2001, .inl f4)), (d5, .inl (cI, 2001, .inl f5)), (d8, .inl (cI, 2001, .inl f8)), (d7, .inl (cZ, 2001, .inl u))] sz)) (0) (0) (va_A [(m0, .inr (4, [.int (nI n), .int th, .ref d2, .ref d3, .ref d4, .ref d5, .ref d6, .ref d7, .ref d8, .int ((nI i)), .int ((nI i)), .int 0, .int mt, .ref d13, .ref d14, .ref d15, .ref d16, .ref d17, .ref d18, .ref d19, .ref d20, .ref d21, .ref d22, .ref d23, .ref d24, .ref d25, .ref d26, .ref d27, .ref d28, .ref d29, .ref d30, .ref d31, .ref d32, .ref d33, .ref d34, .ref d35, .ref d36, .int op, .int 0, .ref d39, .int 0])), (d2, .inl (cI, 2001, .inl f2)), (d3, .inl (cI, 2001, .inl f3)), (d4, .inl (cI, 2001, .inl f4)), (d5, .inl (cI, 2001, .inl f5)), (d8, .inl (cI, 2001, .inl f8)), (d7, .inl (cZ, 2001, .inl u))] sz) := by
  refine Met.ofW (cc := cX4_send) (maxL := 6) (ret := (some .int)) (by decide) rfl ?_
  intro p e s m args below meth c s₁ B hml hv
  obtain ⟨rfl, hsz, hP, hK, hD0⟩ := hv
  have hx := B.exec
  have hb := B.bytes
  have hr := B.returns
  have hts := atoms_spec (ws := (.code yX4_send cX4_send 6 (some .int) :: gw)) B.pre
  have hg : ∀ w ∈ gw, w.before _ s = true := fun w h => hts w (List.mem_cons_of_mem _ h)
  have hown : s.vm.findClass RX4 = some m.cls := findClass_of_methodNamed B.named
  have hlocks := B.notSynchronized
  subst hsz
  have hD := hD0.self (sz := s.heap.size)
  generalize hAe : va_A [(m0, .inr (4, [.int (nI n), .int th, .ref d2, .ref d3, .ref d4, .ref d5, .ref d6, .ref d7, .ref d8, .int ((nI i)), .int ((nI i)), .int 0, .int mt, .ref d13, .ref d14, .ref d15, .ref d16, .ref d17, .ref d18, .ref d19, .ref d20, .ref d21, .ref d22, .ref d23, .ref d24, .ref d25, .ref d26, .ref d27, .ref d28, .ref d29, .ref d30, .ref d31, .ref d32, .ref d33, .ref d34, .ref d35, .ref d36, .int op, .int 0, .ref d39, .int 0])), (d2, .inl (cI, 2001, .inl f2)), (d3, .inl (cI, 2001, .inl f3)), (d4, .inl (cI, 2001, .inl f4)), (d5, .inl (cI, 2001, .inl f5)), (d8, .inl (cI, 2001, .inl f8)), (d7, .inl (cZ, 2001, .inl u))] s.heap.size = A at hD ⊢
  have hA : ∀ q : Nat, s.heap.size ≤ q → A q := fun q h => by rw [← hAe]; exact Or.inr h
  have hS : va_S A s.heap s.heap [] := va_S.rf
  obtain ⟨H, eH⟩ : ∃ z, z = s.heap := ⟨_, rfl⟩
  obtain ⟨locs, elocs⟩ : ∃ z : List Loc, z = [] := ⟨_, rfl⟩
  have hP : va_P (dC, dI) vwCl [(m0, .inr (4, [.int (nI n), .int th, .ref d2, .ref d3, .ref d4, .ref d5, .ref d6, .ref d7, .ref d8, .int ((nI i)), .int ((nI i)), .int 0, .int mt, .ref d13, .ref d14, .ref d15, .ref d16, .ref d17, .ref d18, .ref d19, .ref d20, .ref d21, .ref d22, .ref d23, .ref d24, .ref d25, .ref d26, .ref d27, .ref d28, .ref d29, .ref d30, .ref d31, .ref d32, .ref d33, .ref d34, .ref d35, .ref d36, .int op, .int 0, .ref d39, .int 0])), (d2, .inl (cI, 2001, .inl f2)), (d3, .inl (cI, 2001, .inl f3)), (d4, .inl (cI, 2001, .inl f4)), (d5, .inl (cI, 2001, .inl f5)), (d8, .inl (cI, 2001, .inl f8)), (d7, .inl (cZ, 2001, .inl u))] H := by rw [eH]; exact hP
  have hS : va_S A s.heap H locs := by rw [eH, elocs]; exact hS
  have hl := lv_entry ([.ref m0, .int q1, .int q2, .int q3, .int q4]) (n := 6) (Nat.le_of_ble_eq_true rfl)
  rw [lg_entry_eq]
  generalize (lg_sl ([.ref m0, .int q1, .int q2, .int q3, .int q4]) ++ List.replicate (6 - (lg_sl ([.ref m0, .int q1, .int q2, .int q3, .int q4])).length) Slot.unset).toArray = ls at hl ⊢
  have hl : lv_has ls 6 [(0, .ref m0), (1, .int q1), (2, .int q2), (3, .int q3), (4, .int q4)] := hl
  rw [← elocs]
  suffices hgoal : ∀ HH, H = HH → W p l e (headSpec (.code yX4_send cX4_send 6 (some .int) :: gw) ({ frames := 0, cells := 0, slots := 0, locals := 0 })).room s m _ below meth c HH locs 0 0 _ (F0 m 0 ls []) from hgoal _ eH
  rintro _ rfl
  refine lv_iconst (v := 0) hx hb dX4_send_0 (by decide) ?_
  refine lv_istore (lv' := [(5, .int 0), (0, .ref m0), (1, .int q1), (2, .int q2), (3, .int q3), (4, .int q4)]) hx hb dX4_send_1 hl (by decide) rfl (fun ls hl => ?_)
  rw [← nI_0] at hl
  refine lp_X4_send hx hb hml hown hg hK m0 d2 d3 d4 d5 d6 d7 d8 d13 d14 d15 d16 d17 d18 d19 d20 d21 d22 d23 d24 d25 d26 d27 d28 d29 d30 d31 d32 d33 d34 d35 d36 d39 n i th op mt q1 q2 q3 q4 u hi hu ?_ i 0 (by omega) (hP.sub [0, 6] rfl) ls (lv_sub hl [0, 1, 2, 3, 4, 5] rfl)
  intro _ ls hl
  refine lv_aload_n hx hb dX4_send_19 rfl (lv_at hl 1 rfl) ?_
  refine va_get (D := (dC, dI)) (ci := 4) (v := .ref d7) (C := RX4) (T := TX4) (N := 41) hx hb hg inX4 hown hK hP 0 rfl rfl 7 (by decide) (hg _ kF_X4_26) (fun _ h9 => h9) rfl dX4_send_20 ?_
  refine lv_iload hx hb dX4_send_23 (lv_at hl 0 rfl) ?_
  refine lv_iconst (v := 1) hx hb dX4_send_25 (by decide) ?_
  refine va_zast hx hb hK hP hD hS 6 1 rfl rfl (vp_in_nI (by omega) (by omega)) dX4_send_26 (fun H locs hP hD hS => ?_)
  have hP : va_P (dC, dI) vwCl [(m0, .inr (4, [.int (nI n), .int th, .ref d2, .ref d3, .ref d4, .ref d5, .ref d6, .ref d7, .ref d8, .int ((nI i)), .int ((nI i)), .int 0, .int mt, .ref d13, .ref d14, .ref d15, .ref d16, .ref d17, .ref d18, .ref d19, .ref d20, .ref d21, .ref d22, .ref d23, .ref d24, .ref d25, .ref d26, .ref d27, .ref d28, .ref d29, .ref d30, .ref d31, .ref d32, .ref d33, .ref d34, .ref d35, .ref d36, .int op, .int 0, .ref d39, .int 0])), (d2, .inl (cI, 2001, .inl f2)), (d3, .inl (cI, 2001, .inl f3)), (d4, .inl (cI, 2001, .inl f4)), (d5, .inl (cI, 2001, .inl f5)), (d8, .inl (cI, 2001, .inl f8)), (d7, .inl (cZ, 2001, .inl (upd u (nI i).toNatClampNeg (vp_nar .boolean 1))))] H := hP
  have hD : va_D A [(m0, .inr (4, [.int (nI n), .int th, .ref d2, .ref d3, .ref d4, .ref d5, .ref d6, .ref d7, .ref d8, .int ((nI i)), .int ((nI i)), .int 0, .int mt, .ref d13, .ref d14, .ref d15, .ref d16, .ref d17, .ref d18, .ref d19, .ref d20, .ref d21, .ref d22, .ref d23, .ref d24, .ref d25, .ref d26, .ref d27, .ref d28, .ref d29, .ref d30, .ref d31, .ref d32, .ref d33, .ref d34, .ref d35, .ref d36, .int op, .int 0, .ref d39, .int 0])), (d2, .inl (cI, 2001, .inl f2)), (d3, .inl (cI, 2001, .inl f3)), (d4, .inl (cI, 2001, .inl f4)), (d5, .inl (cI, 2001, .inl f5)), (d8, .inl (cI, 2001, .inl f8)), (d7, .inl (cZ, 2001, .inl (upd u (nI i).toNatClampNeg (vp_nar .boolean 1))))] := hD
  obtain ⟨g_1, eg_1⟩ : ∃ y : Nat → Int32, y = upd u (nI i).toNatClampNeg (vp_nar .boolean 1) := ⟨_, rfl⟩
  rw [← eg_1] at hP hD
  have hP : va_P (dC, dI) vwCl [(m0, .inr (4, [.int (nI n), .int th, .ref d2, .ref d3, .ref d4, .ref d5, .ref d6, .ref d7, .ref d8, .int ((nI i)), .int ((nI i)), .int 0, .int mt, .ref d13, .ref d14, .ref d15, .ref d16, .ref d17, .ref d18, .ref d19, .ref d20, .ref d21, .ref d22, .ref d23, .ref d24, .ref d25, .ref d26, .ref d27, .ref d28, .ref d29, .ref d30, .ref d31, .ref d32, .ref d33, .ref d34, .ref d35, .ref d36, .int op, .int 0, .ref d39, .int 0])), (d2, .inl (cI, 2001, .inl f2)), (d3, .inl (cI, 2001, .inl f3)), (d4, .inl (cI, 2001, .inl f4)), (d5, .inl (cI, 2001, .inl f5)), (d8, .inl (cI, 2001, .inl f8)), (d7, .inl (cZ, 2001, .inl g_1))] H := hP
  have hD : va_D A [(m0, .inr (4, [.int (nI n), .int th, .ref d2, .ref d3, .ref d4, .ref d5, .ref d6, .ref d7, .ref d8, .int ((nI i)), .int ((nI i)), .int 0, .int mt, .ref d13, .ref d14, .ref d15, .ref d16, .ref d17, .ref d18, .ref d19, .ref d20, .ref d21, .ref d22, .ref d23, .ref d24, .ref d25, .ref d26, .ref d27, .ref d28, .ref d29, .ref d30, .ref d31, .ref d32, .ref d33, .ref d34, .ref d35, .ref d36, .int op, .int 0, .ref d39, .int 0])), (d2, .inl (cI, 2001, .inl f2)), (d3, .inl (cI, 2001, .inl f3)), (d4, .inl (cI, 2001, .inl f4)), (d5, .inl (cI, 2001, .inl f5)), (d8, .inl (cI, 2001, .inl f8)), (d7, .inl (cZ, 2001, .inl g_1))] := hD
  refine lv_aload_n hx hb dX4_send_27 rfl (lv_at hl 1 rfl) ?_
  refine va_get (D := (dC, dI)) (ci := 4) (v := .ref d2) (C := RX4) (T := TX4) (N := 41) hx hb hg inX4 hown hK hP 0 rfl rfl 2 (by decide) (hg _ kF_X4_7) (fun _ h9 => h9) rfl dX4_send_28 ?_
  refine lv_iload hx hb dX4_send_31 (lv_at hl 0 rfl) ?_
  refine lv_iload_n hx hb dX4_send_33 rfl (lv_at hl 2 rfl) ?_
  refine va_iast hx hb hK hP hD hS 1 0 rfl rfl (vp_in_nI (by omega) (by omega)) dX4_send_34 (fun H locs hP hD hS => ?_)
  have hP : va_P (dC, dI) vwCl [(m0, .inr (4, [.int (nI n), .int th, .ref d2, .ref d3, .ref d4, .ref d5, .ref d6, .ref d7, .ref d8, .int ((nI i)), .int ((nI i)), .int 0, .int mt, .ref d13, .ref d14, .ref d15, .ref d16, .ref d17, .ref d18, .ref d19, .ref d20, .ref d21, .ref d22, .ref d23, .ref d24, .ref d25, .ref d26, .ref d27, .ref d28, .ref d29, .ref d30, .ref d31, .ref d32, .ref d33, .ref d34, .ref d35, .ref d36, .int op, .int 0, .ref d39, .int 0])), (d2, .inl (cI, 2001, .inl (upd f2 (nI i).toNatClampNeg q1))), (d3, .inl (cI, 2001, .inl f3)), (d4, .inl (cI, 2001, .inl f4)), (d5, .inl (cI, 2001, .inl f5)), (d8, .inl (cI, 2001, .inl f8)), (d7, .inl (cZ, 2001, .inl g_1))] H := hP
  have hD : va_D A [(m0, .inr (4, [.int (nI n), .int th, .ref d2, .ref d3, .ref d4, .ref d5, .ref d6, .ref d7, .ref d8, .int ((nI i)), .int ((nI i)), .int 0, .int mt, .ref d13, .ref d14, .ref d15, .ref d16, .ref d17, .ref d18, .ref d19, .ref d20, .ref d21, .ref d22, .ref d23, .ref d24, .ref d25, .ref d26, .ref d27, .ref d28, .ref d29, .ref d30, .ref d31, .ref d32, .ref d33, .ref d34, .ref d35, .ref d36, .int op, .int 0, .ref d39, .int 0])), (d2, .inl (cI, 2001, .inl (upd f2 (nI i).toNatClampNeg q1))), (d3, .inl (cI, 2001, .inl f3)), (d4, .inl (cI, 2001, .inl f4)), (d5, .inl (cI, 2001, .inl f5)), (d8, .inl (cI, 2001, .inl f8)), (d7, .inl (cZ, 2001, .inl g_1))] := hD
  obtain ⟨g_2, eg_2⟩ : ∃ y : Nat → Int32, y = upd f2 (nI i).toNatClampNeg q1 := ⟨_, rfl⟩
  rw [← eg_2] at hP hD
  have hP : va_P (dC, dI) vwCl [(m0, .inr (4, [.int (nI n), .int th, .ref d2, .ref d3, .ref d4, .ref d5, .ref d6, .ref d7, .ref d8, .int ((nI i)), .int ((nI i)), .int 0, .int mt, .ref d13, .ref d14, .ref d15, .ref d16, .ref d17, .ref d18, .ref d19, .ref d20, .ref d21, .ref d22, .ref d23, .ref d24, .ref d25, .ref d26, .ref d27, .ref d28, .ref d29, .ref d30, .ref d31, .ref d32, .ref d33, .ref d34, .ref d35, .ref d36, .int op, .int 0, .ref d39, .int 0])), (d2, .inl (cI, 2001, .inl g_2)), (d3, .inl (cI, 2001, .inl f3)), (d4, .inl (cI, 2001, .inl f4)), (d5, .inl (cI, 2001, .inl f5)), (d8, .inl (cI, 2001, .inl f8)), (d7, .inl (cZ, 2001, .inl g_1))] H := hP
  have hD : va_D A [(m0, .inr (4, [.int (nI n), .int th, .ref d2, .ref d3, .ref d4, .ref d5, .ref d6, .ref d7, .ref d8, .int ((nI i)), .int ((nI i)), .int 0, .int mt, .ref d13, .ref d14, .ref d15, .ref d16, .ref d17, .ref d18, .ref d19, .ref d20, .ref d21, .ref d22, .ref d23, .ref d24, .ref d25, .ref d26, .ref d27, .ref d28, .ref d29, .ref d30, .ref d31, .ref d32, .ref d33, .ref d34, .ref d35, .ref d36, .int op, .int 0, .ref d39, .int 0])), (d2, .inl (cI, 2001, .inl g_2)), (d3, .inl (cI, 2001, .inl f3)), (d4, .inl (cI, 2001, .inl f4)), (d5, .inl (cI, 2001, .inl f5)), (d8, .inl (cI, 2001, .inl f8)), (d7, .inl (cZ, 2001, .inl g_1))] := hD
  refine lv_aload_n hx hb dX4_send_35 rfl (lv_at hl 1 rfl) ?_
  refine va_get (D := (dC, dI)) (ci := 4) (v := .ref d3) (C := RX4) (T := TX4) (N := 41) hx hb hg inX4 hown hK hP 0 rfl rfl 3 (by decide) (hg _ kF_X4_13) (fun _ h9 => h9) rfl dX4_send_36 ?_
  refine lv_iload hx hb dX4_send_39 (lv_at hl 0 rfl) ?_
  refine lv_iload_n hx hb dX4_send_41 rfl (lv_at hl 3 rfl) ?_
  refine va_iast hx hb hK hP hD hS 2 0 rfl rfl (vp_in_nI (by omega) (by omega)) dX4_send_42 (fun H locs hP hD hS => ?_)
  have hP : va_P (dC, dI) vwCl [(m0, .inr (4, [.int (nI n), .int th, .ref d2, .ref d3, .ref d4, .ref d5, .ref d6, .ref d7, .ref d8, .int ((nI i)), .int ((nI i)), .int 0, .int mt, .ref d13, .ref d14, .ref d15, .ref d16, .ref d17, .ref d18, .ref d19, .ref d20, .ref d21, .ref d22, .ref d23, .ref d24, .ref d25, .ref d26, .ref d27, .ref d28, .ref d29, .ref d30, .ref d31, .ref d32, .ref d33, .ref d34, .ref d35, .ref d36, .int op, .int 0, .ref d39, .int 0])), (d2, .inl (cI, 2001, .inl g_2)), (d3, .inl (cI, 2001, .inl (upd f3 (nI i).toNatClampNeg q2))), (d4, .inl (cI, 2001, .inl f4)), (d5, .inl (cI, 2001, .inl f5)), (d8, .inl (cI, 2001, .inl f8)), (d7, .inl (cZ, 2001, .inl g_1))] H := hP
  have hD : va_D A [(m0, .inr (4, [.int (nI n), .int th, .ref d2, .ref d3, .ref d4, .ref d5, .ref d6, .ref d7, .ref d8, .int ((nI i)), .int ((nI i)), .int 0, .int mt, .ref d13, .ref d14, .ref d15, .ref d16, .ref d17, .ref d18, .ref d19, .ref d20, .ref d21, .ref d22, .ref d23, .ref d24, .ref d25, .ref d26, .ref d27, .ref d28, .ref d29, .ref d30, .ref d31, .ref d32, .ref d33, .ref d34, .ref d35, .ref d36, .int op, .int 0, .ref d39, .int 0])), (d2, .inl (cI, 2001, .inl g_2)), (d3, .inl (cI, 2001, .inl (upd f3 (nI i).toNatClampNeg q2))), (d4, .inl (cI, 2001, .inl f4)), (d5, .inl (cI, 2001, .inl f5)), (d8, .inl (cI, 2001, .inl f8)), (d7, .inl (cZ, 2001, .inl g_1))] := hD
  obtain ⟨g_3, eg_3⟩ : ∃ y : Nat → Int32, y = upd f3 (nI i).toNatClampNeg q2 := ⟨_, rfl⟩
  rw [← eg_3] at hP hD
  have hP : va_P (dC, dI) vwCl [(m0, .inr (4, [.int (nI n), .int th, .ref d2, .ref d3, .ref d4, .ref d5, .ref d6, .ref d7, .ref d8, .int ((nI i)), .int ((nI i)), .int 0, .int mt, .ref d13, .ref d14, .ref d15, .ref d16, .ref d17, .ref d18, .ref d19, .ref d20, .ref d21, .ref d22, .ref d23, .ref d24, .ref d25, .ref d26, .ref d27, .ref d28, .ref d29, .ref d30, .ref d31, .ref d32, .ref d33, .ref d34, .ref d35, .ref d36, .int op, .int 0, .ref d39, .int 0])), (d2, .inl (cI, 2001, .inl g_2)), (d3, .inl (cI, 2001, .inl g_3)), (d4, .inl (cI, 2001, .inl f4)), (d5, .inl (cI, 2001, .inl f5)), (d8, .inl (cI, 2001, .inl f8)), (d7, .inl (cZ, 2001, .inl g_1))] H := hP
  have hD : va_D A [(m0, .inr (4, [.int (nI n), .int th, .ref d2, .ref d3, .ref d4, .ref d5, .ref d6, .ref d7, .ref d8, .int ((nI i)), .int ((nI i)), .int 0, .int mt, .ref d13, .ref d14, .ref d15, .ref d16, .ref d17, .ref d18, .ref d19, .ref d20, .ref d21, .ref d22, .ref d23, .ref d24, .ref d25, .ref d26, .ref d27, .ref d28, .ref d29, .ref d30, .ref d31, .ref d32, .ref d33, .ref d34, .ref d35, .ref d36, .int op, .int 0, .ref d39, .int 0])), (d2, .inl (cI, 2001, .inl g_2)), (d3, .inl (cI, 2001, .inl g_3)), (d4, .inl (cI, 2001, .inl f4)), (d5, .inl (cI, 2001, .inl f5)), (d8, .inl (cI, 2001, .inl f8)), (d7, .inl (cZ, 2001, .inl g_1))] := hD
  refine lv_aload_n hx hb dX4_send_43 rfl (lv_at hl 1 rfl) ?_
  refine va_get (D := (dC, dI)) (ci := 4) (v := .ref d4) (C := RX4) (T := TX4) (N := 41) hx hb hg inX4 hown hK hP 0 rfl rfl 4 (by decide) (hg _ kF_X4_16) (fun _ h9 => h9) rfl dX4_send_44 ?_
  refine lv_iload hx hb dX4_send_47 (lv_at hl 0 rfl) ?_
  refine lv_iload_n hx hb dX4_send_49 rfl (lv_at hl 4 rfl) ?_
  refine va_iast hx hb hK hP hD hS 3 0 rfl rfl (vp_in_nI (by omega) (by omega)) dX4_send_50 (fun H locs hP hD hS => ?_)
  have hP : va_P (dC, dI) vwCl [(m0, .inr (4, [.int (nI n), .int th, .ref d2, .ref d3, .ref d4, .ref d5, .ref d6, .ref d7, .ref d8, .int ((nI i)), .int ((nI i)), .int 0, .int mt, .ref d13, .ref d14, .ref d15, .ref d16, .ref d17, .ref d18, .ref d19, .ref d20, .ref d21, .ref d22, .ref d23, .ref d24, .ref d25, .ref d26, .ref d27, .ref d28, .ref d29, .ref d30, .ref d31, .ref d32, .ref d33, .ref d34, .ref d35, .ref d36, .int op, .int 0, .ref d39, .int 0])), (d2, .inl (cI, 2001, .inl g_2)), (d3, .inl (cI, 2001, .inl g_3)), (d4, .inl (cI, 2001, .inl (upd f4 (nI i).toNatClampNeg q3))), (d5, .inl (cI, 2001, .inl f5)), (d8, .inl (cI, 2001, .inl f8)), (d7, .inl (cZ, 2001, .inl g_1))] H := hP
  have hD : va_D A [(m0, .inr (4, [.int (nI n), .int th, .ref d2, .ref d3, .ref d4, .ref d5, .ref d6, .ref d7, .ref d8, .int ((nI i)), .int ((nI i)), .int 0, .int mt, .ref d13, .ref d14, .ref d15, .ref d16, .ref d17, .ref d18, .ref d19, .ref d20, .ref d21, .ref d22, .ref d23, .ref d24, .ref d25, .ref d26, .ref d27, .ref d28, .ref d29, .ref d30, .ref d31, .ref d32, .ref d33, .ref d34, .ref d35, .ref d36, .int op, .int 0, .ref d39, .int 0])), (d2, .inl (cI, 2001, .inl g_2)), (d3, .inl (cI, 2001, .inl g_3)), (d4, .inl (cI, 2001, .inl (upd f4 (nI i).toNatClampNeg q3))), (d5, .inl (cI, 2001, .inl f5)), (d8, .inl (cI, 2001, .inl f8)), (d7, .inl (cZ, 2001, .inl g_1))] := hD
  obtain ⟨g_4, eg_4⟩ : ∃ y : Nat → Int32, y = upd f4 (nI i).toNatClampNeg q3 := ⟨_, rfl⟩
  rw [← eg_4] at hP hD
  have hP : va_P (dC, dI) vwCl [(m0, .inr (4, [.int (nI n), .int th, .ref d2, .ref d3, .ref d4, .ref d5, .ref d6, .ref d7, .ref d8, .int ((nI i)), .int ((nI i)), .int 0, .int mt, .ref d13, .ref d14, .ref d15, .ref d16, .ref d17, .ref d18, .ref d19, .ref d20, .ref d21, .ref d22, .ref d23, .ref d24, .ref d25, .ref d26, .ref d27, .ref d28, .ref d29, .ref d30, .ref d31, .ref d32, .ref d33, .ref d34, .ref d35, .ref d36, .int op, .int 0, .ref d39, .int 0])), (d2, .inl (cI, 2001, .inl g_2)), (d3, .inl (cI, 2001, .inl g_3)), (d4, .inl (cI, 2001, .inl g_4)), (d5, .inl (cI, 2001, .inl f5)), (d8, .inl (cI, 2001, .inl f8)), (d7, .inl (cZ, 2001, .inl g_1))] H := hP
  have hD : va_D A [(m0, .inr (4, [.int (nI n), .int th, .ref d2, .ref d3, .ref d4, .ref d5, .ref d6, .ref d7, .ref d8, .int ((nI i)), .int ((nI i)), .int 0, .int mt, .ref d13, .ref d14, .ref d15, .ref d16, .ref d17, .ref d18, .ref d19, .ref d20, .ref d21, .ref d22, .ref d23, .ref d24, .ref d25, .ref d26, .ref d27, .ref d28, .ref d29, .ref d30, .ref d31, .ref d32, .ref d33, .ref d34, .ref d35, .ref d36, .int op, .int 0, .ref d39, .int 0])), (d2, .inl (cI, 2001, .inl g_2)), (d3, .inl (cI, 2001, .inl g_3)), (d4, .inl (cI, 2001, .inl g_4)), (d5, .inl (cI, 2001, .inl f5)), (d8, .inl (cI, 2001, .inl f8)), (d7, .inl (cZ, 2001, .inl g_1))] := hD
  refine lv_aload_n hx hb dX4_send_51 rfl (lv_at hl 1 rfl) ?_
  refine va_get (D := (dC, dI)) (ci := 4) (v := .ref d5) (C := RX4) (T := TX4) (N := 41) hx hb hg inX4 hown hK hP 0 rfl rfl 5 (by decide) (hg _ kF_X4_19) (fun _ h9 => h9) rfl dX4_send_52 ?_
  refine lv_iload hx hb dX4_send_55 (lv_at hl 0 rfl) ?_
  refine lv_iload hx hb dX4_send_57 (lv_at hl 5 rfl) ?_
  refine va_iast hx hb hK hP hD hS 4 0 rfl rfl (vp_in_nI (by omega) (by omega)) dX4_send_59 (fun H locs hP hD hS => ?_)
  have hP : va_P (dC, dI) vwCl [(m0, .inr (4, [.int (nI n), .int th, .ref d2, .ref d3, .ref d4, .ref d5, .ref d6, .ref d7, .ref d8, .int ((nI i)), .int ((nI i)), .int 0, .int mt, .ref d13, .ref d14, .ref d15, .ref d16, .ref d17, .ref d18, .ref d19, .ref d20, .ref d21, .ref d22, .ref d23, .ref d24, .ref d25, .ref d26, .ref d27, .ref d28, .ref d29, .ref d30, .ref d31, .ref d32, .ref d33, .ref d34, .ref d35, .ref d36, .int op, .int 0, .ref d39, .int 0])), (d2, .inl (cI, 2001, .inl g_2)), (d3, .inl (cI, 2001, .inl g_3)), (d4, .inl (cI, 2001, .inl g_4)), (d5, .inl (cI, 2001, .inl (upd f5 (nI i).toNatClampNeg q4))), (d8, .inl (cI, 2001, .inl f8)), (d7, .inl (cZ, 2001, .inl g_1))] H := hP
  have hD : va_D A [(m0, .inr (4, [.int (nI n), .int th, .ref d2, .ref d3, .ref d4, .ref d5, .ref d6, .ref d7, .ref d8, .int ((nI i)), .int ((nI i)), .int 0, .int mt, .ref d13, .ref d14, .ref d15, .ref d16, .ref d17, .ref d18, .ref d19, .ref d20, .ref d21, .ref d22, .ref d23, .ref d24, .ref d25, .ref d26, .ref d27, .ref d28, .ref d29, .ref d30, .ref d31, .ref d32, .ref d33, .ref d34, .ref d35, .ref d36, .int op, .int 0, .ref d39, .int 0])), (d2, .inl (cI, 2001, .inl g_2)), (d3, .inl (cI, 2001, .inl g_3)), (d4, .inl (cI, 2001, .inl g_4)), (d5, .inl (cI, 2001, .inl (upd f5 (nI i).toNatClampNeg q4))), (d8, .inl (cI, 2001, .inl f8)), (d7, .inl (cZ, 2001, .inl g_1))] := hD
  obtain ⟨g_5, eg_5⟩ : ∃ y : Nat → Int32, y = upd f5 (nI i).toNatClampNeg q4 := ⟨_, rfl⟩
  rw [← eg_5] at hP hD
  have hP : va_P (dC, dI) vwCl [(m0, .inr (4, [.int (nI n), .int th, .ref d2, .ref d3, .ref d4, .ref d5, .ref d6, .ref d7, .ref d8, .int ((nI i)), .int ((nI i)), .int 0, .int mt, .ref d13, .ref d14, .ref d15, .ref d16, .ref d17, .ref d18, .ref d19, .ref d20, .ref d21, .ref d22, .ref d23, .ref d24, .ref d25, .ref d26, .ref d27, .ref d28, .ref d29, .ref d30, .ref d31, .ref d32, .ref d33, .ref d34, .ref d35, .ref d36, .int op, .int 0, .ref d39, .int 0])), (d2, .inl (cI, 2001, .inl g_2)), (d3, .inl (cI, 2001, .inl g_3)), (d4, .inl (cI, 2001, .inl g_4)), (d5, .inl (cI, 2001, .inl g_5)), (d8, .inl (cI, 2001, .inl f8)), (d7, .inl (cZ, 2001, .inl g_1))] H := hP
  have hD : va_D A [(m0, .inr (4, [.int (nI n), .int th, .ref d2, .ref d3, .ref d4, .ref d5, .ref d6, .ref d7, .ref d8, .int ((nI i)), .int ((nI i)), .int 0, .int mt, .ref d13, .ref d14, .ref d15, .ref d16, .ref d17, .ref d18, .ref d19, .ref d20, .ref d21, .ref d22, .ref d23, .ref d24, .ref d25, .ref d26, .ref d27, .ref d28, .ref d29, .ref d30, .ref d31, .ref d32, .ref d33, .ref d34, .ref d35, .ref d36, .int op, .int 0, .ref d39, .int 0])), (d2, .inl (cI, 2001, .inl g_2)), (d3, .inl (cI, 2001, .inl g_3)), (d4, .inl (cI, 2001, .inl g_4)), (d5, .inl (cI, 2001, .inl g_5)), (d8, .inl (cI, 2001, .inl f8)), (d7, .inl (cZ, 2001, .inl g_1))] := hD
  refine lv_aload_n hx hb dX4_send_60 rfl (lv_at hl 1 rfl) ?_
  refine va_get (D := (dC, dI)) (ci := 4) (v := .ref d8) (C := RX4) (T := TX4) (N := 41) hx hb hg inX4 hown hK hP 0 rfl rfl 8 (by decide) (hg _ kF_X4_30) (fun _ h9 => h9) rfl dX4_send_61 ?_
  refine lv_aload_n hx hb dX4_send_64 rfl (lv_at hl 1 rfl) ?_
  refine va_get (D := (dC, dI)) (ci := 4) (v := .int ((nI i))) (C := RX4) (T := TX4) (N := 41) hx hb hg inX4 hown hK hP 0 rfl rfl 9 (by decide) (hg _ kF_X4_115) (fun _ h9 => h9) rfl dX4_send_65 ?_
  refine lv_iload hx hb dX4_send_68 (lv_at hl 0 rfl) ?_
  refine va_iast hx hb hK hP hD hS 5 0 rfl rfl (vp_in_nI (by omega) (by omega)) dX4_send_70 (fun H locs hP hD hS => ?_)
  have hP : va_P (dC, dI) vwCl [(m0, .inr (4, [.int (nI n), .int th, .ref d2, .ref d3, .ref d4, .ref d5, .ref d6, .ref d7, .ref d8, .int ((nI i)), .int ((nI i)), .int 0, .int mt, .ref d13, .ref d14, .ref d15, .ref d16, .ref d17, .ref d18, .ref d19, .ref d20, .ref d21, .ref d22, .ref d23, .ref d24, .ref d25, .ref d26, .ref d27, .ref d28, .ref d29, .ref d30, .ref d31, .ref d32, .ref d33, .ref d34, .ref d35, .ref d36, .int op, .int 0, .ref d39, .int 0])), (d2, .inl (cI, 2001, .inl g_2)), (d3, .inl (cI, 2001, .inl g_3)), (d4, .inl (cI, 2001, .inl g_4)), (d5, .inl (cI, 2001, .inl g_5)), (d8, .inl (cI, 2001, .inl (upd f8 ((nI i)).toNatClampNeg (nI i)))), (d7, .inl (cZ, 2001, .inl g_1))] H := hP
  have hD : va_D A [(m0, .inr (4, [.int (nI n), .int th, .ref d2, .ref d3, .ref d4, .ref d5, .ref d6, .ref d7, .ref d8, .int ((nI i)), .int ((nI i)), .int 0, .int mt, .ref d13, .ref d14, .ref d15, .ref d16, .ref d17, .ref d18, .ref d19, .ref d20, .ref d21, .ref d22, .ref d23, .ref d24, .ref d25, .ref d26, .ref d27, .ref d28, .ref d29, .ref d30, .ref d31, .ref d32, .ref d33, .ref d34, .ref d35, .ref d36, .int op, .int 0, .ref d39, .int 0])), (d2, .inl (cI, 2001, .inl g_2)), (d3, .inl (cI, 2001, .inl g_3)), (d4, .inl (cI, 2001, .inl g_4)), (d5, .inl (cI, 2001, .inl g_5)), (d8, .inl (cI, 2001, .inl (upd f8 ((nI i)).toNatClampNeg (nI i)))), (d7, .inl (cZ, 2001, .inl g_1))] := hD
  obtain ⟨g_6, eg_6⟩ : ∃ y : Nat → Int32, y = upd f8 ((nI i)).toNatClampNeg (nI i) := ⟨_, rfl⟩
  rw [← eg_6] at hP hD
  have hP : va_P (dC, dI) vwCl [(m0, .inr (4, [.int (nI n), .int th, .ref d2, .ref d3, .ref d4, .ref d5, .ref d6, .ref d7, .ref d8, .int ((nI i)), .int ((nI i)), .int 0, .int mt, .ref d13, .ref d14, .ref d15, .ref d16, .ref d17, .ref d18, .ref d19, .ref d20, .ref d21, .ref d22, .ref d23, .ref d24, .ref d25, .ref d26, .ref d27, .ref d28, .ref d29, .ref d30, .ref d31, .ref d32, .ref d33, .ref d34, .ref d35, .ref d36, .int op, .int 0, .ref d39, .int 0])), (d2, .inl (cI, 2001, .inl g_2)), (d3, .inl (cI, 2001, .inl g_3)), (d4, .inl (cI, 2001, .inl g_4)), (d5, .inl (cI, 2001, .inl g_5)), (d8, .inl (cI, 2001, .inl g_6)), (d7, .inl (cZ, 2001, .inl g_1))] H := hP
  have hD : va_D A [(m0, .inr (4, [.int (nI n), .int th, .ref d2, .ref d3, .ref d4, .ref d5, .ref d6, .ref d7, .ref d8, .int ((nI i)), .int ((nI i)), .int 0, .int mt, .ref d13, .ref d14, .ref d15, .ref d16, .ref d17, .ref d18, .ref d19, .ref d20, .ref d21, .ref d22, .ref d23, .ref d24, .ref d25, .ref d26, .ref d27, .ref d28, .ref d29, .ref d30, .ref d31, .ref d32, .ref d33, .ref d34, .ref d35, .ref d36, .int op, .int 0, .ref d39, .int 0])), (d2, .inl (cI, 2001, .inl g_2)), (d3, .inl (cI, 2001, .inl g_3)), (d4, .inl (cI, 2001, .inl g_4)), (d5, .inl (cI, 2001, .inl g_5)), (d8, .inl (cI, 2001, .inl g_6)), (d7, .inl (cZ, 2001, .inl g_1))] := hD
  refine lv_aload_n hx hb dX4_send_71 rfl (lv_at hl 1 rfl) ?_
  refine lv_dup hx hb dX4_send_72 rfl ?_
  refine va_get (D := (dC, dI)) (ci := 4) (v := .int ((nI i))) (C := RX4) (T := TX4) (N := 41) hx hb hg inX4 hown hK hP 0 rfl rfl 9 (by decide) (hg _ kF_X4_115) (fun _ h9 => h9) rfl dX4_send_73 ?_
  refine lv_iconst (v := 1) hx hb dX4_send_76 (by decide) ?_
  refine lv_iadd hx hb dX4_send_77 ?_
  rw [nI_1 i]
  refine va_put (D := (dC, dI)) (ci := 4) (v := .int ((nI (i + 1)))) (ty := .int) (C := RX4) (T := TX4) (N := 41) hx hb hg inX4 tyX4 tyX4_ok nmX4 hown hK hP hD hS 0 rfl rfl 9 (by decide) (hg _ kF_X4_115) (fun _ h9 => h9) rfl (by decide +kernel) rfl rfl (Nat.le_of_ble_eq_true rfl) dX4_send_78 (fun H locs hP hD hS => ?_)
  have hP : va_P (dC, dI) vwCl [(m0, .inr (4, [.int (nI n), .int th, .ref d2, .ref d3, .ref d4, .ref d5, .ref d6, .ref d7, .ref d8, .int ((nI (i + 1))), .int ((nI i)), .int 0, .int mt, .ref d13, .ref d14, .ref d15, .ref d16, .ref d17, .ref d18, .ref d19, .ref d20, .ref d21, .ref d22, .ref d23, .ref d24, .ref d25, .ref d26, .ref d27, .ref d28, .ref d29, .ref d30, .ref d31, .ref d32, .ref d33, .ref d34, .ref d35, .ref d36, .int op, .int 0, .ref d39, .int 0])), (d2, .inl (cI, 2001, .inl g_2)), (d3, .inl (cI, 2001, .inl g_3)), (d4, .inl (cI, 2001, .inl g_4)), (d5, .inl (cI, 2001, .inl g_5)), (d8, .inl (cI, 2001, .inl g_6)), (d7, .inl (cZ, 2001, .inl g_1))] H := hP
  have hD : va_D A [(m0, .inr (4, [.int (nI n), .int th, .ref d2, .ref d3, .ref d4, .ref d5, .ref d6, .ref d7, .ref d8, .int ((nI (i + 1))), .int ((nI i)), .int 0, .int mt, .ref d13, .ref d14, .ref d15, .ref d16, .ref d17, .ref d18, .ref d19, .ref d20, .ref d21, .ref d22, .ref d23, .ref d24, .ref d25, .ref d26, .ref d27, .ref d28, .ref d29, .ref d30, .ref d31, .ref d32, .ref d33, .ref d34, .ref d35, .ref d36, .int op, .int 0, .ref d39, .int 0])), (d2, .inl (cI, 2001, .inl g_2)), (d3, .inl (cI, 2001, .inl g_3)), (d4, .inl (cI, 2001, .inl g_4)), (d5, .inl (cI, 2001, .inl g_5)), (d8, .inl (cI, 2001, .inl g_6)), (d7, .inl (cZ, 2001, .inl g_1))] := hD
  refine lv_aload_n hx hb dX4_send_81 rfl (lv_at hl 1 rfl) ?_
  refine lv_dup hx hb dX4_send_82 rfl ?_
  refine va_get (D := (dC, dI)) (ci := 4) (v := .int ((nI i))) (C := RX4) (T := TX4) (N := 41) hx hb hg inX4 hown hK hP 0 rfl rfl 10 (by decide) (hg _ kF_X4_118) (fun _ h9 => h9) rfl dX4_send_83 ?_
  refine lv_iconst (v := 1) hx hb dX4_send_86 (by decide) ?_
  refine lv_iadd hx hb dX4_send_87 ?_
  rw [nI_1 i]
  refine va_put (D := (dC, dI)) (ci := 4) (v := .int ((nI (i + 1)))) (ty := .int) (C := RX4) (T := TX4) (N := 41) hx hb hg inX4 tyX4 tyX4_ok nmX4 hown hK hP hD hS 0 rfl rfl 10 (by decide) (hg _ kF_X4_118) (fun _ h9 => h9) rfl (by decide +kernel) rfl rfl (Nat.le_of_ble_eq_true rfl) dX4_send_88 (fun H locs hP hD hS => ?_)
  have hP : va_P (dC, dI) vwCl [(m0, .inr (4, [.int (nI n), .int th, .ref d2, .ref d3, .ref d4, .ref d5, .ref d6, .ref d7, .ref d8, .int ((nI (i + 1))), .int ((nI (i + 1))), .int 0, .int mt, .ref d13, .ref d14, .ref d15, .ref d16, .ref d17, .ref d18, .ref d19, .ref d20, .ref d21, .ref d22, .ref d23, .ref d24, .ref d25, .ref d26, .ref d27, .ref d28, .ref d29, .ref d30, .ref d31, .ref d32, .ref d33, .ref d34, .ref d35, .ref d36, .int op, .int 0, .ref d39, .int 0])), (d2, .inl (cI, 2001, .inl g_2)), (d3, .inl (cI, 2001, .inl g_3)), (d4, .inl (cI, 2001, .inl g_4)), (d5, .inl (cI, 2001, .inl g_5)), (d8, .inl (cI, 2001, .inl g_6)), (d7, .inl (cZ, 2001, .inl g_1))] H := hP
  have hD : va_D A [(m0, .inr (4, [.int (nI n), .int th, .ref d2, .ref d3, .ref d4, .ref d5, .ref d6, .ref d7, .ref d8, .int ((nI (i + 1))), .int ((nI (i + 1))), .int 0, .int mt, .ref d13, .ref d14, .ref d15, .ref d16, .ref d17, .ref d18, .ref d19, .ref d20, .ref d21, .ref d22, .ref d23, .ref d24, .ref d25, .ref d26, .ref d27, .ref d28, .ref d29, .ref d30, .ref d31, .ref d32, .ref d33, .ref d34, .ref d35, .ref d36, .int op, .int 0, .ref d39, .int 0])), (d2, .inl (cI, 2001, .inl g_2)), (d3, .inl (cI, 2001, .inl g_3)), (d4, .inl (cI, 2001, .inl g_4)), (d5, .inl (cI, 2001, .inl g_5)), (d8, .inl (cI, 2001, .inl g_6)), (d7, .inl (cZ, 2001, .inl g_1))] := hD
  refine lv_iload hx hb dX4_send_91 (lv_at hl 0 rfl) ?_
  have hP9 := hP.sub (ws' := [(m0, .inr (4, [.int (nI n), .int th, .ref d2, .ref d3, .ref d4, .ref d5, .ref d6, .ref d7, .ref d8, .int ((nI (i + 1))), .int ((nI (i + 1))), .int 0, .int mt, .ref d13, .ref d14, .ref d15, .ref d16, .ref d17, .ref d18, .ref d19, .ref d20, .ref d21, .ref d22, .ref d23, .ref d24, .ref d25, .ref d26, .ref d27, .ref d28, .ref d29, .ref d30, .ref d31, .ref d32, .ref d33, .ref d34, .ref d35, .ref d36, .int op, .int 0, .ref d39, .int 0])), (d2, .inl (cI, 2001, .inl g_2)), (d3, .inl (cI, 2001, .inl g_3)), (d4, .inl (cI, 2001, .inl g_4)), (d5, .inl (cI, 2001, .inl g_5)), (d8, .inl (cI, 2001, .inl g_6)), (d7, .inl (cZ, 2001, .inl g_1))]) [0, 1, 2, 3, 4, 5, 6] rfl
  have hD9 := hD.sub (ws' := [(m0, .inr (4, [.int (nI n), .int th, .ref d2, .ref d3, .ref d4, .ref d5, .ref d6, .ref d7, .ref d8, .int ((nI (i + 1))), .int ((nI (i + 1))), .int 0, .int mt, .ref d13, .ref d14, .ref d15, .ref d16, .ref d17, .ref d18, .ref d19, .ref d20, .ref d21, .ref d22, .ref d23, .ref d24, .ref d25, .ref d26, .ref d27, .ref d28, .ref d29, .ref d30, .ref d31, .ref d32, .ref d33, .ref d34, .ref d35, .ref d36, .int op, .int 0, .ref d39, .int 0])), (d2, .inl (cI, 2001, .inl g_2)), (d3, .inl (cI, 2001, .inl g_3)), (d4, .inl (cI, 2001, .inl g_4)), (d5, .inl (cI, 2001, .inl g_5)), (d8, .inl (cI, 2001, .inl g_6)), (d7, .inl (cZ, 2001, .inl g_1))]) [0, 1, 2, 3, 4, 5, 6] (by decide) rfl
  refine W.widen (k := 0) (n := 0) (by omega) (by omega) ?_
  exact W.iret (v := nI i) hx hb hr (fun t ht hW => ⟨⟨_, (), rfl, rfl, g_2, g_3, g_4, g_5, g_6, g_1, ⟨fun j hj => by rw [eg_1, nI_clamp (by omega)]; by_cases h : j = i; (subst h; exact (upd_self _ _ _).trans (by decide +kernel)); (rw [upd_ne _ h]; exact hu.1 j (by omega)), fun j hj => by rw [eg_1, nI_clamp (by omega), upd_ne _ (by omega)]; exact hu.2 j (by omega)⟩, by rw [ht]; exact hP9, va_K.moved hW.alike hK, hD9⟩, hS.F ht⟩) hS.2.2 dX4_send_93
