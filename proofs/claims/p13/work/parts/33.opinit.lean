set_option maxHeartbeats 4000000 in
set_option maxRecDepth 100000 in
/-- Operation(..) -/
theorem c_X1_init (l : Launch) (dC : Nat → ClassId) (dI : Nat → Nat → Nat) (cI cZ cN cO : ClassId) (op n : Nat) (p1 p2 p3 p4 p5 p6 : Int32) (sz : Nat) (hn : n ≤ 31) : Met l yX1_init (.code yX1_init cX1_init 8 none :: gw) ({ frames := 1, cells := 1, slots := n, locals := 12 }) (va_Pc [.ref op, .int p1, .int p2, .int p3, .int p4, .int p5, .int p6, .int (nI n)] (fun U => U.heap.size = sz ∧ va_P (dC, dI) vwCl [(op, .inr (1, [.int 0, .int 0, .int 0, .int 0, .int 0, .int 0, .null, .int 0, .int 0, .int 0, .int 0, .int 0]))] U.heap ∧ va_K (dC, dI) vwCl (gTy cI cZ cN cO) U ∧ va_D (fun _ => True) [(op, .inr (1, [.int 0, .int 0, .int 0, .int 0, .int 0, .int 0, .null, .int 0, .int 0, .int 0, .int 0, .int 0]))])) (va_Qv (fun _ : Unit => True) (fun (_ : Unit) (t : State) => ∃ sa : Nat, va_P (dC, dI) vwCl [(op, .inr (1, [.int p1, .int p2, .int p3, .int p4, .int p5, .int p6, .ref sa, .int 0, .int ((-1)), .int 0, .int ((-1)), .int 0])), (sa, .inl (cI, n, .inl ((fun _ => 0))))] t.heap ∧ va_K (dC, dI) vwCl (gTy cI cZ cN cO) t ∧ va_D (va_A [(op, .inr (1, [.int 0, .int 0, .int 0, .int 0, .int 0, .int 0, .null, .int 0, .int 0, .int 0, .int 0, .int 0]))] sz) [(op, .inr (1, [.int p1, .int p2, .int p3, .int p4, .int p5, .int p6, .ref sa, .int 0, .int ((-1)), .int 0, .int ((-1)), .int 0])), (sa, .inl (cI, n, .inl ((fun _ => 0))))]) (va_A [(op, .inr (1, [.int 0, .int 0, .int 0, .int 0, .int 0, .int 0, .null, .int 0, .int 0, .int 0, .int 0, .int 0]))] sz)) (1) (n) (va_A [(op, .inr (1, [.int 0, .int 0, .int 0, .int 0, .int 0, .int 0, .null, .int 0, .int 0, .int 0, .int 0, .int 0]))] sz) := by
  refine Met.ofW (cc := cX1_init) (maxL := 8) (ret := none) (by decide) rfl ?_
  intro p e s m args below meth c s₁ B hml hv
  obtain ⟨rfl, hsz, hP, hK, hD0⟩ := hv
  have hx := B.exec
  have hb := B.bytes
  have hr := B.returns
  have hts := atoms_spec (ws := (.code yX1_init cX1_init 8 none :: gw)) B.pre
  have hg : ∀ w ∈ gw, w.before _ s = true := fun w h => hts w (List.mem_cons_of_mem _ h)
  have hown : s.vm.findClass RX1 = some m.cls := findClass_of_methodNamed B.named
  have hlocks := B.notSynchronized
  have hin : meth.name = "<init>" := (name_of_methodNamed B.named B.method).1
  subst hsz
  have hD := hD0.self (sz := s.heap.size)
  generalize hAe : va_A [(op, .inr (1, [.int 0, .int 0, .int 0, .int 0, .int 0, .int 0, .null, .int 0, .int 0, .int 0, .int 0, .int 0]))] s.heap.size = A at hD ⊢
  have hA : ∀ q : Nat, s.heap.size ≤ q → A q := fun q h => by rw [← hAe]; exact Or.inr h
  have hS : va_S A s.heap s.heap [] := va_S.rf
  obtain ⟨H, eH⟩ : ∃ z, z = s.heap := ⟨_, rfl⟩
  obtain ⟨locs, elocs⟩ : ∃ z : List Loc, z = [] := ⟨_, rfl⟩
  have hP : va_P (dC, dI) vwCl [(op, .inr (1, [.int 0, .int 0, .int 0, .int 0, .int 0, .int 0, .null, .int 0, .int 0, .int 0, .int 0, .int 0]))] H := by rw [eH]; exact hP
  have hS : va_S A s.heap H locs := by rw [eH, elocs]; exact hS
  have hl := lv_entry ([.ref op, .int p1, .int p2, .int p3, .int p4, .int p5, .int p6, .int (nI n)]) (n := 8) (Nat.le_of_ble_eq_true rfl)
  rw [lg_entry_eq]
  generalize (lg_sl ([.ref op, .int p1, .int p2, .int p3, .int p4, .int p5, .int p6, .int (nI n)]) ++ List.replicate (8 - (lg_sl ([.ref op, .int p1, .int p2, .int p3, .int p4, .int p5, .int p6, .int (nI n)])).length) Slot.unset).toArray = ls at hl ⊢
  have hl : lv_has ls 8 [(0, .ref op), (1, .int p1), (2, .int p2), (3, .int p3), (4, .int p4), (5, .int p5), (6, .int p6), (7, .int (nI n))] := hl
  rw [← elocs]
  suffices hgoal : ∀ HH, H = HH → W p l e (headSpec (.code yX1_init cX1_init 8 none :: gw) ({ frames := 1, cells := 1, slots := n, locals := 12 })).room s m _ below meth c HH locs 0 0 _ (F0 m 0 ls []) from hgoal _ eH
  rintro _ rfl
  refine lv_aload_n hx hb dX1_init_0 rfl (lv_at hl 0 rfl) ?_
  refine W.objInit hx hb hown (hg _ kM_X1_3) (hg _ kI_objectInit) (hg _ kD_objectInit) rfl (by rw [hml]; exact hl.1) rfl dX1_init_1 (Nat.le_of_ble_eq_true rfl) (Nat.le_of_ble_eq_true rfl) ?_
  refine W.eq (g2 := F0 m 4 ls []) rfl ?_
  refine lv_aload_n hx hb dX1_init_4 rfl (lv_at hl 0 rfl) ?_
  refine lv_iconst (v := (-1)) hx hb dX1_init_5 (by decide) ?_
  refine va_put (D := (dC, dI)) (ci := 1) (v := .int ((-1))) (ty := .int) (C := RX1) (T := TX1) (N := 12) hx hb hg inX1 tyX1 tyX1_ok nmX1 hown hK hP hD hS 0 rfl rfl 8 (by decide) (hg _ kF_X1_9) (fun _ h9 => h9) rfl (by decide +kernel) rfl rfl (Nat.le_of_ble_eq_true rfl) dX1_init_6 (fun H locs hP hD hS => ?_)
  have hP : va_P (dC, dI) vwCl [(op, .inr (1, [.int 0, .int 0, .int 0, .int 0, .int 0, .int 0, .null, .int 0, .int ((-1)), .int 0, .int 0, .int 0]))] H := hP
  have hD : va_D A [(op, .inr (1, [.int 0, .int 0, .int 0, .int 0, .int 0, .int 0, .null, .int 0, .int ((-1)), .int 0, .int 0, .int 0]))] := hD
  refine lv_aload_n hx hb dX1_init_9 rfl (lv_at hl 0 rfl) ?_
  refine lv_iconst (v := (-1)) hx hb dX1_init_10 (by decide) ?_
  refine va_put (D := (dC, dI)) (ci := 1) (v := .int ((-1))) (ty := .int) (C := RX1) (T := TX1) (N := 12) hx hb hg inX1 tyX1 tyX1_ok nmX1 hown hK hP hD hS 0 rfl rfl 10 (by decide) (hg _ kF_X1_15) (fun _ h9 => h9) rfl (by decide +kernel) rfl rfl (Nat.le_of_ble_eq_true rfl) dX1_init_11 (fun H locs hP hD hS => ?_)
  have hP : va_P (dC, dI) vwCl [(op, .inr (1, [.int 0, .int 0, .int 0, .int 0, .int 0, .int 0, .null, .int 0, .int ((-1)), .int 0, .int ((-1)), .int 0]))] H := hP
  have hD : va_D A [(op, .inr (1, [.int 0, .int 0, .int 0, .int 0, .int 0, .int 0, .null, .int 0, .int ((-1)), .int 0, .int ((-1)), .int 0]))] := hD
  refine lv_aload_n hx hb dX1_init_14 rfl (lv_at hl 0 rfl) ?_
  refine lv_iload_n hx hb dX1_init_15 rfl (lv_at hl 1 rfl) ?_
  refine va_putF (D := (dC, dI)) (ci := 1) (v := .int p1) (ty := .int) (C := RX1) (T := TX1) (N := 12) hx hb hg inX1 tyX1 tyX1_ok nmX1 hown hK hP hD hS 0 rfl rfl 0 (by decide) (hg _ kF_X1_18) (fun _ h9 => h9) rfl hin rfl (by decide +kernel) rfl rfl (Nat.le_of_ble_eq_true rfl) dX1_init_16 (fun H locs hP hD hS => ?_)
  have hP : va_P (dC, dI) vwCl [(op, .inr (1, [.int p1, .int 0, .int 0, .int 0, .int 0, .int 0, .null, .int 0, .int ((-1)), .int 0, .int ((-1)), .int 0]))] H := hP
  have hD : va_D A [(op, .inr (1, [.int p1, .int 0, .int 0, .int 0, .int 0, .int 0, .null, .int 0, .int ((-1)), .int 0, .int ((-1)), .int 0]))] := hD
  refine lv_aload_n hx hb dX1_init_19 rfl (lv_at hl 0 rfl) ?_
  refine lv_iload_n hx hb dX1_init_20 rfl (lv_at hl 2 rfl) ?_
  refine va_putF (D := (dC, dI)) (ci := 1) (v := .int p2) (ty := .int) (C := RX1) (T := TX1) (N := 12) hx hb hg inX1 tyX1 tyX1_ok nmX1 hown hK hP hD hS 0 rfl rfl 1 (by decide) (hg _ kF_X1_21) (fun _ h9 => h9) rfl hin rfl (by decide +kernel) rfl rfl (Nat.le_of_ble_eq_true rfl) dX1_init_21 (fun H locs hP hD hS => ?_)
  have hP : va_P (dC, dI) vwCl [(op, .inr (1, [.int p1, .int p2, .int 0, .int 0, .int 0, .int 0, .null, .int 0, .int ((-1)), .int 0, .int ((-1)), .int 0]))] H := hP
  have hD : va_D A [(op, .inr (1, [.int p1, .int p2, .int 0, .int 0, .int 0, .int 0, .null, .int 0, .int ((-1)), .int 0, .int ((-1)), .int 0]))] := hD
  refine lv_aload_n hx hb dX1_init_24 rfl (lv_at hl 0 rfl) ?_
  refine lv_iload_n hx hb dX1_init_25 rfl (lv_at hl 3 rfl) ?_
  refine va_putF (D := (dC, dI)) (ci := 1) (v := .int p3) (ty := .int) (C := RX1) (T := TX1) (N := 12) hx hb hg inX1 tyX1 tyX1_ok nmX1 hown hK hP hD hS 0 rfl rfl 2 (by decide) (hg _ kF_X1_24) (fun _ h9 => h9) rfl hin rfl (by decide +kernel) rfl rfl (Nat.le_of_ble_eq_true rfl) dX1_init_26 (fun H locs hP hD hS => ?_)
  have hP : va_P (dC, dI) vwCl [(op, .inr (1, [.int p1, .int p2, .int p3, .int 0, .int 0, .int 0, .null, .int 0, .int ((-1)), .int 0, .int ((-1)), .int 0]))] H := hP
  have hD : va_D A [(op, .inr (1, [.int p1, .int p2, .int p3, .int 0, .int 0, .int 0, .null, .int 0, .int ((-1)), .int 0, .int ((-1)), .int 0]))] := hD
  refine lv_aload_n hx hb dX1_init_29 rfl (lv_at hl 0 rfl) ?_
  refine lv_iload hx hb dX1_init_30 (lv_at hl 4 rfl) ?_
  refine va_putF (D := (dC, dI)) (ci := 1) (v := .int p4) (ty := .int) (C := RX1) (T := TX1) (N := 12) hx hb hg inX1 tyX1 tyX1_ok nmX1 hown hK hP hD hS 0 rfl rfl 3 (by decide) (hg _ kF_X1_27) (fun _ h9 => h9) rfl hin rfl (by decide +kernel) rfl rfl (Nat.le_of_ble_eq_true rfl) dX1_init_32 (fun H locs hP hD hS => ?_)
  have hP : va_P (dC, dI) vwCl [(op, .inr (1, [.int p1, .int p2, .int p3, .int p4, .int 0, .int 0, .null, .int 0, .int ((-1)), .int 0, .int ((-1)), .int 0]))] H := hP
  have hD : va_D A [(op, .inr (1, [.int p1, .int p2, .int p3, .int p4, .int 0, .int 0, .null, .int 0, .int ((-1)), .int 0, .int ((-1)), .int 0]))] := hD
  refine lv_aload_n hx hb dX1_init_35 rfl (lv_at hl 0 rfl) ?_
  refine lv_iload hx hb dX1_init_36 (lv_at hl 5 rfl) ?_
  refine va_putF (D := (dC, dI)) (ci := 1) (v := .int p5) (ty := .int) (C := RX1) (T := TX1) (N := 12) hx hb hg inX1 tyX1 tyX1_ok nmX1 hown hK hP hD hS 0 rfl rfl 4 (by decide) (hg _ kF_X1_30) (fun _ h9 => h9) rfl hin rfl (by decide +kernel) rfl rfl (Nat.le_of_ble_eq_true rfl) dX1_init_38 (fun H locs hP hD hS => ?_)
  have hP : va_P (dC, dI) vwCl [(op, .inr (1, [.int p1, .int p2, .int p3, .int p4, .int p5, .int 0, .null, .int 0, .int ((-1)), .int 0, .int ((-1)), .int 0]))] H := hP
  have hD : va_D A [(op, .inr (1, [.int p1, .int p2, .int p3, .int p4, .int p5, .int 0, .null, .int 0, .int ((-1)), .int 0, .int ((-1)), .int 0]))] := hD
  refine lv_aload_n hx hb dX1_init_41 rfl (lv_at hl 0 rfl) ?_
  refine lv_iload hx hb dX1_init_42 (lv_at hl 6 rfl) ?_
  refine va_putF (D := (dC, dI)) (ci := 1) (v := .int p6) (ty := .int) (C := RX1) (T := TX1) (N := 12) hx hb hg inX1 tyX1 tyX1_ok nmX1 hown hK hP hD hS 0 rfl rfl 5 (by decide) (hg _ kF_X1_33) (fun _ h9 => h9) rfl hin rfl (by decide +kernel) rfl rfl (Nat.le_of_ble_eq_true rfl) dX1_init_44 (fun H locs hP hD hS => ?_)
  have hP : va_P (dC, dI) vwCl [(op, .inr (1, [.int p1, .int p2, .int p3, .int p4, .int p5, .int p6, .null, .int 0, .int ((-1)), .int 0, .int ((-1)), .int 0]))] H := hP
  have hD : va_D A [(op, .inr (1, [.int p1, .int p2, .int p3, .int p4, .int p5, .int p6, .null, .int 0, .int ((-1)), .int 0, .int ((-1)), .int 0]))] := hD
  refine lv_aload_n hx hb dX1_init_47 rfl (lv_at hl 0 rfl) ?_
  refine lv_iload hx hb dX1_init_48 (lv_at hl 7 rfl) ?_
  refine va_newa (atype := .int) (ty := .int) (N' := n) (a0 := (n, .inl (fun _ => 0))) hx hb (hg _ kZ_arrayClass_int) rfl hK hP hD hS hA (fun cA => rfl) (nI_pos (by omega)) (nI_clamp (by omega)) (by show n * 4 ≤ 536870912; omega) (Nat.le_of_ble_eq_true rfl) (by show 0 + n ≤ n; omega) dX1_init_50 (fun q_1 cA H hK hP hD hS => ?_)
  have hcA : cA = cI := gK_arr hK 0 rfl
  rw [hcA] at hP hD
  have hK : va_K (dC, dI) vwCl (gTy cI cZ cN cO) s := hK.sub [0, 1, 2, 3] rfl
  have hP : va_P (dC, dI) vwCl [(op, .inr (1, [.int p1, .int p2, .int p3, .int p4, .int p5, .int p6, .null, .int 0, .int ((-1)), .int 0, .int ((-1)), .int 0])), (q_1, .inl (cI, n, .inl ((fun _ => 0))))] H := hP
  have hD : va_D A [(op, .inr (1, [.int p1, .int p2, .int p3, .int p4, .int p5, .int p6, .null, .int 0, .int ((-1)), .int 0, .int ((-1)), .int 0])), (q_1, .inl (cI, n, .inl ((fun _ => 0))))] := hD
  refine va_putF (D := (dC, dI)) (ci := 1) (v := .ref q_1) (ty := .array .int) (C := RX1) (T := TX1) (N := 12) hx hb hg inX1 tyX1 tyX1_ok nmX1 hown hK hP hD hS 0 rfl rfl 6 (by decide) (hg _ kF_X1_36) (fun _ h9 => h9) rfl hin rfl (by decide +kernel) rfl rfl (Nat.le_of_ble_eq_true rfl) dX1_init_52 (fun H locs hP hD hS => ?_)
  have hP : va_P (dC, dI) vwCl [(op, .inr (1, [.int p1, .int p2, .int p3, .int p4, .int p5, .int p6, .ref q_1, .int 0, .int ((-1)), .int 0, .int ((-1)), .int 0])), (q_1, .inl (cI, n, .inl ((fun _ => 0))))] H := hP
  have hD : va_D A [(op, .inr (1, [.int p1, .int p2, .int p3, .int p4, .int p5, .int p6, .ref q_1, .int 0, .int ((-1)), .int 0, .int ((-1)), .int 0])), (q_1, .inl (cI, n, .inl ((fun _ => 0))))] := hD
  have hP9 := hP.sub (ws' := [(op, .inr (1, [.int p1, .int p2, .int p3, .int p4, .int p5, .int p6, .ref q_1, .int 0, .int ((-1)), .int 0, .int ((-1)), .int 0])), (q_1, .inl (cI, n, .inl ((fun _ => 0))))]) [0, 1] rfl
  have hD9 := hD.sub (ws' := [(op, .inr (1, [.int p1, .int p2, .int p3, .int p4, .int p5, .int p6, .ref q_1, .int 0, .int ((-1)), .int 0, .int ((-1)), .int 0])), (q_1, .inl (cI, n, .inl ((fun _ => 0))))]) [0, 1] (by decide) rfl
  refine W.widen (k := 1) (n := n) (by omega) (by omega) ?_
  exact W.vret hx hb hr (fun t ht hW => ⟨⟨(), rfl, trivial, q_1, by rw [ht]; exact hP9, va_K.moved hW.alike hK, hD9⟩, hS.F ht⟩) hS.2.2 dX1_init_55
