set_option maxHeartbeats 4000000 in
set_option maxRecDepth 100000 in
/-- Node(ix, n) -/
theorem c_X0_init (l : Launch) (dC : Nat → ClassId) (dI : Nat → Nat → Nat) (cI cZ cN cO : ClassId) (h0 n : Nat) (ix : Int32) (sz : Nat) (hn : n ≤ 31) : Met l yX0_init (.code yX0_init cX0_init 3 none :: gw) ({ frames := 1, cells := 5, slots := 5 * n, locals := 12 }) (va_Pc [.ref h0, .int ix, .int (nI n)] (fun U => U.heap.size = sz ∧ va_P (dC, dI) vwCl [(h0, .inr (0, [.int 0, .null, .null, .null, .null, .null, .int 0, .int 0, .int 0, .int 0, .null]))] U.heap ∧ va_K (dC, dI) vwCl (gTy cI cZ cN cO) U ∧ va_D (fun _ => True) [(h0, .inr (0, [.int 0, .null, .null, .null, .null, .null, .int 0, .int 0, .int 0, .int 0, .null]))])) (va_Qv (fun _ : Unit => True) (fun (_ : Unit) (t : State) => ∃ a1 a2 a3 a4 a5 : Nat, va_P (dC, dI) vwCl [(h0, .inr (0, [.int ix, .ref a1, .ref a2, .ref a3, .ref a4, .ref a5, .int 1, .int 0, .int 0, .int 0, .null])), (a1, .inl (cI, n, .inl ((fun _ => 0)))), (a2, .inl (cI, n, .inl ((fun _ => 0)))), (a3, .inl (cI, n, .inl ((fun _ => 0)))), (a4, .inl (cI, n, .inl ((fun _ => 0)))), (a5, .inl (cI, n, .inl ((fun _ => 0))))] t.heap ∧ va_K (dC, dI) vwCl (gTy cI cZ cN cO) t ∧ va_D (va_A [(h0, .inr (0, [.int 0, .null, .null, .null, .null, .null, .int 0, .int 0, .int 0, .int 0, .null]))] sz) [(h0, .inr (0, [.int ix, .ref a1, .ref a2, .ref a3, .ref a4, .ref a5, .int 1, .int 0, .int 0, .int 0, .null])), (a1, .inl (cI, n, .inl ((fun _ => 0)))), (a2, .inl (cI, n, .inl ((fun _ => 0)))), (a3, .inl (cI, n, .inl ((fun _ => 0)))), (a4, .inl (cI, n, .inl ((fun _ => 0)))), (a5, .inl (cI, n, .inl ((fun _ => 0))))]) (va_A [(h0, .inr (0, [.int 0, .null, .null, .null, .null, .null, .int 0, .int 0, .int 0, .int 0, .null]))] sz)) (5) (5 * n) (va_A [(h0, .inr (0, [.int 0, .null, .null, .null, .null, .null, .int 0, .int 0, .int 0, .int 0, .null]))] sz) := by
  refine Met.ofW (cc := cX0_init) (maxL := 3) (ret := none) (by decide) rfl ?_
  intro p e s m args below meth c s₁ B hml hv
  obtain ⟨rfl, hsz, hP, hK, hD0⟩ := hv
  have hx := B.exec
  have hb := B.bytes
  have hr := B.returns
  have hts := atoms_spec (ws := (.code yX0_init cX0_init 3 none :: gw)) B.pre
  have hg : ∀ w ∈ gw, w.before _ s = true := fun w h => hts w (List.mem_cons_of_mem _ h)
  have hown : s.vm.findClass RX0 = some m.cls := findClass_of_methodNamed B.named
  have hlocks := B.notSynchronized
  have hin : meth.name = "<init>" := (name_of_methodNamed B.named B.method).1
  subst hsz
  have hD := hD0.self (sz := s.heap.size)
  generalize hAe : va_A [(h0, .inr (0, [.int 0, .null, .null, .null, .null, .null, .int 0, .int 0, .int 0, .int 0, .null]))] s.heap.size = A at hD ⊢
  have hA : ∀ q : Nat, s.heap.size ≤ q → A q := fun q h => by rw [← hAe]; exact Or.inr h
  have hS : va_S A s.heap s.heap [] := va_S.rf
  obtain ⟨H, eH⟩ : ∃ z, z = s.heap := ⟨_, rfl⟩
  obtain ⟨locs, elocs⟩ : ∃ z : List Loc, z = [] := ⟨_, rfl⟩
  have hP : va_P (dC, dI) vwCl [(h0, .inr (0, [.int 0, .null, .null, .null, .null, .null, .int 0, .int 0, .int 0, .int 0, .null]))] H := by rw [eH]; exact hP
  have hS : va_S A s.heap H locs := by rw [eH, elocs]; exact hS
  have hl := lv_entry ([.ref h0, .int ix, .int (nI n)]) (n := 3) (Nat.le_of_ble_eq_true rfl)
  rw [lg_entry_eq]
  generalize (lg_sl ([.ref h0, .int ix, .int (nI n)]) ++ List.replicate (3 - (lg_sl ([.ref h0, .int ix, .int (nI n)])).length) Slot.unset).toArray = ls at hl ⊢
  have hl : lv_has ls 3 [(0, .ref h0), (1, .int ix), (2, .int (nI n))] := hl
  rw [← elocs]
  suffices hgoal : ∀ HH, H = HH → W p l e (headSpec (.code yX0_init cX0_init 3 none :: gw) ({ frames := 1, cells := 5, slots := 5 * n, locals := 12 })).room s m _ below meth c HH locs 0 0 _ (F0 m 0 ls []) from hgoal _ eH
  rintro _ rfl
  refine lv_aload_n hx hb dX0_init_0 rfl (lv_at hl 0 rfl) ?_
  refine W.objInit hx hb hown (hg _ kM_X0_3) (hg _ kI_objectInit) (hg _ kD_objectInit) rfl (by rw [hml]; exact hl.1) rfl dX0_init_1 (Nat.le_of_ble_eq_true rfl) (Nat.le_of_ble_eq_true rfl) ?_
  refine W.eq (g2 := F0 m 4 ls []) rfl ?_
  refine lv_aload_n hx hb dX0_init_4 rfl (lv_at hl 0 rfl) ?_
  refine lv_iconst (v := 1) hx hb dX0_init_5 (by decide) ?_
  refine va_put (D := (dC, dI)) (ci := 0) (v := .int 1) (ty := .boolean) (C := RX0) (T := TX0) (N := 11) hx hb hg inX0 tyX0 tyX0_ok nmX0 hown hK hP hD hS 0 rfl rfl 6 (by decide) (hg _ kF_X0_9) (fun _ h9 => h9) rfl (by decide +kernel) rfl rfl (Nat.le_of_ble_eq_true rfl) dX0_init_6 (fun H locs hP hD hS => ?_)
  have hP : va_P (dC, dI) vwCl [(h0, .inr (0, [.int 0, .null, .null, .null, .null, .null, .int 1, .int 0, .int 0, .int 0, .null]))] H := hP
  have hD : va_D A [(h0, .inr (0, [.int 0, .null, .null, .null, .null, .null, .int 1, .int 0, .int 0, .int 0, .null]))] := hD
  refine lv_aload_n hx hb dX0_init_9 rfl (lv_at hl 0 rfl) ?_
  refine lv_iconst (v := 0) hx hb dX0_init_10 (by decide) ?_
  refine va_put (D := (dC, dI)) (ci := 0) (v := .int 0) (ty := .int) (C := RX0) (T := TX0) (N := 11) hx hb hg inX0 tyX0 tyX0_ok nmX0 hown hK hP hD hS 0 rfl rfl 7 (by decide) (hg _ kF_X0_15) (fun _ h9 => h9) rfl (by decide +kernel) rfl rfl (Nat.le_of_ble_eq_true rfl) dX0_init_11 (fun H locs hP hD hS => ?_)
  have hP : va_P (dC, dI) vwCl [(h0, .inr (0, [.int 0, .null, .null, .null, .null, .null, .int 1, .int 0, .int 0, .int 0, .null]))] H := hP
  have hD : va_D A [(h0, .inr (0, [.int 0, .null, .null, .null, .null, .null, .int 1, .int 0, .int 0, .int 0, .null]))] := hD
  refine lv_aload_n hx hb dX0_init_14 rfl (lv_at hl 0 rfl) ?_
  refine lv_iload_n hx hb dX0_init_15 rfl (lv_at hl 1 rfl) ?_
  refine va_putF (D := (dC, dI)) (ci := 0) (v := .int ix) (ty := .int) (C := RX0) (T := TX0) (N := 11) hx hb hg inX0 tyX0 tyX0_ok nmX0 hown hK hP hD hS 0 rfl rfl 0 (by decide) (hg _ kF_X0_19) (fun _ h9 => h9) rfl hin rfl (by decide +kernel) rfl rfl (Nat.le_of_ble_eq_true rfl) dX0_init_16 (fun H locs hP hD hS => ?_)
  have hP : va_P (dC, dI) vwCl [(h0, .inr (0, [.int ix, .null, .null, .null, .null, .null, .int 1, .int 0, .int 0, .int 0, .null]))] H := hP
  have hD : va_D A [(h0, .inr (0, [.int ix, .null, .null, .null, .null, .null, .int 1, .int 0, .int 0, .int 0, .null]))] := hD
  refine lv_aload_n hx hb dX0_init_19 rfl (lv_at hl 0 rfl) ?_
  refine lv_iload_n hx hb dX0_init_20 rfl (lv_at hl 2 rfl) ?_
  refine va_newa (atype := .int) (ty := .int) (N' := n) (a0 := (n, .inl (fun _ => 0))) hx hb (hg _ kZ_arrayClass_int) rfl hK hP hD hS hA (fun cA => rfl) (nI_pos (by omega)) (nI_clamp (by omega)) (by show n * 4 ≤ 536870912; omega) (Nat.le_of_ble_eq_true rfl) (by show 0 + n ≤ 5 * n; omega) dX0_init_21 (fun q_1 cA H hK hP hD hS => ?_)
  have hcA : cA = cI := gK_arr hK 0 rfl
  rw [hcA] at hP hD
  have hK : va_K (dC, dI) vwCl (gTy cI cZ cN cO) s := hK.sub [0, 1, 2, 3] rfl
  have hP : va_P (dC, dI) vwCl [(h0, .inr (0, [.int ix, .null, .null, .null, .null, .null, .int 1, .int 0, .int 0, .int 0, .null])), (q_1, .inl (cI, n, .inl ((fun _ => 0))))] H := hP
  have hD : va_D A [(h0, .inr (0, [.int ix, .null, .null, .null, .null, .null, .int 1, .int 0, .int 0, .int 0, .null])), (q_1, .inl (cI, n, .inl ((fun _ => 0))))] := hD
  refine va_putF (D := (dC, dI)) (ci := 0) (v := .ref q_1) (ty := .array .int) (C := RX0) (T := TX0) (N := 11) hx hb hg inX0 tyX0 tyX0_ok nmX0 hown hK hP hD hS 0 rfl rfl 1 (by decide) (hg _ kF_X0_22) (fun _ h9 => h9) rfl hin rfl (by decide +kernel) rfl rfl (Nat.le_of_ble_eq_true rfl) dX0_init_23 (fun H locs hP hD hS => ?_)
  have hP : va_P (dC, dI) vwCl [(h0, .inr (0, [.int ix, .ref q_1, .null, .null, .null, .null, .int 1, .int 0, .int 0, .int 0, .null])), (q_1, .inl (cI, n, .inl ((fun _ => 0))))] H := hP
  have hD : va_D A [(h0, .inr (0, [.int ix, .ref q_1, .null, .null, .null, .null, .int 1, .int 0, .int 0, .int 0, .null])), (q_1, .inl (cI, n, .inl ((fun _ => 0))))] := hD
  refine lv_aload_n hx hb dX0_init_26 rfl (lv_at hl 0 rfl) ?_
  refine lv_iload_n hx hb dX0_init_27 rfl (lv_at hl 2 rfl) ?_
  refine va_newa (atype := .int) (ty := .int) (N' := n) (a0 := (n, .inl (fun _ => 0))) hx hb (hg _ kZ_arrayClass_int) rfl hK hP hD hS hA (fun cA => rfl) (nI_pos (by omega)) (nI_clamp (by omega)) (by show n * 4 ≤ 536870912; omega) (Nat.le_of_ble_eq_true rfl) (by show 0 + n + n ≤ 5 * n; omega) dX0_init_28 (fun q_2 cA H hK hP hD hS => ?_)
  have hcA : cA = cI := gK_arr hK 0 rfl
  rw [hcA] at hP hD
  have hK : va_K (dC, dI) vwCl (gTy cI cZ cN cO) s := hK.sub [0, 1, 2, 3] rfl
  have hP : va_P (dC, dI) vwCl [(h0, .inr (0, [.int ix, .ref q_1, .null, .null, .null, .null, .int 1, .int 0, .int 0, .int 0, .null])), (q_1, .inl (cI, n, .inl ((fun _ => 0)))), (q_2, .inl (cI, n, .inl ((fun _ => 0))))] H := hP
  have hD : va_D A [(h0, .inr (0, [.int ix, .ref q_1, .null, .null, .null, .null, .int 1, .int 0, .int 0, .int 0, .null])), (q_1, .inl (cI, n, .inl ((fun _ => 0)))), (q_2, .inl (cI, n, .inl ((fun _ => 0))))] := hD
  refine va_putF (D := (dC, dI)) (ci := 0) (v := .ref q_2) (ty := .array .int) (C := RX0) (T := TX0) (N := 11) hx hb hg inX0 tyX0 tyX0_ok nmX0 hown hK hP hD hS 0 rfl rfl 2 (by decide) (hg _ kF_X0_26) (fun _ h9 => h9) rfl hin rfl (by decide +kernel) rfl rfl (Nat.le_of_ble_eq_true rfl) dX0_init_30 (fun H locs hP hD hS => ?_)
  have hP : va_P (dC, dI) vwCl [(h0, .inr (0, [.int ix, .ref q_1, .ref q_2, .null, .null, .null, .int 1, .int 0, .int 0, .int 0, .null])), (q_1, .inl (cI, n, .inl ((fun _ => 0)))), (q_2, .inl (cI, n, .inl ((fun _ => 0))))] H := hP
  have hD : va_D A [(h0, .inr (0, [.int ix, .ref q_1, .ref q_2, .null, .null, .null, .int 1, .int 0, .int 0, .int 0, .null])), (q_1, .inl (cI, n, .inl ((fun _ => 0)))), (q_2, .inl (cI, n, .inl ((fun _ => 0))))] := hD
  refine lv_aload_n hx hb dX0_init_33 rfl (lv_at hl 0 rfl) ?_
  refine lv_iload_n hx hb dX0_init_34 rfl (lv_at hl 2 rfl) ?_
  refine va_newa (atype := .int) (ty := .int) (N' := n) (a0 := (n, .inl (fun _ => 0))) hx hb (hg _ kZ_arrayClass_int) rfl hK hP hD hS hA (fun cA => rfl) (nI_pos (by omega)) (nI_clamp (by omega)) (by show n * 4 ≤ 536870912; omega) (Nat.le_of_ble_eq_true rfl) (by show 0 + n + n + n ≤ 5 * n; omega) dX0_init_35 (fun q_3 cA H hK hP hD hS => ?_)
  have hcA : cA = cI := gK_arr hK 0 rfl
  rw [hcA] at hP hD
  have hK : va_K (dC, dI) vwCl (gTy cI cZ cN cO) s := hK.sub [0, 1, 2, 3] rfl
  have hP : va_P (dC, dI) vwCl [(h0, .inr (0, [.int ix, .ref q_1, .ref q_2, .null, .null, .null, .int 1, .int 0, .int 0, .int 0, .null])), (q_1, .inl (cI, n, .inl ((fun _ => 0)))), (q_2, .inl (cI, n, .inl ((fun _ => 0)))), (q_3, .inl (cI, n, .inl ((fun _ => 0))))] H := hP
  have hD : va_D A [(h0, .inr (0, [.int ix, .ref q_1, .ref q_2, .null, .null, .null, .int 1, .int 0, .int 0, .int 0, .null])), (q_1, .inl (cI, n, .inl ((fun _ => 0)))), (q_2, .inl (cI, n, .inl ((fun _ => 0)))), (q_3, .inl (cI, n, .inl ((fun _ => 0))))] := hD
  refine va_putF (D := (dC, dI)) (ci := 0) (v := .ref q_3) (ty := .array .int) (C := RX0) (T := TX0) (N := 11) hx hb hg inX0 tyX0 tyX0_ok nmX0 hown hK hP hD hS 0 rfl rfl 3 (by decide) (hg _ kF_X0_29) (fun _ h9 => h9) rfl hin rfl (by decide +kernel) rfl rfl (Nat.le_of_ble_eq_true rfl) dX0_init_37 (fun H locs hP hD hS => ?_)
  have hP : va_P (dC, dI) vwCl [(h0, .inr (0, [.int ix, .ref q_1, .ref q_2, .ref q_3, .null, .null, .int 1, .int 0, .int 0, .int 0, .null])), (q_1, .inl (cI, n, .inl ((fun _ => 0)))), (q_2, .inl (cI, n, .inl ((fun _ => 0)))), (q_3, .inl (cI, n, .inl ((fun _ => 0))))] H := hP
  have hD : va_D A [(h0, .inr (0, [.int ix, .ref q_1, .ref q_2, .ref q_3, .null, .null, .int 1, .int 0, .int 0, .int 0, .null])), (q_1, .inl (cI, n, .inl ((fun _ => 0)))), (q_2, .inl (cI, n, .inl ((fun _ => 0)))), (q_3, .inl (cI, n, .inl ((fun _ => 0))))] := hD
  refine lv_aload_n hx hb dX0_init_40 rfl (lv_at hl 0 rfl) ?_
  refine lv_iload_n hx hb dX0_init_41 rfl (lv_at hl 2 rfl) ?_
  refine va_newa (atype := .int) (ty := .int) (N' := n) (a0 := (n, .inl (fun _ => 0))) hx hb (hg _ kZ_arrayClass_int) rfl hK hP hD hS hA (fun cA => rfl) (nI_pos (by omega)) (nI_clamp (by omega)) (by show n * 4 ≤ 536870912; omega) (Nat.le_of_ble_eq_true rfl) (by show 0 + n + n + n + n ≤ 5 * n; omega) dX0_init_42 (fun q_4 cA H hK hP hD hS => ?_)
  have hcA : cA = cI := gK_arr hK 0 rfl
  rw [hcA] at hP hD
  have hK : va_K (dC, dI) vwCl (gTy cI cZ cN cO) s := hK.sub [0, 1, 2, 3] rfl
  have hP : va_P (dC, dI) vwCl [(h0, .inr (0, [.int ix, .ref q_1, .ref q_2, .ref q_3, .null, .null, .int 1, .int 0, .int 0, .int 0, .null])), (q_1, .inl (cI, n, .inl ((fun _ => 0)))), (q_2, .inl (cI, n, .inl ((fun _ => 0)))), (q_3, .inl (cI, n, .inl ((fun _ => 0)))), (q_4, .inl (cI, n, .inl ((fun _ => 0))))] H := hP
  have hD : va_D A [(h0, .inr (0, [.int ix, .ref q_1, .ref q_2, .ref q_3, .null, .null, .int 1, .int 0, .int 0, .int 0, .null])), (q_1, .inl (cI, n, .inl ((fun _ => 0)))), (q_2, .inl (cI, n, .inl ((fun _ => 0)))), (q_3, .inl (cI, n, .inl ((fun _ => 0)))), (q_4, .inl (cI, n, .inl ((fun _ => 0))))] := hD
  refine va_putF (D := (dC, dI)) (ci := 0) (v := .ref q_4) (ty := .array .int) (C := RX0) (T := TX0) (N := 11) hx hb hg inX0 tyX0 tyX0_ok nmX0 hown hK hP hD hS 0 rfl rfl 4 (by decide) (hg _ kF_X0_32) (fun _ h9 => h9) rfl hin rfl (by decide +kernel) rfl rfl (Nat.le_of_ble_eq_true rfl) dX0_init_44 (fun H locs hP hD hS => ?_)
  have hP : va_P (dC, dI) vwCl [(h0, .inr (0, [.int ix, .ref q_1, .ref q_2, .ref q_3, .ref q_4, .null, .int 1, .int 0, .int 0, .int 0, .null])), (q_1, .inl (cI, n, .inl ((fun _ => 0)))), (q_2, .inl (cI, n, .inl ((fun _ => 0)))), (q_3, .inl (cI, n, .inl ((fun _ => 0)))), (q_4, .inl (cI, n, .inl ((fun _ => 0))))] H := hP
  have hD : va_D A [(h0, .inr (0, [.int ix, .ref q_1, .ref q_2, .ref q_3, .ref q_4, .null, .int 1, .int 0, .int 0, .int 0, .null])), (q_1, .inl (cI, n, .inl ((fun _ => 0)))), (q_2, .inl (cI, n, .inl ((fun _ => 0)))), (q_3, .inl (cI, n, .inl ((fun _ => 0)))), (q_4, .inl (cI, n, .inl ((fun _ => 0))))] := hD
  refine lv_aload_n hx hb dX0_init_47 rfl (lv_at hl 0 rfl) ?_
  refine lv_iload_n hx hb dX0_init_48 rfl (lv_at hl 2 rfl) ?_
  refine va_newa (atype := .int) (ty := .int) (N' := n) (a0 := (n, .inl (fun _ => 0))) hx hb (hg _ kZ_arrayClass_int) rfl hK hP hD hS hA (fun cA => rfl) (nI_pos (by omega)) (nI_clamp (by omega)) (by show n * 4 ≤ 536870912; omega) (Nat.le_of_ble_eq_true rfl) (by show 0 + n + n + n + n + n ≤ 5 * n; omega) dX0_init_49 (fun q_5 cA H hK hP hD hS => ?_)
  have hcA : cA = cI := gK_arr hK 0 rfl
  rw [hcA] at hP hD
  have hK : va_K (dC, dI) vwCl (gTy cI cZ cN cO) s := hK.sub [0, 1, 2, 3] rfl
  have hP : va_P (dC, dI) vwCl [(h0, .inr (0, [.int ix, .ref q_1, .ref q_2, .ref q_3, .ref q_4, .null, .int 1, .int 0, .int 0, .int 0, .null])), (q_1, .inl (cI, n, .inl ((fun _ => 0)))), (q_2, .inl (cI, n, .inl ((fun _ => 0)))), (q_3, .inl (cI, n, .inl ((fun _ => 0)))), (q_4, .inl (cI, n, .inl ((fun _ => 0)))), (q_5, .inl (cI, n, .inl ((fun _ => 0))))] H := hP
  have hD : va_D A [(h0, .inr (0, [.int ix, .ref q_1, .ref q_2, .ref q_3, .ref q_4, .null, .int 1, .int 0, .int 0, .int 0, .null])), (q_1, .inl (cI, n, .inl ((fun _ => 0)))), (q_2, .inl (cI, n, .inl ((fun _ => 0)))), (q_3, .inl (cI, n, .inl ((fun _ => 0)))), (q_4, .inl (cI, n, .inl ((fun _ => 0)))), (q_5, .inl (cI, n, .inl ((fun _ => 0))))] := hD
  refine va_putF (D := (dC, dI)) (ci := 0) (v := .ref q_5) (ty := .array .int) (C := RX0) (T := TX0) (N := 11) hx hb hg inX0 tyX0 tyX0_ok nmX0 hown hK hP hD hS 0 rfl rfl 5 (by decide) (hg _ kF_X0_35) (fun _ h9 => h9) rfl hin rfl (by decide +kernel) rfl rfl (Nat.le_of_ble_eq_true rfl) dX0_init_51 (fun H locs hP hD hS => ?_)
  have hP : va_P (dC, dI) vwCl [(h0, .inr (0, [.int ix, .ref q_1, .ref q_2, .ref q_3, .ref q_4, .ref q_5, .int 1, .int 0, .int 0, .int 0, .null])), (q_1, .inl (cI, n, .inl ((fun _ => 0)))), (q_2, .inl (cI, n, .inl ((fun _ => 0)))), (q_3, .inl (cI, n, .inl ((fun _ => 0)))), (q_4, .inl (cI, n, .inl ((fun _ => 0)))), (q_5, .inl (cI, n, .inl ((fun _ => 0))))] H := hP
  have hD : va_D A [(h0, .inr (0, [.int ix, .ref q_1, .ref q_2, .ref q_3, .ref q_4, .ref q_5, .int 1, .int 0, .int 0, .int 0, .null])), (q_1, .inl (cI, n, .inl ((fun _ => 0)))), (q_2, .inl (cI, n, .inl ((fun _ => 0)))), (q_3, .inl (cI, n, .inl ((fun _ => 0)))), (q_4, .inl (cI, n, .inl ((fun _ => 0)))), (q_5, .inl (cI, n, .inl ((fun _ => 0))))] := hD
  have hP9 := hP.sub (ws' := [(h0, .inr (0, [.int ix, .ref q_1, .ref q_2, .ref q_3, .ref q_4, .ref q_5, .int 1, .int 0, .int 0, .int 0, .null])), (q_1, .inl (cI, n, .inl ((fun _ => 0)))), (q_2, .inl (cI, n, .inl ((fun _ => 0)))), (q_3, .inl (cI, n, .inl ((fun _ => 0)))), (q_4, .inl (cI, n, .inl ((fun _ => 0)))), (q_5, .inl (cI, n, .inl ((fun _ => 0))))]) [0, 1, 2, 3, 4, 5] rfl
  have hD9 := hD.sub (ws' := [(h0, .inr (0, [.int ix, .ref q_1, .ref q_2, .ref q_3, .ref q_4, .ref q_5, .int 1, .int 0, .int 0, .int 0, .null])), (q_1, .inl (cI, n, .inl ((fun _ => 0)))), (q_2, .inl (cI, n, .inl ((fun _ => 0)))), (q_3, .inl (cI, n, .inl ((fun _ => 0)))), (q_4, .inl (cI, n, .inl ((fun _ => 0)))), (q_5, .inl (cI, n, .inl ((fun _ => 0))))]) [0, 1, 2, 3, 4, 5] (by decide) rfl
  refine W.widen (k := 5) (n := 5 * n) (by omega) (by omega) ?_
  exact W.vret hx hb hr (fun t ht hW => ⟨⟨(), rfl, trivial, q_1, q_2, q_3, q_4, q_5, by rw [ht]; exact hP9, va_K.moved hW.alike hK, hD9⟩, hS.F ht⟩) hS.2.2 dX0_init_54
set_option maxHeartbeats 4000000 in
set_option maxRecDepth 100000 in
/-- the slots stand in their order -/
theorem lp_X2_init {p : Program} {l : Launch} {e : Env} {R : Room} {s : State} {m : MethodId} {args : Array Value} {below : List Frame} {meth : Method} {c : Code} {cells slots : Nat} {Q : State → Prop} {A : Nat → Prop} {H0 : Heap} {dC : Nat → ClassId} {dI : Nat → Nat → Nat} {cI cZ cN cO : ClassId} (hx : p.tables.exec = Jvm.exec) (hb : c.code = cX2_init) (hml : c.maxLocals = 3) (hown : s.vm.findClass RX2 = some m.cls) (hg : ∀ w ∈ gw, w.before args s = true) (hK : va_K (dC, dI) vwCl (gTy cI cZ cN cO) s) (h0 b1 b2 b3 b4 b5 b6 n : Nat)  (kk : ∀ (fs : Nat → Int32), (∀ j, j < 2000 → fs j = nI j) → ∀ (H : Heap) (locs : List Loc), va_P (dC, dI) vwCl [(h0, .inr (2, [.int (nI n), .ref b1, .ref b2, .ref b3, .ref b4, .ref b5, .ref b6, .int 0, .int 0, .int 0])), (b1, .inl (cI, 2000, .inl fs)), (b2, .inl (cI, 2000, .inl ((fun _ => 0)))), (b3, .inl (cI, 2000, .inl ((fun _ => 0)))), (b4, .inl (cI, 2000, .inl ((fun _ => 0)))), (b5, .inl (cI, 2000, .inl ((fun _ => 0)))), (b6, .inl (cI, 2000 * n, .inl ((fun _ => 0))))] H → va_D A [(h0, .inr (2, [.int (nI n), .ref b1, .ref b2, .ref b3, .ref b4, .ref b5, .ref b6, .int 0, .int 0, .int 0])), (b1, .inl (cI, 2000, .inl fs)), (b2, .inl (cI, 2000, .inl ((fun _ => 0)))), (b3, .inl (cI, 2000, .inl ((fun _ => 0)))), (b4, .inl (cI, 2000, .inl ((fun _ => 0)))), (b5, .inl (cI, 2000, .inl ((fun _ => 0)))), (b6, .inl (cI, 2000 * n, .inl ((fun _ => 0))))] → va_S A H0 H locs → ∀ ls : Array Slot, lv_has ls 3 [(2, .int (nI 2000)), (0, .ref h0), (1, .int (nI n))] → W p l e R s m args below meth c H locs cells slots Q (F0 m 87 ls [])) : ∀ (k i : Nat), i + k = 2000 → ∀ (fs : Nat → Int32), (∀ j, j < i → fs j = nI j) → ∀ (H : Heap) (locs : List Loc), va_P (dC, dI) vwCl [(h0, .inr (2, [.int (nI n), .ref b1, .ref b2, .ref b3, .ref b4, .ref b5, .ref b6, .int 0, .int 0, .int 0])), (b1, .inl (cI, 2000, .inl fs)), (b2, .inl (cI, 2000, .inl ((fun _ => 0)))), (b3, .inl (cI, 2000, .inl ((fun _ => 0)))), (b4, .inl (cI, 2000, .inl ((fun _ => 0)))), (b5, .inl (cI, 2000, .inl ((fun _ => 0)))), (b6, .inl (cI, 2000 * n, .inl ((fun _ => 0))))] H → va_D A [(h0, .inr (2, [.int (nI n), .ref b1, .ref b2, .ref b3, .ref b4, .ref b5, .ref b6, .int 0, .int 0, .int 0])), (b1, .inl (cI, 2000, .inl fs)), (b2, .inl (cI, 2000, .inl ((fun _ => 0)))), (b3, .inl (cI, 2000, .inl ((fun _ => 0)))), (b4, .inl (cI, 2000, .inl ((fun _ => 0)))), (b5, .inl (cI, 2000, .inl ((fun _ => 0)))), (b6, .inl (cI, 2000 * n, .inl ((fun _ => 0))))] → va_S A H0 H locs → ∀ ls : Array Slot, lv_has ls 3 [(2, .int (nI i)), (0, .ref h0), (1, .int (nI n))] → W p l e R s m args below meth c H locs cells slots Q (F0 m 67 ls []) := by
  intro k
  induction k with
  | zero =>
    intro i hik
    intro fs hI H locs hP hD hS ls hl
    have hi : i = 2000 := by omega
    subst hi
    refine lv_iload_n hx hb dX2_init_67 rfl (lv_at hl 0 rfl) ?_
    refine lv_sipush (v := 2000) hx hb dX2_init_68 (by decide) ?_
    refine lv_icmp_ge (tgt := 87) hx hb dX2_init_71 (by decide) (fun c_71 => ?_) (fun c_71 => absurd (by rw [nI_2000]; exact Int32.le_refl _) c_71)
    exact kk fs hI _ _ hP hD hS ls (lv_sub hl [0, 1, 2] rfl)
  | succ k ih =>
    intro i hik
    intro fs hI H locs hP hD hS ls hl
    have hi : i < 2000 := by omega
    refine lv_iload_n hx hb dX2_init_67 rfl (lv_at hl 0 rfl) ?_
    refine lv_sipush (v := 2000) hx hb dX2_init_68 (by decide) ?_
    refine lv_icmp_ge (tgt := 87) hx hb dX2_init_71 (by decide) (fun c_71 => absurd c_71 (by rw [← nI_2000]; exact nI_ge hi (by omega))) (fun c_71 => ?_)
    refine lv_aload_n hx hb dX2_init_74 rfl (lv_at hl 1 rfl) ?_
    refine va_get (D := (dC, dI)) (ci := 2) (v := .ref b1) (C := RX2) (T := TX2) (N := 10) hx hb hg inX2 hown hK hP 0 rfl rfl 1 (by decide) (hg _ kF_X2_9) (fun _ h9 => h9) rfl dX2_init_75 ?_
    refine lv_iload_n hx hb dX2_init_78 rfl (lv_at hl 0 rfl) ?_
    refine lv_iload_n hx hb dX2_init_79 rfl (lv_at hl 0 rfl) ?_
    refine va_iast hx hb hK hP hD hS 1 0 rfl rfl (vp_in_nI hi (by omega)) dX2_init_80 (fun H locs hP hD hS => ?_)
    have hP : va_P (dC, dI) vwCl [(h0, .inr (2, [.int (nI n), .ref b1, .ref b2, .ref b3, .ref b4, .ref b5, .ref b6, .int 0, .int 0, .int 0])), (b1, .inl (cI, 2000, .inl (upd fs (nI i).toNatClampNeg (nI i)))), (b2, .inl (cI, 2000, .inl ((fun _ => 0)))), (b3, .inl (cI, 2000, .inl ((fun _ => 0)))), (b4, .inl (cI, 2000, .inl ((fun _ => 0)))), (b5, .inl (cI, 2000, .inl ((fun _ => 0)))), (b6, .inl (cI, 2000 * n, .inl ((fun _ => 0))))] H := hP
    have hD : va_D A [(h0, .inr (2, [.int (nI n), .ref b1, .ref b2, .ref b3, .ref b4, .ref b5, .ref b6, .int 0, .int 0, .int 0])), (b1, .inl (cI, 2000, .inl (upd fs (nI i).toNatClampNeg (nI i)))), (b2, .inl (cI, 2000, .inl ((fun _ => 0)))), (b3, .inl (cI, 2000, .inl ((fun _ => 0)))), (b4, .inl (cI, 2000, .inl ((fun _ => 0)))), (b5, .inl (cI, 2000, .inl ((fun _ => 0)))), (b6, .inl (cI, 2000 * n, .inl ((fun _ => 0))))] := hD
    obtain ⟨g_1, eg_1⟩ : ∃ y : Nat → Int32, y = upd fs (nI i).toNatClampNeg (nI i) := ⟨_, rfl⟩
    rw [← eg_1] at hP hD
    have hP : va_P (dC, dI) vwCl [(h0, .inr (2, [.int (nI n), .ref b1, .ref b2, .ref b3, .ref b4, .ref b5, .ref b6, .int 0, .int 0, .int 0])), (b1, .inl (cI, 2000, .inl g_1)), (b2, .inl (cI, 2000, .inl ((fun _ => 0)))), (b3, .inl (cI, 2000, .inl ((fun _ => 0)))), (b4, .inl (cI, 2000, .inl ((fun _ => 0)))), (b5, .inl (cI, 2000, .inl ((fun _ => 0)))), (b6, .inl (cI, 2000 * n, .inl ((fun _ => 0))))] H := hP
    have hD : va_D A [(h0, .inr (2, [.int (nI n), .ref b1, .ref b2, .ref b3, .ref b4, .ref b5, .ref b6, .int 0, .int 0, .int 0])), (b1, .inl (cI, 2000, .inl g_1)), (b2, .inl (cI, 2000, .inl ((fun _ => 0)))), (b3, .inl (cI, 2000, .inl ((fun _ => 0)))), (b4, .inl (cI, 2000, .inl ((fun _ => 0)))), (b5, .inl (cI, 2000, .inl ((fun _ => 0)))), (b6, .inl (cI, 2000 * n, .inl ((fun _ => 0))))] := hD
    obtain ⟨x_2, ex_2⟩ : ∃ y : Int32, y = (nI i) + 1 := ⟨_, rfl⟩
    refine lv_iinc (v := x_2) (lv' := [(2, .int x_2), (0, .ref h0), (1, .int (nI n))]) hx hb dX2_init_81 hl (k := 0) rfl (by rw [ex_2]; rfl) (by decide) rfl (fun ls hl => ?_)
    refine lv_goto (tgt := 67) hx hb dX2_init_84 (by decide) ?_
    have hx2 : x_2 = nI (i + 1) := by rw [ex_2]; exact nI_1 i
    rw [hx2] at hl
    have hI2 : ∀ j, j < i + 1 → g_1 j = nI j := by
      intro j hj
      rw [eg_1, nI_clamp (by omega)]
      by_cases hji : j = i
      · subst hji; exact upd_self _ _ _
      · rw [upd_ne _ hji]; exact hI j (by omega)
    exact ih (i + 1) (by omega) g_1 hI2 _ _ hP hD hS ls (lv_sub hl [0, 1, 2] rfl)
set_option maxHeartbeats 4000000 in
set_option maxRecDepth 100000 in
/-- Row(n) -/
theorem c_X2_init (l : Launch) (dC : Nat → ClassId) (dI : Nat → Nat → Nat) (cI cZ cN cO : ClassId) (h0 n : Nat) (sz : Nat) (hn : n ≤ 31) : Met l yX2_init (.code yX2_init cX2_init 3 none :: gw) ({ frames := 1, cells := 6, slots := 10000 + 2000 * n, locals := 12 }) (va_Pc [.ref h0, .int (nI n)] (fun U => U.heap.size = sz ∧ va_P (dC, dI) vwCl [(h0, .inr (2, [.int 0, .null, .null, .null, .null, .null, .null, .int 0, .int 0, .int 0]))] U.heap ∧ va_K (dC, dI) vwCl (gTy cI cZ cN cO) U ∧ va_D (fun _ => True) [(h0, .inr (2, [.int 0, .null, .null, .null, .null, .null, .null, .int 0, .int 0, .int 0]))])) (va_Qv (fun _ : Unit => True) (fun (_ : Unit) (t : State) => ∃ (b1 b2 b3 b4 b5 b6 : Nat) (fs : Nat → Int32), (∀ j, j < 2000 → fs j = nI j) ∧ va_P (dC, dI) vwCl [(h0, .inr (2, [.int (nI n), .ref b1, .ref b2, .ref b3, .ref b4, .ref b5, .ref b6, .int 0, .int 0, .int 0])), (b1, .inl (cI, 2000, .inl fs)), (b2, .inl (cI, 2000, .inl ((fun _ => 0)))), (b3, .inl (cI, 2000, .inl ((fun _ => 0)))), (b4, .inl (cI, 2000, .inl ((fun _ => 0)))), (b5, .inl (cI, 2000, .inl ((fun _ => 0)))), (b6, .inl (cI, 2000 * n, .inl ((fun _ => 0))))] t.heap ∧ va_K (dC, dI) vwCl (gTy cI cZ cN cO) t ∧ va_D (va_A [(h0, .inr (2, [.int 0, .null, .null, .null, .null, .null, .null, .int 0, .int 0, .int 0]))] sz) [(h0, .inr (2, [.int (nI n), .ref b1, .ref b2, .ref b3, .ref b4, .ref b5, .ref b6, .int 0, .int 0, .int 0])), (b1, .inl (cI, 2000, .inl fs)), (b2, .inl (cI, 2000, .inl ((fun _ => 0)))), (b3, .inl (cI, 2000, .inl ((fun _ => 0)))), (b4, .inl (cI, 2000, .inl ((fun _ => 0)))), (b5, .inl (cI, 2000, .inl ((fun _ => 0)))), (b6, .inl (cI, 2000 * n, .inl ((fun _ => 0))))]) (va_A [(h0, .inr (2, [.int 0, .null, .null, .null, .null, .null, .null, .int 0, .int 0, .int 0]))] sz)) (6) (10000 + 2000 * n) (va_A [(h0, .inr (2, [.int 0, .null, .null, .null, .null, .null, .null, .int 0, .int 0, .int 0]))] sz) := by
  refine Met.ofW (cc := cX2_init) (maxL := 3) (ret := none) (by decide) rfl ?_
  intro p e s m args below meth c s₁ B hml hv
  obtain ⟨rfl, hsz, hP, hK, hD0⟩ := hv
  have hx := B.exec
  have hb := B.bytes
  have hr := B.returns
  have hts := atoms_spec (ws := (.code yX2_init cX2_init 3 none :: gw)) B.pre
  have hg : ∀ w ∈ gw, w.before _ s = true := fun w h => hts w (List.mem_cons_of_mem _ h)
  have hown : s.vm.findClass RX2 = some m.cls := findClass_of_methodNamed B.named
  have hlocks := B.notSynchronized
  have hin : meth.name = "<init>" := (name_of_methodNamed B.named B.method).1
  subst hsz
  have hD := hD0.self (sz := s.heap.size)
  generalize hAe : va_A [(h0, .inr (2, [.int 0, .null, .null, .null, .null, .null, .null, .int 0, .int 0, .int 0]))] s.heap.size = A at hD ⊢
  have hA : ∀ q : Nat, s.heap.size ≤ q → A q := fun q h => by rw [← hAe]; exact Or.inr h
  have hS : va_S A s.heap s.heap [] := va_S.rf
  obtain ⟨H, eH⟩ : ∃ z, z = s.heap := ⟨_, rfl⟩
  obtain ⟨locs, elocs⟩ : ∃ z : List Loc, z = [] := ⟨_, rfl⟩
  have hP : va_P (dC, dI) vwCl [(h0, .inr (2, [.int 0, .null, .null, .null, .null, .null, .null, .int 0, .int 0, .int 0]))] H := by rw [eH]; exact hP
  have hS : va_S A s.heap H locs := by rw [eH, elocs]; exact hS
  have hl := lv_entry ([.ref h0, .int (nI n)]) (n := 3) (Nat.le_of_ble_eq_true rfl)
  rw [lg_entry_eq]
  generalize (lg_sl ([.ref h0, .int (nI n)]) ++ List.replicate (3 - (lg_sl ([.ref h0, .int (nI n)])).length) Slot.unset).toArray = ls at hl ⊢
  have hl : lv_has ls 3 [(0, .ref h0), (1, .int (nI n))] := hl
  rw [← elocs]
  suffices hgoal : ∀ HH, H = HH → W p l e (headSpec (.code yX2_init cX2_init 3 none :: gw) ({ frames := 1, cells := 6, slots := 10000 + 2000 * n, locals := 12 })).room s m _ below meth c HH locs 0 0 _ (F0 m 0 ls []) from hgoal _ eH
  rintro _ rfl
  refine lv_aload_n hx hb dX2_init_0 rfl (lv_at hl 0 rfl) ?_
  refine W.objInit hx hb hown (hg _ kM_X2_3) (hg _ kI_objectInit) (hg _ kD_objectInit) rfl (by rw [hml]; exact hl.1) rfl dX2_init_1 (Nat.le_of_ble_eq_true rfl) (Nat.le_of_ble_eq_true rfl) ?_
  refine W.eq (g2 := F0 m 4 ls []) rfl ?_
  refine lv_aload_n hx hb dX2_init_4 rfl (lv_at hl 0 rfl) ?_
  refine lv_sipush (v := 2000) hx hb dX2_init_5 (by decide) ?_
  refine va_newa (atype := .int) (ty := .int) (N' := 2000) (a0 := (2000, .inl (fun _ => 0))) hx hb (hg _ kZ_arrayClass_int) rfl hK hP hD hS hA (fun cA => rfl) (by decide) (by decide) (by show 2000 * 4 ≤ 536870912; omega) (Nat.le_of_ble_eq_true rfl) (by show 0 + 2000 ≤ 10000 + 2000 * n; omega) dX2_init_8 (fun q_1 cA H hK hP hD hS => ?_)
  have hcA : cA = cI := gK_arr hK 0 rfl
  rw [hcA] at hP hD
  have hK : va_K (dC, dI) vwCl (gTy cI cZ cN cO) s := hK.sub [0, 1, 2, 3] rfl
  have hP : va_P (dC, dI) vwCl [(h0, .inr (2, [.int 0, .null, .null, .null, .null, .null, .null, .int 0, .int 0, .int 0])), (q_1, .inl (cI, 2000, .inl ((fun _ => 0))))] H := hP
  have hD : va_D A [(h0, .inr (2, [.int 0, .null, .null, .null, .null, .null, .null, .int 0, .int 0, .int 0])), (q_1, .inl (cI, 2000, .inl ((fun _ => 0))))] := hD
  refine va_putF (D := (dC, dI)) (ci := 2) (v := .ref q_1) (ty := .array .int) (C := RX2) (T := TX2) (N := 10) hx hb hg inX2 tyX2 tyX2_ok nmX2 hown hK hP hD hS 0 rfl rfl 1 (by decide) (hg _ kF_X2_9) (fun _ h9 => h9) rfl hin rfl (by decide +kernel) rfl rfl (Nat.le_of_ble_eq_true rfl) dX2_init_10 (fun H locs hP hD hS => ?_)
  have hP : va_P (dC, dI) vwCl [(h0, .inr (2, [.int 0, .ref q_1, .null, .null, .null, .null, .null, .int 0, .int 0, .int 0])), (q_1, .inl (cI, 2000, .inl ((fun _ => 0))))] H := hP
  have hD : va_D A [(h0, .inr (2, [.int 0, .ref q_1, .null, .null, .null, .null, .null, .int 0, .int 0, .int 0])), (q_1, .inl (cI, 2000, .inl ((fun _ => 0))))] := hD
  refine lv_aload_n hx hb dX2_init_13 rfl (lv_at hl 0 rfl) ?_
  refine lv_sipush (v := 2000) hx hb dX2_init_14 (by decide) ?_
  refine va_newa (atype := .int) (ty := .int) (N' := 2000) (a0 := (2000, .inl (fun _ => 0))) hx hb (hg _ kZ_arrayClass_int) rfl hK hP hD hS hA (fun cA => rfl) (by decide) (by decide) (by show 2000 * 4 ≤ 536870912; omega) (Nat.le_of_ble_eq_true rfl) (by show 0 + 2000 + 2000 ≤ 10000 + 2000 * n; omega) dX2_init_17 (fun q_2 cA H hK hP hD hS => ?_)
  have hcA : cA = cI := gK_arr hK 0 rfl
  rw [hcA] at hP hD
  have hK : va_K (dC, dI) vwCl (gTy cI cZ cN cO) s := hK.sub [0, 1, 2, 3] rfl
  have hP : va_P (dC, dI) vwCl [(h0, .inr (2, [.int 0, .ref q_1, .null, .null, .null, .null, .null, .int 0, .int 0, .int 0])), (q_1, .inl (cI, 2000, .inl ((fun _ => 0)))), (q_2, .inl (cI, 2000, .inl ((fun _ => 0))))] H := hP
  have hD : va_D A [(h0, .inr (2, [.int 0, .ref q_1, .null, .null, .null, .null, .null, .int 0, .int 0, .int 0])), (q_1, .inl (cI, 2000, .inl ((fun _ => 0)))), (q_2, .inl (cI, 2000, .inl ((fun _ => 0))))] := hD
  refine va_putF (D := (dC, dI)) (ci := 2) (v := .ref q_2) (ty := .array .int) (C := RX2) (T := TX2) (N := 10) hx hb hg inX2 tyX2 tyX2_ok nmX2 hown hK hP hD hS 0 rfl rfl 2 (by decide) (hg _ kF_X2_15) (fun _ h9 => h9) rfl hin rfl (by decide +kernel) rfl rfl (Nat.le_of_ble_eq_true rfl) dX2_init_19 (fun H locs hP hD hS => ?_)
  have hP : va_P (dC, dI) vwCl [(h0, .inr (2, [.int 0, .ref q_1, .ref q_2, .null, .null, .null, .null, .int 0, .int 0, .int 0])), (q_1, .inl (cI, 2000, .inl ((fun _ => 0)))), (q_2, .inl (cI, 2000, .inl ((fun _ => 0))))] H := hP
  have hD : va_D A [(h0, .inr (2, [.int 0, .ref q_1, .ref q_2, .null, .null, .null, .null, .int 0, .int 0, .int 0])), (q_1, .inl (cI, 2000, .inl ((fun _ => 0)))), (q_2, .inl (cI, 2000, .inl ((fun _ => 0))))] := hD
  refine lv_aload_n hx hb dX2_init_22 rfl (lv_at hl 0 rfl) ?_
  refine lv_sipush (v := 2000) hx hb dX2_init_23 (by decide) ?_
  refine va_newa (atype := .int) (ty := .int) (N' := 2000) (a0 := (2000, .inl (fun _ => 0))) hx hb (hg _ kZ_arrayClass_int) rfl hK hP hD hS hA (fun cA => rfl) (by decide) (by decide) (by show 2000 * 4 ≤ 536870912; omega) (Nat.le_of_ble_eq_true rfl) (by show 0 + 2000 + 2000 + 2000 ≤ 10000 + 2000 * n; omega) dX2_init_26 (fun q_3 cA H hK hP hD hS => ?_)
  have hcA : cA = cI := gK_arr hK 0 rfl
  rw [hcA] at hP hD
  have hK : va_K (dC, dI) vwCl (gTy cI cZ cN cO) s := hK.sub [0, 1, 2, 3] rfl
  have hP : va_P (dC, dI) vwCl [(h0, .inr (2, [.int 0, .ref q_1, .ref q_2, .null, .null, .null, .null, .int 0, .int 0, .int 0])), (q_1, .inl (cI, 2000, .inl ((fun _ => 0)))), (q_2, .inl (cI, 2000, .inl ((fun _ => 0)))), (q_3, .inl (cI, 2000, .inl ((fun _ => 0))))] H := hP
  have hD : va_D A [(h0, .inr (2, [.int 0, .ref q_1, .ref q_2, .null, .null, .null, .null, .int 0, .int 0, .int 0])), (q_1, .inl (cI, 2000, .inl ((fun _ => 0)))), (q_2, .inl (cI, 2000, .inl ((fun _ => 0)))), (q_3, .inl (cI, 2000, .inl ((fun _ => 0))))] := hD
  refine va_putF (D := (dC, dI)) (ci := 2) (v := .ref q_3) (ty := .array .int) (C := RX2) (T := TX2) (N := 10) hx hb hg inX2 tyX2 tyX2_ok nmX2 hown hK hP hD hS 0 rfl rfl 3 (by decide) (hg _ kF_X2_18) (fun _ h9 => h9) rfl hin rfl (by decide +kernel) rfl rfl (Nat.le_of_ble_eq_true rfl) dX2_init_28 (fun H locs hP hD hS => ?_)
  have hP : va_P (dC, dI) vwCl [(h0, .inr (2, [.int 0, .ref q_1, .ref q_2, .ref q_3, .null, .null, .null, .int 0, .int 0, .int 0])), (q_1, .inl (cI, 2000, .inl ((fun _ => 0)))), (q_2, .inl (cI, 2000, .inl ((fun _ => 0)))), (q_3, .inl (cI, 2000, .inl ((fun _ => 0))))] H := hP
  have hD : va_D A [(h0, .inr (2, [.int 0, .ref q_1, .ref q_2, .ref q_3, .null, .null, .null, .int 0, .int 0, .int 0])), (q_1, .inl (cI, 2000, .inl ((fun _ => 0)))), (q_2, .inl (cI, 2000, .inl ((fun _ => 0)))), (q_3, .inl (cI, 2000, .inl ((fun _ => 0))))] := hD
  refine lv_aload_n hx hb dX2_init_31 rfl (lv_at hl 0 rfl) ?_
  refine lv_sipush (v := 2000) hx hb dX2_init_32 (by decide) ?_
  refine va_newa (atype := .int) (ty := .int) (N' := 2000) (a0 := (2000, .inl (fun _ => 0))) hx hb (hg _ kZ_arrayClass_int) rfl hK hP hD hS hA (fun cA => rfl) (by decide) (by decide) (by show 2000 * 4 ≤ 536870912; omega) (Nat.le_of_ble_eq_true rfl) (by show 0 + 2000 + 2000 + 2000 + 2000 ≤ 10000 + 2000 * n; omega) dX2_init_35 (fun q_4 cA H hK hP hD hS => ?_)
  have hcA : cA = cI := gK_arr hK 0 rfl
  rw [hcA] at hP hD
  have hK : va_K (dC, dI) vwCl (gTy cI cZ cN cO) s := hK.sub [0, 1, 2, 3] rfl
  have hP : va_P (dC, dI) vwCl [(h0, .inr (2, [.int 0, .ref q_1, .ref q_2, .ref q_3, .null, .null, .null, .int 0, .int 0, .int 0])), (q_1, .inl (cI, 2000, .inl ((fun _ => 0)))), (q_2, .inl (cI, 2000, .inl ((fun _ => 0)))), (q_3, .inl (cI, 2000, .inl ((fun _ => 0)))), (q_4, .inl (cI, 2000, .inl ((fun _ => 0))))] H := hP
  have hD : va_D A [(h0, .inr (2, [.int 0, .ref q_1, .ref q_2, .ref q_3, .null, .null, .null, .int 0, .int 0, .int 0])), (q_1, .inl (cI, 2000, .inl ((fun _ => 0)))), (q_2, .inl (cI, 2000, .inl ((fun _ => 0)))), (q_3, .inl (cI, 2000, .inl ((fun _ => 0)))), (q_4, .inl (cI, 2000, .inl ((fun _ => 0))))] := hD
  refine va_putF (D := (dC, dI)) (ci := 2) (v := .ref q_4) (ty := .array .int) (C := RX2) (T := TX2) (N := 10) hx hb hg inX2 tyX2 tyX2_ok nmX2 hown hK hP hD hS 0 rfl rfl 4 (by decide) (hg _ kF_X2_21) (fun _ h9 => h9) rfl hin rfl (by decide +kernel) rfl rfl (Nat.le_of_ble_eq_true rfl) dX2_init_37 (fun H locs hP hD hS => ?_)
  have hP : va_P (dC, dI) vwCl [(h0, .inr (2, [.int 0, .ref q_1, .ref q_2, .ref q_3, .ref q_4, .null, .null, .int 0, .int 0, .int 0])), (q_1, .inl (cI, 2000, .inl ((fun _ => 0)))), (q_2, .inl (cI, 2000, .inl ((fun _ => 0)))), (q_3, .inl (cI, 2000, .inl ((fun _ => 0)))), (q_4, .inl (cI, 2000, .inl ((fun _ => 0))))] H := hP
  have hD : va_D A [(h0, .inr (2, [.int 0, .ref q_1, .ref q_2, .ref q_3, .ref q_4, .null, .null, .int 0, .int 0, .int 0])), (q_1, .inl (cI, 2000, .inl ((fun _ => 0)))), (q_2, .inl (cI, 2000, .inl ((fun _ => 0)))), (q_3, .inl (cI, 2000, .inl ((fun _ => 0)))), (q_4, .inl (cI, 2000, .inl ((fun _ => 0))))] := hD
  refine lv_aload_n hx hb dX2_init_40 rfl (lv_at hl 0 rfl) ?_
  refine lv_sipush (v := 2000) hx hb dX2_init_41 (by decide) ?_
  refine va_newa (atype := .int) (ty := .int) (N' := 2000) (a0 := (2000, .inl (fun _ => 0))) hx hb (hg _ kZ_arrayClass_int) rfl hK hP hD hS hA (fun cA => rfl) (by decide) (by decide) (by show 2000 * 4 ≤ 536870912; omega) (Nat.le_of_ble_eq_true rfl) (by show 0 + 2000 + 2000 + 2000 + 2000 + 2000 ≤ 10000 + 2000 * n; omega) dX2_init_44 (fun q_5 cA H hK hP hD hS => ?_)
  have hcA : cA = cI := gK_arr hK 0 rfl
  rw [hcA] at hP hD
  have hK : va_K (dC, dI) vwCl (gTy cI cZ cN cO) s := hK.sub [0, 1, 2, 3] rfl
  have hP : va_P (dC, dI) vwCl [(h0, .inr (2, [.int 0, .ref q_1, .ref q_2, .ref q_3, .ref q_4, .null, .null, .int 0, .int 0, .int 0])), (q_1, .inl (cI, 2000, .inl ((fun _ => 0)))), (q_2, .inl (cI, 2000, .inl ((fun _ => 0)))), (q_3, .inl (cI, 2000, .inl ((fun _ => 0)))), (q_4, .inl (cI, 2000, .inl ((fun _ => 0)))), (q_5, .inl (cI, 2000, .inl ((fun _ => 0))))] H := hP
  have hD : va_D A [(h0, .inr (2, [.int 0, .ref q_1, .ref q_2, .ref q_3, .ref q_4, .null, .null, .int 0, .int 0, .int 0])), (q_1, .inl (cI, 2000, .inl ((fun _ => 0)))), (q_2, .inl (cI, 2000, .inl ((fun _ => 0)))), (q_3, .inl (cI, 2000, .inl ((fun _ => 0)))), (q_4, .inl (cI, 2000, .inl ((fun _ => 0)))), (q_5, .inl (cI, 2000, .inl ((fun _ => 0))))] := hD
  refine va_putF (D := (dC, dI)) (ci := 2) (v := .ref q_5) (ty := .array .int) (C := RX2) (T := TX2) (N := 10) hx hb hg inX2 tyX2 tyX2_ok nmX2 hown hK hP hD hS 0 rfl rfl 5 (by decide) (hg _ kF_X2_24) (fun _ h9 => h9) rfl hin rfl (by decide +kernel) rfl rfl (Nat.le_of_ble_eq_true rfl) dX2_init_46 (fun H locs hP hD hS => ?_)
  have hP : va_P (dC, dI) vwCl [(h0, .inr (2, [.int 0, .ref q_1, .ref q_2, .ref q_3, .ref q_4, .ref q_5, .null, .int 0, .int 0, .int 0])), (q_1, .inl (cI, 2000, .inl ((fun _ => 0)))), (q_2, .inl (cI, 2000, .inl ((fun _ => 0)))), (q_3, .inl (cI, 2000, .inl ((fun _ => 0)))), (q_4, .inl (cI, 2000, .inl ((fun _ => 0)))), (q_5, .inl (cI, 2000, .inl ((fun _ => 0))))] H := hP
  have hD : va_D A [(h0, .inr (2, [.int 0, .ref q_1, .ref q_2, .ref q_3, .ref q_4, .ref q_5, .null, .int 0, .int 0, .int 0])), (q_1, .inl (cI, 2000, .inl ((fun _ => 0)))), (q_2, .inl (cI, 2000, .inl ((fun _ => 0)))), (q_3, .inl (cI, 2000, .inl ((fun _ => 0)))), (q_4, .inl (cI, 2000, .inl ((fun _ => 0)))), (q_5, .inl (cI, 2000, .inl ((fun _ => 0))))] := hD
  refine lv_aload_n hx hb dX2_init_49 rfl (lv_at hl 0 rfl) ?_
  refine lv_iload_n hx hb dX2_init_50 rfl (lv_at hl 1 rfl) ?_
  refine va_putF (D := (dC, dI)) (ci := 2) (v := .int (nI n)) (ty := .int) (C := RX2) (T := TX2) (N := 10) hx hb hg inX2 tyX2 tyX2_ok nmX2 hown hK hP hD hS 0 rfl rfl 0 (by decide) (hg _ kF_X2_27) (fun _ h9 => h9) rfl hin rfl (by decide +kernel) rfl rfl (Nat.le_of_ble_eq_true rfl) dX2_init_51 (fun H locs hP hD hS => ?_)
  have hP : va_P (dC, dI) vwCl [(h0, .inr (2, [.int (nI n), .ref q_1, .ref q_2, .ref q_3, .ref q_4, .ref q_5, .null, .int 0, .int 0, .int 0])), (q_1, .inl (cI, 2000, .inl ((fun _ => 0)))), (q_2, .inl (cI, 2000, .inl ((fun _ => 0)))), (q_3, .inl (cI, 2000, .inl ((fun _ => 0)))), (q_4, .inl (cI, 2000, .inl ((fun _ => 0)))), (q_5, .inl (cI, 2000, .inl ((fun _ => 0))))] H := hP
  have hD : va_D A [(h0, .inr (2, [.int (nI n), .ref q_1, .ref q_2, .ref q_3, .ref q_4, .ref q_5, .null, .int 0, .int 0, .int 0])), (q_1, .inl (cI, 2000, .inl ((fun _ => 0)))), (q_2, .inl (cI, 2000, .inl ((fun _ => 0)))), (q_3, .inl (cI, 2000, .inl ((fun _ => 0)))), (q_4, .inl (cI, 2000, .inl ((fun _ => 0)))), (q_5, .inl (cI, 2000, .inl ((fun _ => 0))))] := hD
  refine lv_aload_n hx hb dX2_init_54 rfl (lv_at hl 0 rfl) ?_
  refine lv_sipush (v := 2000) hx hb dX2_init_55 (by decide) ?_
  refine lv_iload_n hx hb dX2_init_58 rfl (lv_at hl 1 rfl) ?_
  refine lv_imul hx hb dX2_init_59 ?_
  rw [← nI_2000, nI_mul 2000 n]
  refine va_newa (atype := .int) (ty := .int) (N' := (2000 * n)) (a0 := ((2000 * n), .inl (fun _ => 0))) hx hb (hg _ kZ_arrayClass_int) rfl hK hP hD hS hA (fun cA => rfl) (nI_pos (by omega)) (nI_clamp (by omega)) (by show (2000 * n) * 4 ≤ 536870912; omega) (Nat.le_of_ble_eq_true rfl) (by show 0 + 2000 + 2000 + 2000 + 2000 + 2000 + 2000 * n ≤ 10000 + 2000 * n; omega) dX2_init_60 (fun q_6 cA H hK hP hD hS => ?_)
  have hcA : cA = cI := gK_arr hK 0 rfl
  rw [hcA] at hP hD
  have hK : va_K (dC, dI) vwCl (gTy cI cZ cN cO) s := hK.sub [0, 1, 2, 3] rfl
  have hP : va_P (dC, dI) vwCl [(h0, .inr (2, [.int (nI n), .ref q_1, .ref q_2, .ref q_3, .ref q_4, .ref q_5, .null, .int 0, .int 0, .int 0])), (q_1, .inl (cI, 2000, .inl ((fun _ => 0)))), (q_2, .inl (cI, 2000, .inl ((fun _ => 0)))), (q_3, .inl (cI, 2000, .inl ((fun _ => 0)))), (q_4, .inl (cI, 2000, .inl ((fun _ => 0)))), (q_5, .inl (cI, 2000, .inl ((fun _ => 0)))), (q_6, .inl (cI, (2000 * n), .inl ((fun _ => 0))))] H := hP
  have hD : va_D A [(h0, .inr (2, [.int (nI n), .ref q_1, .ref q_2, .ref q_3, .ref q_4, .ref q_5, .null, .int 0, .int 0, .int 0])), (q_1, .inl (cI, 2000, .inl ((fun _ => 0)))), (q_2, .inl (cI, 2000, .inl ((fun _ => 0)))), (q_3, .inl (cI, 2000, .inl ((fun _ => 0)))), (q_4, .inl (cI, 2000, .inl ((fun _ => 0)))), (q_5, .inl (cI, 2000, .inl ((fun _ => 0)))), (q_6, .inl (cI, (2000 * n), .inl ((fun _ => 0))))] := hD
  refine va_putF (D := (dC, dI)) (ci := 2) (v := .ref q_6) (ty := .array .int) (C := RX2) (T := TX2) (N := 10) hx hb hg inX2 tyX2 tyX2_ok nmX2 hown hK hP hD hS 0 rfl rfl 6 (by decide) (hg _ kF_X2_31) (fun _ h9 => h9) rfl hin rfl (by decide +kernel) rfl rfl (Nat.le_of_ble_eq_true rfl) dX2_init_62 (fun H locs hP hD hS => ?_)
  have hP : va_P (dC, dI) vwCl [(h0, .inr (2, [.int (nI n), .ref q_1, .ref q_2, .ref q_3, .ref q_4, .ref q_5, .ref q_6, .int 0, .int 0, .int 0])), (q_1, .inl (cI, 2000, .inl ((fun _ => 0)))), (q_2, .inl (cI, 2000, .inl ((fun _ => 0)))), (q_3, .inl (cI, 2000, .inl ((fun _ => 0)))), (q_4, .inl (cI, 2000, .inl ((fun _ => 0)))), (q_5, .inl (cI, 2000, .inl ((fun _ => 0)))), (q_6, .inl (cI, (2000 * n), .inl ((fun _ => 0))))] H := hP
  have hD : va_D A [(h0, .inr (2, [.int (nI n), .ref q_1, .ref q_2, .ref q_3, .ref q_4, .ref q_5, .ref q_6, .int 0, .int 0, .int 0])), (q_1, .inl (cI, 2000, .inl ((fun _ => 0)))), (q_2, .inl (cI, 2000, .inl ((fun _ => 0)))), (q_3, .inl (cI, 2000, .inl ((fun _ => 0)))), (q_4, .inl (cI, 2000, .inl ((fun _ => 0)))), (q_5, .inl (cI, 2000, .inl ((fun _ => 0)))), (q_6, .inl (cI, (2000 * n), .inl ((fun _ => 0))))] := hD
  refine lv_iconst (v := 0) hx hb dX2_init_65 (by decide) ?_
  refine lv_istore_n (lv' := [(2, .int 0), (0, .ref h0), (1, .int (nI n))]) hx hb dX2_init_66 rfl hl (by decide) rfl (fun ls hl => ?_)
  refine lp_X2_init hx hb hml hown hg hK h0 q_1 q_2 q_3 q_4 q_5 q_6 n ?_ 2000 0 (by omega) (fun _ => 0) (fun j hj => absurd hj (Nat.not_lt_zero j)) _ _ hP hD hS ls (lv_sub hl [0, 1, 2] rfl)
  intro fs hI H locs hP hD hS ls hl
  have hP9 := hP.sub (ws' := [(h0, .inr (2, [.int (nI n), .ref q_1, .ref q_2, .ref q_3, .ref q_4, .ref q_5, .ref q_6, .int 0, .int 0, .int 0])), (q_1, .inl (cI, 2000, .inl fs)), (q_2, .inl (cI, 2000, .inl ((fun _ => 0)))), (q_3, .inl (cI, 2000, .inl ((fun _ => 0)))), (q_4, .inl (cI, 2000, .inl ((fun _ => 0)))), (q_5, .inl (cI, 2000, .inl ((fun _ => 0)))), (q_6, .inl (cI, (2000 * n), .inl ((fun _ => 0))))]) [0, 1, 2, 3, 4, 5, 6] rfl
  have hD9 := hD.sub (ws' := [(h0, .inr (2, [.int (nI n), .ref q_1, .ref q_2, .ref q_3, .ref q_4, .ref q_5, .ref q_6, .int 0, .int 0, .int 0])), (q_1, .inl (cI, 2000, .inl fs)), (q_2, .inl (cI, 2000, .inl ((fun _ => 0)))), (q_3, .inl (cI, 2000, .inl ((fun _ => 0)))), (q_4, .inl (cI, 2000, .inl ((fun _ => 0)))), (q_5, .inl (cI, 2000, .inl ((fun _ => 0)))), (q_6, .inl (cI, (2000 * n), .inl ((fun _ => 0))))]) [0, 1, 2, 3, 4, 5, 6] (by decide) rfl
  refine W.widen (k := 6) (n := 10000 + 2000 * n) (by omega) (by omega) ?_
  exact W.vret hx hb hr (fun t ht hW => ⟨⟨(), rfl, trivial, q_1, q_2, q_3, q_4, q_5, q_6, fs, hI, by rw [ht]; exact hP9, va_K.moved hW.alike hK, hD9⟩, hS.F ht⟩) hS.2.2 dX2_init_87
