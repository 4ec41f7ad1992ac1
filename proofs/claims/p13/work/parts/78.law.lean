theorem gP_nil {D : va_G} {H : Heap} : va_P D vwCl [] H := fun k q h => by simp at h
theorem gD_nil {A : Nat → Prop} : va_D A [] := ⟨fun i j p q h => by simp at h, fun k q h => by simp at h⟩
theorem gArr {s : State} {args : Array Value} {ty : FieldType} (h : (Cond.arrayClass ty).before args s = true) (hty : ∀ C, ty ≠ .object C) : ∃ cA : ClassId, ArrOfT s cA ty ∧ va_RA s cA ty := by
  obtain ⟨c, k, comp, h1, h2, h3⟩ := Cond.arrayClass_spec h
  refine ⟨c, fun n z => ⟨fun k h => (by cases h), k, h2, comp, h3⟩, ?_⟩
  cases ty <;> first | exact h1 | exact absurd rfl (hty _)
theorem gArrO {s : State} {args : Array Value} {C : String} (h : (Cond.arrayOver (.object C)).before args s = true) : ∃ cA : ClassId, ArrOfT s cA (.object C) ∧ va_RA s cA (.object C) := by
  obtain ⟨comp, c, k, h1, h2, h3, h4, h5⟩ := Cond.arrayOver_spec h
  exact ⟨c, fun n z => ⟨fun k h => (by cases h), k, h3, comp, h4⟩, k, comp, h3, h4, h1, h5⟩
theorem gStr {s : State} {args : Array Value} {tx : String} {k : Nat} {cur : ClassId} (hcur : s.vm.findClass RX3 = some cur) (h : (Cond.stringRef RX3 k tx).before args s = true) : ∃ a : Nat, vk_R RX3 k tx a s := by
  obtain ⟨_, _, _, a, -, -, -, -, -, h6⟩ := Cond.stringRef_spec hcur h
  exact ⟨a, vk_R.of (A := args) h h6⟩
set_option maxHeartbeats 4000000 in
set_option maxRecDepth 100000 in
/-- THE LAW, from its entry -/
theorem whole_start {p : Program} {e : Env} {s : State} {m : MethodId} {below : List Frame} {meth : Method} {c : Code} (l : Launch) (hst : l.stackTraces = false) {b L : Nat} {xs : Nat → Int32} (hL : L ≤ 2561) (C0 : lw_At p s m meth c b L xs) : W p l e room_1 s m #[Value.ref b] below meth c s.heap [] 0 0 (lw_Z below #[Value.ref b] s) (entryFrame m ([Value.ref b] : List Value).toArray 7) := by
  obtain ⟨hx, hb, hr, hml, hown, hts, hX, hbl, hlocks, hgv⟩ := id C0
  have hg : ∀ w ∈ gw, w.before _ s = true := fun w h => hts w (List.mem_filter.mp h).1
  have hA : ∀ q : Nat, s.heap.size ≤ q → (fun q : Nat => s.heap.size ≤ q) q := fun _ h => h
  have hbA : ¬ (fun q : Nat => s.heap.size ≤ q) b := Nat.not_le.mpr hbl
  have C9 := C0
  obtain ⟨c0, iS0, hKn0⟩ := u_known (C := RX0) (T := TX0) (N := 11) (n := 11) hg inX0 (hg _ kB_X0)
  obtain ⟨c1, iS1, hKn1⟩ := u_known (C := RX1) (T := TX1) (N := 12) (n := 12) hg inX1 (hg _ kB_X1)
  obtain ⟨c2, iS2, hKn2⟩ := u_known (C := RX2) (T := TX2) (N := 10) (n := 10) hg inX2 (hg _ kB_X2)
  obtain ⟨c3, iS3, hKn3⟩ := u_known (C := RX3) (T := TX3) (N := 9) (n := 9) hg inX3 (hg _ kB_X3)
  obtain ⟨c4, iS4, hKn4⟩ := u_known (C := RX4) (T := TX4) (N := 41) (n := 41) hg inX4 (hg _ kB_X4)
  obtain ⟨dC, dI, hKc⟩ : ∃ (dC : Nat → ClassId) (dI : Nat → Nat → Nat), ∀ (k : Nat) (q : vw_C), vwCl[k]? = some q → u_Kn s q.1 q.2.1 q.2.2 (dC k) (dI k) := by
    refine ⟨fun k => if k = 0 then c0 else if k = 1 then c1 else if k = 2 then c2 else if k = 3 then c3 else c4, fun k => if k = 0 then iS0 else if k = 1 then iS1 else if k = 2 then iS2 else if k = 3 then iS3 else iS4, ?_⟩
    intro k q hq
    match k, hq with
    | 0, hq => cases hq; exact hKn0
    | 1, hq => cases hq; exact hKn1
    | 2, hq => cases hq; exact hKn2
    | 3, hq => cases hq; exact hKn3
    | 4, hq => cases hq; exact hKn4
    | k + 5, hq => simp [vwCl] at hq
  obtain ⟨cI, hcI⟩ := gArr (ty := .int) (hts _ (List.mem_of_getElem? (i := 118) (by decide +kernel))) (fun C h => by cases h)
  obtain ⟨cZ, hcZ⟩ := gArr (ty := .boolean) (hts _ (List.mem_of_getElem? (i := 745) (by decide +kernel))) (fun C h => by cases h)
  obtain ⟨cL, hcL⟩ := gArr (ty := .long) (hts _ (List.mem_of_getElem? (i := 896) (by decide +kernel))) (fun C h => by cases h)
  have hAOX0 : va_AO RX0 s := va_AO.of (hts _ (List.mem_of_getElem? (i := 69) (by decide +kernel)))
  have hAOX1 : va_AO RX1 s := va_AO.of (hts _ (List.mem_of_getElem? (i := 163) (by decide +kernel)))
  obtain ⟨cN, hcN⟩ := gArrO (C := RX0) (hts _ (List.mem_of_getElem? (i := 69) (by decide +kernel)))
  obtain ⟨cO, hcO⟩ := gArrO (C := RX1) (hts _ (List.mem_of_getElem? (i := 163) (by decide +kernel)))
  have hK : va_K (dC, dI) vwCl (gTyL cI cZ cN cO cL) s := by
    refine ⟨hKc, fun k q h => ?_⟩
    match k, h with
    | 0, h => cases h; exact hcI
    | 1, h => cases h; exact hcZ
    | 2, h => cases h; exact hcN
    | 3, h => cases h; exact hcO
    | 4, h => cases h; exact hcL
    | k + 5, h => simp [gTyL] at h
  have hfl := flat_of_before _ hgv
  have hTh : gThr (fun q : Nat => s.heap.size ≤ q) s s.heap := ⟨vx_Zqof (hts _ (List.mem_of_getElem? (i := 360) (by decide +kernel))) (hts _ (List.mem_of_getElem? (i := 52) (by decide +kernel))) (hfl _ (by decide +kernel)) (fun a h1 h2 => absurd h1 (Nat.not_lt.mpr h2)), vx_Zqof (hts _ (List.mem_of_getElem? (i := 362) (by decide +kernel))) (hts _ (List.mem_of_getElem? (i := 52) (by decide +kernel))) (hfl _ (by decide +kernel)) (fun a h1 h2 => absurd h1 (Nat.not_lt.mpr h2))⟩
  have hBo : gThB "java/lang/IndexOutOfBoundsException" s := gThB.of (A := #[Value.ref b]) (by
    intro w hw
    simp only [thB, List.mem_cons, List.not_mem_nil, or_false] at hw
    rcases hw with rfl | rfl | rfl | rfl
    · exact (hts _ (List.mem_of_getElem? (i := 335) (by decide +kernel)))
    · exact (hts _ (List.mem_of_getElem? (i := 337) (by decide +kernel)))
    · exact (hts _ (List.mem_of_getElem? (i := 339) (by decide +kernel)))
    · exact (hts _ (List.mem_of_getElem? (i := 341) (by decide +kernel))))
  have hBa : gThB "java/lang/IllegalArgumentException" s := gThB.of (A := #[Value.ref b]) (by
    intro w hw
    simp only [thB, List.mem_cons, List.not_mem_nil, or_false] at hw
    rcases hw with rfl | rfl | rfl | rfl
    · exact (hts _ (List.mem_of_getElem? (i := 402) (by decide +kernel)))
    · exact (hts _ (List.mem_of_getElem? (i := 337) (by decide +kernel)))
    · exact (hts _ (List.mem_of_getElem? (i := 339) (by decide +kernel)))
    · exact (hts _ (List.mem_of_getElem? (i := 341) (by decide +kernel))))
  have hNc : va_Nc "java/lang/IllegalArgumentException" "java/lang/IndexOutOfBoundsException" s := va_Nc.of (hfl _ (by decide +kernel))
  have hcur : s.vm.findClass RX3 = some c3 := hKn3.2.1
  obtain ⟨sa39, hR39⟩ := gStr (k := 39) (tx := "there is no such node") hcur (hts _ (List.mem_of_getElem? (i := 373) (by decide +kernel)))
  obtain ⟨sa46, hR46⟩ := gStr (k := 46) (tx := "the kind of an update is 0 .. 3") hcur (hts _ (List.mem_of_getElem? (i := 409) (by decide +kernel)))
  obtain ⟨sa53, hR53⟩ := gStr (k := 53) (tx := "the kind of a query is 10 .. 15") hcur (hts _ (List.mem_of_getElem? (i := 513) (by decide +kernel)))
  obtain ⟨sa58, hR58⟩ := gStr (k := 58) (tx := "there is no such message") hcur (hts _ (List.mem_of_getElem? (i := 521) (by decide +kernel)))
  obtain ⟨sa64, hR64⟩ := gStr (k := 64) (tx := "calm takes 0 .. 2,000 messages") hcur (hts _ (List.mem_of_getElem? (i := 606) (by decide +kernel)))
  have hS : va_S (fun q : Nat => s.heap.size ≤ q) s.heap s.heap [] := va_S.rf
  have hP : va_P (dC, dI) vwCl [] s.heap := gP_nil
  have hD : va_D (fun q : Nat => s.heap.size ≤ q) [] := gD_nil
  have hl := lv_entry ([.ref b]) (n := 7) (Nat.le_of_ble_eq_true rfl)
  rw [lg_entry_eq]
  generalize (lg_sl ([.ref b]) ++ List.replicate (7 - (lg_sl ([.ref b])).length) Slot.unset).toArray = ls at hl ⊢
  have hl : lv_has ls 7 [(0, .ref b)] := hl
  refine va_new (ci := 3) (fs := [.null, .null, .null, .int 0, .int 0, .int 0, .int 0, .int 0, .int 0]) (C := RX3) (T := TX3) (N := 9) hx hb hg inX3 tyX3 tyX3_ok hown (hg _ kC_L_8) (hg _ kB_X3) (hg _ kN_X3) hK hP hD hS hA rfl (fun j hj => by have hj2 : j < 9 := hj; clear hj; revert j; decide) (Nat.le_of_ble_eq_true rfl) (Nat.le_of_ble_eq_true rfl) dL_law_0 (fun q_1 H hP hD hS => ?_)
  have hP : va_P (dC, dI) vwCl [(q_1, .inr (3, [.null, .null, .null, .int 0, .int 0, .int 0, .int 0, .int 0, .int 0]))] H := hP
  have hD : va_D (fun q : Nat => s.heap.size ≤ q) [(q_1, .inr (3, [.null, .null, .null, .int 0, .int 0, .int 0, .int 0, .int 0, .int 0]))] := hD
  refine lv_dup hx hb dL_law_3 rfl ?_
  refine lv_aload_n hx hb dL_law_4 rfl (lv_at hl 0 rfl) ?_
  refine lv_iconst (v := 0) hx hb dL_law_5 (by decide) ?_
  refine vp_callSi (W.runS (As := [.ref b, .int 0]) (rest := [.ref q_1, .ref q_1]) ⟨hx, hb, hml, hown, hg⟩ (c_L_cell l b L xs (by omega)) (cwS 2 hg (gw_S kM_L_32 kT_L_cell kN_L kD_L_cell) rfl rfl rfl (by decide +kernel) ⟨Nat.le_of_ble_eq_true rfl, Nat.le_of_ble_eq_true rfl⟩) ⟨fun a U g mk q => by obtain ⟨q0, qX⟩ := q; exact ⟨q0, va_X.moved (u := U) (U := U.calling g mk a) (Vm.Alike.refl U.vm) qX⟩, fun U hU hW => ⟨rfl, by show va_X b L xs U U.heap; rw [hU]; exact va_X.moved hW.alike (hX.kept (hS.2.1 b hbl hbA))⟩⟩ rfl rfl hl.1 rfl (lv_room (Nat.le_of_ble_eq_true rfl)) dL_law_6 ⟨Nat.le_of_ble_eq_true rfl, Nat.le_of_ble_eq_true rfl⟩) (fun r_2 hr_2 => ?_)
  obtain ⟨n, hnn⟩ : ∃ z, z = gN r_2 := ⟨_, rfl⟩
  have hn : n ≤ 31 := by rw [hnn]; exact (gN_bd _).2
  have hn3 : 3 ≤ n := by rw [hnn]; exact (gN_bd _).1
  have hmul : (11 + 5 * n) * n ≤ 166 * 31 := Nat.mul_le_mul (by omega) hn
  have hFc := va_free (wc := [(q_1, .inr (3, [.null, .null, .null, .int 0, .int 0, .int 0, .int 0, .int 0, .int 0]))]) hD hS hA [0] rfl
  refine va_callv (va_runI (As := [.int r_2]) (rest := [.ref q_1]) ⟨hx, hb, hml, hown, hg⟩ (c_X3_init l dC dI cI cZ cN cO q_1 n r_2 H.size hnn hn) (cwI 1 hg (gw_in kD_X3_init) rfl rfl rfl (hg _ kN_X3) (hg _ kM_L_38) (hg _ kI_X3_init) rfl (by decide +kernel) ⟨Nat.le_of_ble_eq_true rfl, Nat.le_of_ble_eq_true rfl⟩) ⟨fun a U g mk q => by obtain ⟨q0, q1, qP, qK, qD, qa, qb⟩ := q; exact ⟨q0, q1, qP, va_K.moved (u := U) (U := U.calling g mk a) (Vm.Alike.refl U.vm) qK, qD, va_AO.moved (u := U) (U := U.calling g mk a) (Vm.Alike.refl U.vm) qa, va_AO.moved (u := U) (U := U.calling g mk a) (Vm.Alike.refl U.vm) qb⟩, fun U hU hW => ⟨rfl, by rw [hU], by rw [hU]; exact hP, va_K.moved hW.alike (hK.sub (tys' := gTy cI cZ cN cO) [0, 1, 2, 3] rfl), hD.weaken (fun _ _ _ _ => trivial), va_AO.moved hW.alike hAOX0, va_AO.moved hW.alike hAOX1⟩⟩ rfl rfl hl.1 rfl (lv_room (Nat.le_of_ble_eq_true rfl)) dL_law_9 ⟨(by show 0 + 1 + (9 + 6 * n) ≤ 601024; omega), (by show 0 + 9 + (n + (11 + 5 * n) * n + 10522 + 2000 * n) ≤ 7293000; omega)⟩) hS (fun q _ h => hFc q h) hFc (fun u t H1 locs ht hvm hw hB hz1 hk1 hS => ?_)
  obtain ⟨na, ro, b1, b2, b3, b4, b5, b6, oa, fn, fs, P, hNd, hfs, hP1, hK1, hD1⟩ := hB
  rw [ht] at hP1
  have hP := hP1
  have hD := hD1.weaken (fun k q _ h => hFc q.1 h)
  clear hP1 hD1 hK1 hFc hz1 hk1 ht
  generalize H1 = H at hP hS ⊢
  have hP : va_P (dC, dI) vwCl ([(q_1, .inr (3, [.ref na, .ref ro, .ref oa, .int 0, .int 0, .int 0, .int 0, .int 0, .int 0])), (na, .inl (cN, n, .inr (.inr (.inr (.inr fn))))), (ro, .inr (2, [.int (nI n), .ref b1, .ref b2, .ref b3, .ref b4, .ref b5, .ref b6, .int 0, .int 0, .int 0])), (b1, .inl (cI, 2000, .inl fs)), (b2, .inl (cI, 2000, .inl ((fun _ => 0)))), (b3, .inl (cI, 2000, .inl ((fun _ => 0)))), (b4, .inl (cI, 2000, .inl ((fun _ => 0)))), (b5, .inl (cI, 2000, .inl ((fun _ => 0)))), (b6, .inl (cI, 2000 * n, .inl ((fun _ => 0)))), (oa, .inl (cO, 512, .inr (.inr (.inr (.inr ((fun _ => none)))))))] ++ P) H := hP
  have hD : va_D (fun q : Nat => s.heap.size ≤ q) ([(q_1, .inr (3, [.ref na, .ref ro, .ref oa, .int 0, .int 0, .int 0, .int 0, .int 0, .int 0])), (na, .inl (cN, n, .inr (.inr (.inr (.inr fn))))), (ro, .inr (2, [.int (nI n), .ref b1, .ref b2, .ref b3, .ref b4, .ref b5, .ref b6, .int 0, .int 0, .int 0])), (b1, .inl (cI, 2000, .inl fs)), (b2, .inl (cI, 2000, .inl ((fun _ => 0)))), (b3, .inl (cI, 2000, .inl ((fun _ => 0)))), (b4, .inl (cI, 2000, .inl ((fun _ => 0)))), (b5, .inl (cI, 2000, .inl ((fun _ => 0)))), (b6, .inl (cI, 2000 * n, .inl ((fun _ => 0)))), (oa, .inl (cO, 512, .inr (.inr (.inr (.inr ((fun _ => none)))))))] ++ P) := hD
  refine W.widen (k := 200) (n := 80000) (by omega) (by omega) ?_
  refine lv_astore_n (lv' := [(1, .ref q_1), (0, .ref b)]) hx hb dL_law_12 rfl hl (by decide) rfl (fun ls hl => ?_)
  refine va_new (ci := 4) (fs := [.int 0, .int 0, .null, .null, .null, .null, .null, .null, .null, .int 0, .int 0, .int 0, .int 0, .null, .null, .null, .null, .null, .null, .null, .null, .null, .null, .null, .null, .null, .null, .null, .null, .null, .null, .null, .null, .null, .null, .null, .null, .int 0, .int 0, .null, .int 0]) (C := RX4) (T := TX4) (N := 41) hx hb hg inX4 tyX4 tyX4_ok hown (hg _ kC_L_41) (hg _ kB_X4) (hg _ kN_X4) hK hP hD hS hA rfl (fun j hj => by have hj2 : j < 41 := hj; clear hj; revert j; decide) (Nat.le_of_ble_eq_true rfl) (Nat.le_of_ble_eq_true rfl) dL_law_13 (fun q_3 H hP hD hS => ?_)
  have hP := hP.swap
  have hD := hD.swap
  have hP : va_P (dC, dI) vwCl ([(q_1, .inr (3, [.ref na, .ref ro, .ref oa, .int 0, .int 0, .int 0, .int 0, .int 0, .int 0])), (na, .inl (cN, n, .inr (.inr (.inr (.inr fn))))), (ro, .inr (2, [.int (nI n), .ref b1, .ref b2, .ref b3, .ref b4, .ref b5, .ref b6, .int 0, .int 0, .int 0])), (b1, .inl (cI, 2000, .inl fs)), (b2, .inl (cI, 2000, .inl ((fun _ => 0)))), (b3, .inl (cI, 2000, .inl ((fun _ => 0)))), (b4, .inl (cI, 2000, .inl ((fun _ => 0)))), (b5, .inl (cI, 2000, .inl ((fun _ => 0)))), (b6, .inl (cI, 2000 * n, .inl ((fun _ => 0)))), (oa, .inl (cO, 512, .inr (.inr (.inr (.inr ((fun _ => none))))))), (q_3, .inr (4, [.int 0, .int 0, .null, .null, .null, .null, .null, .null, .null, .int 0, .int 0, .int 0, .int 0, .null, .null, .null, .null, .null, .null, .null, .null, .null, .null, .null, .null, .null, .null, .null, .null, .null, .null, .null, .null, .null, .null, .null, .null, .int 0, .int 0, .null, .int 0]))] ++ P) H := hP
  have hD : va_D (fun q : Nat => s.heap.size ≤ q) ([(q_1, .inr (3, [.ref na, .ref ro, .ref oa, .int 0, .int 0, .int 0, .int 0, .int 0, .int 0])), (na, .inl (cN, n, .inr (.inr (.inr (.inr fn))))), (ro, .inr (2, [.int (nI n), .ref b1, .ref b2, .ref b3, .ref b4, .ref b5, .ref b6, .int 0, .int 0, .int 0])), (b1, .inl (cI, 2000, .inl fs)), (b2, .inl (cI, 2000, .inl ((fun _ => 0)))), (b3, .inl (cI, 2000, .inl ((fun _ => 0)))), (b4, .inl (cI, 2000, .inl ((fun _ => 0)))), (b5, .inl (cI, 2000, .inl ((fun _ => 0)))), (b6, .inl (cI, 2000 * n, .inl ((fun _ => 0)))), (oa, .inl (cO, 512, .inr (.inr (.inr (.inr ((fun _ => none))))))), (q_3, .inr (4, [.int 0, .int 0, .null, .null, .null, .null, .null, .null, .null, .int 0, .int 0, .int 0, .int 0, .null, .null, .null, .null, .null, .null, .null, .null, .null, .null, .null, .null, .null, .null, .null, .null, .null, .null, .null, .null, .null, .null, .null, .null, .int 0, .int 0, .null, .int 0]))] ++ P) := hD
  refine lv_dup hx hb dL_law_16 rfl ?_
  refine lv_aload_n hx hb dL_law_17 rfl (lv_at hl 1 rfl) ?_
  refine lv_iconst (v := 0) hx hb dL_law_18 (by decide) ?_
  refine vp_callSi (W.runS (As := [.ref b, .int 0]) (rest := [.ref q_3, .ref q_3]) ⟨hx, hb, hml, hown, hg⟩ (c_L_cell l b L xs (by omega)) (cwS 2 hg (gw_S kM_L_32 kT_L_cell kN_L kD_L_cell) rfl rfl rfl (by decide +kernel) ⟨Nat.le_of_ble_eq_true rfl, Nat.le_of_ble_eq_true rfl⟩) ⟨fun a U g mk q => by obtain ⟨q0, qX⟩ := q; exact ⟨q0, va_X.moved (u := U) (U := U.calling g mk a) (Vm.Alike.refl U.vm) qX⟩, fun U hU hW => ⟨rfl, by show va_X b L xs U U.heap; rw [hU]; exact va_X.moved hW.alike (hX.kept (hS.2.1 b hbl hbA))⟩⟩ rfl rfl hl.1 rfl (lv_room (Nat.le_of_ble_eq_true rfl)) dL_law_19 ⟨Nat.le_of_ble_eq_true rfl, Nat.le_of_ble_eq_true rfl⟩) (fun r_4 hr_4 => ?_)
  have hPc := hP.sub (ws' := [(q_3, .inr (4, [.int 0, .int 0, .null, .null, .null, .null, .null, .null, .null, .int 0, .int 0, .int 0, .int 0, .null, .null, .null, .null, .null, .null, .null, .null, .null, .null, .null, .null, .null, .null, .null, .null, .null, .null, .null, .null, .null, .null, .null, .null, .int 0, .int 0, .null, .int 0]))]) [10] rfl
  have hDc := hD.sub (ws' := [(q_3, .inr (4, [.int 0, .int 0, .null, .null, .null, .null, .null, .null, .null, .int 0, .int 0, .int 0, .int 0, .null, .null, .null, .null, .null, .null, .null, .null, .null, .null, .null, .null, .null, .null, .null, .null, .null, .null, .null, .null, .null, .null, .null, .null, .int 0, .int 0, .null, .int 0]))]) [10] (by decide) rfl
  have hFc := va_free (wc := [(q_3, .inr (4, [.int 0, .int 0, .null, .null, .null, .null, .null, .null, .null, .int 0, .int 0, .int 0, .int 0, .null, .null, .null, .null, .null, .null, .null, .null, .null, .null, .null, .null, .null, .null, .null, .null, .null, .null, .null, .null, .null, .null, .null, .null, .int 0, .int 0, .null, .int 0]))]) hD hS hA [10] rfl
  refine va_callv (va_runI (As := [.int r_4]) (rest := [.ref q_3]) ⟨hx, hb, hml, hown, hg⟩ (c_X4_init l dC dI cI cZ cN cO q_3 n r_4 H.size (by rw [hnn, hr_2, hr_4])) (cwI 1 hg (gw_in kD_X4_init) rfl rfl rfl (hg _ kN_X4) (hg _ kM_L_43) (hg _ kI_X4_init) rfl (by decide +kernel) ⟨Nat.le_of_ble_eq_true rfl, Nat.le_of_ble_eq_true rfl⟩) ⟨fun a U g mk q => by obtain ⟨q0, q1, qP, qK, qD⟩ := q; exact ⟨q0, q1, qP, va_K.moved (u := U) (U := U.calling g mk a) (Vm.Alike.refl U.vm) qK, qD⟩, fun U hU hW => ⟨rfl, by rw [hU], by rw [hU]; exact hPc, va_K.moved hW.alike (hK.sub (tys' := gTy cI cZ cN cO) [0, 1, 2, 3] rfl), hDc.weaken (fun _ _ _ _ => trivial)⟩⟩ rfl rfl hl.1 rfl (lv_room (Nat.le_of_ble_eq_true rfl)) dL_law_22 ⟨Nat.le_of_ble_eq_true rfl, Nat.le_of_ble_eq_true rfl⟩) hS (fun q _ h => hFc q h) hFc (fun u t H1 locs ht hvm hw hB hz1 hk1 hS => ?_)
  obtain ⟨d2z_5, d3z_6, d4z_7, d5z_8, d6z_9, d7z_10, d8z_11, d13z_12, d14z_13, d15z_14, d16z_15, d17z_16, d18z_17, d19z_18, d20z_19, d21z_20, d22z_21, d23z_22, d24z_23, d25z_24, d26z_25, d27z_26, d28z_27, d29z_28, d30z_29, d31z_30, d32z_31, d33z_32, d34z_33, d35z_34, d36z_35, d39z_36, hP1, hK1, hD1⟩ := hB
  rw [ht] at hP1
  obtain ⟨hP, hD⟩ := va_joinQ (pl := P) (X := [(q_1, .inr (3, [.ref na, .ref ro, .ref oa, .int 0, .int 0, .int 0, .int 0, .int 0, .int 0])), (na, .inl (cN, n, .inr (.inr (.inr (.inr fn))))), (ro, .inr (2, [.int (nI n), .ref b1, .ref b2, .ref b3, .ref b4, .ref b5, .ref b6, .int 0, .int 0, .int 0])), (b1, .inl (cI, 2000, .inl fs)), (b2, .inl (cI, 2000, .inl ((fun _ => 0)))), (b3, .inl (cI, 2000, .inl ((fun _ => 0)))), (b4, .inl (cI, 2000, .inl ((fun _ => 0)))), (b5, .inl (cI, 2000, .inl ((fun _ => 0)))), (b6, .inl (cI, 2000 * n, .inl ((fun _ => 0)))), (oa, .inl (cO, 512, .inr (.inr (.inr (.inr ((fun _ => none))))))), (q_3, .inr (4, [.int 0, .int 0, .null, .null, .null, .null, .null, .null, .null, .int 0, .int 0, .int 0, .int 0, .null, .null, .null, .null, .null, .null, .null, .null, .null, .null, .null, .null, .null, .null, .null, .null, .null, .null, .null, .null, .null, .null, .null, .null, .int 0, .int 0, .null, .int 0]))]) (cx := [(q_3, .inr (4, [.int 0, .int 0, .null, .null, .null, .null, .null, .null, .null, .int 0, .int 0, .int 0, .int 0, .null, .null, .null, .null, .null, .null, .null, .null, .null, .null, .null, .null, .null, .null, .null, .null, .null, .null, .null, .null, .null, .null, .null, .null, .int 0, .int 0, .null, .int 0]))]) (wr := [(q_1, .inr (3, [.ref na, .ref ro, .ref oa, .int 0, .int 0, .int 0, .int 0, .int 0, .int 0])), (na, .inl (cN, n, .inr (.inr (.inr (.inr fn))))), (ro, .inr (2, [.int (nI n), .ref b1, .ref b2, .ref b3, .ref b4, .ref b5, .ref b6, .int 0, .int 0, .int 0])), (b1, .inl (cI, 2000, .inl fs)), (b2, .inl (cI, 2000, .inl ((fun _ => 0)))), (b3, .inl (cI, 2000, .inl ((fun _ => 0)))), (b4, .inl (cI, 2000, .inl ((fun _ => 0)))), (b5, .inl (cI, 2000, .inl ((fun _ => 0)))), (b6, .inl (cI, 2000 * n, .inl ((fun _ => 0)))), (oa, .inl (cO, 512, .inr (.inr (.inr (.inr ((fun _ => none)))))))]) (w1 := [(q_3, .inr (4, [.int (nI n), .int 0, .ref d2z_5, .ref d3z_6, .ref d4z_7, .ref d5z_8, .ref d6z_9, .ref d7z_10, .ref d8z_11, .int 0, .int 0, .int 0, .int 0, .ref d13z_12, .ref d14z_13, .ref d15z_14, .ref d16z_15, .ref d17z_16, .ref d18z_17, .ref d19z_18, .ref d20z_19, .ref d21z_20, .ref d22z_21, .ref d23z_22, .ref d24z_23, .ref d25z_24, .ref d26z_25, .ref d27z_26, .ref d28z_27, .ref d29z_28, .ref d30z_29, .ref d31z_30, .ref d32z_31, .ref d33z_32, .ref d34z_33, .ref d35z_34, .ref d36z_35, .int 0, .int 0, .ref d39z_36, .int 0])), (d2z_5, .inl (cI, 2001, .inl ((fun _ => 0)))), (d3z_6, .inl (cI, 2001, .inl ((fun _ => 0)))), (d4z_7, .inl (cI, 2001, .inl ((fun _ => 0)))), (d5z_8, .inl (cI, 2001, .inl ((fun _ => 0)))), (d6z_9, .inl (cI, 62031, .inl ((fun _ => 0)))), (d7z_10, .inl (cZ, 2001, .inl ((fun _ => 0)))), (d8z_11, .inl (cI, 2001, .inl ((fun _ => 0)))), (d13z_12, .inl (cZ, 31, .inl ((fun _ => 0)))), (d14z_13, .inl (cI, 31, .inl ((fun _ => 0)))), (d15z_14, .inl (cI, 31, .inl ((fun _ => 0)))), (d16z_15, .inl (cI, 31, .inl ((fun _ => 0)))), (d17z_16, .inl (cI, 31, .inl ((fun _ => 0)))), (d18z_17, .inl (cI, 961, .inl ((fun _ => 0)))), (d19z_18, .inl (cI, 31, .inl ((fun _ => 0)))), (d20z_19, .inl (cI, 15872, .inl ((fun _ => 0)))), (d21z_20, .inl (cI, 961, .inl ((fun _ => 0)))), (d22z_21, .inl (cI, 961, .inl ((fun _ => 0)))), (d23z_22, .inl (cI, 961, .inl ((fun _ => 0)))), (d24z_23, .inl (cZ, 31, .inl ((fun _ => 0)))), (d25z_24, .inl (cI, 961, .inl ((fun _ => 0)))), (d26z_25, .inl (cI, 512, .inl ((fun _ => 0)))), (d27z_26, .inl (cI, 512, .inl ((fun _ => 0)))), (d28z_27, .inl (cI, 512, .inl ((fun _ => 0)))), (d29z_28, .inl (cI, 512, .inl ((fun _ => 0)))), (d30z_29, .inl (cI, 512, .inl ((fun _ => 0)))), (d31z_30, .inl (cI, 512, .inl ((fun _ => 0)))), (d32z_31, .inl (cI, 512, .inl ((fun _ => 0)))), (d33z_32, .inl (cI, 512, .inl ((fun _ => 0)))), (d34z_33, .inl (cI, 512, .inl ((fun _ => 0)))), (d35z_34, .inl (cI, 15872, .inl ((fun _ => 0)))), (d36z_35, .inl (cZ, 512, .inl ((fun _ => 0)))), (d39z_36, .inl (cI, 512, .inl ((fun _ => 0))))]) hP hD [10] [0, 1, 2, 3, 4, 5, 6, 7, 8, 9] rfl rfl (by decide) (by decide) hk1 hFc hP1 hD1
  clear hPc hDc hFc hP1 hK1 hD1 hz1 hk1 ht
  generalize H1 = H at hP hS ⊢
  have hP : va_P (dC, dI) vwCl ([(q_1, .inr (3, [.ref na, .ref ro, .ref oa, .int 0, .int 0, .int 0, .int 0, .int 0, .int 0])), (na, .inl (cN, n, .inr (.inr (.inr (.inr fn))))), (ro, .inr (2, [.int (nI n), .ref b1, .ref b2, .ref b3, .ref b4, .ref b5, .ref b6, .int 0, .int 0, .int 0])), (b1, .inl (cI, 2000, .inl fs)), (b2, .inl (cI, 2000, .inl ((fun _ => 0)))), (b3, .inl (cI, 2000, .inl ((fun _ => 0)))), (b4, .inl (cI, 2000, .inl ((fun _ => 0)))), (b5, .inl (cI, 2000, .inl ((fun _ => 0)))), (b6, .inl (cI, 2000 * n, .inl ((fun _ => 0)))), (oa, .inl (cO, 512, .inr (.inr (.inr (.inr ((fun _ => none))))))), (q_3, .inr (4, [.int (nI n), .int 0, .ref d2z_5, .ref d3z_6, .ref d4z_7, .ref d5z_8, .ref d6z_9, .ref d7z_10, .ref d8z_11, .int 0, .int 0, .int 0, .int 0, .ref d13z_12, .ref d14z_13, .ref d15z_14, .ref d16z_15, .ref d17z_16, .ref d18z_17, .ref d19z_18, .ref d20z_19, .ref d21z_20, .ref d22z_21, .ref d23z_22, .ref d24z_23, .ref d25z_24, .ref d26z_25, .ref d27z_26, .ref d28z_27, .ref d29z_28, .ref d30z_29, .ref d31z_30, .ref d32z_31, .ref d33z_32, .ref d34z_33, .ref d35z_34, .ref d36z_35, .int 0, .int 0, .ref d39z_36, .int 0])), (d2z_5, .inl (cI, 2001, .inl ((fun _ => 0)))), (d3z_6, .inl (cI, 2001, .inl ((fun _ => 0)))), (d4z_7, .inl (cI, 2001, .inl ((fun _ => 0)))), (d5z_8, .inl (cI, 2001, .inl ((fun _ => 0)))), (d6z_9, .inl (cI, 62031, .inl ((fun _ => 0)))), (d7z_10, .inl (cZ, 2001, .inl ((fun _ => 0)))), (d8z_11, .inl (cI, 2001, .inl ((fun _ => 0)))), (d13z_12, .inl (cZ, 31, .inl ((fun _ => 0)))), (d14z_13, .inl (cI, 31, .inl ((fun _ => 0)))), (d15z_14, .inl (cI, 31, .inl ((fun _ => 0)))), (d16z_15, .inl (cI, 31, .inl ((fun _ => 0)))), (d17z_16, .inl (cI, 31, .inl ((fun _ => 0)))), (d18z_17, .inl (cI, 961, .inl ((fun _ => 0)))), (d19z_18, .inl (cI, 31, .inl ((fun _ => 0)))), (d20z_19, .inl (cI, 15872, .inl ((fun _ => 0)))), (d21z_20, .inl (cI, 961, .inl ((fun _ => 0)))), (d22z_21, .inl (cI, 961, .inl ((fun _ => 0)))), (d23z_22, .inl (cI, 961, .inl ((fun _ => 0)))), (d24z_23, .inl (cZ, 31, .inl ((fun _ => 0)))), (d25z_24, .inl (cI, 961, .inl ((fun _ => 0)))), (d26z_25, .inl (cI, 512, .inl ((fun _ => 0)))), (d27z_26, .inl (cI, 512, .inl ((fun _ => 0)))), (d28z_27, .inl (cI, 512, .inl ((fun _ => 0)))), (d29z_28, .inl (cI, 512, .inl ((fun _ => 0)))), (d30z_29, .inl (cI, 512, .inl ((fun _ => 0)))), (d31z_30, .inl (cI, 512, .inl ((fun _ => 0)))), (d32z_31, .inl (cI, 512, .inl ((fun _ => 0)))), (d33z_32, .inl (cI, 512, .inl ((fun _ => 0)))), (d34z_33, .inl (cI, 512, .inl ((fun _ => 0)))), (d35z_34, .inl (cI, 15872, .inl ((fun _ => 0)))), (d36z_35, .inl (cZ, 512, .inl ((fun _ => 0)))), (d39z_36, .inl (cI, 512, .inl ((fun _ => 0))))] ++ P) H := hP
  have hD : va_D (fun q : Nat => s.heap.size ≤ q) ([(q_1, .inr (3, [.ref na, .ref ro, .ref oa, .int 0, .int 0, .int 0, .int 0, .int 0, .int 0])), (na, .inl (cN, n, .inr (.inr (.inr (.inr fn))))), (ro, .inr (2, [.int (nI n), .ref b1, .ref b2, .ref b3, .ref b4, .ref b5, .ref b6, .int 0, .int 0, .int 0])), (b1, .inl (cI, 2000, .inl fs)), (b2, .inl (cI, 2000, .inl ((fun _ => 0)))), (b3, .inl (cI, 2000, .inl ((fun _ => 0)))), (b4, .inl (cI, 2000, .inl ((fun _ => 0)))), (b5, .inl (cI, 2000, .inl ((fun _ => 0)))), (b6, .inl (cI, 2000 * n, .inl ((fun _ => 0)))), (oa, .inl (cO, 512, .inr (.inr (.inr (.inr ((fun _ => none))))))), (q_3, .inr (4, [.int (nI n), .int 0, .ref d2z_5, .ref d3z_6, .ref d4z_7, .ref d5z_8, .ref d6z_9, .ref d7z_10, .ref d8z_11, .int 0, .int 0, .int 0, .int 0, .ref d13z_12, .ref d14z_13, .ref d15z_14, .ref d16z_15, .ref d17z_16, .ref d18z_17, .ref d19z_18, .ref d20z_19, .ref d21z_20, .ref d22z_21, .ref d23z_22, .ref d24z_23, .ref d25z_24, .ref d26z_25, .ref d27z_26, .ref d28z_27, .ref d29z_28, .ref d30z_29, .ref d31z_30, .ref d32z_31, .ref d33z_32, .ref d34z_33, .ref d35z_34, .ref d36z_35, .int 0, .int 0, .ref d39z_36, .int 0])), (d2z_5, .inl (cI, 2001, .inl ((fun _ => 0)))), (d3z_6, .inl (cI, 2001, .inl ((fun _ => 0)))), (d4z_7, .inl (cI, 2001, .inl ((fun _ => 0)))), (d5z_8, .inl (cI, 2001, .inl ((fun _ => 0)))), (d6z_9, .inl (cI, 62031, .inl ((fun _ => 0)))), (d7z_10, .inl (cZ, 2001, .inl ((fun _ => 0)))), (d8z_11, .inl (cI, 2001, .inl ((fun _ => 0)))), (d13z_12, .inl (cZ, 31, .inl ((fun _ => 0)))), (d14z_13, .inl (cI, 31, .inl ((fun _ => 0)))), (d15z_14, .inl (cI, 31, .inl ((fun _ => 0)))), (d16z_15, .inl (cI, 31, .inl ((fun _ => 0)))), (d17z_16, .inl (cI, 31, .inl ((fun _ => 0)))), (d18z_17, .inl (cI, 961, .inl ((fun _ => 0)))), (d19z_18, .inl (cI, 31, .inl ((fun _ => 0)))), (d20z_19, .inl (cI, 15872, .inl ((fun _ => 0)))), (d21z_20, .inl (cI, 961, .inl ((fun _ => 0)))), (d22z_21, .inl (cI, 961, .inl ((fun _ => 0)))), (d23z_22, .inl (cI, 961, .inl ((fun _ => 0)))), (d24z_23, .inl (cZ, 31, .inl ((fun _ => 0)))), (d25z_24, .inl (cI, 961, .inl ((fun _ => 0)))), (d26z_25, .inl (cI, 512, .inl ((fun _ => 0)))), (d27z_26, .inl (cI, 512, .inl ((fun _ => 0)))), (d28z_27, .inl (cI, 512, .inl ((fun _ => 0)))), (d29z_28, .inl (cI, 512, .inl ((fun _ => 0)))), (d30z_29, .inl (cI, 512, .inl ((fun _ => 0)))), (d31z_30, .inl (cI, 512, .inl ((fun _ => 0)))), (d32z_31, .inl (cI, 512, .inl ((fun _ => 0)))), (d33z_32, .inl (cI, 512, .inl ((fun _ => 0)))), (d34z_33, .inl (cI, 512, .inl ((fun _ => 0)))), (d35z_34, .inl (cI, 15872, .inl ((fun _ => 0)))), (d36z_35, .inl (cZ, 512, .inl ((fun _ => 0)))), (d39z_36, .inl (cI, 512, .inl ((fun _ => 0))))] ++ P) := hD
  refine lv_astore_n (lv' := [(2, .ref q_3), (1, .ref q_1), (0, .ref b)]) hx hb dL_law_25 rfl hl (by decide) rfl (fun ls hl => ?_)
  refine lv_iconst (v := 1) hx hb dL_law_26 (by decide) ?_
  refine va_newa (atype := .long) (ty := .long) (N' := 1) (a0 := (1, .inr (.inl (fun _ => 0)))) hx hb (hg _ kZ_arrayClass_long) rfl hK hP hD hS hA (fun cA => rfl) (by decide) (by decide) (by show 1 * 8 ≤ 536870912; omega) (Nat.le_of_ble_eq_true rfl) (Nat.le_of_ble_eq_true rfl) dL_law_27 (fun q_37 cA H hK hP hD hS => ?_)
  have hcA : cA = cL := gK_arr hK 4 rfl
  rw [hcA] at hP hD
  have hK : va_K (dC, dI) vwCl (gTyL cI cZ cN cO cL) s := hK.sub [0, 1, 2, 3, 4] rfl
  have hP := hP.swap
  have hD := hD.swap
  have hP : va_P (dC, dI) vwCl ([(q_1, .inr (3, [.ref na, .ref ro, .ref oa, .int 0, .int 0, .int 0, .int 0, .int 0, .int 0])), (na, .inl (cN, n, .inr (.inr (.inr (.inr fn))))), (ro, .inr (2, [.int (nI n), .ref b1, .ref b2, .ref b3, .ref b4, .ref b5, .ref b6, .int 0, .int 0, .int 0])), (b1, .inl (cI, 2000, .inl fs)), (b2, .inl (cI, 2000, .inl ((fun _ => 0)))), (b3, .inl (cI, 2000, .inl ((fun _ => 0)))), (b4, .inl (cI, 2000, .inl ((fun _ => 0)))), (b5, .inl (cI, 2000, .inl ((fun _ => 0)))), (b6, .inl (cI, 2000 * n, .inl ((fun _ => 0)))), (oa, .inl (cO, 512, .inr (.inr (.inr (.inr ((fun _ => none))))))), (q_3, .inr (4, [.int (nI n), .int 0, .ref d2z_5, .ref d3z_6, .ref d4z_7, .ref d5z_8, .ref d6z_9, .ref d7z_10, .ref d8z_11, .int 0, .int 0, .int 0, .int 0, .ref d13z_12, .ref d14z_13, .ref d15z_14, .ref d16z_15, .ref d17z_16, .ref d18z_17, .ref d19z_18, .ref d20z_19, .ref d21z_20, .ref d22z_21, .ref d23z_22, .ref d24z_23, .ref d25z_24, .ref d26z_25, .ref d27z_26, .ref d28z_27, .ref d29z_28, .ref d30z_29, .ref d31z_30, .ref d32z_31, .ref d33z_32, .ref d34z_33, .ref d35z_34, .ref d36z_35, .int 0, .int 0, .ref d39z_36, .int 0])), (d2z_5, .inl (cI, 2001, .inl ((fun _ => 0)))), (d3z_6, .inl (cI, 2001, .inl ((fun _ => 0)))), (d4z_7, .inl (cI, 2001, .inl ((fun _ => 0)))), (d5z_8, .inl (cI, 2001, .inl ((fun _ => 0)))), (d6z_9, .inl (cI, 62031, .inl ((fun _ => 0)))), (d7z_10, .inl (cZ, 2001, .inl ((fun _ => 0)))), (d8z_11, .inl (cI, 2001, .inl ((fun _ => 0)))), (d13z_12, .inl (cZ, 31, .inl ((fun _ => 0)))), (d14z_13, .inl (cI, 31, .inl ((fun _ => 0)))), (d15z_14, .inl (cI, 31, .inl ((fun _ => 0)))), (d16z_15, .inl (cI, 31, .inl ((fun _ => 0)))), (d17z_16, .inl (cI, 31, .inl ((fun _ => 0)))), (d18z_17, .inl (cI, 961, .inl ((fun _ => 0)))), (d19z_18, .inl (cI, 31, .inl ((fun _ => 0)))), (d20z_19, .inl (cI, 15872, .inl ((fun _ => 0)))), (d21z_20, .inl (cI, 961, .inl ((fun _ => 0)))), (d22z_21, .inl (cI, 961, .inl ((fun _ => 0)))), (d23z_22, .inl (cI, 961, .inl ((fun _ => 0)))), (d24z_23, .inl (cZ, 31, .inl ((fun _ => 0)))), (d25z_24, .inl (cI, 961, .inl ((fun _ => 0)))), (d26z_25, .inl (cI, 512, .inl ((fun _ => 0)))), (d27z_26, .inl (cI, 512, .inl ((fun _ => 0)))), (d28z_27, .inl (cI, 512, .inl ((fun _ => 0)))), (d29z_28, .inl (cI, 512, .inl ((fun _ => 0)))), (d30z_29, .inl (cI, 512, .inl ((fun _ => 0)))), (d31z_30, .inl (cI, 512, .inl ((fun _ => 0)))), (d32z_31, .inl (cI, 512, .inl ((fun _ => 0)))), (d33z_32, .inl (cI, 512, .inl ((fun _ => 0)))), (d34z_33, .inl (cI, 512, .inl ((fun _ => 0)))), (d35z_34, .inl (cI, 15872, .inl ((fun _ => 0)))), (d36z_35, .inl (cZ, 512, .inl ((fun _ => 0)))), (d39z_36, .inl (cI, 512, .inl ((fun _ => 0)))), (q_37, .inl (cL, 1, .inr (.inl ((fun _ => 0)))))] ++ P) H := hP
  have hD : va_D (fun q : Nat => s.heap.size ≤ q) ([(q_1, .inr (3, [.ref na, .ref ro, .ref oa, .int 0, .int 0, .int 0, .int 0, .int 0, .int 0])), (na, .inl (cN, n, .inr (.inr (.inr (.inr fn))))), (ro, .inr (2, [.int (nI n), .ref b1, .ref b2, .ref b3, .ref b4, .ref b5, .ref b6, .int 0, .int 0, .int 0])), (b1, .inl (cI, 2000, .inl fs)), (b2, .inl (cI, 2000, .inl ((fun _ => 0)))), (b3, .inl (cI, 2000, .inl ((fun _ => 0)))), (b4, .inl (cI, 2000, .inl ((fun _ => 0)))), (b5, .inl (cI, 2000, .inl ((fun _ => 0)))), (b6, .inl (cI, 2000 * n, .inl ((fun _ => 0)))), (oa, .inl (cO, 512, .inr (.inr (.inr (.inr ((fun _ => none))))))), (q_3, .inr (4, [.int (nI n), .int 0, .ref d2z_5, .ref d3z_6, .ref d4z_7, .ref d5z_8, .ref d6z_9, .ref d7z_10, .ref d8z_11, .int 0, .int 0, .int 0, .int 0, .ref d13z_12, .ref d14z_13, .ref d15z_14, .ref d16z_15, .ref d17z_16, .ref d18z_17, .ref d19z_18, .ref d20z_19, .ref d21z_20, .ref d22z_21, .ref d23z_22, .ref d24z_23, .ref d25z_24, .ref d26z_25, .ref d27z_26, .ref d28z_27, .ref d29z_28, .ref d30z_29, .ref d31z_30, .ref d32z_31, .ref d33z_32, .ref d34z_33, .ref d35z_34, .ref d36z_35, .int 0, .int 0, .ref d39z_36, .int 0])), (d2z_5, .inl (cI, 2001, .inl ((fun _ => 0)))), (d3z_6, .inl (cI, 2001, .inl ((fun _ => 0)))), (d4z_7, .inl (cI, 2001, .inl ((fun _ => 0)))), (d5z_8, .inl (cI, 2001, .inl ((fun _ => 0)))), (d6z_9, .inl (cI, 62031, .inl ((fun _ => 0)))), (d7z_10, .inl (cZ, 2001, .inl ((fun _ => 0)))), (d8z_11, .inl (cI, 2001, .inl ((fun _ => 0)))), (d13z_12, .inl (cZ, 31, .inl ((fun _ => 0)))), (d14z_13, .inl (cI, 31, .inl ((fun _ => 0)))), (d15z_14, .inl (cI, 31, .inl ((fun _ => 0)))), (d16z_15, .inl (cI, 31, .inl ((fun _ => 0)))), (d17z_16, .inl (cI, 31, .inl ((fun _ => 0)))), (d18z_17, .inl (cI, 961, .inl ((fun _ => 0)))), (d19z_18, .inl (cI, 31, .inl ((fun _ => 0)))), (d20z_19, .inl (cI, 15872, .inl ((fun _ => 0)))), (d21z_20, .inl (cI, 961, .inl ((fun _ => 0)))), (d22z_21, .inl (cI, 961, .inl ((fun _ => 0)))), (d23z_22, .inl (cI, 961, .inl ((fun _ => 0)))), (d24z_23, .inl (cZ, 31, .inl ((fun _ => 0)))), (d25z_24, .inl (cI, 961, .inl ((fun _ => 0)))), (d26z_25, .inl (cI, 512, .inl ((fun _ => 0)))), (d27z_26, .inl (cI, 512, .inl ((fun _ => 0)))), (d28z_27, .inl (cI, 512, .inl ((fun _ => 0)))), (d29z_28, .inl (cI, 512, .inl ((fun _ => 0)))), (d30z_29, .inl (cI, 512, .inl ((fun _ => 0)))), (d31z_30, .inl (cI, 512, .inl ((fun _ => 0)))), (d32z_31, .inl (cI, 512, .inl ((fun _ => 0)))), (d33z_32, .inl (cI, 512, .inl ((fun _ => 0)))), (d34z_33, .inl (cI, 512, .inl ((fun _ => 0)))), (d35z_34, .inl (cI, 15872, .inl ((fun _ => 0)))), (d36z_35, .inl (cZ, 512, .inl ((fun _ => 0)))), (d39z_36, .inl (cI, 512, .inl ((fun _ => 0)))), (q_37, .inl (cL, 1, .inr (.inl ((fun _ => 0)))))] ++ P) := hD
  refine lv_astore_n (lv' := [(3, .ref q_37), (2, .ref q_3), (1, .ref q_1), (0, .ref b)]) hx hb dL_law_29 rfl hl (by decide) rfl (fun ls hl => ?_)
  refine lv_iconst (v := 1) hx hb dL_law_30 (by decide) ?_
  refine lv_istore (lv' := [(4, .int 1), (3, .ref q_37), (2, .ref q_3), (1, .ref q_1), (0, .ref b)]) hx hb dL_law_31 hl (by decide) rfl (fun ls hl => ?_)
  refine W.widen (k := 300) (n := 200000) (Nat.le_of_ble_eq_true rfl) (Nat.le_of_ble_eq_true rfl) ?_
  have hl := lv_sub hl (l' := [(4, .int 1), (3, .ref q_37), (2, .ref q_3), (1, .ref q_1), (0, .ref b)]) [0, 1, 2, 3, 4] rfl
  have hLW := init_LW (bb := fun j => if j = 1 then b1 else if j = 2 then b2 else if j = 3 then b3 else if j = 4 then b4 else if j = 5 then b5 else b6) (d := (fun j => if j = 2 then d2z_5 else if j = 3 then d3z_6 else if j = 4 then d4z_7 else if j = 5 then d5z_8 else if j = 6 then d6z_9 else if j = 7 then d7z_10 else if j = 8 then d8z_11 else if j = 13 then d13z_12 else if j = 14 then d14z_13 else if j = 15 then d15z_14 else if j = 16 then d16z_15 else if j = 17 then d17z_16 else if j = 18 then d18z_17 else if j = 19 then d19z_18 else if j = 20 then d20z_19 else if j = 21 then d21z_20 else if j = 22 then d22z_21 else if j = 23 then d23z_22 else if j = 24 then d24z_23 else if j = 25 then d25z_24 else if j = 26 then d26z_25 else if j = 27 then d27z_26 else if j = 28 then d28z_27 else if j = 29 then d29z_28 else if j = 30 then d30z_29 else if j = 31 then d31z_30 else if j = 32 then d32z_31 else if j = 33 then d33z_32 else if j = 34 then d34z_33 else if j = 35 then d35z_34 else if j = 36 then d36z_35 else if j = 39 then d39z_36 else 0)) hn3 hn hNd hfs hP hD hS
  have hC : LC p l s m c b (dC, dI) cI cZ cN cO cL := ⟨⟨hx, hb, hown, hg, hK⟩, hml, hst, hTh, hBo, hBa, hNc, ⟨sa39, hR39⟩, ⟨sa46, hR46⟩, ⟨sa53, hR53⟩, ⟨sa58, hR58⟩, ⟨sa64, hR64⟩⟩
  have hl : lv_has ls 7 [(4, .int (nI (1 + 5 * 0))), (3, .ref q_37), (2, .ref q_3), (1, .ref q_1), (0, .ref b)] := by rw [show nI (1 + 5 * 0) = (1 : Int32) from by decide +kernel]; exact hl
  refine law_loop hC hX hbl hn hn3 hL (fun H locs cells slots h1 h2 hS ls => ?_) 600 0 (by omega) (by omega) mZ 0 _ _ _ hLW mZ_inv mZ_idl (by simp [mZ]) ls hl
  refine lv_iconst (v := 1) hx hb dL_law_611 (by decide) ?_
  refine va_forget (fun q hq => hS.2.2 q hq) ?_
  refine W.widen (k := 601024) (n := 7293000) h1 h2 ?_
  exact lw_ret hx hb hr hlocks dL_law_612
-- ===== YOUR PART ENDS =====
set_option maxHeartbeats 4000000 in
theorem lw_walk (l : Launch) (hst : l.stackTraces = false) (b : Addr) (xs : List Int32) : MetFree l x (headSpec (Jvm.Cond.code x code maxLocals ret :: tables_1) room_1) (lw_P b xs) (fun _ _ _ _ _ => True) lw_Q := by
  refine MetFree.of_bodyS (code := code) (maxLocals := maxLocals) (ret := ret) (by decide) ?_ ?_
  · intro args s m h hn
    obtain ⟨meth, c, h1, h2, h3, h4, h5, h6, -, -⟩ := Cond.code_spec hn (atoms_spec (ws := Jvm.Cond.code x code maxLocals ret :: tables_1) h _ List.mem_cons_self)
    exact ⟨meth, c, h1, h2, h3, h4, h5, h6⟩
  · intro p e s m args below meth c s₁ B hml0 hP _
    obtain ⟨rfl, hx, hbd, hgv⟩ := hP
    obtain ⟨scr, harrAt, hlist, hof, hsmall⟩ := hx
    obtain ⟨hcb, hkn, -, -⟩ := State.arrayAt?_spec harrAt
    have hown : s.vm.findClass R_law = some m.cls := findClass_of_methodNamed B.named
    have hts0 : ∀ c ∈ (Jvm.Cond.code x code maxLocals ret :: tables_1), c.before #[Value.ref b] s = true := atoms_spec (ws := Jvm.Cond.code x code maxLocals ret :: tables_1) B.pre
    have hts : ∀ w ∈ lw_tbl, w.before #[Value.ref b] s = true := k2_hts_sels lw_privs (fun w hw => hts0 w (List.mem_cons_of_mem _ hw)) lw_privs_ok
    have hml : c.maxLocals = 7 := B.maxLocals_eq (hts0 _ List.mem_cons_self)
    have X₀ : Stand p l e room_1 s m #[Value.ref b] below meth c s₁ [] 0 0 := Stand.of_body B
    have hh0 : s₁.heap = s.heap := by rw [B.state]; rfl
    have hsz : scr.slots.size = xs.length := by rw [← Array.length_toList, hlist, List.length_map]
    have hval : ∀ j : Nat, j < xs.length → scr.slots[j]? = some (.int (xs.getD j 0)) := fun j hj => by
      rw [← Array.getElem?_toList, hlist]
      simp [hj]
    have hbl : b < s.heap.size := (Array.getElem?_eq_some_iff.mp hcb).1
    have hX : va_X b xs.length (fun j => xs.getD j 0) s s.heap := ⟨scr, hcb, hof, hkn, hsz, hval⟩
    have K : W p l e room_1 s m #[Value.ref b] below meth c s₁.heap [] 0 0 (lw_Z below #[Value.ref b] s) (entryFrame m ([Value.ref b] : List Value).toArray 7) := by
      rw [hh0]
      exact whole_start l hst hbd ⟨B.exec, B.bytes, B.returns, hml, hown, hts, hX, hbl, B.notSynchronized, hgv⟩
    obtain ⟨t, a1, o, b1, b2, b3⟩ := K s₁ rfl X₀
    exact ⟨t, o, a1, b1, b2, b3⟩
theorem lw_pre_spec {args : Array Value} {s : State} (h : (Jvm.Cond.and given_1 narrow_1).before args s = true) (hr : rest_1_c.before args s = true) : ∃ (b : Addr) (xs : List Int32), lw_P b xs args s := by
  have hs := flat_of_before _ h
  have hq := flat_of_before _ hr
  have hc : (Cond.count 1).before args s = true := hs _ (by decide +kernel)
  have harr : (Cond.arrayOf (.arg 0) .int).before args s = true := hs _ (by decide +kernel)
  have hle : (Cond.le (.length (.arg 0)) (.int 2561)).before args s = true := hs _ (by decide +kernel)
  have hlen : (Cond.isInt (.length (.arg 0))).before args s = true := hq _ (by decide +kernel)
  have hall : (Cond.all (.arg 0) (.isInt (.elem (.arg 0) (.index 0)))).before args s = true := hq _ (by decide +kernel)
  obtain ⟨b, xs, hb, hx⟩ := State.ints_of_pre rfl harr hlen hall
  have hsm : xs.length < 2 ^ 31 := hx.choose_spec.2.2.2
  have hev : (Term.length (.arg 0)).eval args s none [] s = some (.int xs.length.toInt32) := hx.length_eval hb
  have hv := Cond.le_ints hev (show (Term.int 2561).eval args s none [] s = some (.int 2561) from rfl)
  have hd : xs.length.toInt32 ≤ 2561 := by
    simpa [Cond.before, Cond.holds, hv] using hle
  have hN : xs.length ≤ 2561 := (Int32.ofNat_le_ofNat hsm (by decide)).mp (show Int32.ofNat xs.length ≤ Int32.ofNat 2561 from hd)
  exact ⟨b, xs, Cond.one_arg hc (show args[0]? = some (.ref b) from hb), hx, hN, h⟩
theorem lw_comes (l : Launch) (hst : l.stackTraces = false) : Comes l x (Jvm.Cond.code x code maxLocals ret :: tables_1) room_1 (fun tb e args s => Calls_1 tb e args s ∧ rest_1 tb e args s ∧ Pre_1 tb e args s)
    (fun _ _ args s o t => lw_Q args s o t) := by
  intro p e ha hc hk s m args below hf hfit hheap happ hpre
  obtain ⟨b, xs, hP⟩ := lw_pre_spec hpre.2.2 hpre.2.1
  obtain ⟨k, o, h1, h2, h3, hQ⟩ := lw_walk l hst b xs p e ha hc hk s m args below hf ((Spec.applies_iff_loose hf).mp happ).1 hP trivial
  exact ⟨k, o, h1, h2, h3, hQ⟩
theorem lw_frame {s t : State} {o : Outcome} {args : Array Value} (h : Framed s o t [] 601024 7293000) :
    Framed s o t (fieldLocs frame_1_writes args s ++ arrayLocs frame_1_arrays args s ++ staticLocs frame_1_statics s) 601024 7293000 := h
theorem lw_limb (L : Cond) (hL : ∀ (args : Array Value) (s t : State), L.after args s (.returned (some (.int 1))) t = true) :
    ArmFor flags0 classFile x code maxLocals ret World_1 tables_1 room_1 Calls_1 rest_1 Pre_1
      (fun tb e a s o t => postC L tb e a s o t ∧ Framed s o t (fieldLocs frame_1_writes a s ++ arrayLocs frame_1_arrays a s ++ staticLocs frame_1_statics s) 601024 7293000) := by
  intro l hfl _ _ p e ha hc hk s m args below hf hfit hheap happ hpre
  have hst : l.stackTraces = false := by unfold Launch.stackTraces; rw [hfl]; decide
  obtain ⟨k, o, h1, h2, h3, rfl, hF⟩ := lw_comes l hst p e ha hc hk s m args below hf hfit hheap happ hpre
  exact ⟨k, _, h1, h2, h3, hL args s _, lw_frame hF⟩
theorem i_vc : Claimed_1_1 ∧ Claimed_1_2 := ⟨lw_limb limb_1_1 (fun args s t => by simp [limb_1_1, Cond.after, Cond.holds, Cond.value]), lw_limb limb_1_2 (fun args s t => Cond.after_iff.mpr (by
  first | (rw [show limb_1_2 = Cond.eq .result (.int 1) from rfl, Cond.eq_ints (x := 1) (y := 1) rfl rfl]; simp; done) | (simp [limb_1_2, Cond.value, Term.eval]; done)))⟩
