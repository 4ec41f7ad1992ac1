set_option maxHeartbeats 4000000 in
set_option maxRecDepth 100000 in
/-- THE LAW, from its entry: at most one call on a fresh object -/
theorem whole_start {p : Program} {e : Env} {s : State} {m : MethodId} {below : List Frame} {meth : Method} {c : Code} (l : Launch) (hst : l.stackTraces = false) {b L : Nat} {xs : Nat → Int32} (hL : L ≤ 6) (C0 : lw_At p s m meth c b L xs) : W p l e room_1 s m #[Value.ref b] below meth c s.heap [] 0 0 (lw_Z below #[Value.ref b] s) (entryFrame m ([Value.ref b] : List Value).toArray 7) := by
  obtain ⟨hx, hb, hr, hml, hown, hts, hX, hbl, hlocks, hgv⟩ := id C0
  have hg : ∀ w ∈ gw, w.before _ s = true := fun w h => hts w (List.mem_filter.mp h).1
  have hA : ∀ q : Nat, s.heap.size ≤ q → (fun q : Nat => s.heap.size ≤ q) q := fun _ h => h
  have hbA : ¬ (fun q : Nat => s.heap.size ≤ q) b := Nat.not_le.mpr hbl
  have C9 := C0
  obtain ⟨c0, iS0, hKn0⟩ := u_known (C := RX0) (T := TX0) (N := 11) (n := 11) hg inX0 (hg _ kB_X0)
  obtain ⟨c1, iS1, hKn1⟩ := u_known (C := RX1) (T := TX1) (N := 12) (n := 12) hg inX1 (hg _ kB_X1)
  obtain ⟨c2, iS2, hKn2⟩ := u_known (C := RX2) (T := TX2) (N := 10) (n := 10) hg inX2 (hg _ kB_X2)
  obtain ⟨c3, iS3, hKn3⟩ := u_known (C := RX3) (T := TX3) (N := 9) (n := 9) hg inX3 (hg _ kB_X3)
  obtain ⟨c4, iS4, hKn4⟩ := u_known (C := RX4) (T := TX4) (N := 41) (n := 41) hg inX4 (hg _ kB_X4)
  obtain ⟨dC, dI, hKc⟩ : ∃ (dC : Nat → ClassId) (dI : Nat → Nat → Nat), ∀ (k : Nat) (q : vw_C), vwCl[k]? = some q → u_Kn s q.1 q.2.1 q.2.2 (dC k) (dI k) := by
    refine ⟨fun k => if k = 0 then c0 else if k = 1 then c1 else if k = 2 then c2 else if k = 3 then c3 else c4, fun k => if k = 0 then iS0 else if k = 1 then iS1 else if k = 2 then iS2 else if k = 3 then iS3 else iS4, ?_⟩
    intro k q hq
    match k, hq with
    | 0, hq => cases hq; exact hKn0
    | 1, hq => cases hq; exact hKn1
    | 2, hq => cases hq; exact hKn2
    | 3, hq => cases hq; exact hKn3
    | 4, hq => cases hq; exact hKn4
    | k + 5, hq => simp [vwCl] at hq
  obtain ⟨cI, hcI⟩ := gArr (ty := .int) (hts _ (List.mem_of_getElem? (i := 118) (by decide +kernel))) (fun C h => by cases h)
  obtain ⟨cZ, hcZ⟩ := gArr (ty := .boolean) (hts _ (List.mem_of_getElem? (i := 745) (by decide +kernel))) (fun C h => by cases h)
  obtain ⟨cL, hcL⟩ := gArr (ty := .long) (hts _ (List.mem_of_getElem? (i := 900) (by decide +kernel))) (fun C h => by cases h)
  have hAOX0 : va_AO RX0 s := va_AO.of (hts _ (List.mem_of_getElem? (i := 69) (by decide +kernel)))
  have hAOX1 : va_AO RX1 s := va_AO.of (hts _ (List.mem_of_getElem? (i := 163) (by decide +kernel)))
  obtain ⟨cN, hcN⟩ := gArrO (C := RX0) (hts _ (List.mem_of_getElem? (i := 69) (by decide +kernel)))
  obtain ⟨cO, hcO⟩ := gArrO (C := RX1) (hts _ (List.mem_of_getElem? (i := 163) (by decide +kernel)))
  have hK : va_K (dC, dI) vwCl (gTyL cI cZ cN cO cL) s := by
    refine ⟨hKc, fun k q h => ?_⟩
    match k, h with
    | 0, h => cases h; exact hcI
    | 1, h => cases h; exact hcZ
    | 2, h => cases h; exact hcN
    | 3, h => cases h; exact hcO
    | 4, h => cases h; exact hcL
    | k + 5, h => simp [gTyL] at h
  have hfl := flat_of_before _ hgv
  have hTh : gThr (fun q : Nat => s.heap.size ≤ q) s s.heap := ⟨vx_Zqof (hts _ (List.mem_of_getElem? (i := 360) (by decide +kernel))) (hts _ (List.mem_of_getElem? (i := 52) (by decide +kernel))) (hfl _ (by decide +kernel)) (fun a h1 h2 => absurd h1 (Nat.not_lt.mpr h2)), vx_Zqof (hts _ (List.mem_of_getElem? (i := 362) (by decide +kernel))) (hts _ (List.mem_of_getElem? (i := 52) (by decide +kernel))) (hfl _ (by decide +kernel)) (fun a h1 h2 => absurd h1 (Nat.not_lt.mpr h2))⟩
  have hBo : gThB "java/lang/IndexOutOfBoundsException" s := gThB.of (A := #[Value.ref b]) (by
    intro w hw
    simp only [thB, List.mem_cons, List.not_mem_nil, or_false] at hw
    rcases hw with rfl | rfl | rfl | rfl
    · exact (hts _ (List.mem_of_getElem? (i := 335) (by decide +kernel)))
    · exact (hts _ (List.mem_of_getElem? (i := 337) (by decide +kernel)))
    · exact (hts _ (List.mem_of_getElem? (i := 339) (by decide +kernel)))
    · exact (hts _ (List.mem_of_getElem? (i := 341) (by decide +kernel))))
  have hBa : gThB "java/lang/IllegalArgumentException" s := gThB.of (A := #[Value.ref b]) (by
    intro w hw
    simp only [thB, List.mem_cons, List.not_mem_nil, or_false] at hw
    rcases hw with rfl | rfl | rfl | rfl
    · exact (hts _ (List.mem_of_getElem? (i := 402) (by decide +kernel)))
    · exact (hts _ (List.mem_of_getElem? (i := 337) (by decide +kernel)))
    · exact (hts _ (List.mem_of_getElem? (i := 339) (by decide +kernel)))
    · exact (hts _ (List.mem_of_getElem? (i := 341) (by decide +kernel))))
  have hNc : va_Nc "java/lang/IllegalArgumentException" "java/lang/IndexOutOfBoundsException" s := va_Nc.of (hfl _ (by decide +kernel))
  have hcur : s.vm.findClass RX3 = some c3 := hKn3.2.1
  obtain ⟨sa39, hR39⟩ := gStr (k := 39) (tx := "there is no such node") hcur (hts _ (List.mem_of_getElem? (i := 373) (by decide +kernel)))
  obtain ⟨sa46, hR46⟩ := gStr (k := 46) (tx := "the kind of an update is 0 .. 3") hcur (hts _ (List.mem_of_getElem? (i := 409) (by decide +kernel)))
  obtain ⟨sa53, hR53⟩ := gStr (k := 53) (tx := "the kind of a query is 10 .. 15") hcur (hts _ (List.mem_of_getElem? (i := 513) (by decide +kernel)))
  obtain ⟨sa58, hR58⟩ := gStr (k := 58) (tx := "there is no such message") hcur (hts _ (List.mem_of_getElem? (i := 521) (by decide +kernel)))
  obtain ⟨sa64, hR64⟩ := gStr (k := 64) (tx := "calm takes 0 .. 2,000 messages") hcur (hts _ (List.mem_of_getElem? (i := 606) (by decide +kernel)))
  have hS : va_S (fun q : Nat => s.heap.size ≤ q) s.heap s.heap [] := va_S.rf
  have hP : va_P (dC, dI) vwCl [] s.heap := gP_nil
  have hD : va_D (fun q : Nat => s.heap.size ≤ q) [] := gD_nil
  have hl := lv_entry ([.ref b]) (n := 7) (Nat.le_of_ble_eq_true rfl)
  rw [lg_entry_eq]
  generalize (lg_sl ([.ref b]) ++ List.replicate (7 - (lg_sl ([.ref b])).length) Slot.unset).toArray = ls at hl ⊢
  have hl : lv_has ls 7 [(0, .ref b)] := hl
  refine va_new (ci := 3) (fs := [.null, .null, .null, .int 0, .int 0, .int 0, .int 0, .int 0, .int 0]) (C := RX3) (T := TX3) (N := 9) hx hb hg inX3 tyX3 tyX3_ok hown (hg _ kC_L_8) (hg _ kB_X3) (hg _ kN_X3) hK hP hD hS hA rfl (fun j hj => by have hj2 : j < 9 := hj; clear hj; revert j; decide) (Nat.le_of_ble_eq_true rfl) (Nat.le_of_ble_eq_true rfl) dL_law_0 (fun q_1 H hP hD hS => ?_)
  have hP : va_P (dC, dI) vwCl [(q_1, .inr (3, [.null, .null, .null, .int 0, .int 0, .int 0, .int 0, .int 0, .int 0]))] H := hP
  have hD : va_D (fun q : Nat => s.heap.size ≤ q) [(q_1, .inr (3, [.null, .null, .null, .int 0, .int 0, .int 0, .int 0, .int 0, .int 0]))] := hD
  refine lv_dup hx hb dL_law_3 rfl ?_
  refine lv_aload_n hx hb dL_law_4 rfl (lv_at hl 0 rfl) ?_
  refine lv_iconst (v := 0) hx hb dL_law_5 (by decide) ?_
  refine vp_callSi (W.runS (As := [.ref b, .int 0]) (rest := [.ref q_1, .ref q_1]) ⟨hx, hb, hml, hown, hg⟩ (c_L_cell l b L xs hL) (cwS 2 hg (gw_S kM_L_32 kT_L_cell kN_L kD_L_cell) rfl rfl rfl (by decide +kernel) ⟨Nat.le_of_ble_eq_true rfl, Nat.le_of_ble_eq_true rfl⟩) ⟨fun a U g mk q => by obtain ⟨q0, qX⟩ := q; exact ⟨q0, va_X.moved (u := U) (U := U.calling g mk a) (Vm.Alike.refl U.vm) qX⟩, fun U hU hW => ⟨rfl, by show va_X b L xs U U.heap; rw [hU]; exact va_X.moved hW.alike (hX.kept (hS.2.1 b hbl hbA))⟩⟩ rfl rfl hl.1 rfl (lv_room (Nat.le_of_ble_eq_true rfl)) dL_law_6 ⟨Nat.le_of_ble_eq_true rfl, Nat.le_of_ble_eq_true rfl⟩) (fun r_2 hr_2 => ?_)
  obtain ⟨n, hnn⟩ : ∃ z, z = gN r_2 := ⟨_, rfl⟩
  have hn : n ≤ 31 := by rw [hnn]; exact (gN_bd _).2
  have hn3 : 3 ≤ n := by rw [hnn]; exact (gN_bd _).1
  have hmul : (11 + 5 * n) * n ≤ 166 * 31 := Nat.mul_le_mul (by omega) hn
  have hFc := va_free (wc := [(q_1, .inr (3, [.null, .null, .null, .int 0, .int 0, .int 0, .int 0, .int 0, .int 0]))]) hD hS hA [0] rfl
  refine va_callv (va_runI (As := [.int r_2]) (rest := [.ref q_1]) ⟨hx, hb, hml, hown, hg⟩ (c_X3_init l dC dI cI cZ cN cO q_1 n r_2 H.size hnn hn) (cwI 1 hg (gw_in kD_X3_init) rfl rfl rfl (hg _ kN_X3) (hg _ kM_L_38) (hg _ kI_X3_init) rfl (by decide +kernel) ⟨Nat.le_of_ble_eq_true rfl, Nat.le_of_ble_eq_true rfl⟩) ⟨fun a U g mk q => by obtain ⟨q0, q1, qP, qK, qD, qa, qb⟩ := q; exact ⟨q0, q1, qP, va_K.moved (u := U) (U := U.calling g mk a) (Vm.Alike.refl U.vm) qK, qD, va_AO.moved (u := U) (U := U.calling g mk a) (Vm.Alike.refl U.vm) qa, va_AO.moved (u := U) (U := U.calling g mk a) (Vm.Alike.refl U.vm) qb⟩, fun U hU hW => ⟨rfl, by rw [hU], by rw [hU]; exact hP, va_K.moved hW.alike (hK.sub (tys' := gTy cI cZ cN cO) [0, 1, 2, 3] rfl), hD.weaken (fun _ _ _ _ => trivial), va_AO.moved hW.alike hAOX0, va_AO.moved hW.alike hAOX1⟩⟩ rfl rfl hl.1 rfl (lv_room (Nat.le_of_ble_eq_true rfl)) dL_law_9 ⟨(by show 0 + 1 + (9 + 6 * n) ≤ 600002; omega), (by show 0 + 9 + (n + (11 + 5 * n) * n + 10522 + 2000 * n) ≤ 7302198; omega)⟩) hS (fun q _ h => hFc q h) hFc (fun u t H1 locs ht hvm hw hB hz1 hk1 hS => ?_)
  obtain ⟨na, ro, b1, b2, b3, b4, b5, b6, oa, fn, fs, P, hNd, hfs, hP1, hK1, hD1⟩ := hB
  rw [ht] at hP1
  have hP := hP1
  have hD := hD1.weaken (fun k q _ h => hFc q.1 h)
  clear hP1 hD1 hK1 hFc hz1 hk1 ht
  generalize H1 = H at hP hS ⊢
  have hP : va_P (dC, dI) vwCl ([(q_1, .inr (3, [.ref na, .ref ro, .ref oa, .int 0, .int 0, .int 0, .int 0, .int 0, .int 0])), (na, .inl (cN, n, .inr (.inr (.inr (.inr fn))))), (ro, .inr (2, [.int (nI n), .ref b1, .ref b2, .ref b3, .ref b4, .ref b5, .ref b6, .int 0, .int 0, .int 0])), (b1, .inl (cI, 2000, .inl fs)), (b2, .inl (cI, 2000, .inl ((fun _ => 0)))), (b3, .inl (cI, 2000, .inl ((fun _ => 0)))), (b4, .inl (cI, 2000, .inl ((fun _ => 0)))), (b5, .inl (cI, 2000, .inl ((fun _ => 0)))), (b6, .inl (cI, 2000 * n, .inl ((fun _ => 0)))), (oa, .inl (cO, 512, .inr (.inr (.inr (.inr ((fun _ => none)))))))] ++ P) H := hP
  have hD : va_D (fun q : Nat => s.heap.size ≤ q) ([(q_1, .inr (3, [.ref na, .ref ro, .ref oa, .int 0, .int 0, .int 0, .int 0, .int 0, .int 0])), (na, .inl (cN, n, .inr (.inr (.inr (.inr fn))))), (ro, .inr (2, [.int (nI n), .ref b1, .ref b2, .ref b3, .ref b4, .ref b5, .ref b6, .int 0, .int 0, .int 0])), (b1, .inl (cI, 2000, .inl fs)), (b2, .inl (cI, 2000, .inl ((fun _ => 0)))), (b3, .inl (cI, 2000, .inl ((fun _ => 0)))), (b4, .inl (cI, 2000, .inl ((fun _ => 0)))), (b5, .inl (cI, 2000, .inl ((fun _ => 0)))), (b6, .inl (cI, 2000 * n, .inl ((fun _ => 0)))), (oa, .inl (cO, 512, .inr (.inr (.inr (.inr ((fun _ => none)))))))] ++ P) := hD
  refine W.widen (k := 200) (n := 80000) (by omega) (by omega) ?_
  refine lv_astore_n (lv' := [(1, .ref q_1), (0, .ref b)]) hx hb dL_law_12 rfl hl (by decide) rfl (fun ls hl => ?_)
  refine va_new (ci := 4) (fs := [.int 0, .int 0, .null, .null, .null, .null, .null, .null, .null, .int 0, .int 0, .int 0, .int 0, .null, .null, .null, .null, .null, .null, .null, .null, .null, .null, .null, .null, .null, .null, .null, .null, .null, .null, .null, .null, .null, .null, .null, .null, .int 0, .int 0, .null, .int 0]) (C := RX4) (T := TX4) (N := 41) hx hb hg inX4 tyX4 tyX4_ok hown (hg _ kC_L_41) (hg _ kB_X4) (hg _ kN_X4) hK hP hD hS hA rfl (fun j hj => by have hj2 : j < 41 := hj; clear hj; revert j; decide) (Nat.le_of_ble_eq_true rfl) (Nat.le_of_ble_eq_true rfl) dL_law_13 (fun q_3 H hP hD hS => ?_)
  have hP := hP.swap
  have hD := hD.swap
  have hP : va_P (dC, dI) vwCl ([(q_1, .inr (3, [.ref na, .ref ro, .ref oa, .int 0, .int 0, .int 0, .int 0, .int 0, .int 0])), (na, .inl (cN, n, .inr (.inr (.inr (.inr fn))))), (ro, .inr (2, [.int (nI n), .ref b1, .ref b2, .ref b3, .ref b4, .ref b5, .ref b6, .int 0, .int 0, .int 0])), (b1, .inl (cI, 2000, .inl fs)), (b2, .inl (cI, 2000, .inl ((fun _ => 0)))), (b3, .inl (cI, 2000, .inl ((fun _ => 0)))), (b4, .inl (cI, 2000, .inl ((fun _ => 0)))), (b5, .inl (cI, 2000, .inl ((fun _ => 0)))), (b6, .inl (cI, 2000 * n, .inl ((fun _ => 0)))), (oa, .inl (cO, 512, .inr (.inr (.inr (.inr ((fun _ => none))))))), (q_3, .inr (4, [.int 0, .int 0, .null, .null, .null, .null, .null, .null, .null, .int 0, .int 0, .int 0, .int 0, .null, .null, .null, .null, .null, .null, .null, .null, .null, .null, .null, .null, .null, .null, .null, .null, .null, .null, .null, .null, .null, .null, .null, .null, .int 0, .int 0, .null, .int 0]))] ++ P) H := hP
  have hD : va_D (fun q : Nat => s.heap.size ≤ q) ([(q_1, .inr (3, [.ref na, .ref ro, .ref oa, .int 0, .int 0, .int 0, .int 0, .int 0, .int 0])), (na, .inl (cN, n, .inr (.inr (.inr (.inr fn))))), (ro, .inr (2, [.int (nI n), .ref b1, .ref b2, .ref b3, .ref b4, .ref b5, .ref b6, .int 0, .int 0, .int 0])), (b1, .inl (cI, 2000, .inl fs)), (b2, .inl (cI, 2000, .inl ((fun _ => 0)))), (b3, .inl (cI, 2000, .inl ((fun _ => 0)))), (b4, .inl (cI, 2000, .inl ((fun _ => 0)))), (b5, .inl (cI, 2000, .inl ((fun _ => 0)))), (b6, .inl (cI, 2000 * n, .inl ((fun _ => 0)))), (oa, .inl (cO, 512, .inr (.inr (.inr (.inr ((fun _ => none))))))), (q_3, .inr (4, [.int 0, .int 0, .null, .null, .null, .null, .null, .null, .null, .int 0, .int 0, .int 0, .int 0, .null, .null, .null, .null, .null, .null, .null, .null, .null, .null, .null, .null, .null, .null, .null, .null, .null, .null, .null, .null, .null, .null, .null, .null, .int 0, .int 0, .null, .int 0]))] ++ P) := hD
  refine lv_dup hx hb dL_law_16 rfl ?_
  refine lv_aload_n hx hb dL_law_17 rfl (lv_at hl 1 rfl) ?_
  refine lv_iconst (v := 0) hx hb dL_law_18 (by decide) ?_
  refine vp_callSi (W.runS (As := [.ref b, .int 0]) (rest := [.ref q_3, .ref q_3]) ⟨hx, hb, hml, hown, hg⟩ (c_L_cell l b L xs hL) (cwS 2 hg (gw_S kM_L_32 kT_L_cell kN_L kD_L_cell) rfl rfl rfl (by decide +kernel) ⟨Nat.le_of_ble_eq_true rfl, Nat.le_of_ble_eq_true rfl⟩) ⟨fun a U g mk q => by obtain ⟨q0, qX⟩ := q; exact ⟨q0, va_X.moved (u := U) (U := U.calling g mk a) (Vm.Alike.refl U.vm) qX⟩, fun U hU hW => ⟨rfl, by show va_X b L xs U U.heap; rw [hU]; exact va_X.moved hW.alike (hX.kept (hS.2.1 b hbl hbA))⟩⟩ rfl rfl hl.1 rfl (lv_room (Nat.le_of_ble_eq_true rfl)) dL_law_19 ⟨Nat.le_of_ble_eq_true rfl, Nat.le_of_ble_eq_true rfl⟩) (fun r_4 hr_4 => ?_)
  have hPc := hP.sub (ws' := [(q_3, .inr (4, [.int 0, .int 0, .null, .null, .null, .null, .null, .null, .null, .int 0, .int 0, .int 0, .int 0, .null, .null, .null, .null, .null, .null, .null, .null, .null, .null, .null, .null, .null, .null, .null, .null, .null, .null, .null, .null, .null, .null, .null, .null, .int 0, .int 0, .null, .int 0]))]) [10] rfl
  have hDc := hD.sub (ws' := [(q_3, .inr (4, [.int 0, .int 0, .null, .null, .null, .null, .null, .null, .null, .int 0, .int 0, .int 0, .int 0, .null, .null, .null, .null, .null, .null, .null, .null, .null, .null, .null, .null, .null, .null, .null, .null, .null, .null, .null, .null, .null, .null, .null, .null, .int 0, .int 0, .null, .int 0]))]) [10] (by decide) rfl
  have hFc := va_free (wc := [(q_3, .inr (4, [.int 0, .int 0, .null, .null, .null, .null, .null, .null, .null, .int 0, .int 0, .int 0, .int 0, .null, .null, .null, .null, .null, .null, .null, .null, .null, .null, .null, .null, .null, .null, .null, .null, .null, .null, .null, .null, .null, .null, .null, .null, .int 0, .int 0, .null, .int 0]))]) hD hS hA [10] rfl
  refine va_callv (va_runI (As := [.int r_4]) (rest := [.ref q_3]) ⟨hx, hb, hml, hown, hg⟩ (c_X4_init l dC dI cI cZ cN cO q_3 n r_4 H.size (by rw [hnn, hr_2, hr_4])) (cwI 1 hg (gw_in kD_X4_init) rfl rfl rfl (hg _ kN_X4) (hg _ kM_L_43) (hg _ kI_X4_init) rfl (by decide +kernel) ⟨Nat.le_of_ble_eq_true rfl, Nat.le_of_ble_eq_true rfl⟩) ⟨fun a U g mk q => by obtain ⟨q0, q1, qP, qK, qD⟩ := q; exact ⟨q0, q1, qP, va_K.moved (u := U) (U := U.calling g mk a) (Vm.Alike.refl U.vm) qK, qD⟩, fun U hU hW => ⟨rfl, by rw [hU], by rw [hU]; exact hPc, va_K.moved hW.alike (hK.sub (tys' := gTy cI cZ cN cO) [0, 1, 2, 3] rfl), hDc.weaken (fun _ _ _ _ => trivial)⟩⟩ rfl rfl hl.1 rfl (lv_room (Nat.le_of_ble_eq_true rfl)) dL_law_22 ⟨Nat.le_of_ble_eq_true rfl, Nat.le_of_ble_eq_true rfl⟩) hS (fun q _ h => hFc q h) hFc (fun u t H1 locs ht hvm hw hB hz1 hk1 hS => ?_)
  obtain ⟨d2z_5, d3z_6, d4z_7, d5z_8, d6z_9, d7z_10, d8z_11, d13z_12, d14z_13, d15z_14, d16z_15, d17z_16, d18z_17, d19z_18, d20z_19, d21z_20, d22z_21, d23z_22, d24z_23, d25z_24, d26z_25, d27z_26, d28z_27, d29z_28, d30z_29, d31z_30, d32z_31, d33z_32, d34z_33, d35z_34, d36z_35, d39z_36, hP1, hK1, hD1⟩ := hB
  rw [ht] at hP1
  obtain ⟨hP, hD⟩ := va_joinQ (pl := P) (X := [(q_1, .inr (3, [.ref na, .ref ro, .ref oa, .int 0, .int 0, .int 0, .int 0, .int 0, .int 0])), (na, .inl (cN, n, .inr (.inr (.inr (.inr fn))))), (ro, .inr (2, [.int (nI n), .ref b1, .ref b2, .ref b3, .ref b4, .ref b5, .ref b6, .int 0, .int 0, .int 0])), (b1, .inl (cI, 2000, .inl fs)), (b2, .inl (cI, 2000, .inl ((fun _ => 0)))), (b3, .inl (cI, 2000, .inl ((fun _ => 0)))), (b4, .inl (cI, 2000, .inl ((fun _ => 0)))), (b5, .inl (cI, 2000, .inl ((fun _ => 0)))), (b6, .inl (cI, 2000 * n, .inl ((fun _ => 0)))), (oa, .inl (cO, 512, .inr (.inr (.inr (.inr ((fun _ => none))))))), (q_3, .inr (4, [.int 0, .int 0, .null, .null, .null, .null, .null, .null, .null, .int 0, .int 0, .int 0, .int 0, .null, .null, .null, .null, .null, .null, .null, .null, .null, .null, .null, .null, .null, .null, .null, .null, .null, .null, .null, .null, .null, .null, .null, .null, .int 0, .int 0, .null, .int 0]))]) (cx := [(q_3, .inr (4, [.int 0, .int 0, .null, .null, .null, .null, .null, .null, .null, .int 0, .int 0, .int 0, .int 0, .null, .null, .null, .null, .null, .null, .null, .null, .null, .null, .null, .null, .null, .null, .null, .null, .null, .null, .null, .null, .null, .null, .null, .null, .int 0, .int 0, .null, .int 0]))]) (wr := [(q_1, .inr (3, [.ref na, .ref ro, .ref oa, .int 0, .int 0, .int 0, .int 0, .int 0, .int 0])), (na, .inl (cN, n, .inr (.inr (.inr (.inr fn))))), (ro, .inr (2, [.int (nI n), .ref b1, .ref b2, .ref b3, .ref b4, .ref b5, .ref b6, .int 0, .int 0, .int 0])), (b1, .inl (cI, 2000, .inl fs)), (b2, .inl (cI, 2000, .inl ((fun _ => 0)))), (b3, .inl (cI, 2000, .inl ((fun _ => 0)))), (b4, .inl (cI, 2000, .inl ((fun _ => 0)))), (b5, .inl (cI, 2000, .inl ((fun _ => 0)))), (b6, .inl (cI, 2000 * n, .inl ((fun _ => 0)))), (oa, .inl (cO, 512, .inr (.inr (.inr (.inr ((fun _ => none)))))))]) (w1 := [(q_3, .inr (4, [.int (nI n), .int 0, .ref d2z_5, .ref d3z_6, .ref d4z_7, .ref d5z_8, .ref d6z_9, .ref d7z_10, .ref d8z_11, .int 0, .int 0, .int 0, .int 0, .ref d13z_12, .ref d14z_13, .ref d15z_14, .ref d16z_15, .ref d17z_16, .ref d18z_17, .ref d19z_18, .ref d20z_19, .ref d21z_20, .ref d22z_21, .ref d23z_22, .ref d24z_23, .ref d25z_24, .ref d26z_25, .ref d27z_26, .ref d28z_27, .ref d29z_28, .ref d30z_29, .ref d31z_30, .ref d32z_31, .ref d33z_32, .ref d34z_33, .ref d35z_34, .ref d36z_35, .int 0, .int 0, .ref d39z_36, .int 0])), (d2z_5, .inl (cI, 2001, .inl ((fun _ => 0)))), (d3z_6, .inl (cI, 2001, .inl ((fun _ => 0)))), (d4z_7, .inl (cI, 2001, .inl ((fun _ => 0)))), (d5z_8, .inl (cI, 2001, .inl ((fun _ => 0)))), (d6z_9, .inl (cI, 62031, .inl ((fun _ => 0)))), (d7z_10, .inl (cZ, 2001, .inl ((fun _ => 0)))), (d8z_11, .inl (cI, 2001, .inl ((fun _ => 0)))), (d13z_12, .inl (cZ, 31, .inl ((fun _ => 0)))), (d14z_13, .inl (cI, 31, .inl ((fun _ => 0)))), (d15z_14, .inl (cI, 31, .inl ((fun _ => 0)))), (d16z_15, .inl (cI, 31, .inl ((fun _ => 0)))), (d17z_16, .inl (cI, 31, .inl ((fun _ => 0)))), (d18z_17, .inl (cI, 961, .inl ((fun _ => 0)))), (d19z_18, .inl (cI, 31, .inl ((fun _ => 0)))), (d20z_19, .inl (cI, 15872, .inl ((fun _ => 0)))), (d21z_20, .inl (cI, 961, .inl ((fun _ => 0)))), (d22z_21, .inl (cI, 961, .inl ((fun _ => 0)))), (d23z_22, .inl (cI, 961, .inl ((fun _ => 0)))), (d24z_23, .inl (cZ, 31, .inl ((fun _ => 0)))), (d25z_24, .inl (cI, 961, .inl ((fun _ => 0)))), (d26z_25, .inl (cI, 512, .inl ((fun _ => 0)))), (d27z_26, .inl (cI, 512, .inl ((fun _ => 0)))), (d28z_27, .inl (cI, 512, .inl ((fun _ => 0)))), (d29z_28, .inl (cI, 512, .inl ((fun _ => 0)))), (d30z_29, .inl (cI, 512, .inl ((fun _ => 0)))), (d31z_30, .inl (cI, 512, .inl ((fun _ => 0)))), (d32z_31, .inl (cI, 512, .inl ((fun _ => 0)))), (d33z_32, .inl (cI, 512, .inl ((fun _ => 0)))), (d34z_33, .inl (cI, 512, .inl ((fun _ => 0)))), (d35z_34, .inl (cI, 15872, .inl ((fun _ => 0)))), (d36z_35, .inl (cZ, 512, .inl ((fun _ => 0)))), (d39z_36, .inl (cI, 512, .inl ((fun _ => 0))))]) hP hD [10] [0, 1, 2, 3, 4, 5, 6, 7, 8, 9] rfl rfl (by decide) (by decide) hk1 hFc hP1 hD1
  clear hPc hDc hFc hP1 hK1 hD1 hz1 hk1 ht
  generalize H1 = H at hP hS ⊢
  have hP : va_P (dC, dI) vwCl ([(q_1, .inr (3, [.ref na, .ref ro, .ref oa, .int 0, .int 0, .int 0, .int 0, .int 0, .int 0])), (na, .inl (cN, n, .inr (.inr (.inr (.inr fn))))), (ro, .inr (2, [.int (nI n), .ref b1, .ref b2, .ref b3, .ref b4, .ref b5, .ref b6, .int 0, .int 0, .int 0])), (b1, .inl (cI, 2000, .inl fs)), (b2, .inl (cI, 2000, .inl ((fun _ => 0)))), (b3, .inl (cI, 2000, .inl ((fun _ => 0)))), (b4, .inl (cI, 2000, .inl ((fun _ => 0)))), (b5, .inl (cI, 2000, .inl ((fun _ => 0)))), (b6, .inl (cI, 2000 * n, .inl ((fun _ => 0)))), (oa, .inl (cO, 512, .inr (.inr (.inr (.inr ((fun _ => none))))))), (q_3, .inr (4, [.int (nI n), .int 0, .ref d2z_5, .ref d3z_6, .ref d4z_7, .ref d5z_8, .ref d6z_9, .ref d7z_10, .ref d8z_11, .int 0, .int 0, .int 0, .int 0, .ref d13z_12, .ref d14z_13, .ref d15z_14, .ref d16z_15, .ref d17z_16, .ref d18z_17, .ref d19z_18, .ref d20z_19, .ref d21z_20, .ref d22z_21, .ref d23z_22, .ref d24z_23, .ref d25z_24, .ref d26z_25, .ref d27z_26, .ref d28z_27, .ref d29z_28, .ref d30z_29, .ref d31z_30, .ref d32z_31, .ref d33z_32, .ref d34z_33, .ref d35z_34, .ref d36z_35, .int 0, .int 0, .ref d39z_36, .int 0])), (d2z_5, .inl (cI, 2001, .inl ((fun _ => 0)))), (d3z_6, .inl (cI, 2001, .inl ((fun _ => 0)))), (d4z_7, .inl (cI, 2001, .inl ((fun _ => 0)))), (d5z_8, .inl (cI, 2001, .inl ((fun _ => 0)))), (d6z_9, .inl (cI, 62031, .inl ((fun _ => 0)))), (d7z_10, .inl (cZ, 2001, .inl ((fun _ => 0)))), (d8z_11, .inl (cI, 2001, .inl ((fun _ => 0)))), (d13z_12, .inl (cZ, 31, .inl ((fun _ => 0)))), (d14z_13, .inl (cI, 31, .inl ((fun _ => 0)))), (d15z_14, .inl (cI, 31, .inl ((fun _ => 0)))), (d16z_15, .inl (cI, 31, .inl ((fun _ => 0)))), (d17z_16, .inl (cI, 31, .inl ((fun _ => 0)))), (d18z_17, .inl (cI, 961, .inl ((fun _ => 0)))), (d19z_18, .inl (cI, 31, .inl ((fun _ => 0)))), (d20z_19, .inl (cI, 15872, .inl ((fun _ => 0)))), (d21z_20, .inl (cI, 961, .inl ((fun _ => 0)))), (d22z_21, .inl (cI, 961, .inl ((fun _ => 0)))), (d23z_22, .inl (cI, 961, .inl ((fun _ => 0)))), (d24z_23, .inl (cZ, 31, .inl ((fun _ => 0)))), (d25z_24, .inl (cI, 961, .inl ((fun _ => 0)))), (d26z_25, .inl (cI, 512, .inl ((fun _ => 0)))), (d27z_26, .inl (cI, 512, .inl ((fun _ => 0)))), (d28z_27, .inl (cI, 512, .inl ((fun _ => 0)))), (d29z_28, .inl (cI, 512, .inl ((fun _ => 0)))), (d30z_29, .inl (cI, 512, .inl ((fun _ => 0)))), (d31z_30, .inl (cI, 512, .inl ((fun _ => 0)))), (d32z_31, .inl (cI, 512, .inl ((fun _ => 0)))), (d33z_32, .inl (cI, 512, .inl ((fun _ => 0)))), (d34z_33, .inl (cI, 512, .inl ((fun _ => 0)))), (d35z_34, .inl (cI, 15872, .inl ((fun _ => 0)))), (d36z_35, .inl (cZ, 512, .inl ((fun _ => 0)))), (d39z_36, .inl (cI, 512, .inl ((fun _ => 0))))] ++ P) H := hP
  have hD : va_D (fun q : Nat => s.heap.size ≤ q) ([(q_1, .inr (3, [.ref na, .ref ro, .ref oa, .int 0, .int 0, .int 0, .int 0, .int 0, .int 0])), (na, .inl (cN, n, .inr (.inr (.inr (.inr fn))))), (ro, .inr (2, [.int (nI n), .ref b1, .ref b2, .ref b3, .ref b4, .ref b5, .ref b6, .int 0, .int 0, .int 0])), (b1, .inl (cI, 2000, .inl fs)), (b2, .inl (cI, 2000, .inl ((fun _ => 0)))), (b3, .inl (cI, 2000, .inl ((fun _ => 0)))), (b4, .inl (cI, 2000, .inl ((fun _ => 0)))), (b5, .inl (cI, 2000, .inl ((fun _ => 0)))), (b6, .inl (cI, 2000 * n, .inl ((fun _ => 0)))), (oa, .inl (cO, 512, .inr (.inr (.inr (.inr ((fun _ => none))))))), (q_3, .inr (4, [.int (nI n), .int 0, .ref d2z_5, .ref d3z_6, .ref d4z_7, .ref d5z_8, .ref d6z_9, .ref d7z_10, .ref d8z_11, .int 0, .int 0, .int 0, .int 0, .ref d13z_12, .ref d14z_13, .ref d15z_14, .ref d16z_15, .ref d17z_16, .ref d18z_17, .ref d19z_18, .ref d20z_19, .ref d21z_20, .ref d22z_21, .ref d23z_22, .ref d24z_23, .ref d25z_24, .ref d26z_25, .ref d27z_26, .ref d28z_27, .ref d29z_28, .ref d30z_29, .ref d31z_30, .ref d32z_31, .ref d33z_32, .ref d34z_33, .ref d35z_34, .ref d36z_35, .int 0, .int 0, .ref d39z_36, .int 0])), (d2z_5, .inl (cI, 2001, .inl ((fun _ => 0)))), (d3z_6, .inl (cI, 2001, .inl ((fun _ => 0)))), (d4z_7, .inl (cI, 2001, .inl ((fun _ => 0)))), (d5z_8, .inl (cI, 2001, .inl ((fun _ => 0)))), (d6z_9, .inl (cI, 62031, .inl ((fun _ => 0)))), (d7z_10, .inl (cZ, 2001, .inl ((fun _ => 0)))), (d8z_11, .inl (cI, 2001, .inl ((fun _ => 0)))), (d13z_12, .inl (cZ, 31, .inl ((fun _ => 0)))), (d14z_13, .inl (cI, 31, .inl ((fun _ => 0)))), (d15z_14, .inl (cI, 31, .inl ((fun _ => 0)))), (d16z_15, .inl (cI, 31, .inl ((fun _ => 0)))), (d17z_16, .inl (cI, 31, .inl ((fun _ => 0)))), (d18z_17, .inl (cI, 961, .inl ((fun _ => 0)))), (d19z_18, .inl (cI, 31, .inl ((fun _ => 0)))), (d20z_19, .inl (cI, 15872, .inl ((fun _ => 0)))), (d21z_20, .inl (cI, 961, .inl ((fun _ => 0)))), (d22z_21, .inl (cI, 961, .inl ((fun _ => 0)))), (d23z_22, .inl (cI, 961, .inl ((fun _ => 0)))), (d24z_23, .inl (cZ, 31, .inl ((fun _ => 0)))), (d25z_24, .inl (cI, 961, .inl ((fun _ => 0)))), (d26z_25, .inl (cI, 512, .inl ((fun _ => 0)))), (d27z_26, .inl (cI, 512, .inl ((fun _ => 0)))), (d28z_27, .inl (cI, 512, .inl ((fun _ => 0)))), (d29z_28, .inl (cI, 512, .inl ((fun _ => 0)))), (d30z_29, .inl (cI, 512, .inl ((fun _ => 0)))), (d31z_30, .inl (cI, 512, .inl ((fun _ => 0)))), (d32z_31, .inl (cI, 512, .inl ((fun _ => 0)))), (d33z_32, .inl (cI, 512, .inl ((fun _ => 0)))), (d34z_33, .inl (cI, 512, .inl ((fun _ => 0)))), (d35z_34, .inl (cI, 15872, .inl ((fun _ => 0)))), (d36z_35, .inl (cZ, 512, .inl ((fun _ => 0)))), (d39z_36, .inl (cI, 512, .inl ((fun _ => 0))))] ++ P) := hD
  refine lv_astore_n (lv' := [(2, .ref q_3), (1, .ref q_1), (0, .ref b)]) hx hb dL_law_25 rfl hl (by decide) rfl (fun ls hl => ?_)
  refine lv_iconst (v := 1) hx hb dL_law_26 (by decide) ?_
  refine va_newa (atype := .long) (ty := .long) (N' := 1) (a0 := (1, .inr (.inl (fun _ => 0)))) hx hb (hg _ kZ_arrayClass_long) rfl hK hP hD hS hA (fun cA => rfl) (by decide) (by decide) (by show 1 * 8 ≤ 536870912; omega) (Nat.le_of_ble_eq_true rfl) (Nat.le_of_ble_eq_true rfl) dL_law_27 (fun q_37 cA H hK hP hD hS => ?_)
  have hcA : cA = cL := gK_arr hK 4 rfl
  rw [hcA] at hP hD
  have hK : va_K (dC, dI) vwCl (gTyL cI cZ cN cO cL) s := hK.sub [0, 1, 2, 3, 4] rfl
  have hP := hP.swap
  have hD := hD.swap
  have hP : va_P (dC, dI) vwCl ([(q_1, .inr (3, [.ref na, .ref ro, .ref oa, .int 0, .int 0, .int 0, .int 0, .int 0, .int 0])), (na, .inl (cN, n, .inr (.inr (.inr (.inr fn))))), (ro, .inr (2, [.int (nI n), .ref b1, .ref b2, .ref b3, .ref b4, .ref b5, .ref b6, .int 0, .int 0, .int 0])), (b1, .inl (cI, 2000, .inl fs)), (b2, .inl (cI, 2000, .inl ((fun _ => 0)))), (b3, .inl (cI, 2000, .inl ((fun _ => 0)))), (b4, .inl (cI, 2000, .inl ((fun _ => 0)))), (b5, .inl (cI, 2000, .inl ((fun _ => 0)))), (b6, .inl (cI, 2000 * n, .inl ((fun _ => 0)))), (oa, .inl (cO, 512, .inr (.inr (.inr (.inr ((fun _ => none))))))), (q_3, .inr (4, [.int (nI n), .int 0, .ref d2z_5, .ref d3z_6, .ref d4z_7, .ref d5z_8, .ref d6z_9, .ref d7z_10, .ref d8z_11, .int 0, .int 0, .int 0, .int 0, .ref d13z_12, .ref d14z_13, .ref d15z_14, .ref d16z_15, .ref d17z_16, .ref d18z_17, .ref d19z_18, .ref d20z_19, .ref d21z_20, .ref d22z_21, .ref d23z_22, .ref d24z_23, .ref d25z_24, .ref d26z_25, .ref d27z_26, .ref d28z_27, .ref d29z_28, .ref d30z_29, .ref d31z_30, .ref d32z_31, .ref d33z_32, .ref d34z_33, .ref d35z_34, .ref d36z_35, .int 0, .int 0, .ref d39z_36, .int 0])), (d2z_5, .inl (cI, 2001, .inl ((fun _ => 0)))), (d3z_6, .inl (cI, 2001, .inl ((fun _ => 0)))), (d4z_7, .inl (cI, 2001, .inl ((fun _ => 0)))), (d5z_8, .inl (cI, 2001, .inl ((fun _ => 0)))), (d6z_9, .inl (cI, 62031, .inl ((fun _ => 0)))), (d7z_10, .inl (cZ, 2001, .inl ((fun _ => 0)))), (d8z_11, .inl (cI, 2001, .inl ((fun _ => 0)))), (d13z_12, .inl (cZ, 31, .inl ((fun _ => 0)))), (d14z_13, .inl (cI, 31, .inl ((fun _ => 0)))), (d15z_14, .inl (cI, 31, .inl ((fun _ => 0)))), (d16z_15, .inl (cI, 31, .inl ((fun _ => 0)))), (d17z_16, .inl (cI, 31, .inl ((fun _ => 0)))), (d18z_17, .inl (cI, 961, .inl ((fun _ => 0)))), (d19z_18, .inl (cI, 31, .inl ((fun _ => 0)))), (d20z_19, .inl (cI, 15872, .inl ((fun _ => 0)))), (d21z_20, .inl (cI, 961, .inl ((fun _ => 0)))), (d22z_21, .inl (cI, 961, .inl ((fun _ => 0)))), (d23z_22, .inl (cI, 961, .inl ((fun _ => 0)))), (d24z_23, .inl (cZ, 31, .inl ((fun _ => 0)))), (d25z_24, .inl (cI, 961, .inl ((fun _ => 0)))), (d26z_25, .inl (cI, 512, .inl ((fun _ => 0)))), (d27z_26, .inl (cI, 512, .inl ((fun _ => 0)))), (d28z_27, .inl (cI, 512, .inl ((fun _ => 0)))), (d29z_28, .inl (cI, 512, .inl ((fun _ => 0)))), (d30z_29, .inl (cI, 512, .inl ((fun _ => 0)))), (d31z_30, .inl (cI, 512, .inl ((fun _ => 0)))), (d32z_31, .inl (cI, 512, .inl ((fun _ => 0)))), (d33z_32, .inl (cI, 512, .inl ((fun _ => 0)))), (d34z_33, .inl (cI, 512, .inl ((fun _ => 0)))), (d35z_34, .inl (cI, 15872, .inl ((fun _ => 0)))), (d36z_35, .inl (cZ, 512, .inl ((fun _ => 0)))), (d39z_36, .inl (cI, 512, .inl ((fun _ => 0)))), (q_37, .inl (cL, 1, .inr (.inl ((fun _ => 0)))))] ++ P) H := hP
  have hD : va_D (fun q : Nat => s.heap.size ≤ q) ([(q_1, .inr (3, [.ref na, .ref ro, .ref oa, .int 0, .int 0, .int 0, .int 0, .int 0, .int 0])), (na, .inl (cN, n, .inr (.inr (.inr (.inr fn))))), (ro, .inr (2, [.int (nI n), .ref b1, .ref b2, .ref b3, .ref b4, .ref b5, .ref b6, .int 0, .int 0, .int 0])), (b1, .inl (cI, 2000, .inl fs)), (b2, .inl (cI, 2000, .inl ((fun _ => 0)))), (b3, .inl (cI, 2000, .inl ((fun _ => 0)))), (b4, .inl (cI, 2000, .inl ((fun _ => 0)))), (b5, .inl (cI, 2000, .inl ((fun _ => 0)))), (b6, .inl (cI, 2000 * n, .inl ((fun _ => 0)))), (oa, .inl (cO, 512, .inr (.inr (.inr (.inr ((fun _ => none))))))), (q_3, .inr (4, [.int (nI n), .int 0, .ref d2z_5, .ref d3z_6, .ref d4z_7, .ref d5z_8, .ref d6z_9, .ref d7z_10, .ref d8z_11, .int 0, .int 0, .int 0, .int 0, .ref d13z_12, .ref d14z_13, .ref d15z_14, .ref d16z_15, .ref d17z_16, .ref d18z_17, .ref d19z_18, .ref d20z_19, .ref d21z_20, .ref d22z_21, .ref d23z_22, .ref d24z_23, .ref d25z_24, .ref d26z_25, .ref d27z_26, .ref d28z_27, .ref d29z_28, .ref d30z_29, .ref d31z_30, .ref d32z_31, .ref d33z_32, .ref d34z_33, .ref d35z_34, .ref d36z_35, .int 0, .int 0, .ref d39z_36, .int 0])), (d2z_5, .inl (cI, 2001, .inl ((fun _ => 0)))), (d3z_6, .inl (cI, 2001, .inl ((fun _ => 0)))), (d4z_7, .inl (cI, 2001, .inl ((fun _ => 0)))), (d5z_8, .inl (cI, 2001, .inl ((fun _ => 0)))), (d6z_9, .inl (cI, 62031, .inl ((fun _ => 0)))), (d7z_10, .inl (cZ, 2001, .inl ((fun _ => 0)))), (d8z_11, .inl (cI, 2001, .inl ((fun _ => 0)))), (d13z_12, .inl (cZ, 31, .inl ((fun _ => 0)))), (d14z_13, .inl (cI, 31, .inl ((fun _ => 0)))), (d15z_14, .inl (cI, 31, .inl ((fun _ => 0)))), (d16z_15, .inl (cI, 31, .inl ((fun _ => 0)))), (d17z_16, .inl (cI, 31, .inl ((fun _ => 0)))), (d18z_17, .inl (cI, 961, .inl ((fun _ => 0)))), (d19z_18, .inl (cI, 31, .inl ((fun _ => 0)))), (d20z_19, .inl (cI, 15872, .inl ((fun _ => 0)))), (d21z_20, .inl (cI, 961, .inl ((fun _ => 0)))), (d22z_21, .inl (cI, 961, .inl ((fun _ => 0)))), (d23z_22, .inl (cI, 961, .inl ((fun _ => 0)))), (d24z_23, .inl (cZ, 31, .inl ((fun _ => 0)))), (d25z_24, .inl (cI, 961, .inl ((fun _ => 0)))), (d26z_25, .inl (cI, 512, .inl ((fun _ => 0)))), (d27z_26, .inl (cI, 512, .inl ((fun _ => 0)))), (d28z_27, .inl (cI, 512, .inl ((fun _ => 0)))), (d29z_28, .inl (cI, 512, .inl ((fun _ => 0)))), (d30z_29, .inl (cI, 512, .inl ((fun _ => 0)))), (d31z_30, .inl (cI, 512, .inl ((fun _ => 0)))), (d32z_31, .inl (cI, 512, .inl ((fun _ => 0)))), (d33z_32, .inl (cI, 512, .inl ((fun _ => 0)))), (d34z_33, .inl (cI, 512, .inl ((fun _ => 0)))), (d35z_34, .inl (cI, 15872, .inl ((fun _ => 0)))), (d36z_35, .inl (cZ, 512, .inl ((fun _ => 0)))), (d39z_36, .inl (cI, 512, .inl ((fun _ => 0)))), (q_37, .inl (cL, 1, .inr (.inl ((fun _ => 0)))))] ++ P) := hD
  refine lv_astore_n (lv' := [(3, .ref q_37), (2, .ref q_3), (1, .ref q_1), (0, .ref b)]) hx hb dL_law_29 rfl hl (by decide) rfl (fun ls hl => ?_)
  refine lv_iconst (v := 1) hx hb dL_law_30 (by decide) ?_
  refine lv_istore (lv' := [(4, .int 1), (3, .ref q_37), (2, .ref q_3), (1, .ref q_1), (0, .ref b)]) hx hb dL_law_31 hl (by decide) rfl (fun ls hl => ?_)
  refine W.widen (k := 300) (n := 200000) (Nat.le_of_ble_eq_true rfl) (Nat.le_of_ble_eq_true rfl) ?_
  have hl := lv_sub hl (l' := [(4, .int 1), (3, .ref q_37), (2, .ref q_3), (1, .ref q_1), (0, .ref b)]) [0, 1, 2, 3, 4] rfl
  refine lv_iload hx hb dL_law_33 (lv_at hl 0 rfl) ?_
  refine lv_aload_n hx hb dL_law_35 rfl (lv_at hl 4 rfl) ?_
  refine va_slen hx hb hX hbl hbA hS dL_law_36 ?_
  refine lv_iconst (v := 5) hx hb dL_law_37 (by decide) ?_
  refine lv_isub hx hb dL_law_38 ?_
  by_cases hL6 : L = 6
  · subst hL6
    refine lv_icmp_gt (tgt := 759) hx hb dL_law_39 (by decide) (fun c_39 => absurd c_39 (by decide +kernel)) (fun c_39 => ?_)
    refine lv_aload_n hx hb dL_law_42 rfl (lv_at hl 4 rfl) ?_
    refine lv_iload hx hb dL_law_43 (lv_at hl 0 rfl) ?_
    refine va_sld hx hb hX hbl hbA hS (by unfold vp_in; decide +kernel) dL_law_45 ?_
    refine lv_bipush (v := 15) hx hb dL_law_46 (by decide) ?_
    refine lv_iand hx hb dL_law_48 ?_
    refine lv_topi (fun tsw etsw => ?_)
    clear etsw
    rcases gSw tsw 13 13 rfl (by decide) with hsw | ⟨j, hj, hjx⟩
    · refine lv_tableOut (tgt := 753) hx hb dL_law_49 hsw (by decide) ?_
      exact law_end C9 hS (Nat.le_of_ble_eq_true rfl) (Nat.le_of_ble_eq_true rfl) (lv_sub hl [0, 4] rfl)
    · rcases (show j = 0 ∨ j = 1 ∨ j = 2 ∨ j = 3 ∨ j = 4 ∨ j = 5 ∨ j = 6 ∨ j = 7 ∨ j = 8 ∨ j = 9 ∨ j = 10 ∨ j = 11 ∨ j = 12 ∨ j = 13 by omega) with hj0 | hj0 | hj0 | hj0 | hj0 | hj0 | hj0 | hj0 | hj0 | hj0 | hj0 | hj0 | hj0 | hj0
      · rw [hj0] at hjx
        subst hjx
        refine lv_tableIn (off := 71) (tgt := 120) hx hb dL_law_49 (by decide +kernel) (by decide +kernel) (by decide +kernel) (by decide) ?_
        by_cases hN : isN n (xs (2 : Int32).toNatClampNeg)
        · by_cases hbad : (xs (3 : Int32).toNatClampNeg) < 0 ∨ ¬ (xs (3 : Int32).toNatClampNeg) ≤ 3
          · exact lc_update_bad C9 hK q_1 q_37 na ro oa fn q_3 d2z_5 d3z_6 d4z_7 d5z_8 d6z_9 d7z_10 d8z_11 d13z_12 d14z_13 d15z_14 d16z_15 d17z_16 d18z_17 d19z_18 d20z_19 d21z_20 d22z_21 d23z_22 d24z_23 d25z_24 d26z_25 d27z_26 d28z_27 d29z_28 d30z_29 d31z_30 d32z_31 d33z_32 d34z_33 d35z_34 d36z_35 d39z_36 n (hP.sub [0, 1, 10] rfl) (hD.sub [0, 1, 10] (by decide) rfl) hS (lv_sub hl [0, 1, 2, 3, 4] rfl) _ _ _ _ rfl rfl rfl rfl sa46 hst hTh hBo hBa hNc hR46 hN hbad
          · have hok1 : ¬ (xs (3 : Int32).toNatClampNeg) < 0 := fun z => hbad (Or.inl z)
            have hok2 : (xs (3 : Int32).toNatClampNeg) ≤ 3 := by by_cases z : (xs (3 : Int32).toNatClampNeg) ≤ 3; exact z; exact absurd (Or.inr z) hbad
            obtain ⟨j, hj, hyj⟩ := isN_of (by omega) hN
            obtain ⟨nd, a1, a2, a3, a4, a5, hnd, hP, hD⟩ := gCutNode hP hD hNd hj
            have hndy : fn (xs (2 : Int32).toNatClampNeg).toNatClampNeg = some nd := by rw [hyj, nI_clamp (by omega)]; exact hnd
            exact lc_update_ok C9 hK q_1 q_37 na ro oa fn nd a1 a2 a3 a4 a5 b1 b2 b3 b4 b5 b6 (nI j) fs q_3 d2z_5 d3z_6 d4z_7 d5z_8 d6z_9 d7z_10 d8z_11 d13z_12 d14z_13 d15z_14 d16z_15 d17z_16 d18z_17 d19z_18 d20z_19 d21z_20 d22z_21 d23z_22 d24z_23 d25z_24 d26z_25 d27z_26 d28z_27 d29z_28 d30z_29 d31z_30 d32z_31 d33z_32 d34z_33 d35z_34 d36z_35 d39z_36 n (hP.sub [0, 1, 44, 46, 48, 2, 3, 4, 5, 6, 7, 9, 43, 10, 18, 19, 31, 32, 33, 34, 35, 36, 38, 21, 29, 30, 37, 26, 20, 22, 11, 12, 13, 14, 17, 16] rfl) (hD.sub [0, 1, 44, 46, 48, 2, 3, 4, 5, 6, 7, 9, 43, 10, 18, 19, 31, 32, 33, 34, 35, 36, 38, 21, 29, 30, 37, 26, 20, 22, 11, 12, 13, 14, 17, 16] (by decide) rfl) hS (lv_sub hl [0, 1, 2, 3, 4] rfl) _ _ _ _ rfl rfl rfl rfl j hn hn3 hj hyj hfs hnd hok1 hok2
        · exact lc_update_no C9 hK q_1 q_37 na ro oa fn q_3 d2z_5 d3z_6 d4z_7 d5z_8 d6z_9 d7z_10 d8z_11 d13z_12 d14z_13 d15z_14 d16z_15 d17z_16 d18z_17 d19z_18 d20z_19 d21z_20 d22z_21 d23z_22 d24z_23 d25z_24 d26z_25 d27z_26 d28z_27 d29z_28 d30z_29 d31z_30 d32z_31 d33z_32 d34z_33 d35z_34 d36z_35 d39z_36 n (hP.sub [0, 1, 10] rfl) (hD.sub [0, 1, 10] (by decide) rfl) hS (lv_sub hl [0, 1, 2, 3, 4] rfl) _ _ _ _ rfl rfl rfl rfl sa39 hst hTh hBo hBa hNc hR39 hN
      · rw [hj0] at hjx
        subst hjx
        refine lv_tableIn (off := 163) (tgt := 212) hx hb dL_law_49 (by decide +kernel) (by decide +kernel) (by decide +kernel) (by decide) ?_
        by_cases hN : isN n (xs (2 : Int32).toNatClampNeg)
        · by_cases hbad : (xs (3 : Int32).toNatClampNeg) < 10 ∨ ¬ (xs (3 : Int32).toNatClampNeg) ≤ 15
          · exact lc_query_bad C9 hK q_1 q_37 na ro oa fn q_3 d2z_5 d3z_6 d4z_7 d5z_8 d6z_9 d7z_10 d8z_11 d13z_12 d14z_13 d15z_14 d16z_15 d17z_16 d18z_17 d19z_18 d20z_19 d21z_20 d22z_21 d23z_22 d24z_23 d25z_24 d26z_25 d27z_26 d28z_27 d29z_28 d30z_29 d31z_30 d32z_31 d33z_32 d34z_33 d35z_34 d36z_35 d39z_36 n (hP.sub [0, 1, 10] rfl) (hD.sub [0, 1, 10] (by decide) rfl) hS (lv_sub hl [0, 1, 2, 3, 4] rfl) _ _ _ _ rfl rfl rfl rfl sa53 hst hTh hBo hBa hNc hR53 hN hbad
          · have hok1 : ¬ (xs (3 : Int32).toNatClampNeg) < 10 := fun z => hbad (Or.inl z)
            have hok2 : (xs (3 : Int32).toNatClampNeg) ≤ 15 := by by_cases z : (xs (3 : Int32).toNatClampNeg) ≤ 15; exact z; exact absurd (Or.inr z) hbad
            obtain ⟨j, hj, hyj⟩ := isN_of (by omega) hN
            obtain ⟨nd, a1, a2, a3, a4, a5, hnd, hP, hD⟩ := gCutNode hP hD hNd hj
            have hndy : fn (xs (2 : Int32).toNatClampNeg).toNatClampNeg = some nd := by rw [hyj, nI_clamp (by omega)]; exact hnd
            exact lc_query_ok C9 hK q_1 q_37 na ro oa fn nd a1 a2 a3 a4 a5 b1 b2 b3 b4 b5 b6 (nI j) fs q_3 d2z_5 d3z_6 d4z_7 d5z_8 d6z_9 d7z_10 d8z_11 d13z_12 d14z_13 d15z_14 d16z_15 d17z_16 d18z_17 d19z_18 d20z_19 d21z_20 d22z_21 d23z_22 d24z_23 d25z_24 d26z_25 d27z_26 d28z_27 d29z_28 d30z_29 d31z_30 d32z_31 d33z_32 d34z_33 d35z_34 d36z_35 d39z_36 n (hP.sub [0, 1, 44, 46, 48, 2, 3, 4, 5, 6, 7, 9, 43, 10, 18, 19, 31, 32, 33, 34, 35, 36, 38, 21, 29, 30, 37, 26, 20, 22, 11, 12, 13, 14, 17, 16] rfl) (hD.sub [0, 1, 44, 46, 48, 2, 3, 4, 5, 6, 7, 9, 43, 10, 18, 19, 31, 32, 33, 34, 35, 36, 38, 21, 29, 30, 37, 26, 20, 22, 11, 12, 13, 14, 17, 16] (by decide) rfl) hS (lv_sub hl [0, 1, 2, 3, 4] rfl) _ _ _ _ rfl rfl rfl rfl j hn hn3 hj hyj hfs hnd hok1 hok2
        · exact lc_query_no C9 hK q_1 q_37 na ro oa fn q_3 d2z_5 d3z_6 d4z_7 d5z_8 d6z_9 d7z_10 d8z_11 d13z_12 d14z_13 d15z_14 d16z_15 d17z_16 d18z_17 d19z_18 d20z_19 d21z_20 d22z_21 d23z_22 d24z_23 d25z_24 d26z_25 d27z_26 d28z_27 d29z_28 d30z_29 d31z_30 d32z_31 d33z_32 d34z_33 d35z_34 d36z_35 d39z_36 n (hP.sub [0, 1, 10] rfl) (hD.sub [0, 1, 10] (by decide) rfl) hS (lv_sub hl [0, 1, 2, 3, 4] rfl) _ _ _ _ rfl rfl rfl rfl sa39 hst hTh hBo hBa hNc hR39 hN
      · rw [hj0] at hjx
        subst hjx
        refine lv_tableIn (off := 243) (tgt := 292) hx hb dL_law_49 (by decide +kernel) (by decide +kernel) (by decide +kernel) (by decide) ?_
        exact lc_deliver C9 hK q_1 q_37 na ro oa b1 b2 b3 b4 b5 b6 q_3 d2z_5 d3z_6 d4z_7 d5z_8 d6z_9 d7z_10 d8z_11 d13z_12 d14z_13 d15z_14 d16z_15 d17z_16 d18z_17 d19z_18 d20z_19 d21z_20 d22z_21 d23z_22 d24z_23 d25z_24 d26z_25 d27z_26 d28z_27 d29z_28 d30z_29 d31z_30 d32z_31 d33z_32 d34z_33 d35z_34 d36z_35 d39z_36 n (hP.sub [0, 2, 10] rfl) (hD.sub [0, 2, 10] (by decide) rfl) hS (lv_sub hl [0, 1, 2, 3, 4] rfl) _ _ _ _ rfl rfl rfl rfl sa58 hst hTh hBo hBa hNc hR58
      · rw [hj0] at hjx
        subst hjx
        refine lv_tableIn (off := 299) (tgt := 348) hx hb dL_law_49 (by decide +kernel) (by decide +kernel) (by decide +kernel) (by decide) ?_
        by_cases hbad : (xs (2 : Int32).toNatClampNeg) < 0 ∨ ¬ (xs (2 : Int32).toNatClampNeg) ≤ 2000
        · exact lc_calm_bad C9 hK q_1 q_37 na ro oa b1 b2 b3 b4 b5 b6 q_3 d2z_5 d3z_6 d4z_7 d5z_8 d6z_9 d7z_10 d8z_11 d13z_12 d14z_13 d15z_14 d16z_15 d17z_16 d18z_17 d19z_18 d20z_19 d21z_20 d22z_21 d23z_22 d24z_23 d25z_24 d26z_25 d27z_26 d28z_27 d29z_28 d30z_29 d31z_30 d32z_31 d33z_32 d34z_33 d35z_34 d36z_35 d39z_36 n (hP.sub [0, 10] rfl) (hD.sub [0, 10] (by decide) rfl) hS (lv_sub hl [0, 1, 2, 3, 4] rfl) _ _ _ _ rfl rfl rfl rfl sa64 hst hTh hBo hBa hNc hR64 hbad
        · have hok1 : ¬ (xs (2 : Int32).toNatClampNeg) < 0 := fun z => hbad (Or.inl z)
          have hok2 : (xs (2 : Int32).toNatClampNeg) ≤ 2000 := by by_cases z : (xs (2 : Int32).toNatClampNeg) ≤ 2000; exact z; exact absurd (Or.inr z) hbad
          exact lc_calm_ok C9 hK q_1 q_37 na ro oa b1 b2 b3 b4 b5 b6 q_3 d2z_5 d3z_6 d4z_7 d5z_8 d6z_9 d7z_10 d8z_11 d13z_12 d14z_13 d15z_14 d16z_15 d17z_16 d18z_17 d19z_18 d20z_19 d21z_20 d22z_21 d23z_22 d24z_23 d25z_24 d26z_25 d27z_26 d28z_27 d29z_28 d30z_29 d31z_30 d32z_31 d33z_32 d34z_33 d35z_34 d36z_35 d39z_36 n (hP.sub [0, 2, 43, 10] rfl) (hD.sub [0, 2, 43, 10] (by decide) rfl) hS (lv_sub hl [0, 1, 2, 3, 4] rfl) _ _ _ _ rfl rfl rfl rfl hok1 hok2
      · rw [hj0] at hjx
        subst hjx
        refine lv_tableIn (off := 355) (tgt := 404) hx hb dL_law_49 (by decide +kernel) (by decide +kernel) (by decide +kernel) (by decide) ?_
        by_cases hN : isN n (xs (2 : Int32).toNatClampNeg)
        · obtain ⟨j, hj, hyj⟩ := isN_of (by omega) hN
          obtain ⟨nd, a1, a2, a3, a4, a5, hnd, hP, hD⟩ := gCutNode hP hD hNd hj
          have hndy : fn (xs (2 : Int32).toNatClampNeg).toNatClampNeg = some nd := by rw [hyj, nI_clamp (by omega)]; exact hnd
          exact lc_crash_ok C9 hK q_1 q_37 na ro oa fn q_3 d2z_5 d3z_6 d4z_7 d5z_8 d6z_9 d7z_10 d8z_11 d13z_12 d14z_13 d15z_14 d16z_15 d17z_16 d18z_17 d19z_18 d20z_19 d21z_20 d22z_21 d23z_22 d24z_23 d25z_24 d26z_25 d27z_26 d28z_27 d29z_28 d30z_29 d31z_30 d32z_31 d33z_32 d34z_33 d35z_34 d36z_35 d39z_36 n nd a1 a2 a3 a4 a5 (nI j) (hP.sub [0, 1, 44, 43, 10, 18] rfl) (hD.sub [0, 1, 44, 43, 10, 18] (by decide) rfl) hS (lv_sub hl [0, 1, 2, 3, 4] rfl) _ _ _ _ rfl rfl rfl rfl hn hN hndy
        · exact lc_crash_no C9 hK q_1 q_37 na ro oa fn q_3 d2z_5 d3z_6 d4z_7 d5z_8 d6z_9 d7z_10 d8z_11 d13z_12 d14z_13 d15z_14 d16z_15 d17z_16 d18z_17 d19z_18 d20z_19 d21z_20 d22z_21 d23z_22 d24z_23 d25z_24 d26z_25 d27z_26 d28z_27 d29z_28 d30z_29 d31z_30 d32z_31 d33z_32 d34z_33 d35z_34 d36z_35 d39z_36 n (hP.sub [0, 1, 10] rfl) (hD.sub [0, 1, 10] (by decide) rfl) hS (lv_sub hl [0, 1, 2, 3, 4] rfl) _ _ _ _ rfl rfl rfl rfl sa39 hst hTh hBo hBa hNc hR39 hN
      · rw [hj0] at hjx
        subst hjx
        refine lv_tableIn (off := 418) (tgt := 467) hx hb dL_law_49 (by decide +kernel) (by decide +kernel) (by decide +kernel) (by decide) ?_
        exact lc_told C9 hK q_1 q_37 na ro oa q_3 d2z_5 d3z_6 d4z_7 d5z_8 d6z_9 d7z_10 d8z_11 d13z_12 d14z_13 d15z_14 d16z_15 d17z_16 d18z_17 d19z_18 d20z_19 d21z_20 d22z_21 d23z_22 d24z_23 d25z_24 d26z_25 d27z_26 d28z_27 d29z_28 d30z_29 d31z_30 d32z_31 d33z_32 d34z_33 d35z_34 d36z_35 d39z_36 n (hP.sub [0, 9, 10] rfl) (hD.sub [0, 9, 10] (by decide) rfl) hS (lv_sub hl [0, 1, 2, 3, 4] rfl) _ _ _ _ rfl rfl rfl rfl 
      · rw [hj0] at hjx
        subst hjx
        refine lv_tableIn (off := 455) (tgt := 504) hx hb dL_law_49 (by decide +kernel) (by decide +kernel) (by decide +kernel) (by decide) ?_
        exact lc_answer C9 hK q_1 q_37 na ro oa q_3 d2z_5 d3z_6 d4z_7 d5z_8 d6z_9 d7z_10 d8z_11 d13z_12 d14z_13 d15z_14 d16z_15 d17z_16 d18z_17 d19z_18 d20z_19 d21z_20 d22z_21 d23z_22 d24z_23 d25z_24 d26z_25 d27z_26 d28z_27 d29z_28 d30z_29 d31z_30 d32z_31 d33z_32 d34z_33 d35z_34 d36z_35 d39z_36 n (hP.sub [0, 9, 10] rfl) (hD.sub [0, 9, 10] (by decide) rfl) hS (lv_sub hl [0, 1, 2, 3, 4] rfl) _ _ _ _ rfl rfl rfl rfl 
      · rw [hj0] at hjx
        subst hjx
        refine lv_tableIn (off := 481) (tgt := 530) hx hb dL_law_49 (by decide +kernel) (by decide +kernel) (by decide +kernel) (by decide) ?_
        exact lc_view C9 hK q_1 q_37 na ro oa q_3 d2z_5 d3z_6 d4z_7 d5z_8 d6z_9 d7z_10 d8z_11 d13z_12 d14z_13 d15z_14 d16z_15 d17z_16 d18z_17 d19z_18 d20z_19 d21z_20 d22z_21 d23z_22 d24z_23 d25z_24 d26z_25 d27z_26 d28z_27 d29z_28 d30z_29 d31z_30 d32z_31 d33z_32 d34z_33 d35z_34 d36z_35 d39z_36 n (hP.sub [0, 9, 10] rfl) (hD.sub [0, 9, 10] (by decide) rfl) hS (lv_sub hl [0, 1, 2, 3, 4] rfl) _ _ _ _ rfl rfl rfl rfl 
      · rw [hj0] at hjx
        subst hjx
        refine lv_tableIn (off := 518) (tgt := 567) hx hb dL_law_49 (by decide +kernel) (by decide +kernel) (by decide +kernel) (by decide) ?_
        by_cases hN : isN n (xs (2 : Int32).toNatClampNeg)
        · obtain ⟨j, hj, hyj⟩ := isN_of (by omega) hN
          obtain ⟨nd, a1, a2, a3, a4, a5, hnd, hP, hD⟩ := gCutNode hP hD hNd hj
          have hndy : fn (xs (2 : Int32).toNatClampNeg).toNatClampNeg = some nd := by rw [hyj, nI_clamp (by omega)]; exact hnd
          exact lc_node_yes C9 hK q_1 q_37 na ro oa fn q_3 d2z_5 d3z_6 d4z_7 d5z_8 d6z_9 d7z_10 d8z_11 d13z_12 d14z_13 d15z_14 d16z_15 d17z_16 d18z_17 d19z_18 d20z_19 d21z_20 d22z_21 d23z_22 d24z_23 d25z_24 d26z_25 d27z_26 d28z_27 d29z_28 d30z_29 d31z_30 d32z_31 d33z_32 d34z_33 d35z_34 d36z_35 d39z_36 n nd a1 a2 a3 a4 a5 (nI j) (hP.sub [0, 1, 44, 49, 10, 18, 19, 20, 21, 22, 24] rfl) (hD.sub [0, 1, 44, 49, 10, 18, 19, 20, 21, 22, 24] (by decide) rfl) hS (lv_sub hl [0, 1, 2, 3, 4] rfl) _ _ _ _ rfl rfl rfl rfl hn hN hndy (vp_in_nI hj (by omega))
        · exact lc_node_no C9 hK q_1 q_37 na ro oa fn q_3 d2z_5 d3z_6 d4z_7 d5z_8 d6z_9 d7z_10 d8z_11 d13z_12 d14z_13 d15z_14 d16z_15 d17z_16 d18z_17 d19z_18 d20z_19 d21z_20 d22z_21 d23z_22 d24z_23 d25z_24 d26z_25 d27z_26 d28z_27 d29z_28 d30z_29 d31z_30 d32z_31 d33z_32 d34z_33 d35z_34 d36z_35 d39z_36 n (hP.sub [0, 1, 10] rfl) (hD.sub [0, 1, 10] (by decide) rfl) hS (lv_sub hl [0, 1, 2, 3, 4] rfl) _ _ _ _ rfl rfl rfl rfl hN
      · rw [hj0] at hjx
        subst hjx
        refine lv_tableIn (off := 555) (tgt := 604) hx hb dL_law_49 (by decide +kernel) (by decide +kernel) (by decide +kernel) (by decide) ?_
        by_cases hNN : isN n (xs (2 : Int32).toNatClampNeg) ∧ isN n (xs (3 : Int32).toNatClampNeg)
        · have hN := hNN.1
          obtain ⟨j, hj, hyj⟩ := isN_of (by omega) hN
          obtain ⟨nd, a1, a2, a3, a4, a5, hnd, hP, hD⟩ := gCutNode hP hD hNd hj
          have hndy : fn (xs (2 : Int32).toNatClampNeg).toNatClampNeg = some nd := by rw [hyj, nI_clamp (by omega)]; exact hnd
          exact lc_kept_yes C9 hK q_1 q_37 na ro oa fn q_3 d2z_5 d3z_6 d4z_7 d5z_8 d6z_9 d7z_10 d8z_11 d13z_12 d14z_13 d15z_14 d16z_15 d17z_16 d18z_17 d19z_18 d20z_19 d21z_20 d22z_21 d23z_22 d24z_23 d25z_24 d26z_25 d27z_26 d28z_27 d29z_28 d30z_29 d31z_30 d32z_31 d33z_32 d34z_33 d35z_34 d36z_35 d39z_36 n nd a1 a2 a3 a4 a5 (nI j) (hP.sub [0, 1, 44, 45, 10, 23] rfl) (hD.sub [0, 1, 44, 45, 10, 23] (by decide) rfl) hS (lv_sub hl [0, 1, 2, 3, 4] rfl) _ _ _ _ rfl rfl rfl rfl hn hN hNN.2 hndy
        · exact lc_kept_no C9 hK q_1 q_37 na ro oa fn q_3 d2z_5 d3z_6 d4z_7 d5z_8 d6z_9 d7z_10 d8z_11 d13z_12 d14z_13 d15z_14 d16z_15 d17z_16 d18z_17 d19z_18 d20z_19 d21z_20 d22z_21 d23z_22 d24z_23 d25z_24 d26z_25 d27z_26 d28z_27 d29z_28 d30z_29 d31z_30 d32z_31 d33z_32 d34z_33 d35z_34 d36z_35 d39z_36 n (hP.sub [0, 1, 10] rfl) (hD.sub [0, 1, 10] (by decide) rfl) hS (lv_sub hl [0, 1, 2, 3, 4] rfl) _ _ _ _ rfl rfl rfl rfl hNN
      · rw [hj0] at hjx
        subst hjx
        refine lv_tableIn (off := 592) (tgt := 641) hx hb dL_law_49 (by decide +kernel) (by decide +kernel) (by decide +kernel) (by decide) ?_
        exact lc_message C9 hK q_1 q_37 na ro oa b1 b2 b3 b4 b5 b6 q_3 d2z_5 d3z_6 d4z_7 d5z_8 d6z_9 d7z_10 d8z_11 d13z_12 d14z_13 d15z_14 d16z_15 d17z_16 d18z_17 d19z_18 d20z_19 d21z_20 d22z_21 d23z_22 d24z_23 d25z_24 d26z_25 d27z_26 d28z_27 d29z_28 d30z_29 d31z_30 d32z_31 d33z_32 d34z_33 d35z_34 d36z_35 d39z_36 n (hP.sub [0, 2, 10] rfl) (hD.sub [0, 2, 10] (by decide) rfl) hS (lv_sub hl [0, 1, 2, 3, 4] rfl) _ _ _ _ rfl rfl rfl rfl 
      · rw [hj0] at hjx
        subst hjx
        refine lv_tableIn (off := 629) (tgt := 678) hx hb dL_law_49 (by decide +kernel) (by decide +kernel) (by decide +kernel) (by decide) ?_
        exact lc_vector C9 hK q_1 q_37 na ro oa b1 b2 b3 b4 b5 b6 q_3 d2z_5 d3z_6 d4z_7 d5z_8 d6z_9 d7z_10 d8z_11 d13z_12 d14z_13 d15z_14 d16z_15 d17z_16 d18z_17 d19z_18 d20z_19 d21z_20 d22z_21 d23z_22 d24z_23 d25z_24 d26z_25 d27z_26 d28z_27 d29z_28 d30z_29 d31z_30 d32z_31 d33z_32 d34z_33 d35z_34 d36z_35 d39z_36 n (hP.sub [0, 2, 10] rfl) (hD.sub [0, 2, 10] (by decide) rfl) hS (lv_sub hl [0, 1, 2, 3, 4] rfl) _ _ _ _ rfl rfl rfl rfl 
      · rw [hj0] at hjx
        subst hjx
        refine lv_tableIn (off := 666) (tgt := 715) hx hb dL_law_49 (by decide +kernel) (by decide +kernel) (by decide +kernel) (by decide) ?_
        exact lc_count C9 hK q_1 q_37 na ro oa b1 b2 b3 b4 b5 b6 fn P q_3 d2z_5 d3z_6 d4z_7 d5z_8 d6z_9 d7z_10 d8z_11 d13z_12 d14z_13 d15z_14 d16z_15 d17z_16 d18z_17 d19z_18 d20z_19 d21z_20 d22z_21 d23z_22 d24z_23 d25z_24 d26z_25 d27z_26 d28z_27 d29z_28 d30z_29 d31z_30 d32z_31 d33z_32 d34z_33 d35z_34 d36z_35 d39z_36 n (hP.part [0, 1, 2, 10, 18] rfl) (hD.part [0, 1, 2, 10, 18] (by decide) rfl) hS (lv_sub hl [0, 1, 2, 3, 4] rfl) _ _ _ _ rfl rfl rfl rfl hn hNd
      · rw [hj0] at hjx
        subst hjx
        refine lv_tableIn (off := 691) (tgt := 740) hx hb dL_law_49 (by decide +kernel) (by decide +kernel) (by decide +kernel) (by decide) ?_
        exact lc_astray C9 hK q_1 q_37 na ro oa b1 b2 b3 b4 b5 b6 q_3 d2z_5 d3z_6 d4z_7 d5z_8 d6z_9 d7z_10 d8z_11 d13z_12 d14z_13 d15z_14 d16z_15 d17z_16 d18z_17 d19z_18 d20z_19 d21z_20 d22z_21 d23z_22 d24z_23 d25z_24 d26z_25 d27z_26 d28z_27 d29z_28 d30z_29 d31z_30 d32z_31 d33z_32 d34z_33 d35z_34 d36z_35 d39z_36 n (hP.sub [0, 10] rfl) (hD.sub [0, 10] (by decide) rfl) hS (lv_sub hl [0, 1, 2, 3, 4] rfl) _ _ _ _ rfl rfl rfl rfl 
  · have hgt : (Int32.ofNat L - 5 : Int32) < 1 := by
      rcases (show L = 0 ∨ L = 1 ∨ L = 2 ∨ L = 3 ∨ L = 4 ∨ L = 5 by omega) with rfl | rfl | rfl | rfl | rfl | rfl <;> decide +kernel
    refine lv_icmp_gt (tgt := 759) hx hb dL_law_39 (by decide) (fun c_39 => ?_) (fun c_39 => absurd hgt c_39)
    refine lv_iconst (v := 1) hx hb dL_law_759 (by decide) ?_
    refine va_forget (fun q hq => hS.2.2 q hq) ?_
    refine W.widen (k := 600002) (n := 7302198) (Nat.le_of_ble_eq_true rfl) (Nat.le_of_ble_eq_true rfl) ?_
    exact lw_ret hx hb hr hlocks dL_law_760
-- ===== YOUR PART ENDS =====
set_option maxHeartbeats 4000000 in
theorem lw_walk (l : Launch) (hst : l.stackTraces = false) (b : Addr) (xs : List Int32) : MetFree l x (headSpec (Jvm.Cond.code x code maxLocals ret :: tables_1) room_1) (lw_P b xs) (fun _ _ _ _ _ => True) lw_Q := by
  refine MetFree.of_bodyS (code := code) (maxLocals := maxLocals) (ret := ret) (by decide) ?_ ?_
  · intro args s m h hn
    obtain ⟨meth, c, h1, h2, h3, h4, h5, h6, -, -⟩ := Cond.code_spec hn (atoms_spec (ws := Jvm.Cond.code x code maxLocals ret :: tables_1) h _ List.mem_cons_self)
    exact ⟨meth, c, h1, h2, h3, h4, h5, h6⟩
  · intro p e s m args below meth c s₁ B hml0 hP _
    obtain ⟨rfl, hx, hbd, hgv⟩ := hP
    obtain ⟨scr, harrAt, hlist, hof, hsmall⟩ := hx
    obtain ⟨hcb, hkn, -, -⟩ := State.arrayAt?_spec harrAt
    have hown : s.vm.findClass R_law = some m.cls := findClass_of_methodNamed B.named
    have hts0 : ∀ c ∈ (Jvm.Cond.code x code maxLocals ret :: tables_1), c.before #[Value.ref b] s = true := atoms_spec (ws := Jvm.Cond.code x code maxLocals ret :: tables_1) B.pre
    have hts : ∀ w ∈ lw_tbl, w.before #[Value.ref b] s = true := k2_hts_sels lw_privs (fun w hw => hts0 w (List.mem_cons_of_mem _ hw)) lw_privs_ok
    have hml : c.maxLocals = 7 := B.maxLocals_eq (hts0 _ List.mem_cons_self)
    have X₀ : Stand p l e room_1 s m #[Value.ref b] below meth c s₁ [] 0 0 := Stand.of_body B
    have hh0 : s₁.heap = s.heap := by rw [B.state]; rfl
    have hsz : scr.slots.size = xs.length := by rw [← Array.length_toList, hlist, List.length_map]
    have hval : ∀ j : Nat, j < xs.length → scr.slots[j]? = some (.int (xs.getD j 0)) := fun j hj => by
      rw [← Array.getElem?_toList, hlist]
      simp [hj]
    have hbl : b < s.heap.size := (Array.getElem?_eq_some_iff.mp hcb).1
    have hX : va_X b xs.length (fun j => xs.getD j 0) s s.heap := ⟨scr, hcb, hof, hkn, hsz, hval⟩
    have K : W p l e room_1 s m #[Value.ref b] below meth c s₁.heap [] 0 0 (lw_Z below #[Value.ref b] s) (entryFrame m ([Value.ref b] : List Value).toArray 7) := by
      rw [hh0]
      exact whole_start l hst hbd ⟨B.exec, B.bytes, B.returns, hml, hown, hts, hX, hbl, B.notSynchronized, hgv⟩
    obtain ⟨t, a1, o, b1, b2, b3⟩ := K s₁ rfl X₀
    exact ⟨t, o, a1, b1, b2, b3⟩
theorem lw_pre_spec {args : Array Value} {s : State} (h : (Jvm.Cond.and given_1 narrow_1).before args s = true) (hr : rest_1_c.before args s = true) : ∃ (b : Addr) (xs : List Int32), lw_P b xs args s := by
  have hs := flat_of_before _ h
  have hq := flat_of_before _ hr
  have hc : (Cond.count 1).before args s = true := hs _ (by decide +kernel)
  have harr : (Cond.arrayOf (.arg 0) .int).before args s = true := hs _ (by decide +kernel)
  have hle : (Cond.le (.length (.arg 0)) (.int 6)).before args s = true := hs _ (by decide +kernel)
  have hlen : (Cond.isInt (.length (.arg 0))).before args s = true := hq _ (by decide +kernel)
  have hall : (Cond.all (.arg 0) (.isInt (.elem (.arg 0) (.index 0)))).before args s = true := hq _ (by decide +kernel)
  obtain ⟨b, xs, hb, hx⟩ := State.ints_of_pre rfl harr hlen hall
  have hsm : xs.length < 2 ^ 31 := hx.choose_spec.2.2.2
  have hev : (Term.length (.arg 0)).eval args s none [] s = some (.int xs.length.toInt32) := hx.length_eval hb
  have hv := Cond.le_ints hev (show (Term.int 6).eval args s none [] s = some (.int 6) from rfl)
  have hd : xs.length.toInt32 ≤ 6 := by
    simpa [Cond.before, Cond.holds, hv] using hle
  have hN : xs.length ≤ 6 := (Int32.ofNat_le_ofNat hsm (by decide)).mp (show Int32.ofNat xs.length ≤ Int32.ofNat 6 from hd)
  exact ⟨b, xs, Cond.one_arg hc (show args[0]? = some (.ref b) from hb), hx, hN, h⟩
theorem lw_comes (l : Launch) (hst : l.stackTraces = false) : Comes l x (Jvm.Cond.code x code maxLocals ret :: tables_1) room_1 (fun tb e args s => Calls_1 tb e args s ∧ rest_1 tb e args s ∧ Pre_1 tb e args s)
    (fun _ _ args s o t => lw_Q args s o t) := by
  intro p e ha hc hk s m args below hf hfit hheap happ hpre
  obtain ⟨b, xs, hP⟩ := lw_pre_spec hpre.2.2 hpre.2.1
  obtain ⟨k, o, h1, h2, h3, hQ⟩ := lw_walk l hst b xs p e ha hc hk s m args below hf ((Spec.applies_iff_loose hf).mp happ).1 hP trivial
  exact ⟨k, o, h1, h2, h3, hQ⟩
theorem lw_frame {s t : State} {o : Outcome} {args : Array Value} (h : Framed s o t [] 600002 7302198) :
    Framed s o t (fieldLocs frame_1_writes args s ++ arrayLocs frame_1_arrays args s ++ staticLocs frame_1_statics s) 600002 7302198 := h
theorem lw_limb (L : Cond) (hL : ∀ (args : Array Value) (s t : State), L.after args s (.returned (some (.int 1))) t = true) :
    ArmFor flags0 classFile x code maxLocals ret World_1 tables_1 room_1 Calls_1 rest_1 Pre_1
      (fun tb e a s o t => postC L tb e a s o t ∧ Framed s o t (fieldLocs frame_1_writes a s ++ arrayLocs frame_1_arrays a s ++ staticLocs frame_1_statics s) 600002 7302198) := by
  intro l hfl _ _ p e ha hc hk s m args below hf hfit hheap happ hpre
  have hst : l.stackTraces = false := by unfold Launch.stackTraces; rw [hfl]; decide
  obtain ⟨k, o, h1, h2, h3, rfl, hF⟩ := lw_comes l hst p e ha hc hk s m args below hf hfit hheap happ hpre
  exact ⟨k, _, h1, h2, h3, hL args s _, lw_frame hF⟩
theorem i_vc : Claimed_1_1 ∧ Claimed_1_2 := ⟨lw_limb limb_1_1 (fun args s t => by simp [limb_1_1, Cond.after, Cond.holds, Cond.value]), lw_limb limb_1_2 (fun args s t => Cond.after_iff.mpr (by
  first | (rw [show limb_1_2 = Cond.eq .result (.int 1) from rfl, Cond.eq_ints (x := 1) (y := 1) rfl rfl]; simp; done) | (simp [limb_1_2, Cond.value, Term.eval]; done)))⟩
