set_option maxHeartbeats 4000000 in
set_option maxRecDepth 100000 in
theorem lc_count {p : Program} {l : Launch} {e : Env} {s : State} {m : MethodId} {below : List Frame} {meth : Method} {c : Code} {b : Nat} {xs : Nat → Int32} (C0 : lw_At p s m meth c b 6 xs) {dC : Nat → ClassId} {dI : Nat → Nat → Nat} {cI cZ cN cO cL : ClassId} (hK : va_K (dC, dI) vwCl (gTyL cI cZ cN cO cL) s) (x oo : Nat) (na ro oa b1 b2 b3 b4 b5 b6 : Nat) (fn : Nat → Option Nat) (P : va_W) (m0 d2 d3 d4 d5 d6 d7 d8 d13 d14 d15 d16 d17 d18 d19 d20 d21 d22 d23 d24 d25 d26 d27 d28 d29 d30 d31 d32 d33 d34 d35 d36 d39 n : Nat)  {H : Heap} {locs : List Loc} (hP : va_P (dC, dI) vwCl ([(x, .inr (3, [.ref na, .ref ro, .ref oa, .int 0, .int 0, .int 0, .int 0, .int 0, .int 0])), (na, .inl (cN, n, .inr (.inr (.inr (.inr fn))))), (ro, .inr (2, [.int (nI n), .ref b1, .ref b2, .ref b3, .ref b4, .ref b5, .ref b6, .int 0, .int 0, .int 0])), (m0, .inr (4, [.int (nI n), .int 0, .ref d2, .ref d3, .ref d4, .ref d5, .ref d6, .ref d7, .ref d8, .int 0, .int 0, .int 0, .int 0, .ref d13, .ref d14, .ref d15, .ref d16, .ref d17, .ref d18, .ref d19, .ref d20, .ref d21, .ref d22, .ref d23, .ref d24, .ref d25, .ref d26, .ref d27, .ref d28, .ref d29, .ref d30, .ref d31, .ref d32, .ref d33, .ref d34, .ref d35, .ref d36, .int 0, .int 0, .ref d39, .int 0])), (d13, .inl (cZ, 31, .inl ((fun _ => 0))))] ++ P) H) (hD : va_D (fun q : Nat => s.heap.size ≤ q) ([(x, .inr (3, [.ref na, .ref ro, .ref oa, .int 0, .int 0, .int 0, .int 0, .int 0, .int 0])), (na, .inl (cN, n, .inr (.inr (.inr (.inr fn))))), (ro, .inr (2, [.int (nI n), .ref b1, .ref b2, .ref b3, .ref b4, .ref b5, .ref b6, .int 0, .int 0, .int 0])), (m0, .inr (4, [.int (nI n), .int 0, .ref d2, .ref d3, .ref d4, .ref d5, .ref d6, .ref d7, .ref d8, .int 0, .int 0, .int 0, .int 0, .ref d13, .ref d14, .ref d15, .ref d16, .ref d17, .ref d18, .ref d19, .ref d20, .ref d21, .ref d22, .ref d23, .ref d24, .ref d25, .ref d26, .ref d27, .ref d28, .ref d29, .ref d30, .ref d31, .ref d32, .ref d33, .ref d34, .ref d35, .ref d36, .int 0, .int 0, .ref d39, .int 0])), (d13, .inl (cZ, 31, .inl ((fun _ => 0))))] ++ P)) (hS : va_S (fun q : Nat => s.heap.size ≤ q) s.heap H locs) {ls : Array Slot} (hl : lv_has ls 7 [(4, .int 1), (3, .ref oo), (2, .ref m0), (1, .ref x), (0, .ref b)]) (y1 y2 y3 y4 : Int32) (hy1 : y1 = xs (2 : Int32).toNatClampNeg) (hy2 : y2 = xs (3 : Int32).toNatClampNeg) (hy3 : y3 = xs (4 : Int32).toNatClampNeg) (hy4 : y4 = xs (5 : Int32).toNatClampNeg) (hn : n ≤ 31) (hNd : gNodes cI n n fn P) : W p l e room_1 s m #[Value.ref b] below meth c H locs 300 200000 (lw_Z below #[Value.ref b] s) (F0 m 715 ls []) := by
  have C9 := C0
  obtain ⟨hx, hb, hr, hml, hown, hts, hX, hbl, hlocks, hgv⟩ := C0
  have hg : ∀ w ∈ gw, w.before _ s = true := fun w h => hts w (List.mem_filter.mp h).1
  have hA : ∀ q : Nat, s.heap.size ≤ q → (fun q : Nat => s.heap.size ≤ q) q := fun _ h => h
  have hbA : ¬ (fun q : Nat => s.heap.size ≤ q) b := Nat.not_le.mpr hbl
  refine lv_aload_n hx hb dL_law_715 rfl (lv_at hl 3 rfl) ?_
  refine lv_aload_n hx hb dL_law_716 rfl (lv_at hl 4 rfl) ?_
  refine lv_iload hx hb dL_law_717 (lv_at hl 0 rfl) ?_
  refine lv_iconst (v := 1) hx hb dL_law_719 (by decide) ?_
  refine lv_iadd hx hb dL_law_720 ?_
  rw [show (1 : Int32) + 1 = 2 from by decide]
  refine va_sld hx hb hX hbl hbA hS (by unfold vp_in; decide +kernel) dL_law_721 ?_
  rw [← hy1]
  have hPc : va_P (dC, dI) vwCl ([(x, .inr (3, [.ref na, .ref ro, .ref oa, .int 0, .int 0, .int 0, .int 0, .int 0, .int 0])), (na, .inl (cN, n, .inr (.inr (.inr (.inr fn))))), (ro, .inr (2, [.int (nI n), .ref b1, .ref b2, .ref b3, .ref b4, .ref b5, .ref b6, .int 0, .int 0, .int 0]))] ++ P) H := hP.part [0, 1, 2] rfl
  refine vp_callSi (W.runV (As := [.int y1]) (rest := []) ⟨hx, hb, hml, hown, hg⟩ (c_X3_count l dC dI cI cZ cN cO x na ro oa n fn b1 b2 b3 b4 b5 b6 P y1 hn hNd) (cwV 1 hg (gw_V kM_L_96 kI_X3_count kS_X3_count kN_X3 kD_X3_count) rfl rfl rfl (by decide +kernel) ⟨Nat.le_of_ble_eq_true rfl, Nat.le_of_ble_eq_true rfl⟩) ⟨fun a U g mk q => by obtain ⟨q0, qP, qK⟩ := q; exact ⟨q0, qP, va_K.moved (u := U) (U := U.calling g mk a) (Vm.Alike.refl U.vm) qK⟩, va_recv hK hP (ci := 3) (q0 := 0) rfl rfl, fun U hU hW => ⟨rfl, by rw [hU]; exact hPc, va_K.moved hW.alike (hK.sub (tys' := gTy cI cZ cN cO) [0, 1, 2, 3] rfl)⟩⟩ rfl rfl hl.1 rfl (lv_room (Nat.le_of_ble_eq_true rfl)) dL_law_722 ⟨Nat.le_of_ble_eq_true rfl, Nat.le_of_ble_eq_true rfl⟩) (fun r_1 hr_1 => ?_)
  refine lv_aload_n hx hb dL_law_725 rfl (lv_at hl 2 rfl) ?_
  refine lv_aload_n hx hb dL_law_726 rfl (lv_at hl 4 rfl) ?_
  refine lv_iload hx hb dL_law_727 (lv_at hl 0 rfl) ?_
  refine lv_iconst (v := 1) hx hb dL_law_729 (by decide) ?_
  refine lv_iadd hx hb dL_law_730 ?_
  rw [show (1 : Int32) + 1 = 2 from by decide]
  refine va_sld hx hb hX hbl hbA hS (by unfold vp_in; decide +kernel) dL_law_731 ?_
  rw [← hy1]
  have hPc := hP.sub (ws' := [(m0, .inr (4, [.int (nI n), .int 0, .ref d2, .ref d3, .ref d4, .ref d5, .ref d6, .ref d7, .ref d8, .int 0, .int 0, .int 0, .int 0, .ref d13, .ref d14, .ref d15, .ref d16, .ref d17, .ref d18, .ref d19, .ref d20, .ref d21, .ref d22, .ref d23, .ref d24, .ref d25, .ref d26, .ref d27, .ref d28, .ref d29, .ref d30, .ref d31, .ref d32, .ref d33, .ref d34, .ref d35, .ref d36, .int 0, .int 0, .ref d39, .int 0])), (d13, .inl (cZ, 31, .inl ((fun _ => 0))))]) [3, 4] rfl
  have hDc := hD.sub (ws' := [(m0, .inr (4, [.int (nI n), .int 0, .ref d2, .ref d3, .ref d4, .ref d5, .ref d6, .ref d7, .ref d8, .int 0, .int 0, .int 0, .int 0, .ref d13, .ref d14, .ref d15, .ref d16, .ref d17, .ref d18, .ref d19, .ref d20, .ref d21, .ref d22, .ref d23, .ref d24, .ref d25, .ref d26, .ref d27, .ref d28, .ref d29, .ref d30, .ref d31, .ref d32, .ref d33, .ref d34, .ref d35, .ref d36, .int 0, .int 0, .ref d39, .int 0])), (d13, .inl (cZ, 31, .inl ((fun _ => 0))))]) [3, 4] (by decide) rfl
  have hFc := va_free (wc := [(m0, .inr (4, [.int (nI n), .int 0, .ref d2, .ref d3, .ref d4, .ref d5, .ref d6, .ref d7, .ref d8, .int 0, .int 0, .int 0, .int 0, .ref d13, .ref d14, .ref d15, .ref d16, .ref d17, .ref d18, .ref d19, .ref d20, .ref d21, .ref d22, .ref d23, .ref d24, .ref d25, .ref d26, .ref d27, .ref d28, .ref d29, .ref d30, .ref d31, .ref d32, .ref d33, .ref d34, .ref d35, .ref d36, .int 0, .int 0, .ref d39, .int 0])), (d13, .inl (cZ, 31, .inl ((fun _ => 0))))]) hD hS hA [3, 4] rfl
  refine va_calli (va_runV (As := [.int y1]) (rest := [.int r_1]) ⟨hx, hb, hml, hown, hg⟩ (c_X4_count l dC dI cI cZ cN cO m0 d2 d3 d4 d5 d6 d7 d8 d13 d14 d15 d16 d17 d18 d19 d20 d21 d22 d23 d24 d25 d26 d27 d28 d29 d30 d31 d32 d33 d34 d35 d36 d39 n y1 0 H.size hn) (cwV 1 hg (gw_V kM_L_99 kI_X4_count kS_X4_count kN_X4 kD_X4_count) rfl rfl rfl (by decide +kernel) ⟨Nat.le_of_ble_eq_true rfl, Nat.le_of_ble_eq_true rfl⟩) ⟨fun a U g mk q => by obtain ⟨q0, q1, qP, qK, qD⟩ := q; exact ⟨q0, q1, qP, va_K.moved (u := U) (U := U.calling g mk a) (Vm.Alike.refl U.vm) qK, qD⟩, va_recv hK hP (ci := 4) (q0 := 3) rfl rfl, fun U hU hW => ⟨rfl, by rw [hU], by rw [hU]; exact hPc, va_K.moved hW.alike (hK.sub (tys' := gTy cI cZ cN cO) [0, 1, 2, 3] rfl), hDc.weaken (fun _ _ _ _ => trivial)⟩⟩ rfl rfl hl.1 rfl (lv_room (Nat.le_of_ble_eq_true rfl)) dL_law_732 ⟨Nat.le_of_ble_eq_true rfl, Nat.le_of_ble_eq_true rfl⟩) hS (fun q _ h => hFc q h) hFc (fun r_2 u t H1 locs ht hvm hwr_2 hB hz1 hk1 hS => ?_)
  obtain ⟨hP1, hK1, hD1⟩ := hB
  rw [ht] at hP1
  obtain ⟨hP, hD⟩ := va_joinQ (pl := P) (X := [(x, .inr (3, [.ref na, .ref ro, .ref oa, .int 0, .int 0, .int 0, .int 0, .int 0, .int 0])), (na, .inl (cN, n, .inr (.inr (.inr (.inr fn))))), (ro, .inr (2, [.int (nI n), .ref b1, .ref b2, .ref b3, .ref b4, .ref b5, .ref b6, .int 0, .int 0, .int 0])), (m0, .inr (4, [.int (nI n), .int 0, .ref d2, .ref d3, .ref d4, .ref d5, .ref d6, .ref d7, .ref d8, .int 0, .int 0, .int 0, .int 0, .ref d13, .ref d14, .ref d15, .ref d16, .ref d17, .ref d18, .ref d19, .ref d20, .ref d21, .ref d22, .ref d23, .ref d24, .ref d25, .ref d26, .ref d27, .ref d28, .ref d29, .ref d30, .ref d31, .ref d32, .ref d33, .ref d34, .ref d35, .ref d36, .int 0, .int 0, .ref d39, .int 0])), (d13, .inl (cZ, 31, .inl ((fun _ => 0))))]) (cx := [(m0, .inr (4, [.int (nI n), .int 0, .ref d2, .ref d3, .ref d4, .ref d5, .ref d6, .ref d7, .ref d8, .int 0, .int 0, .int 0, .int 0, .ref d13, .ref d14, .ref d15, .ref d16, .ref d17, .ref d18, .ref d19, .ref d20, .ref d21, .ref d22, .ref d23, .ref d24, .ref d25, .ref d26, .ref d27, .ref d28, .ref d29, .ref d30, .ref d31, .ref d32, .ref d33, .ref d34, .ref d35, .ref d36, .int 0, .int 0, .ref d39, .int 0])), (d13, .inl (cZ, 31, .inl ((fun _ => 0))))]) (wr := [(x, .inr (3, [.ref na, .ref ro, .ref oa, .int 0, .int 0, .int 0, .int 0, .int 0, .int 0])), (na, .inl (cN, n, .inr (.inr (.inr (.inr fn))))), (ro, .inr (2, [.int (nI n), .ref b1, .ref b2, .ref b3, .ref b4, .ref b5, .ref b6, .int 0, .int 0, .int 0]))]) (w1 := []) hP hD [3, 4] [0, 1, 2] rfl rfl (by decide) (by decide) hk1 hFc hP1 hD1
  clear hPc hDc hFc hP1 hK1 hD1 hz1 hk1 ht
  generalize H1 = H at hP hS ⊢
  have hP : va_P (dC, dI) vwCl ([(x, .inr (3, [.ref na, .ref ro, .ref oa, .int 0, .int 0, .int 0, .int 0, .int 0, .int 0])), (na, .inl (cN, n, .inr (.inr (.inr (.inr fn))))), (ro, .inr (2, [.int (nI n), .ref b1, .ref b2, .ref b3, .ref b4, .ref b5, .ref b6, .int 0, .int 0, .int 0]))] ++ P) H := hP
  have hD : va_D (fun q : Nat => s.heap.size ≤ q) ([(x, .inr (3, [.ref na, .ref ro, .ref oa, .int 0, .int 0, .int 0, .int 0, .int 0, .int 0])), (na, .inl (cN, n, .inr (.inr (.inr (.inr fn))))), (ro, .inr (2, [.int (nI n), .ref b1, .ref b2, .ref b3, .ref b4, .ref b5, .ref b6, .int 0, .int 0, .int 0]))] ++ P) := hD
  refine lv_icmp_eq (tgt := 753) hx hb dL_law_735 (by decide) (fun c_735 => ?_) (fun c_735 => absurd (by rw [hr_1, hwr_2]) c_735)
  exact law_end C9 hS (Nat.le_of_ble_eq_true rfl) (by first | exact Nat.le_of_ble_eq_true rfl | (show _ ≤ 7302198; omega)) (lv_sub hl [0, 4] rfl)
set_option maxHeartbeats 4000000 in
set_option maxRecDepth 100000 in
theorem lc_update_no {p : Program} {l : Launch} {e : Env} {s : State} {m : MethodId} {below : List Frame} {meth : Method} {c : Code} {b : Nat} {xs : Nat → Int32} (C0 : lw_At p s m meth c b 6 xs) {dC : Nat → ClassId} {dI : Nat → Nat → Nat} {cI cZ cN cO cL : ClassId} (hK : va_K (dC, dI) vwCl (gTyL cI cZ cN cO cL) s) (x oo : Nat) (na ro oa : Nat) (fn : Nat → Option Nat) (m0 d2 d3 d4 d5 d6 d7 d8 d13 d14 d15 d16 d17 d18 d19 d20 d21 d22 d23 d24 d25 d26 d27 d28 d29 d30 d31 d32 d33 d34 d35 d36 d39 n : Nat)  {H : Heap} {locs : List Loc} (hP : va_P (dC, dI) vwCl [(x, .inr (3, [.ref na, .ref ro, .ref oa, .int 0, .int 0, .int 0, .int 0, .int 0, .int 0])), (na, .inl (cN, n, .inr (.inr (.inr (.inr fn))))), (m0, .inr (4, [.int (nI n), .int 0, .ref d2, .ref d3, .ref d4, .ref d5, .ref d6, .ref d7, .ref d8, .int 0, .int 0, .int 0, .int 0, .ref d13, .ref d14, .ref d15, .ref d16, .ref d17, .ref d18, .ref d19, .ref d20, .ref d21, .ref d22, .ref d23, .ref d24, .ref d25, .ref d26, .ref d27, .ref d28, .ref d29, .ref d30, .ref d31, .ref d32, .ref d33, .ref d34, .ref d35, .ref d36, .int 0, .int 0, .ref d39, .int 0]))] H) (hD : va_D (fun q : Nat => s.heap.size ≤ q) [(x, .inr (3, [.ref na, .ref ro, .ref oa, .int 0, .int 0, .int 0, .int 0, .int 0, .int 0])), (na, .inl (cN, n, .inr (.inr (.inr (.inr fn))))), (m0, .inr (4, [.int (nI n), .int 0, .ref d2, .ref d3, .ref d4, .ref d5, .ref d6, .ref d7, .ref d8, .int 0, .int 0, .int 0, .int 0, .ref d13, .ref d14, .ref d15, .ref d16, .ref d17, .ref d18, .ref d19, .ref d20, .ref d21, .ref d22, .ref d23, .ref d24, .ref d25, .ref d26, .ref d27, .ref d28, .ref d29, .ref d30, .ref d31, .ref d32, .ref d33, .ref d34, .ref d35, .ref d36, .int 0, .int 0, .ref d39, .int 0]))]) (hS : va_S (fun q : Nat => s.heap.size ≤ q) s.heap H locs) {ls : Array Slot} (hl : lv_has ls 7 [(4, .int 1), (3, .ref oo), (2, .ref m0), (1, .ref x), (0, .ref b)]) (y1 y2 y3 y4 : Int32) (hy1 : y1 = xs (2 : Int32).toNatClampNeg) (hy2 : y2 = xs (3 : Int32).toNatClampNeg) (hy3 : y3 = xs (4 : Int32).toNatClampNeg) (hy4 : y4 = xs (5 : Int32).toNatClampNeg) (sa : Nat) (hst : l.stackTraces = false) (hTh : gThr (fun q : Nat => s.heap.size ≤ q) s s.heap) (hBo : gThB "java/lang/IndexOutOfBoundsException" s) (hBa : gThB "java/lang/IllegalArgumentException" s) (hNc : va_Nc "java/lang/IllegalArgumentException" "java/lang/IndexOutOfBoundsException" s)(hR : vk_R RX3 39 "there is no such node" sa s) (hno : ¬ isN n y1) : W p l e room_1 s m #[Value.ref b] below meth c H locs 300 200000 (lw_Z below #[Value.ref b] s) (F0 m 120 ls []) := by
  have C9 := C0
  obtain ⟨hx, hb, hr, hml, hown, hts, hX, hbl, hlocks, hgv⟩ := C0
  have hg : ∀ w ∈ gw, w.before _ s = true := fun w h => hts w (List.mem_filter.mp h).1
  have hA : ∀ q : Nat, s.heap.size ≤ q → (fun q : Nat => s.heap.size ≤ q) q := fun _ h => h
  have hbA : ¬ (fun q : Nat => s.heap.size ≤ q) b := Nat.not_le.mpr hbl
  refine lv_aload_n hx hb dL_law_120 rfl (lv_at hl 3 rfl) ?_
  refine lv_aload_n hx hb dL_law_121 rfl (lv_at hl 4 rfl) ?_
  refine lv_iload hx hb dL_law_122 (lv_at hl 0 rfl) ?_
  refine lv_iconst (v := 1) hx hb dL_law_124 (by decide) ?_
  refine lv_iadd hx hb dL_law_125 ?_
  rw [show (1 : Int32) + 1 = 2 from by decide]
  refine va_sld hx hb hX hbl hbA hS (by unfold vp_in; decide +kernel) dL_law_126 ?_
  rw [← hy1]
  refine lv_aload_n hx hb dL_law_127 rfl (lv_at hl 4 rfl) ?_
  refine lv_iload hx hb dL_law_128 (lv_at hl 0 rfl) ?_
  refine lv_iconst (v := 2) hx hb dL_law_130 (by decide) ?_
  refine lv_iadd hx hb dL_law_131 ?_
  rw [show (1 : Int32) + 2 = 3 from by decide]
  refine va_sld hx hb hX hbl hbA hS (by unfold vp_in; decide +kernel) dL_law_132 ?_
  rw [← hy2]
  refine lv_aload_n hx hb dL_law_133 rfl (lv_at hl 4 rfl) ?_
  refine lv_iload hx hb dL_law_134 (lv_at hl 0 rfl) ?_
  refine lv_iconst (v := 3) hx hb dL_law_136 (by decide) ?_
  refine lv_iadd hx hb dL_law_137 ?_
  rw [show (1 : Int32) + 3 = 4 from by decide]
  refine va_sld hx hb hX hbl hbA hS (by unfold vp_in; decide +kernel) dL_law_138 ?_
  rw [← hy3]
  refine lv_aload_n hx hb dL_law_139 rfl (lv_at hl 4 rfl) ?_
  refine lv_iload hx hb dL_law_140 (lv_at hl 0 rfl) ?_
  refine lv_iconst (v := 4) hx hb dL_law_142 (by decide) ?_
  refine lv_iadd hx hb dL_law_143 ?_
  rw [show (1 : Int32) + 4 = 5 from by decide]
  refine va_sld hx hb hX hbl hbA hS (by unfold vp_in; decide +kernel) dL_law_144 ?_
  rw [← hy4]
  refine lv_aload_n hx hb dL_law_145 rfl (lv_at hl 1 rfl) ?_
  have hPc := hP.sub (ws' := [(x, .inr (3, [.ref na, .ref ro, .ref oa, .int 0, .int 0, .int 0, .int 0, .int 0, .int 0])), (na, .inl (cN, n, .inr (.inr (.inr (.inr fn)))))]) [0, 1] rfl
  have hDc := hD.sub (ws' := [(x, .inr (3, [.ref na, .ref ro, .ref oa, .int 0, .int 0, .int 0, .int 0, .int 0, .int 0])), (na, .inl (cN, n, .inr (.inr (.inr (.inr fn)))))]) [0, 1] (by decide) rfl
  have hFc := va_free (wc := [(x, .inr (3, [.ref na, .ref ro, .ref oa, .int 0, .int 0, .int 0, .int 0, .int 0, .int 0])), (na, .inl (cN, n, .inr (.inr (.inr (.inr fn)))))]) hD hS hA [0, 1] rfl
  refine va_calli (vx_runSW (As := [.ref x, .int y1, .int y2, .int y3, .int y4, .ref oo]) (rest := []) ⟨hx, hb, hml, hown, hg⟩ (h_update_no l dC dI cI cZ cN cO x na ro oa n fn y1 y2 y3 y4 oo H.size sa hst hno) (vx_cwSW 6 hg (gw_SW kM_L_44 kT_L_update kN_L kW_L_update) rfl rfl rfl (by decide +kernel) ⟨Nat.le_of_ble_eq_true rfl, Nat.le_of_ble_eq_true rfl⟩) ⟨fun a U g mk q => by obtain ⟨q0, q1, qP, qK, qR, qB, qT⟩ := q; exact ⟨q0, q1, qP, va_K.moved (u := U) (U := U.calling g mk a) (Vm.Alike.refl U.vm) qK, vk_R.same rfl qR, gThB.same (u := U) (U := U.calling g mk a) rfl qB, gThr.moved (u := U) (U := U.calling g mk a) (Vm.Alike.refl U.vm) qT⟩, fun U hU hW => ⟨rfl, by rw [hU], by rw [hU]; exact hPc, va_K.moved hW.alike (hK.sub (tys' := gTy cI cZ cN cO) [0, 1, 2, 3] rfl), vk_R.warm hW hR, gThB.warm hW hBo, (by rw [hU]; exact gThr.moved hW.alike ((hTh.kept (fun a h1 h2 => hS.2.1 a h1 h2)).narrow hFc))⟩⟩ rfl rfl hl.1 rfl (lv_room (Nat.le_of_ble_eq_true rfl)) dL_law_146 ⟨Nat.le_of_ble_eq_true rfl, Nat.le_of_ble_eq_true rfl⟩) hS (fun q _ h => hFc q h) hFc (fun r_1 u t H1 locs ht hvm hwr_1 hB1 hz1 hk1 hS => ?_)
  obtain ⟨hP, hD⟩ := va_join (wr := [(m0, .inr (4, [.int (nI n), .int 0, .ref d2, .ref d3, .ref d4, .ref d5, .ref d6, .ref d7, .ref d8, .int 0, .int 0, .int 0, .int 0, .ref d13, .ref d14, .ref d15, .ref d16, .ref d17, .ref d18, .ref d19, .ref d20, .ref d21, .ref d22, .ref d23, .ref d24, .ref d25, .ref d26, .ref d27, .ref d28, .ref d29, .ref d30, .ref d31, .ref d32, .ref d33, .ref d34, .ref d35, .ref d36, .int 0, .int 0, .ref d39, .int 0]))]) (w1 := []) hP hD [0, 1] [2] rfl rfl (by decide) (by decide) hk1 hFc gP_nil gD_nil
  clear hPc hDc hFc hz1 hk1
  generalize H1 = H at hP hS ⊢
  have hP : va_P (dC, dI) vwCl [(m0, .inr (4, [.int (nI n), .int 0, .ref d2, .ref d3, .ref d4, .ref d5, .ref d6, .ref d7, .ref d8, .int 0, .int 0, .int 0, .int 0, .ref d13, .ref d14, .ref d15, .ref d16, .ref d17, .ref d18, .ref d19, .ref d20, .ref d21, .ref d22, .ref d23, .ref d24, .ref d25, .ref d26, .ref d27, .ref d28, .ref d29, .ref d30, .ref d31, .ref d32, .ref d33, .ref d34, .ref d35, .ref d36, .int 0, .int 0, .ref d39, .int 0]))] H := hP
  have hD : va_D (fun q : Nat => s.heap.size ≤ q) [(m0, .inr (4, [.int (nI n), .int 0, .ref d2, .ref d3, .ref d4, .ref d5, .ref d6, .ref d7, .ref d8, .int 0, .int 0, .int 0, .int 0, .ref d13, .ref d14, .ref d15, .ref d16, .ref d17, .ref d18, .ref d19, .ref d20, .ref d21, .ref d22, .ref d23, .ref d24, .ref d25, .ref d26, .ref d27, .ref d28, .ref d29, .ref d30, .ref d31, .ref d32, .ref d33, .ref d34, .ref d35, .ref d36, .int 0, .int 0, .ref d39, .int 0]))] := hD
  refine lv_istore (lv' := [(5, .int r_1), (4, .int 1), (3, .ref oo), (2, .ref m0), (1, .ref x), (0, .ref b)]) hx hb dL_law_149 hl (by decide) rfl (fun ls hl => ?_)
  refine lv_aload_n hx hb dL_law_151 rfl (lv_at hl 3 rfl) ?_
  refine lv_aload_n hx hb dL_law_152 rfl (lv_at hl 5 rfl) ?_
  refine lv_iload hx hb dL_law_153 (lv_at hl 1 rfl) ?_
  refine lv_iconst (v := 1) hx hb dL_law_155 (by decide) ?_
  refine lv_iadd hx hb dL_law_156 ?_
  rw [show (1 : Int32) + 1 = 2 from by decide]
  refine va_sld hx hb hX hbl hbA hS (by unfold vp_in; decide +kernel) dL_law_157 ?_
  rw [← hy1]
  refine lv_aload_n hx hb dL_law_158 rfl (lv_at hl 5 rfl) ?_
  refine lv_iload hx hb dL_law_159 (lv_at hl 1 rfl) ?_
  refine lv_iconst (v := 2) hx hb dL_law_161 (by decide) ?_
  refine lv_iadd hx hb dL_law_162 ?_
  rw [show (1 : Int32) + 2 = 3 from by decide]
  refine va_sld hx hb hX hbl hbA hS (by unfold vp_in; decide +kernel) dL_law_163 ?_
  rw [← hy2]
  refine lv_aload_n hx hb dL_law_164 rfl (lv_at hl 5 rfl) ?_
  refine lv_iload hx hb dL_law_165 (lv_at hl 1 rfl) ?_
  refine lv_iconst (v := 3) hx hb dL_law_167 (by decide) ?_
  refine lv_iadd hx hb dL_law_168 ?_
  rw [show (1 : Int32) + 3 = 4 from by decide]
  refine va_sld hx hb hX hbl hbA hS (by unfold vp_in; decide +kernel) dL_law_169 ?_
  rw [← hy3]
  refine lv_aload_n hx hb dL_law_170 rfl (lv_at hl 5 rfl) ?_
  refine lv_iload hx hb dL_law_171 (lv_at hl 1 rfl) ?_
  refine lv_iconst (v := 4) hx hb dL_law_173 (by decide) ?_
  refine lv_iadd hx hb dL_law_174 ?_
  rw [show (1 : Int32) + 4 = 5 from by decide]
  refine va_sld hx hb hX hbl hbA hS (by unfold vp_in; decide +kernel) dL_law_175 ?_
  rw [← hy4]
  have hPc := hP.sub (ws' := [(m0, .inr (4, [.int (nI n), .int 0, .ref d2, .ref d3, .ref d4, .ref d5, .ref d6, .ref d7, .ref d8, .int 0, .int 0, .int 0, .int 0, .ref d13, .ref d14, .ref d15, .ref d16, .ref d17, .ref d18, .ref d19, .ref d20, .ref d21, .ref d22, .ref d23, .ref d24, .ref d25, .ref d26, .ref d27, .ref d28, .ref d29, .ref d30, .ref d31, .ref d32, .ref d33, .ref d34, .ref d35, .ref d36, .int 0, .int 0, .ref d39, .int 0]))]) [0] rfl
  have hDc := hD.sub (ws' := [(m0, .inr (4, [.int (nI n), .int 0, .ref d2, .ref d3, .ref d4, .ref d5, .ref d6, .ref d7, .ref d8, .int 0, .int 0, .int 0, .int 0, .ref d13, .ref d14, .ref d15, .ref d16, .ref d17, .ref d18, .ref d19, .ref d20, .ref d21, .ref d22, .ref d23, .ref d24, .ref d25, .ref d26, .ref d27, .ref d28, .ref d29, .ref d30, .ref d31, .ref d32, .ref d33, .ref d34, .ref d35, .ref d36, .int 0, .int 0, .ref d39, .int 0]))]) [0] (by decide) rfl
  have hFc := va_free (wc := [(m0, .inr (4, [.int (nI n), .int 0, .ref d2, .ref d3, .ref d4, .ref d5, .ref d6, .ref d7, .ref d8, .int 0, .int 0, .int 0, .int 0, .ref d13, .ref d14, .ref d15, .ref d16, .ref d17, .ref d18, .ref d19, .ref d20, .ref d21, .ref d22, .ref d23, .ref d24, .ref d25, .ref d26, .ref d27, .ref d28, .ref d29, .ref d30, .ref d31, .ref d32, .ref d33, .ref d34, .ref d35, .ref d36, .int 0, .int 0, .ref d39, .int 0]))]) hD hS hA [0] rfl
  refine va_calli (va_runV (As := [.int y1, .int y2, .int y3, .int y4]) (rest := []) ⟨hx, hb, hml, hown, hg⟩ (c_X4_update_no l dC dI cI cZ cN cO m0 d2 d3 d4 d5 d6 d7 d8 d13 d14 d15 d16 d17 d18 d19 d20 d21 d22 d23 d24 d25 d26 d27 d28 d29 d30 d31 d32 d33 d34 d35 d36 d39 n y1 y2 y3 y4 H.size hno) (cwV 4 hg (gw_V kM_L_47 kI_X4_update kS_X4_update kN_X4 kD_X4_update) rfl rfl rfl (by decide +kernel) ⟨Nat.le_of_ble_eq_true rfl, Nat.le_of_ble_eq_true rfl⟩) ⟨fun a U g mk q => by obtain ⟨q0, q1, qP, qK, qD⟩ := q; exact ⟨q0, q1, qP, va_K.moved (u := U) (U := U.calling g mk a) (Vm.Alike.refl U.vm) qK, qD⟩, va_recv hK hP (ci := 4) (q0 := 0) rfl rfl, fun U hU hW => ⟨rfl, by rw [hU], by rw [hU]; exact hPc, va_K.moved hW.alike (hK.sub (tys' := gTy cI cZ cN cO) [0, 1, 2, 3] rfl), hDc.weaken (fun _ _ _ _ => trivial)⟩⟩ rfl rfl hl.1 rfl (lv_room (Nat.le_of_ble_eq_true rfl)) dL_law_176 ⟨Nat.le_of_ble_eq_true rfl, Nat.le_of_ble_eq_true rfl⟩) hS (fun q _ h => hFc q h) hFc (fun r_2 u t H1 locs ht hvm hwr_2 hB hz1 hk1 hS => ?_)
  obtain ⟨fs_3, hfs_4, hP1, hK1, hD1⟩ := hB
  rw [ht] at hP1
  obtain ⟨hP, hD⟩ := va_join (wr := []) (w1 := [(m0, .inr (4, fs_3))]) hP hD [0] [] rfl rfl (by decide) (by decide) hk1 hFc hP1 hD1
  clear hPc hDc hFc hP1 hK1 hD1 hz1 hk1 ht
  generalize H1 = H at hP hS ⊢
  have hP : va_P (dC, dI) vwCl [(m0, .inr (4, fs_3))] H := hP
  have hD : va_D (fun q : Nat => s.heap.size ≤ q) [(m0, .inr (4, fs_3))] := hD
  refine lv_istore (lv' := [(6, .int r_2), (5, .int r_1), (4, .int 1), (3, .ref oo), (2, .ref m0), (1, .ref x), (0, .ref b)]) hx hb dL_law_179 hl (by decide) rfl (fun ls hl => ?_)
  refine lv_aload_n hx hb dL_law_181 rfl (lv_at hl 4 rfl) ?_
  have hPc := hP.sub (ws' := [(m0, .inr (4, fs_3))]) [0] rfl
  refine vp_callSi (W.runV (As := []) (rest := []) ⟨hx, hb, hml, hown, hg⟩ (c_X4_thrown l dC dI cI cZ cN cO m0 fs_3 1 hfs_4) (cwV 0 hg (gw_V kM_L_48 kI_X4_thrown kS_X4_thrown kN_X4 kD_X4_thrown) rfl rfl rfl (by decide +kernel) ⟨Nat.le_of_ble_eq_true rfl, Nat.le_of_ble_eq_true rfl⟩) ⟨fun a U g mk q => by obtain ⟨q0, qP, qK⟩ := q; exact ⟨q0, qP, va_K.moved (u := U) (U := U.calling g mk a) (Vm.Alike.refl U.vm) qK⟩, va_recv hK hP (ci := 4) (q0 := 0) rfl rfl, fun U hU hW => ⟨rfl, by rw [hU]; exact hPc, va_K.moved hW.alike (hK.sub (tys' := gTy cI cZ cN cO) [0, 1, 2, 3] rfl)⟩⟩ rfl rfl hl.1 rfl (lv_room (Nat.le_of_ble_eq_true rfl)) dL_law_182 ⟨Nat.le_of_ble_eq_true rfl, Nat.le_of_ble_eq_true rfl⟩) (fun r_5 hr_5 => ?_)
  refine lv_iload hx hb dL_law_185 (lv_at hl 1 rfl) ?_
  refine lv_icmp_eq (tgt := 192) hx hb dL_law_187 (by decide) (fun c_187 => ?_) (fun c_187 => absurd (by rw [hr_5, hwr_1]) c_187)
  refine lv_iload hx hb dL_law_192 (lv_at hl 1 rfl) ?_
  refine lv_if_ne (tgt := 209) hx hb dL_law_194 (by decide) (fun c_194 => ?_) (fun c_194 => absurd c_194 (by rw [hwr_1]; decide))
  refine lv_goto (tgt := 753) hx hb dL_law_209 (by decide) ?_
  exact law_end C9 hS (Nat.le_of_ble_eq_true rfl) (by first | exact Nat.le_of_ble_eq_true rfl | (show _ ≤ 7302198; omega)) (lv_sub hl [2, 6] rfl)
set_option maxHeartbeats 4000000 in
set_option maxRecDepth 100000 in
theorem lc_update_bad {p : Program} {l : Launch} {e : Env} {s : State} {m : MethodId} {below : List Frame} {meth : Method} {c : Code} {b : Nat} {xs : Nat → Int32} (C0 : lw_At p s m meth c b 6 xs) {dC : Nat → ClassId} {dI : Nat → Nat → Nat} {cI cZ cN cO cL : ClassId} (hK : va_K (dC, dI) vwCl (gTyL cI cZ cN cO cL) s) (x oo : Nat) (na ro oa : Nat) (fn : Nat → Option Nat) (m0 d2 d3 d4 d5 d6 d7 d8 d13 d14 d15 d16 d17 d18 d19 d20 d21 d22 d23 d24 d25 d26 d27 d28 d29 d30 d31 d32 d33 d34 d35 d36 d39 n : Nat)  {H : Heap} {locs : List Loc} (hP : va_P (dC, dI) vwCl [(x, .inr (3, [.ref na, .ref ro, .ref oa, .int 0, .int 0, .int 0, .int 0, .int 0, .int 0])), (na, .inl (cN, n, .inr (.inr (.inr (.inr fn))))), (m0, .inr (4, [.int (nI n), .int 0, .ref d2, .ref d3, .ref d4, .ref d5, .ref d6, .ref d7, .ref d8, .int 0, .int 0, .int 0, .int 0, .ref d13, .ref d14, .ref d15, .ref d16, .ref d17, .ref d18, .ref d19, .ref d20, .ref d21, .ref d22, .ref d23, .ref d24, .ref d25, .ref d26, .ref d27, .ref d28, .ref d29, .ref d30, .ref d31, .ref d32, .ref d33, .ref d34, .ref d35, .ref d36, .int 0, .int 0, .ref d39, .int 0]))] H) (hD : va_D (fun q : Nat => s.heap.size ≤ q) [(x, .inr (3, [.ref na, .ref ro, .ref oa, .int 0, .int 0, .int 0, .int 0, .int 0, .int 0])), (na, .inl (cN, n, .inr (.inr (.inr (.inr fn))))), (m0, .inr (4, [.int (nI n), .int 0, .ref d2, .ref d3, .ref d4, .ref d5, .ref d6, .ref d7, .ref d8, .int 0, .int 0, .int 0, .int 0, .ref d13, .ref d14, .ref d15, .ref d16, .ref d17, .ref d18, .ref d19, .ref d20, .ref d21, .ref d22, .ref d23, .ref d24, .ref d25, .ref d26, .ref d27, .ref d28, .ref d29, .ref d30, .ref d31, .ref d32, .ref d33, .ref d34, .ref d35, .ref d36, .int 0, .int 0, .ref d39, .int 0]))]) (hS : va_S (fun q : Nat => s.heap.size ≤ q) s.heap H locs) {ls : Array Slot} (hl : lv_has ls 7 [(4, .int 1), (3, .ref oo), (2, .ref m0), (1, .ref x), (0, .ref b)]) (y1 y2 y3 y4 : Int32) (hy1 : y1 = xs (2 : Int32).toNatClampNeg) (hy2 : y2 = xs (3 : Int32).toNatClampNeg) (hy3 : y3 = xs (4 : Int32).toNatClampNeg) (hy4 : y4 = xs (5 : Int32).toNatClampNeg) (sa : Nat) (hst : l.stackTraces = false) (hTh : gThr (fun q : Nat => s.heap.size ≤ q) s s.heap) (hBo : gThB "java/lang/IndexOutOfBoundsException" s) (hBa : gThB "java/lang/IllegalArgumentException" s) (hNc : va_Nc "java/lang/IllegalArgumentException" "java/lang/IndexOutOfBoundsException" s)(hR : vk_R RX3 46 "the kind of an update is 0 .. 3" sa s) (hy : isN n y1) (hbad : y2 < 0 ∨ ¬ y2 ≤ 3) : W p l e room_1 s m #[Value.ref b] below meth c H locs 300 200000 (lw_Z below #[Value.ref b] s) (F0 m 120 ls []) := by
  have C9 := C0
  obtain ⟨hx, hb, hr, hml, hown, hts, hX, hbl, hlocks, hgv⟩ := C0
  have hg : ∀ w ∈ gw, w.before _ s = true := fun w h => hts w (List.mem_filter.mp h).1
  have hA : ∀ q : Nat, s.heap.size ≤ q → (fun q : Nat => s.heap.size ≤ q) q := fun _ h => h
  have hbA : ¬ (fun q : Nat => s.heap.size ≤ q) b := Nat.not_le.mpr hbl
  refine lv_aload_n hx hb dL_law_120 rfl (lv_at hl 3 rfl) ?_
  refine lv_aload_n hx hb dL_law_121 rfl (lv_at hl 4 rfl) ?_
  refine lv_iload hx hb dL_law_122 (lv_at hl 0 rfl) ?_
  refine lv_iconst (v := 1) hx hb dL_law_124 (by decide) ?_
  refine lv_iadd hx hb dL_law_125 ?_
  rw [show (1 : Int32) + 1 = 2 from by decide]
  refine va_sld hx hb hX hbl hbA hS (by unfold vp_in; decide +kernel) dL_law_126 ?_
  rw [← hy1]
  refine lv_aload_n hx hb dL_law_127 rfl (lv_at hl 4 rfl) ?_
  refine lv_iload hx hb dL_law_128 (lv_at hl 0 rfl) ?_
  refine lv_iconst (v := 2) hx hb dL_law_130 (by decide) ?_
  refine lv_iadd hx hb dL_law_131 ?_
  rw [show (1 : Int32) + 2 = 3 from by decide]
  refine va_sld hx hb hX hbl hbA hS (by unfold vp_in; decide +kernel) dL_law_132 ?_
  rw [← hy2]
  refine lv_aload_n hx hb dL_law_133 rfl (lv_at hl 4 rfl) ?_
  refine lv_iload hx hb dL_law_134 (lv_at hl 0 rfl) ?_
  refine lv_iconst (v := 3) hx hb dL_law_136 (by decide) ?_
  refine lv_iadd hx hb dL_law_137 ?_
  rw [show (1 : Int32) + 3 = 4 from by decide]
  refine va_sld hx hb hX hbl hbA hS (by unfold vp_in; decide +kernel) dL_law_138 ?_
  rw [← hy3]
  refine lv_aload_n hx hb dL_law_139 rfl (lv_at hl 4 rfl) ?_
  refine lv_iload hx hb dL_law_140 (lv_at hl 0 rfl) ?_
  refine lv_iconst (v := 4) hx hb dL_law_142 (by decide) ?_
  refine lv_iadd hx hb dL_law_143 ?_
  rw [show (1 : Int32) + 4 = 5 from by decide]
  refine va_sld hx hb hX hbl hbA hS (by unfold vp_in; decide +kernel) dL_law_144 ?_
  rw [← hy4]
  refine lv_aload_n hx hb dL_law_145 rfl (lv_at hl 1 rfl) ?_
  have hPc := hP.sub (ws' := [(x, .inr (3, [.ref na, .ref ro, .ref oa, .int 0, .int 0, .int 0, .int 0, .int 0, .int 0])), (na, .inl (cN, n, .inr (.inr (.inr (.inr fn)))))]) [0, 1] rfl
  have hDc := hD.sub (ws' := [(x, .inr (3, [.ref na, .ref ro, .ref oa, .int 0, .int 0, .int 0, .int 0, .int 0, .int 0])), (na, .inl (cN, n, .inr (.inr (.inr (.inr fn)))))]) [0, 1] (by decide) rfl
  have hFc := va_free (wc := [(x, .inr (3, [.ref na, .ref ro, .ref oa, .int 0, .int 0, .int 0, .int 0, .int 0, .int 0])), (na, .inl (cN, n, .inr (.inr (.inr (.inr fn)))))]) hD hS hA [0, 1] rfl
  refine va_calli (vx_runSW (As := [.ref x, .int y1, .int y2, .int y3, .int y4, .ref oo]) (rest := []) ⟨hx, hb, hml, hown, hg⟩ (h_update_bad l dC dI cI cZ cN cO x na ro oa n fn y1 y2 y3 y4 oo H.size sa hst hy hbad) (vx_cwSW 6 hg (gw_SW kM_L_44 kT_L_update kN_L kW_L_update) rfl rfl rfl (by decide +kernel) ⟨Nat.le_of_ble_eq_true rfl, Nat.le_of_ble_eq_true rfl⟩) ⟨fun a U g mk q => by obtain ⟨q0, q1, qP, qK, qR, qB, qT, qN⟩ := q; exact ⟨q0, q1, qP, va_K.moved (u := U) (U := U.calling g mk a) (Vm.Alike.refl U.vm) qK, vk_R.same rfl qR, gThB.same (u := U) (U := U.calling g mk a) rfl qB, gThr.moved (u := U) (U := U.calling g mk a) (Vm.Alike.refl U.vm) qT, qN.moved (u := U) (U := U.calling g mk a) (Vm.Alike.refl U.vm)⟩, fun U hU hW => ⟨rfl, by rw [hU], by rw [hU]; exact hPc, va_K.moved hW.alike (hK.sub (tys' := gTy cI cZ cN cO) [0, 1, 2, 3] rfl), vk_R.warm hW hR, gThB.warm hW hBa, (by rw [hU]; exact gThr.moved hW.alike ((hTh.kept (fun a h1 h2 => hS.2.1 a h1 h2)).narrow hFc)), va_Nc.moved hW.alike hNc⟩⟩ rfl rfl hl.1 rfl (lv_room (Nat.le_of_ble_eq_true rfl)) dL_law_146 ⟨Nat.le_of_ble_eq_true rfl, Nat.le_of_ble_eq_true rfl⟩) hS (fun q _ h => hFc q h) hFc (fun r_1 u t H1 locs ht hvm hwr_1 hB1 hz1 hk1 hS => ?_)
  obtain ⟨hP, hD⟩ := va_join (wr := [(m0, .inr (4, [.int (nI n), .int 0, .ref d2, .ref d3, .ref d4, .ref d5, .ref d6, .ref d7, .ref d8, .int 0, .int 0, .int 0, .int 0, .ref d13, .ref d14, .ref d15, .ref d16, .ref d17, .ref d18, .ref d19, .ref d20, .ref d21, .ref d22, .ref d23, .ref d24, .ref d25, .ref d26, .ref d27, .ref d28, .ref d29, .ref d30, .ref d31, .ref d32, .ref d33, .ref d34, .ref d35, .ref d36, .int 0, .int 0, .ref d39, .int 0]))]) (w1 := []) hP hD [0, 1] [2] rfl rfl (by decide) (by decide) hk1 hFc gP_nil gD_nil
  clear hPc hDc hFc hz1 hk1
  generalize H1 = H at hP hS ⊢
  have hP : va_P (dC, dI) vwCl [(m0, .inr (4, [.int (nI n), .int 0, .ref d2, .ref d3, .ref d4, .ref d5, .ref d6, .ref d7, .ref d8, .int 0, .int 0, .int 0, .int 0, .ref d13, .ref d14, .ref d15, .ref d16, .ref d17, .ref d18, .ref d19, .ref d20, .ref d21, .ref d22, .ref d23, .ref d24, .ref d25, .ref d26, .ref d27, .ref d28, .ref d29, .ref d30, .ref d31, .ref d32, .ref d33, .ref d34, .ref d35, .ref d36, .int 0, .int 0, .ref d39, .int 0]))] H := hP
  have hD : va_D (fun q : Nat => s.heap.size ≤ q) [(m0, .inr (4, [.int (nI n), .int 0, .ref d2, .ref d3, .ref d4, .ref d5, .ref d6, .ref d7, .ref d8, .int 0, .int 0, .int 0, .int 0, .ref d13, .ref d14, .ref d15, .ref d16, .ref d17, .ref d18, .ref d19, .ref d20, .ref d21, .ref d22, .ref d23, .ref d24, .ref d25, .ref d26, .ref d27, .ref d28, .ref d29, .ref d30, .ref d31, .ref d32, .ref d33, .ref d34, .ref d35, .ref d36, .int 0, .int 0, .ref d39, .int 0]))] := hD
  refine lv_istore (lv' := [(5, .int r_1), (4, .int 1), (3, .ref oo), (2, .ref m0), (1, .ref x), (0, .ref b)]) hx hb dL_law_149 hl (by decide) rfl (fun ls hl => ?_)
  refine lv_aload_n hx hb dL_law_151 rfl (lv_at hl 3 rfl) ?_
  refine lv_aload_n hx hb dL_law_152 rfl (lv_at hl 5 rfl) ?_
  refine lv_iload hx hb dL_law_153 (lv_at hl 1 rfl) ?_
  refine lv_iconst (v := 1) hx hb dL_law_155 (by decide) ?_
  refine lv_iadd hx hb dL_law_156 ?_
  rw [show (1 : Int32) + 1 = 2 from by decide]
  refine va_sld hx hb hX hbl hbA hS (by unfold vp_in; decide +kernel) dL_law_157 ?_
  rw [← hy1]
  refine lv_aload_n hx hb dL_law_158 rfl (lv_at hl 5 rfl) ?_
  refine lv_iload hx hb dL_law_159 (lv_at hl 1 rfl) ?_
  refine lv_iconst (v := 2) hx hb dL_law_161 (by decide) ?_
  refine lv_iadd hx hb dL_law_162 ?_
  rw [show (1 : Int32) + 2 = 3 from by decide]
  refine va_sld hx hb hX hbl hbA hS (by unfold vp_in; decide +kernel) dL_law_163 ?_
  rw [← hy2]
  refine lv_aload_n hx hb dL_law_164 rfl (lv_at hl 5 rfl) ?_
  refine lv_iload hx hb dL_law_165 (lv_at hl 1 rfl) ?_
  refine lv_iconst (v := 3) hx hb dL_law_167 (by decide) ?_
  refine lv_iadd hx hb dL_law_168 ?_
  rw [show (1 : Int32) + 3 = 4 from by decide]
  refine va_sld hx hb hX hbl hbA hS (by unfold vp_in; decide +kernel) dL_law_169 ?_
  rw [← hy3]
  refine lv_aload_n hx hb dL_law_170 rfl (lv_at hl 5 rfl) ?_
  refine lv_iload hx hb dL_law_171 (lv_at hl 1 rfl) ?_
  refine lv_iconst (v := 4) hx hb dL_law_173 (by decide) ?_
  refine lv_iadd hx hb dL_law_174 ?_
  rw [show (1 : Int32) + 4 = 5 from by decide]
  refine va_sld hx hb hX hbl hbA hS (by unfold vp_in; decide +kernel) dL_law_175 ?_
  rw [← hy4]
  have hPc := hP.sub (ws' := [(m0, .inr (4, [.int (nI n), .int 0, .ref d2, .ref d3, .ref d4, .ref d5, .ref d6, .ref d7, .ref d8, .int 0, .int 0, .int 0, .int 0, .ref d13, .ref d14, .ref d15, .ref d16, .ref d17, .ref d18, .ref d19, .ref d20, .ref d21, .ref d22, .ref d23, .ref d24, .ref d25, .ref d26, .ref d27, .ref d28, .ref d29, .ref d30, .ref d31, .ref d32, .ref d33, .ref d34, .ref d35, .ref d36, .int 0, .int 0, .ref d39, .int 0]))]) [0] rfl
  have hDc := hD.sub (ws' := [(m0, .inr (4, [.int (nI n), .int 0, .ref d2, .ref d3, .ref d4, .ref d5, .ref d6, .ref d7, .ref d8, .int 0, .int 0, .int 0, .int 0, .ref d13, .ref d14, .ref d15, .ref d16, .ref d17, .ref d18, .ref d19, .ref d20, .ref d21, .ref d22, .ref d23, .ref d24, .ref d25, .ref d26, .ref d27, .ref d28, .ref d29, .ref d30, .ref d31, .ref d32, .ref d33, .ref d34, .ref d35, .ref d36, .int 0, .int 0, .ref d39, .int 0]))]) [0] (by decide) rfl
  have hFc := va_free (wc := [(m0, .inr (4, [.int (nI n), .int 0, .ref d2, .ref d3, .ref d4, .ref d5, .ref d6, .ref d7, .ref d8, .int 0, .int 0, .int 0, .int 0, .ref d13, .ref d14, .ref d15, .ref d16, .ref d17, .ref d18, .ref d19, .ref d20, .ref d21, .ref d22, .ref d23, .ref d24, .ref d25, .ref d26, .ref d27, .ref d28, .ref d29, .ref d30, .ref d31, .ref d32, .ref d33, .ref d34, .ref d35, .ref d36, .int 0, .int 0, .ref d39, .int 0]))]) hD hS hA [0] rfl
  refine va_calli (va_runV (As := [.int y1, .int y2, .int y3, .int y4]) (rest := []) ⟨hx, hb, hml, hown, hg⟩ (c_X4_update_bad l dC dI cI cZ cN cO m0 d2 d3 d4 d5 d6 d7 d8 d13 d14 d15 d16 d17 d18 d19 d20 d21 d22 d23 d24 d25 d26 d27 d28 d29 d30 d31 d32 d33 d34 d35 d36 d39 n y1 y2 y3 y4 H.size hy hbad) (cwV 4 hg (gw_V kM_L_47 kI_X4_update kS_X4_update kN_X4 kD_X4_update) rfl rfl rfl (by decide +kernel) ⟨Nat.le_of_ble_eq_true rfl, Nat.le_of_ble_eq_true rfl⟩) ⟨fun a U g mk q => by obtain ⟨q0, q1, qP, qK, qD⟩ := q; exact ⟨q0, q1, qP, va_K.moved (u := U) (U := U.calling g mk a) (Vm.Alike.refl U.vm) qK, qD⟩, va_recv hK hP (ci := 4) (q0 := 0) rfl rfl, fun U hU hW => ⟨rfl, by rw [hU], by rw [hU]; exact hPc, va_K.moved hW.alike (hK.sub (tys' := gTy cI cZ cN cO) [0, 1, 2, 3] rfl), hDc.weaken (fun _ _ _ _ => trivial)⟩⟩ rfl rfl hl.1 rfl (lv_room (Nat.le_of_ble_eq_true rfl)) dL_law_176 ⟨Nat.le_of_ble_eq_true rfl, Nat.le_of_ble_eq_true rfl⟩) hS (fun q _ h => hFc q h) hFc (fun r_2 u t H1 locs ht hvm hwr_2 hB hz1 hk1 hS => ?_)
  obtain ⟨fs_3, hfs_4, hP1, hK1, hD1⟩ := hB
  rw [ht] at hP1
  obtain ⟨hP, hD⟩ := va_join (wr := []) (w1 := [(m0, .inr (4, fs_3))]) hP hD [0] [] rfl rfl (by decide) (by decide) hk1 hFc hP1 hD1
  clear hPc hDc hFc hP1 hK1 hD1 hz1 hk1 ht
  generalize H1 = H at hP hS ⊢
  have hP : va_P (dC, dI) vwCl [(m0, .inr (4, fs_3))] H := hP
  have hD : va_D (fun q : Nat => s.heap.size ≤ q) [(m0, .inr (4, fs_3))] := hD
  refine lv_istore (lv' := [(6, .int r_2), (5, .int r_1), (4, .int 1), (3, .ref oo), (2, .ref m0), (1, .ref x), (0, .ref b)]) hx hb dL_law_179 hl (by decide) rfl (fun ls hl => ?_)
  refine lv_aload_n hx hb dL_law_181 rfl (lv_at hl 4 rfl) ?_
  have hPc := hP.sub (ws' := [(m0, .inr (4, fs_3))]) [0] rfl
  refine vp_callSi (W.runV (As := []) (rest := []) ⟨hx, hb, hml, hown, hg⟩ (c_X4_thrown l dC dI cI cZ cN cO m0 fs_3 2 hfs_4) (cwV 0 hg (gw_V kM_L_48 kI_X4_thrown kS_X4_thrown kN_X4 kD_X4_thrown) rfl rfl rfl (by decide +kernel) ⟨Nat.le_of_ble_eq_true rfl, Nat.le_of_ble_eq_true rfl⟩) ⟨fun a U g mk q => by obtain ⟨q0, qP, qK⟩ := q; exact ⟨q0, qP, va_K.moved (u := U) (U := U.calling g mk a) (Vm.Alike.refl U.vm) qK⟩, va_recv hK hP (ci := 4) (q0 := 0) rfl rfl, fun U hU hW => ⟨rfl, by rw [hU]; exact hPc, va_K.moved hW.alike (hK.sub (tys' := gTy cI cZ cN cO) [0, 1, 2, 3] rfl)⟩⟩ rfl rfl hl.1 rfl (lv_room (Nat.le_of_ble_eq_true rfl)) dL_law_182 ⟨Nat.le_of_ble_eq_true rfl, Nat.le_of_ble_eq_true rfl⟩) (fun r_5 hr_5 => ?_)
  refine lv_iload hx hb dL_law_185 (lv_at hl 1 rfl) ?_
  refine lv_icmp_eq (tgt := 192) hx hb dL_law_187 (by decide) (fun c_187 => ?_) (fun c_187 => absurd (by rw [hr_5, hwr_1]) c_187)
  refine lv_iload hx hb dL_law_192 (lv_at hl 1 rfl) ?_
  refine lv_if_ne (tgt := 209) hx hb dL_law_194 (by decide) (fun c_194 => ?_) (fun c_194 => absurd c_194 (by rw [hwr_1]; decide))
  refine lv_goto (tgt := 753) hx hb dL_law_209 (by decide) ?_
  exact law_end C9 hS (Nat.le_of_ble_eq_true rfl) (by first | exact Nat.le_of_ble_eq_true rfl | (show _ ≤ 7302198; omega)) (lv_sub hl [2, 6] rfl)
set_option maxHeartbeats 4000000 in
set_option maxRecDepth 100000 in
theorem lc_query_no {p : Program} {l : Launch} {e : Env} {s : State} {m : MethodId} {below : List Frame} {meth : Method} {c : Code} {b : Nat} {xs : Nat → Int32} (C0 : lw_At p s m meth c b 6 xs) {dC : Nat → ClassId} {dI : Nat → Nat → Nat} {cI cZ cN cO cL : ClassId} (hK : va_K (dC, dI) vwCl (gTyL cI cZ cN cO cL) s) (x oo : Nat) (na ro oa : Nat) (fn : Nat → Option Nat) (m0 d2 d3 d4 d5 d6 d7 d8 d13 d14 d15 d16 d17 d18 d19 d20 d21 d22 d23 d24 d25 d26 d27 d28 d29 d30 d31 d32 d33 d34 d35 d36 d39 n : Nat)  {H : Heap} {locs : List Loc} (hP : va_P (dC, dI) vwCl [(x, .inr (3, [.ref na, .ref ro, .ref oa, .int 0, .int 0, .int 0, .int 0, .int 0, .int 0])), (na, .inl (cN, n, .inr (.inr (.inr (.inr fn))))), (m0, .inr (4, [.int (nI n), .int 0, .ref d2, .ref d3, .ref d4, .ref d5, .ref d6, .ref d7, .ref d8, .int 0, .int 0, .int 0, .int 0, .ref d13, .ref d14, .ref d15, .ref d16, .ref d17, .ref d18, .ref d19, .ref d20, .ref d21, .ref d22, .ref d23, .ref d24, .ref d25, .ref d26, .ref d27, .ref d28, .ref d29, .ref d30, .ref d31, .ref d32, .ref d33, .ref d34, .ref d35, .ref d36, .int 0, .int 0, .ref d39, .int 0]))] H) (hD : va_D (fun q : Nat => s.heap.size ≤ q) [(x, .inr (3, [.ref na, .ref ro, .ref oa, .int 0, .int 0, .int 0, .int 0, .int 0, .int 0])), (na, .inl (cN, n, .inr (.inr (.inr (.inr fn))))), (m0, .inr (4, [.int (nI n), .int 0, .ref d2, .ref d3, .ref d4, .ref d5, .ref d6, .ref d7, .ref d8, .int 0, .int 0, .int 0, .int 0, .ref d13, .ref d14, .ref d15, .ref d16, .ref d17, .ref d18, .ref d19, .ref d20, .ref d21, .ref d22, .ref d23, .ref d24, .ref d25, .ref d26, .ref d27, .ref d28, .ref d29, .ref d30, .ref d31, .ref d32, .ref d33, .ref d34, .ref d35, .ref d36, .int 0, .int 0, .ref d39, .int 0]))]) (hS : va_S (fun q : Nat => s.heap.size ≤ q) s.heap H locs) {ls : Array Slot} (hl : lv_has ls 7 [(4, .int 1), (3, .ref oo), (2, .ref m0), (1, .ref x), (0, .ref b)]) (y1 y2 y3 y4 : Int32) (hy1 : y1 = xs (2 : Int32).toNatClampNeg) (hy2 : y2 = xs (3 : Int32).toNatClampNeg) (hy3 : y3 = xs (4 : Int32).toNatClampNeg) (hy4 : y4 = xs (5 : Int32).toNatClampNeg) (sa : Nat) (hst : l.stackTraces = false) (hTh : gThr (fun q : Nat => s.heap.size ≤ q) s s.heap) (hBo : gThB "java/lang/IndexOutOfBoundsException" s) (hBa : gThB "java/lang/IllegalArgumentException" s) (hNc : va_Nc "java/lang/IllegalArgumentException" "java/lang/IndexOutOfBoundsException" s)(hR : vk_R RX3 39 "there is no such node" sa s) (hno : ¬ isN n y1) : W p l e room_1 s m #[Value.ref b] below meth c H locs 300 200000 (lw_Z below #[Value.ref b] s) (F0 m 212 ls []) := by
  have C9 := C0
  obtain ⟨hx, hb, hr, hml, hown, hts, hX, hbl, hlocks, hgv⟩ := C0
  have hg : ∀ w ∈ gw, w.before _ s = true := fun w h => hts w (List.mem_filter.mp h).1
  have hA : ∀ q : Nat, s.heap.size ≤ q → (fun q : Nat => s.heap.size ≤ q) q := fun _ h => h
  have hbA : ¬ (fun q : Nat => s.heap.size ≤ q) b := Nat.not_le.mpr hbl
  refine lv_aload_n hx hb dL_law_212 rfl (lv_at hl 3 rfl) ?_
  refine lv_aload_n hx hb dL_law_213 rfl (lv_at hl 4 rfl) ?_
  refine lv_iload hx hb dL_law_214 (lv_at hl 0 rfl) ?_
  refine lv_iconst (v := 1) hx hb dL_law_216 (by decide) ?_
  refine lv_iadd hx hb dL_law_217 ?_
  rw [show (1 : Int32) + 1 = 2 from by decide]
  refine va_sld hx hb hX hbl hbA hS (by unfold vp_in; decide +kernel) dL_law_218 ?_
  rw [← hy1]
  refine lv_aload_n hx hb dL_law_219 rfl (lv_at hl 4 rfl) ?_
  refine lv_iload hx hb dL_law_220 (lv_at hl 0 rfl) ?_
  refine lv_iconst (v := 2) hx hb dL_law_222 (by decide) ?_
  refine lv_iadd hx hb dL_law_223 ?_
  rw [show (1 : Int32) + 2 = 3 from by decide]
  refine va_sld hx hb hX hbl hbA hS (by unfold vp_in; decide +kernel) dL_law_224 ?_
  rw [← hy2]
  refine lv_aload_n hx hb dL_law_225 rfl (lv_at hl 4 rfl) ?_
  refine lv_iload hx hb dL_law_226 (lv_at hl 0 rfl) ?_
  refine lv_iconst (v := 3) hx hb dL_law_228 (by decide) ?_
  refine lv_iadd hx hb dL_law_229 ?_
  rw [show (1 : Int32) + 3 = 4 from by decide]
  refine va_sld hx hb hX hbl hbA hS (by unfold vp_in; decide +kernel) dL_law_230 ?_
  rw [← hy3]
  refine lv_aload_n hx hb dL_law_231 rfl (lv_at hl 1 rfl) ?_
  have hPc := hP.sub (ws' := [(x, .inr (3, [.ref na, .ref ro, .ref oa, .int 0, .int 0, .int 0, .int 0, .int 0, .int 0])), (na, .inl (cN, n, .inr (.inr (.inr (.inr fn)))))]) [0, 1] rfl
  have hDc := hD.sub (ws' := [(x, .inr (3, [.ref na, .ref ro, .ref oa, .int 0, .int 0, .int 0, .int 0, .int 0, .int 0])), (na, .inl (cN, n, .inr (.inr (.inr (.inr fn)))))]) [0, 1] (by decide) rfl
  have hFc := va_free (wc := [(x, .inr (3, [.ref na, .ref ro, .ref oa, .int 0, .int 0, .int 0, .int 0, .int 0, .int 0])), (na, .inl (cN, n, .inr (.inr (.inr (.inr fn)))))]) hD hS hA [0, 1] rfl
  refine va_calli (vx_runSW (As := [.ref x, .int y1, .int y2, .int y3, .ref oo]) (rest := []) ⟨hx, hb, hml, hown, hg⟩ (h_query_no l dC dI cI cZ cN cO x na ro oa n fn y1 y2 y3 oo H.size sa hst hno) (vx_cwSW 5 hg (gw_SW kM_L_52 kT_L_query kN_L kW_L_query) rfl rfl rfl (by decide +kernel) ⟨Nat.le_of_ble_eq_true rfl, Nat.le_of_ble_eq_true rfl⟩) ⟨fun a U g mk q => by obtain ⟨q0, q1, qP, qK, qR, qB, qT⟩ := q; exact ⟨q0, q1, qP, va_K.moved (u := U) (U := U.calling g mk a) (Vm.Alike.refl U.vm) qK, vk_R.same rfl qR, gThB.same (u := U) (U := U.calling g mk a) rfl qB, gThr.moved (u := U) (U := U.calling g mk a) (Vm.Alike.refl U.vm) qT⟩, fun U hU hW => ⟨rfl, by rw [hU], by rw [hU]; exact hPc, va_K.moved hW.alike (hK.sub (tys' := gTy cI cZ cN cO) [0, 1, 2, 3] rfl), vk_R.warm hW hR, gThB.warm hW hBo, (by rw [hU]; exact gThr.moved hW.alike ((hTh.kept (fun a h1 h2 => hS.2.1 a h1 h2)).narrow hFc))⟩⟩ rfl rfl hl.1 rfl (lv_room (Nat.le_of_ble_eq_true rfl)) dL_law_232 ⟨Nat.le_of_ble_eq_true rfl, Nat.le_of_ble_eq_true rfl⟩) hS (fun q _ h => hFc q h) hFc (fun r_1 u t H1 locs ht hvm hwr_1 hB1 hz1 hk1 hS => ?_)
  obtain ⟨hP, hD⟩ := va_join (wr := [(m0, .inr (4, [.int (nI n), .int 0, .ref d2, .ref d3, .ref d4, .ref d5, .ref d6, .ref d7, .ref d8, .int 0, .int 0, .int 0, .int 0, .ref d13, .ref d14, .ref d15, .ref d16, .ref d17, .ref d18, .ref d19, .ref d20, .ref d21, .ref d22, .ref d23, .ref d24, .ref d25, .ref d26, .ref d27, .ref d28, .ref d29, .ref d30, .ref d31, .ref d32, .ref d33, .ref d34, .ref d35, .ref d36, .int 0, .int 0, .ref d39, .int 0]))]) (w1 := []) hP hD [0, 1] [2] rfl rfl (by decide) (by decide) hk1 hFc gP_nil gD_nil
  clear hPc hDc hFc hz1 hk1
  generalize H1 = H at hP hS ⊢
  have hP : va_P (dC, dI) vwCl [(m0, .inr (4, [.int (nI n), .int 0, .ref d2, .ref d3, .ref d4, .ref d5, .ref d6, .ref d7, .ref d8, .int 0, .int 0, .int 0, .int 0, .ref d13, .ref d14, .ref d15, .ref d16, .ref d17, .ref d18, .ref d19, .ref d20, .ref d21, .ref d22, .ref d23, .ref d24, .ref d25, .ref d26, .ref d27, .ref d28, .ref d29, .ref d30, .ref d31, .ref d32, .ref d33, .ref d34, .ref d35, .ref d36, .int 0, .int 0, .ref d39, .int 0]))] H := hP
  have hD : va_D (fun q : Nat => s.heap.size ≤ q) [(m0, .inr (4, [.int (nI n), .int 0, .ref d2, .ref d3, .ref d4, .ref d5, .ref d6, .ref d7, .ref d8, .int 0, .int 0, .int 0, .int 0, .ref d13, .ref d14, .ref d15, .ref d16, .ref d17, .ref d18, .ref d19, .ref d20, .ref d21, .ref d22, .ref d23, .ref d24, .ref d25, .ref d26, .ref d27, .ref d28, .ref d29, .ref d30, .ref d31, .ref d32, .ref d33, .ref d34, .ref d35, .ref d36, .int 0, .int 0, .ref d39, .int 0]))] := hD
  refine lv_istore (lv' := [(5, .int r_1), (4, .int 1), (3, .ref oo), (2, .ref m0), (1, .ref x), (0, .ref b)]) hx hb dL_law_235 hl (by decide) rfl (fun ls hl => ?_)
  refine lv_aload_n hx hb dL_law_237 rfl (lv_at hl 3 rfl) ?_
  refine lv_aload_n hx hb dL_law_238 rfl (lv_at hl 5 rfl) ?_
  refine lv_iload hx hb dL_law_239 (lv_at hl 1 rfl) ?_
  refine lv_iconst (v := 1) hx hb dL_law_241 (by decide) ?_
  refine lv_iadd hx hb dL_law_242 ?_
  rw [show (1 : Int32) + 1 = 2 from by decide]
  refine va_sld hx hb hX hbl hbA hS (by unfold vp_in; decide +kernel) dL_law_243 ?_
  rw [← hy1]
  refine lv_aload_n hx hb dL_law_244 rfl (lv_at hl 5 rfl) ?_
  refine lv_iload hx hb dL_law_245 (lv_at hl 1 rfl) ?_
  refine lv_iconst (v := 2) hx hb dL_law_247 (by decide) ?_
  refine lv_iadd hx hb dL_law_248 ?_
  rw [show (1 : Int32) + 2 = 3 from by decide]
  refine va_sld hx hb hX hbl hbA hS (by unfold vp_in; decide +kernel) dL_law_249 ?_
  rw [← hy2]
  refine lv_aload_n hx hb dL_law_250 rfl (lv_at hl 5 rfl) ?_
  refine lv_iload hx hb dL_law_251 (lv_at hl 1 rfl) ?_
  refine lv_iconst (v := 3) hx hb dL_law_253 (by decide) ?_
  refine lv_iadd hx hb dL_law_254 ?_
  rw [show (1 : Int32) + 3 = 4 from by decide]
  refine va_sld hx hb hX hbl hbA hS (by unfold vp_in; decide +kernel) dL_law_255 ?_
  rw [← hy3]
  have hPc := hP.sub (ws' := [(m0, .inr (4, [.int (nI n), .int 0, .ref d2, .ref d3, .ref d4, .ref d5, .ref d6, .ref d7, .ref d8, .int 0, .int 0, .int 0, .int 0, .ref d13, .ref d14, .ref d15, .ref d16, .ref d17, .ref d18, .ref d19, .ref d20, .ref d21, .ref d22, .ref d23, .ref d24, .ref d25, .ref d26, .ref d27, .ref d28, .ref d29, .ref d30, .ref d31, .ref d32, .ref d33, .ref d34, .ref d35, .ref d36, .int 0, .int 0, .ref d39, .int 0]))]) [0] rfl
  have hDc := hD.sub (ws' := [(m0, .inr (4, [.int (nI n), .int 0, .ref d2, .ref d3, .ref d4, .ref d5, .ref d6, .ref d7, .ref d8, .int 0, .int 0, .int 0, .int 0, .ref d13, .ref d14, .ref d15, .ref d16, .ref d17, .ref d18, .ref d19, .ref d20, .ref d21, .ref d22, .ref d23, .ref d24, .ref d25, .ref d26, .ref d27, .ref d28, .ref d29, .ref d30, .ref d31, .ref d32, .ref d33, .ref d34, .ref d35, .ref d36, .int 0, .int 0, .ref d39, .int 0]))]) [0] (by decide) rfl
  have hFc := va_free (wc := [(m0, .inr (4, [.int (nI n), .int 0, .ref d2, .ref d3, .ref d4, .ref d5, .ref d6, .ref d7, .ref d8, .int 0, .int 0, .int 0, .int 0, .ref d13, .ref d14, .ref d15, .ref d16, .ref d17, .ref d18, .ref d19, .ref d20, .ref d21, .ref d22, .ref d23, .ref d24, .ref d25, .ref d26, .ref d27, .ref d28, .ref d29, .ref d30, .ref d31, .ref d32, .ref d33, .ref d34, .ref d35, .ref d36, .int 0, .int 0, .ref d39, .int 0]))]) hD hS hA [0] rfl
  refine va_calli (va_runV (As := [.int y1, .int y2, .int y3]) (rest := []) ⟨hx, hb, hml, hown, hg⟩ (c_X4_query_no l dC dI cI cZ cN cO m0 d2 d3 d4 d5 d6 d7 d8 d13 d14 d15 d16 d17 d18 d19 d20 d21 d22 d23 d24 d25 d26 d27 d28 d29 d30 d31 d32 d33 d34 d35 d36 d39 n y1 y2 y3 H.size hno) (cwV 3 hg (gw_V kM_L_55 kI_X4_query kS_X4_query kN_X4 kD_X4_query) rfl rfl rfl (by decide +kernel) ⟨Nat.le_of_ble_eq_true rfl, Nat.le_of_ble_eq_true rfl⟩) ⟨fun a U g mk q => by obtain ⟨q0, q1, qP, qK, qD⟩ := q; exact ⟨q0, q1, qP, va_K.moved (u := U) (U := U.calling g mk a) (Vm.Alike.refl U.vm) qK, qD⟩, va_recv hK hP (ci := 4) (q0 := 0) rfl rfl, fun U hU hW => ⟨rfl, by rw [hU], by rw [hU]; exact hPc, va_K.moved hW.alike (hK.sub (tys' := gTy cI cZ cN cO) [0, 1, 2, 3] rfl), hDc.weaken (fun _ _ _ _ => trivial)⟩⟩ rfl rfl hl.1 rfl (lv_room (Nat.le_of_ble_eq_true rfl)) dL_law_256 ⟨Nat.le_of_ble_eq_true rfl, Nat.le_of_ble_eq_true rfl⟩) hS (fun q _ h => hFc q h) hFc (fun r_2 u t H1 locs ht hvm hwr_2 hB hz1 hk1 hS => ?_)
  obtain ⟨fs_3, hfs_4, hP1, hK1, hD1⟩ := hB
  rw [ht] at hP1
  obtain ⟨hP, hD⟩ := va_join (wr := []) (w1 := [(m0, .inr (4, fs_3))]) hP hD [0] [] rfl rfl (by decide) (by decide) hk1 hFc hP1 hD1
  clear hPc hDc hFc hP1 hK1 hD1 hz1 hk1 ht
  generalize H1 = H at hP hS ⊢
  have hP : va_P (dC, dI) vwCl [(m0, .inr (4, fs_3))] H := hP
  have hD : va_D (fun q : Nat => s.heap.size ≤ q) [(m0, .inr (4, fs_3))] := hD
  refine lv_istore (lv' := [(6, .int r_2), (5, .int r_1), (4, .int 1), (3, .ref oo), (2, .ref m0), (1, .ref x), (0, .ref b)]) hx hb dL_law_259 hl (by decide) rfl (fun ls hl => ?_)
  refine lv_aload_n hx hb dL_law_261 rfl (lv_at hl 4 rfl) ?_
  have hPc := hP.sub (ws' := [(m0, .inr (4, fs_3))]) [0] rfl
  refine vp_callSi (W.runV (As := []) (rest := []) ⟨hx, hb, hml, hown, hg⟩ (c_X4_thrown l dC dI cI cZ cN cO m0 fs_3 1 hfs_4) (cwV 0 hg (gw_V kM_L_48 kI_X4_thrown kS_X4_thrown kN_X4 kD_X4_thrown) rfl rfl rfl (by decide +kernel) ⟨Nat.le_of_ble_eq_true rfl, Nat.le_of_ble_eq_true rfl⟩) ⟨fun a U g mk q => by obtain ⟨q0, qP, qK⟩ := q; exact ⟨q0, qP, va_K.moved (u := U) (U := U.calling g mk a) (Vm.Alike.refl U.vm) qK⟩, va_recv hK hP (ci := 4) (q0 := 0) rfl rfl, fun U hU hW => ⟨rfl, by rw [hU]; exact hPc, va_K.moved hW.alike (hK.sub (tys' := gTy cI cZ cN cO) [0, 1, 2, 3] rfl)⟩⟩ rfl rfl hl.1 rfl (lv_room (Nat.le_of_ble_eq_true rfl)) dL_law_262 ⟨Nat.le_of_ble_eq_true rfl, Nat.le_of_ble_eq_true rfl⟩) (fun r_5 hr_5 => ?_)
  refine lv_iload hx hb dL_law_265 (lv_at hl 1 rfl) ?_
  refine lv_icmp_eq (tgt := 272) hx hb dL_law_267 (by decide) (fun c_267 => ?_) (fun c_267 => absurd (by rw [hr_5, hwr_1]) c_267)
  refine lv_iload hx hb dL_law_272 (lv_at hl 1 rfl) ?_
  refine lv_if_ne (tgt := 289) hx hb dL_law_274 (by decide) (fun c_274 => ?_) (fun c_274 => absurd c_274 (by rw [hwr_1]; decide))
  refine lv_goto (tgt := 753) hx hb dL_law_289 (by decide) ?_
  exact law_end C9 hS (Nat.le_of_ble_eq_true rfl) (by first | exact Nat.le_of_ble_eq_true rfl | (show _ ≤ 7302198; omega)) (lv_sub hl [2, 6] rfl)
set_option maxHeartbeats 4000000 in
set_option maxRecDepth 100000 in
theorem lc_query_bad {p : Program} {l : Launch} {e : Env} {s : State} {m : MethodId} {below : List Frame} {meth : Method} {c : Code} {b : Nat} {xs : Nat → Int32} (C0 : lw_At p s m meth c b 6 xs) {dC : Nat → ClassId} {dI : Nat → Nat → Nat} {cI cZ cN cO cL : ClassId} (hK : va_K (dC, dI) vwCl (gTyL cI cZ cN cO cL) s) (x oo : Nat) (na ro oa : Nat) (fn : Nat → Option Nat) (m0 d2 d3 d4 d5 d6 d7 d8 d13 d14 d15 d16 d17 d18 d19 d20 d21 d22 d23 d24 d25 d26 d27 d28 d29 d30 d31 d32 d33 d34 d35 d36 d39 n : Nat)  {H : Heap} {locs : List Loc} (hP : va_P (dC, dI) vwCl [(x, .inr (3, [.ref na, .ref ro, .ref oa, .int 0, .int 0, .int 0, .int 0, .int 0, .int 0])), (na, .inl (cN, n, .inr (.inr (.inr (.inr fn))))), (m0, .inr (4, [.int (nI n), .int 0, .ref d2, .ref d3, .ref d4, .ref d5, .ref d6, .ref d7, .ref d8, .int 0, .int 0, .int 0, .int 0, .ref d13, .ref d14, .ref d15, .ref d16, .ref d17, .ref d18, .ref d19, .ref d20, .ref d21, .ref d22, .ref d23, .ref d24, .ref d25, .ref d26, .ref d27, .ref d28, .ref d29, .ref d30, .ref d31, .ref d32, .ref d33, .ref d34, .ref d35, .ref d36, .int 0, .int 0, .ref d39, .int 0]))] H) (hD : va_D (fun q : Nat => s.heap.size ≤ q) [(x, .inr (3, [.ref na, .ref ro, .ref oa, .int 0, .int 0, .int 0, .int 0, .int 0, .int 0])), (na, .inl (cN, n, .inr (.inr (.inr (.inr fn))))), (m0, .inr (4, [.int (nI n), .int 0, .ref d2, .ref d3, .ref d4, .ref d5, .ref d6, .ref d7, .ref d8, .int 0, .int 0, .int 0, .int 0, .ref d13, .ref d14, .ref d15, .ref d16, .ref d17, .ref d18, .ref d19, .ref d20, .ref d21, .ref d22, .ref d23, .ref d24, .ref d25, .ref d26, .ref d27, .ref d28, .ref d29, .ref d30, .ref d31, .ref d32, .ref d33, .ref d34, .ref d35, .ref d36, .int 0, .int 0, .ref d39, .int 0]))]) (hS : va_S (fun q : Nat => s.heap.size ≤ q) s.heap H locs) {ls : Array Slot} (hl : lv_has ls 7 [(4, .int 1), (3, .ref oo), (2, .ref m0), (1, .ref x), (0, .ref b)]) (y1 y2 y3 y4 : Int32) (hy1 : y1 = xs (2 : Int32).toNatClampNeg) (hy2 : y2 = xs (3 : Int32).toNatClampNeg) (hy3 : y3 = xs (4 : Int32).toNatClampNeg) (hy4 : y4 = xs (5 : Int32).toNatClampNeg) (sa : Nat) (hst : l.stackTraces = false) (hTh : gThr (fun q : Nat => s.heap.size ≤ q) s s.heap) (hBo : gThB "java/lang/IndexOutOfBoundsException" s) (hBa : gThB "java/lang/IllegalArgumentException" s) (hNc : va_Nc "java/lang/IllegalArgumentException" "java/lang/IndexOutOfBoundsException" s)(hR : vk_R RX3 53 "the kind of a query is 10 .. 15" sa s) (hy : isN n y1) (hbad : y2 < 10 ∨ ¬ y2 ≤ 15) : W p l e room_1 s m #[Value.ref b] below meth c H locs 300 200000 (lw_Z below #[Value.ref b] s) (F0 m 212 ls []) := by
  have C9 := C0
  obtain ⟨hx, hb, hr, hml, hown, hts, hX, hbl, hlocks, hgv⟩ := C0
  have hg : ∀ w ∈ gw, w.before _ s = true := fun w h => hts w (List.mem_filter.mp h).1
  have hA : ∀ q : Nat, s.heap.size ≤ q → (fun q : Nat => s.heap.size ≤ q) q := fun _ h => h
  have hbA : ¬ (fun q : Nat => s.heap.size ≤ q) b := Nat.not_le.mpr hbl
  refine lv_aload_n hx hb dL_law_212 rfl (lv_at hl 3 rfl) ?_
  refine lv_aload_n hx hb dL_law_213 rfl (lv_at hl 4 rfl) ?_
  refine lv_iload hx hb dL_law_214 (lv_at hl 0 rfl) ?_
  refine lv_iconst (v := 1) hx hb dL_law_216 (by decide) ?_
  refine lv_iadd hx hb dL_law_217 ?_
  rw [show (1 : Int32) + 1 = 2 from by decide]
  refine va_sld hx hb hX hbl hbA hS (by unfold vp_in; decide +kernel) dL_law_218 ?_
  rw [← hy1]
  refine lv_aload_n hx hb dL_law_219 rfl (lv_at hl 4 rfl) ?_
  refine lv_iload hx hb dL_law_220 (lv_at hl 0 rfl) ?_
  refine lv_iconst (v := 2) hx hb dL_law_222 (by decide) ?_
  refine lv_iadd hx hb dL_law_223 ?_
  rw [show (1 : Int32) + 2 = 3 from by decide]
  refine va_sld hx hb hX hbl hbA hS (by unfold vp_in; decide +kernel) dL_law_224 ?_
  rw [← hy2]
  refine lv_aload_n hx hb dL_law_225 rfl (lv_at hl 4 rfl) ?_
  refine lv_iload hx hb dL_law_226 (lv_at hl 0 rfl) ?_
  refine lv_iconst (v := 3) hx hb dL_law_228 (by decide) ?_
  refine lv_iadd hx hb dL_law_229 ?_
  rw [show (1 : Int32) + 3 = 4 from by decide]
  refine va_sld hx hb hX hbl hbA hS (by unfold vp_in; decide +kernel) dL_law_230 ?_
  rw [← hy3]
  refine lv_aload_n hx hb dL_law_231 rfl (lv_at hl 1 rfl) ?_
  have hPc := hP.sub (ws' := [(x, .inr (3, [.ref na, .ref ro, .ref oa, .int 0, .int 0, .int 0, .int 0, .int 0, .int 0])), (na, .inl (cN, n, .inr (.inr (.inr (.inr fn)))))]) [0, 1] rfl
  have hDc := hD.sub (ws' := [(x, .inr (3, [.ref na, .ref ro, .ref oa, .int 0, .int 0, .int 0, .int 0, .int 0, .int 0])), (na, .inl (cN, n, .inr (.inr (.inr (.inr fn)))))]) [0, 1] (by decide) rfl
  have hFc := va_free (wc := [(x, .inr (3, [.ref na, .ref ro, .ref oa, .int 0, .int 0, .int 0, .int 0, .int 0, .int 0])), (na, .inl (cN, n, .inr (.inr (.inr (.inr fn)))))]) hD hS hA [0, 1] rfl
  refine va_calli (vx_runSW (As := [.ref x, .int y1, .int y2, .int y3, .ref oo]) (rest := []) ⟨hx, hb, hml, hown, hg⟩ (h_query_bad l dC dI cI cZ cN cO x na ro oa n fn y1 y2 y3 oo H.size sa hst hy hbad) (vx_cwSW 5 hg (gw_SW kM_L_52 kT_L_query kN_L kW_L_query) rfl rfl rfl (by decide +kernel) ⟨Nat.le_of_ble_eq_true rfl, Nat.le_of_ble_eq_true rfl⟩) ⟨fun a U g mk q => by obtain ⟨q0, q1, qP, qK, qR, qB, qT, qN⟩ := q; exact ⟨q0, q1, qP, va_K.moved (u := U) (U := U.calling g mk a) (Vm.Alike.refl U.vm) qK, vk_R.same rfl qR, gThB.same (u := U) (U := U.calling g mk a) rfl qB, gThr.moved (u := U) (U := U.calling g mk a) (Vm.Alike.refl U.vm) qT, qN.moved (u := U) (U := U.calling g mk a) (Vm.Alike.refl U.vm)⟩, fun U hU hW => ⟨rfl, by rw [hU], by rw [hU]; exact hPc, va_K.moved hW.alike (hK.sub (tys' := gTy cI cZ cN cO) [0, 1, 2, 3] rfl), vk_R.warm hW hR, gThB.warm hW hBa, (by rw [hU]; exact gThr.moved hW.alike ((hTh.kept (fun a h1 h2 => hS.2.1 a h1 h2)).narrow hFc)), va_Nc.moved hW.alike hNc⟩⟩ rfl rfl hl.1 rfl (lv_room (Nat.le_of_ble_eq_true rfl)) dL_law_232 ⟨Nat.le_of_ble_eq_true rfl, Nat.le_of_ble_eq_true rfl⟩) hS (fun q _ h => hFc q h) hFc (fun r_1 u t H1 locs ht hvm hwr_1 hB1 hz1 hk1 hS => ?_)
  obtain ⟨hP, hD⟩ := va_join (wr := [(m0, .inr (4, [.int (nI n), .int 0, .ref d2, .ref d3, .ref d4, .ref d5, .ref d6, .ref d7, .ref d8, .int 0, .int 0, .int 0, .int 0, .ref d13, .ref d14, .ref d15, .ref d16, .ref d17, .ref d18, .ref d19, .ref d20, .ref d21, .ref d22, .ref d23, .ref d24, .ref d25, .ref d26, .ref d27, .ref d28, .ref d29, .ref d30, .ref d31, .ref d32, .ref d33, .ref d34, .ref d35, .ref d36, .int 0, .int 0, .ref d39, .int 0]))]) (w1 := []) hP hD [0, 1] [2] rfl rfl (by decide) (by decide) hk1 hFc gP_nil gD_nil
  clear hPc hDc hFc hz1 hk1
  generalize H1 = H at hP hS ⊢
  have hP : va_P (dC, dI) vwCl [(m0, .inr (4, [.int (nI n), .int 0, .ref d2, .ref d3, .ref d4, .ref d5, .ref d6, .ref d7, .ref d8, .int 0, .int 0, .int 0, .int 0, .ref d13, .ref d14, .ref d15, .ref d16, .ref d17, .ref d18, .ref d19, .ref d20, .ref d21, .ref d22, .ref d23, .ref d24, .ref d25, .ref d26, .ref d27, .ref d28, .ref d29, .ref d30, .ref d31, .ref d32, .ref d33, .ref d34, .ref d35, .ref d36, .int 0, .int 0, .ref d39, .int 0]))] H := hP
  have hD : va_D (fun q : Nat => s.heap.size ≤ q) [(m0, .inr (4, [.int (nI n), .int 0, .ref d2, .ref d3, .ref d4, .ref d5, .ref d6, .ref d7, .ref d8, .int 0, .int 0, .int 0, .int 0, .ref d13, .ref d14, .ref d15, .ref d16, .ref d17, .ref d18, .ref d19, .ref d20, .ref d21, .ref d22, .ref d23, .ref d24, .ref d25, .ref d26, .ref d27, .ref d28, .ref d29, .ref d30, .ref d31, .ref d32, .ref d33, .ref d34, .ref d35, .ref d36, .int 0, .int 0, .ref d39, .int 0]))] := hD
  refine lv_istore (lv' := [(5, .int r_1), (4, .int 1), (3, .ref oo), (2, .ref m0), (1, .ref x), (0, .ref b)]) hx hb dL_law_235 hl (by decide) rfl (fun ls hl => ?_)
  refine lv_aload_n hx hb dL_law_237 rfl (lv_at hl 3 rfl) ?_
  refine lv_aload_n hx hb dL_law_238 rfl (lv_at hl 5 rfl) ?_
  refine lv_iload hx hb dL_law_239 (lv_at hl 1 rfl) ?_
  refine lv_iconst (v := 1) hx hb dL_law_241 (by decide) ?_
  refine lv_iadd hx hb dL_law_242 ?_
  rw [show (1 : Int32) + 1 = 2 from by decide]
  refine va_sld hx hb hX hbl hbA hS (by unfold vp_in; decide +kernel) dL_law_243 ?_
  rw [← hy1]
  refine lv_aload_n hx hb dL_law_244 rfl (lv_at hl 5 rfl) ?_
  refine lv_iload hx hb dL_law_245 (lv_at hl 1 rfl) ?_
  refine lv_iconst (v := 2) hx hb dL_law_247 (by decide) ?_
  refine lv_iadd hx hb dL_law_248 ?_
  rw [show (1 : Int32) + 2 = 3 from by decide]
  refine va_sld hx hb hX hbl hbA hS (by unfold vp_in; decide +kernel) dL_law_249 ?_
  rw [← hy2]
  refine lv_aload_n hx hb dL_law_250 rfl (lv_at hl 5 rfl) ?_
  refine lv_iload hx hb dL_law_251 (lv_at hl 1 rfl) ?_
  refine lv_iconst (v := 3) hx hb dL_law_253 (by decide) ?_
  refine lv_iadd hx hb dL_law_254 ?_
  rw [show (1 : Int32) + 3 = 4 from by decide]
  refine va_sld hx hb hX hbl hbA hS (by unfold vp_in; decide +kernel) dL_law_255 ?_
  rw [← hy3]
  have hPc := hP.sub (ws' := [(m0, .inr (4, [.int (nI n), .int 0, .ref d2, .ref d3, .ref d4, .ref d5, .ref d6, .ref d7, .ref d8, .int 0, .int 0, .int 0, .int 0, .ref d13, .ref d14, .ref d15, .ref d16, .ref d17, .ref d18, .ref d19, .ref d20, .ref d21, .ref d22, .ref d23, .ref d24, .ref d25, .ref d26, .ref d27, .ref d28, .ref d29, .ref d30, .ref d31, .ref d32, .ref d33, .ref d34, .ref d35, .ref d36, .int 0, .int 0, .ref d39, .int 0]))]) [0] rfl
  have hDc := hD.sub (ws' := [(m0, .inr (4, [.int (nI n), .int 0, .ref d2, .ref d3, .ref d4, .ref d5, .ref d6, .ref d7, .ref d8, .int 0, .int 0, .int 0, .int 0, .ref d13, .ref d14, .ref d15, .ref d16, .ref d17, .ref d18, .ref d19, .ref d20, .ref d21, .ref d22, .ref d23, .ref d24, .ref d25, .ref d26, .ref d27, .ref d28, .ref d29, .ref d30, .ref d31, .ref d32, .ref d33, .ref d34, .ref d35, .ref d36, .int 0, .int 0, .ref d39, .int 0]))]) [0] (by decide) rfl
  have hFc := va_free (wc := [(m0, .inr (4, [.int (nI n), .int 0, .ref d2, .ref d3, .ref d4, .ref d5, .ref d6, .ref d7, .ref d8, .int 0, .int 0, .int 0, .int 0, .ref d13, .ref d14, .ref d15, .ref d16, .ref d17, .ref d18, .ref d19, .ref d20, .ref d21, .ref d22, .ref d23, .ref d24, .ref d25, .ref d26, .ref d27, .ref d28, .ref d29, .ref d30, .ref d31, .ref d32, .ref d33, .ref d34, .ref d35, .ref d36, .int 0, .int 0, .ref d39, .int 0]))]) hD hS hA [0] rfl
  refine va_calli (va_runV (As := [.int y1, .int y2, .int y3]) (rest := []) ⟨hx, hb, hml, hown, hg⟩ (c_X4_query_bad l dC dI cI cZ cN cO m0 d2 d3 d4 d5 d6 d7 d8 d13 d14 d15 d16 d17 d18 d19 d20 d21 d22 d23 d24 d25 d26 d27 d28 d29 d30 d31 d32 d33 d34 d35 d36 d39 n y1 y2 y3 H.size hy hbad) (cwV 3 hg (gw_V kM_L_55 kI_X4_query kS_X4_query kN_X4 kD_X4_query) rfl rfl rfl (by decide +kernel) ⟨Nat.le_of_ble_eq_true rfl, Nat.le_of_ble_eq_true rfl⟩) ⟨fun a U g mk q => by obtain ⟨q0, q1, qP, qK, qD⟩ := q; exact ⟨q0, q1, qP, va_K.moved (u := U) (U := U.calling g mk a) (Vm.Alike.refl U.vm) qK, qD⟩, va_recv hK hP (ci := 4) (q0 := 0) rfl rfl, fun U hU hW => ⟨rfl, by rw [hU], by rw [hU]; exact hPc, va_K.moved hW.alike (hK.sub (tys' := gTy cI cZ cN cO) [0, 1, 2, 3] rfl), hDc.weaken (fun _ _ _ _ => trivial)⟩⟩ rfl rfl hl.1 rfl (lv_room (Nat.le_of_ble_eq_true rfl)) dL_law_256 ⟨Nat.le_of_ble_eq_true rfl, Nat.le_of_ble_eq_true rfl⟩) hS (fun q _ h => hFc q h) hFc (fun r_2 u t H1 locs ht hvm hwr_2 hB hz1 hk1 hS => ?_)
  obtain ⟨fs_3, hfs_4, hP1, hK1, hD1⟩ := hB
  rw [ht] at hP1
  obtain ⟨hP, hD⟩ := va_join (wr := []) (w1 := [(m0, .inr (4, fs_3))]) hP hD [0] [] rfl rfl (by decide) (by decide) hk1 hFc hP1 hD1
  clear hPc hDc hFc hP1 hK1 hD1 hz1 hk1 ht
  generalize H1 = H at hP hS ⊢
  have hP : va_P (dC, dI) vwCl [(m0, .inr (4, fs_3))] H := hP
  have hD : va_D (fun q : Nat => s.heap.size ≤ q) [(m0, .inr (4, fs_3))] := hD
  refine lv_istore (lv' := [(6, .int r_2), (5, .int r_1), (4, .int 1), (3, .ref oo), (2, .ref m0), (1, .ref x), (0, .ref b)]) hx hb dL_law_259 hl (by decide) rfl (fun ls hl => ?_)
  refine lv_aload_n hx hb dL_law_261 rfl (lv_at hl 4 rfl) ?_
  have hPc := hP.sub (ws' := [(m0, .inr (4, fs_3))]) [0] rfl
  refine vp_callSi (W.runV (As := []) (rest := []) ⟨hx, hb, hml, hown, hg⟩ (c_X4_thrown l dC dI cI cZ cN cO m0 fs_3 2 hfs_4) (cwV 0 hg (gw_V kM_L_48 kI_X4_thrown kS_X4_thrown kN_X4 kD_X4_thrown) rfl rfl rfl (by decide +kernel) ⟨Nat.le_of_ble_eq_true rfl, Nat.le_of_ble_eq_true rfl⟩) ⟨fun a U g mk q => by obtain ⟨q0, qP, qK⟩ := q; exact ⟨q0, qP, va_K.moved (u := U) (U := U.calling g mk a) (Vm.Alike.refl U.vm) qK⟩, va_recv hK hP (ci := 4) (q0 := 0) rfl rfl, fun U hU hW => ⟨rfl, by rw [hU]; exact hPc, va_K.moved hW.alike (hK.sub (tys' := gTy cI cZ cN cO) [0, 1, 2, 3] rfl)⟩⟩ rfl rfl hl.1 rfl (lv_room (Nat.le_of_ble_eq_true rfl)) dL_law_262 ⟨Nat.le_of_ble_eq_true rfl, Nat.le_of_ble_eq_true rfl⟩) (fun r_5 hr_5 => ?_)
  refine lv_iload hx hb dL_law_265 (lv_at hl 1 rfl) ?_
  refine lv_icmp_eq (tgt := 272) hx hb dL_law_267 (by decide) (fun c_267 => ?_) (fun c_267 => absurd (by rw [hr_5, hwr_1]) c_267)
  refine lv_iload hx hb dL_law_272 (lv_at hl 1 rfl) ?_
  refine lv_if_ne (tgt := 289) hx hb dL_law_274 (by decide) (fun c_274 => ?_) (fun c_274 => absurd c_274 (by rw [hwr_1]; decide))
  refine lv_goto (tgt := 753) hx hb dL_law_289 (by decide) ?_
  exact law_end C9 hS (Nat.le_of_ble_eq_true rfl) (by first | exact Nat.le_of_ble_eq_true rfl | (show _ ≤ 7302198; omega)) (lv_sub hl [2, 6] rfl)
set_option maxHeartbeats 4000000 in
set_option maxRecDepth 100000 in
theorem lc_deliver {p : Program} {l : Launch} {e : Env} {s : State} {m : MethodId} {below : List Frame} {meth : Method} {c : Code} {b : Nat} {xs : Nat → Int32} (C0 : lw_At p s m meth c b 6 xs) {dC : Nat → ClassId} {dI : Nat → Nat → Nat} {cI cZ cN cO cL : ClassId} (hK : va_K (dC, dI) vwCl (gTyL cI cZ cN cO cL) s) (x oo : Nat) (na ro oa b1 b2 b3 b4 b5 b6 : Nat) (m0 d2 d3 d4 d5 d6 d7 d8 d13 d14 d15 d16 d17 d18 d19 d20 d21 d22 d23 d24 d25 d26 d27 d28 d29 d30 d31 d32 d33 d34 d35 d36 d39 n : Nat)  {H : Heap} {locs : List Loc} (hP : va_P (dC, dI) vwCl [(x, .inr (3, [.ref na, .ref ro, .ref oa, .int 0, .int 0, .int 0, .int 0, .int 0, .int 0])), (ro, .inr (2, [.int (nI n), .ref b1, .ref b2, .ref b3, .ref b4, .ref b5, .ref b6, .int 0, .int 0, .int 0])), (m0, .inr (4, [.int (nI n), .int 0, .ref d2, .ref d3, .ref d4, .ref d5, .ref d6, .ref d7, .ref d8, .int 0, .int 0, .int 0, .int 0, .ref d13, .ref d14, .ref d15, .ref d16, .ref d17, .ref d18, .ref d19, .ref d20, .ref d21, .ref d22, .ref d23, .ref d24, .ref d25, .ref d26, .ref d27, .ref d28, .ref d29, .ref d30, .ref d31, .ref d32, .ref d33, .ref d34, .ref d35, .ref d36, .int 0, .int 0, .ref d39, .int 0]))] H) (hD : va_D (fun q : Nat => s.heap.size ≤ q) [(x, .inr (3, [.ref na, .ref ro, .ref oa, .int 0, .int 0, .int 0, .int 0, .int 0, .int 0])), (ro, .inr (2, [.int (nI n), .ref b1, .ref b2, .ref b3, .ref b4, .ref b5, .ref b6, .int 0, .int 0, .int 0])), (m0, .inr (4, [.int (nI n), .int 0, .ref d2, .ref d3, .ref d4, .ref d5, .ref d6, .ref d7, .ref d8, .int 0, .int 0, .int 0, .int 0, .ref d13, .ref d14, .ref d15, .ref d16, .ref d17, .ref d18, .ref d19, .ref d20, .ref d21, .ref d22, .ref d23, .ref d24, .ref d25, .ref d26, .ref d27, .ref d28, .ref d29, .ref d30, .ref d31, .ref d32, .ref d33, .ref d34, .ref d35, .ref d36, .int 0, .int 0, .ref d39, .int 0]))]) (hS : va_S (fun q : Nat => s.heap.size ≤ q) s.heap H locs) {ls : Array Slot} (hl : lv_has ls 7 [(4, .int 1), (3, .ref oo), (2, .ref m0), (1, .ref x), (0, .ref b)]) (y1 y2 y3 y4 : Int32) (hy1 : y1 = xs (2 : Int32).toNatClampNeg) (hy2 : y2 = xs (3 : Int32).toNatClampNeg) (hy3 : y3 = xs (4 : Int32).toNatClampNeg) (hy4 : y4 = xs (5 : Int32).toNatClampNeg) (sa : Nat) (hst : l.stackTraces = false) (hTh : gThr (fun q : Nat => s.heap.size ≤ q) s s.heap) (hBo : gThB "java/lang/IndexOutOfBoundsException" s) (hBa : gThB "java/lang/IllegalArgumentException" s) (hNc : va_Nc "java/lang/IllegalArgumentException" "java/lang/IndexOutOfBoundsException" s)(hR : vk_R RX3 58 "there is no such message" sa s) : W p l e room_1 s m #[Value.ref b] below meth c H locs 300 200000 (lw_Z below #[Value.ref b] s) (F0 m 292 ls []) := by
  have C9 := C0
  obtain ⟨hx, hb, hr, hml, hown, hts, hX, hbl, hlocks, hgv⟩ := C0
  have hg : ∀ w ∈ gw, w.before _ s = true := fun w h => hts w (List.mem_filter.mp h).1
  have hA : ∀ q : Nat, s.heap.size ≤ q → (fun q : Nat => s.heap.size ≤ q) q := fun _ h => h
  have hbA : ¬ (fun q : Nat => s.heap.size ≤ q) b := Nat.not_le.mpr hbl
  refine lv_aload_n hx hb dL_law_292 rfl (lv_at hl 3 rfl) ?_
  refine lv_aload_n hx hb dL_law_293 rfl (lv_at hl 4 rfl) ?_
  refine lv_iload hx hb dL_law_294 (lv_at hl 0 rfl) ?_
  refine lv_iconst (v := 1) hx hb dL_law_296 (by decide) ?_
  refine lv_iadd hx hb dL_law_297 ?_
  rw [show (1 : Int32) + 1 = 2 from by decide]
  refine va_sld hx hb hX hbl hbA hS (by unfold vp_in; decide +kernel) dL_law_298 ?_
  rw [← hy1]
  refine lv_aload_n hx hb dL_law_299 rfl (lv_at hl 1 rfl) ?_
  have hPc := hP.sub (ws' := [(x, .inr (3, [.ref na, .ref ro, .ref oa, .int 0, .int 0, .int 0, .int 0, .int 0, .int 0])), (ro, .inr (2, [.int (nI n), .ref b1, .ref b2, .ref b3, .ref b4, .ref b5, .ref b6, .int 0, .int 0, .int 0]))]) [0, 1] rfl
  have hDc := hD.sub (ws' := [(x, .inr (3, [.ref na, .ref ro, .ref oa, .int 0, .int 0, .int 0, .int 0, .int 0, .int 0])), (ro, .inr (2, [.int (nI n), .ref b1, .ref b2, .ref b3, .ref b4, .ref b5, .ref b6, .int 0, .int 0, .int 0]))]) [0, 1] (by decide) rfl
  have hFc := va_free (wc := [(x, .inr (3, [.ref na, .ref ro, .ref oa, .int 0, .int 0, .int 0, .int 0, .int 0, .int 0])), (ro, .inr (2, [.int (nI n), .ref b1, .ref b2, .ref b3, .ref b4, .ref b5, .ref b6, .int 0, .int 0, .int 0]))]) hD hS hA [0, 1] rfl
  refine va_calli (vx_runSW (As := [.ref x, .int y1, .ref oo]) (rest := []) ⟨hx, hb, hml, hown, hg⟩ (h_deliver l dC dI cI cZ cN cO x na ro oa b1 b2 b3 b4 b5 b6 n y1 oo H.size sa hst ) (vx_cwSW 3 hg (gw_SW kM_L_56 kT_L_deliver kN_L kW_L_deliver) rfl rfl rfl (by decide +kernel) ⟨Nat.le_of_ble_eq_true rfl, Nat.le_of_ble_eq_true rfl⟩) ⟨fun a U g mk q => by obtain ⟨q0, q1, qP, qK, qR, qB, qT⟩ := q; exact ⟨q0, q1, qP, va_K.moved (u := U) (U := U.calling g mk a) (Vm.Alike.refl U.vm) qK, vk_R.same rfl qR, gThB.same (u := U) (U := U.calling g mk a) rfl qB, gThr.moved (u := U) (U := U.calling g mk a) (Vm.Alike.refl U.vm) qT⟩, fun U hU hW => ⟨rfl, by rw [hU], by rw [hU]; exact hPc, va_K.moved hW.alike (hK.sub (tys' := gTy cI cZ cN cO) [0, 1, 2, 3] rfl), vk_R.warm hW hR, gThB.warm hW hBo, (by rw [hU]; exact gThr.moved hW.alike ((hTh.kept (fun a h1 h2 => hS.2.1 a h1 h2)).narrow hFc))⟩⟩ rfl rfl hl.1 rfl (lv_room (Nat.le_of_ble_eq_true rfl)) dL_law_300 ⟨Nat.le_of_ble_eq_true rfl, Nat.le_of_ble_eq_true rfl⟩) hS (fun q _ h => hFc q h) hFc (fun r_1 u t H1 locs ht hvm hwr_1 hB1 hz1 hk1 hS => ?_)
  obtain ⟨hP, hD⟩ := va_join (wr := [(m0, .inr (4, [.int (nI n), .int 0, .ref d2, .ref d3, .ref d4, .ref d5, .ref d6, .ref d7, .ref d8, .int 0, .int 0, .int 0, .int 0, .ref d13, .ref d14, .ref d15, .ref d16, .ref d17, .ref d18, .ref d19, .ref d20, .ref d21, .ref d22, .ref d23, .ref d24, .ref d25, .ref d26, .ref d27, .ref d28, .ref d29, .ref d30, .ref d31, .ref d32, .ref d33, .ref d34, .ref d35, .ref d36, .int 0, .int 0, .ref d39, .int 0]))]) (w1 := []) hP hD [0, 1] [2] rfl rfl (by decide) (by decide) hk1 hFc gP_nil gD_nil
  clear hPc hDc hFc hz1 hk1
  generalize H1 = H at hP hS ⊢
  have hP : va_P (dC, dI) vwCl [(m0, .inr (4, [.int (nI n), .int 0, .ref d2, .ref d3, .ref d4, .ref d5, .ref d6, .ref d7, .ref d8, .int 0, .int 0, .int 0, .int 0, .ref d13, .ref d14, .ref d15, .ref d16, .ref d17, .ref d18, .ref d19, .ref d20, .ref d21, .ref d22, .ref d23, .ref d24, .ref d25, .ref d26, .ref d27, .ref d28, .ref d29, .ref d30, .ref d31, .ref d32, .ref d33, .ref d34, .ref d35, .ref d36, .int 0, .int 0, .ref d39, .int 0]))] H := hP
  have hD : va_D (fun q : Nat => s.heap.size ≤ q) [(m0, .inr (4, [.int (nI n), .int 0, .ref d2, .ref d3, .ref d4, .ref d5, .ref d6, .ref d7, .ref d8, .int 0, .int 0, .int 0, .int 0, .ref d13, .ref d14, .ref d15, .ref d16, .ref d17, .ref d18, .ref d19, .ref d20, .ref d21, .ref d22, .ref d23, .ref d24, .ref d25, .ref d26, .ref d27, .ref d28, .ref d29, .ref d30, .ref d31, .ref d32, .ref d33, .ref d34, .ref d35, .ref d36, .int 0, .int 0, .ref d39, .int 0]))] := hD
  refine lv_istore (lv' := [(5, .int r_1), (4, .int 1), (3, .ref oo), (2, .ref m0), (1, .ref x), (0, .ref b)]) hx hb dL_law_303 hl (by decide) rfl (fun ls hl => ?_)
  refine lv_aload_n hx hb dL_law_305 rfl (lv_at hl 3 rfl) ?_
  refine lv_aload_n hx hb dL_law_306 rfl (lv_at hl 5 rfl) ?_
  refine lv_iload hx hb dL_law_307 (lv_at hl 1 rfl) ?_
  refine lv_iconst (v := 1) hx hb dL_law_309 (by decide) ?_
  refine lv_iadd hx hb dL_law_310 ?_
  rw [show (1 : Int32) + 1 = 2 from by decide]
  refine va_sld hx hb hX hbl hbA hS (by unfold vp_in; decide +kernel) dL_law_311 ?_
  rw [← hy1]
  have hPc := hP.sub (ws' := [(m0, .inr (4, [.int (nI n), .int 0, .ref d2, .ref d3, .ref d4, .ref d5, .ref d6, .ref d7, .ref d8, .int 0, .int 0, .int 0, .int 0, .ref d13, .ref d14, .ref d15, .ref d16, .ref d17, .ref d18, .ref d19, .ref d20, .ref d21, .ref d22, .ref d23, .ref d24, .ref d25, .ref d26, .ref d27, .ref d28, .ref d29, .ref d30, .ref d31, .ref d32, .ref d33, .ref d34, .ref d35, .ref d36, .int 0, .int 0, .ref d39, .int 0]))]) [0] rfl
  have hDc := hD.sub (ws' := [(m0, .inr (4, [.int (nI n), .int 0, .ref d2, .ref d3, .ref d4, .ref d5, .ref d6, .ref d7, .ref d8, .int 0, .int 0, .int 0, .int 0, .ref d13, .ref d14, .ref d15, .ref d16, .ref d17, .ref d18, .ref d19, .ref d20, .ref d21, .ref d22, .ref d23, .ref d24, .ref d25, .ref d26, .ref d27, .ref d28, .ref d29, .ref d30, .ref d31, .ref d32, .ref d33, .ref d34, .ref d35, .ref d36, .int 0, .int 0, .ref d39, .int 0]))]) [0] (by decide) rfl
  have hFc := va_free (wc := [(m0, .inr (4, [.int (nI n), .int 0, .ref d2, .ref d3, .ref d4, .ref d5, .ref d6, .ref d7, .ref d8, .int 0, .int 0, .int 0, .int 0, .ref d13, .ref d14, .ref d15, .ref d16, .ref d17, .ref d18, .ref d19, .ref d20, .ref d21, .ref d22, .ref d23, .ref d24, .ref d25, .ref d26, .ref d27, .ref d28, .ref d29, .ref d30, .ref d31, .ref d32, .ref d33, .ref d34, .ref d35, .ref d36, .int 0, .int 0, .ref d39, .int 0]))]) hD hS hA [0] rfl
  refine va_calli (va_runV (As := [.int y1]) (rest := []) ⟨hx, hb, hml, hown, hg⟩ (c_X4_deliver l dC dI cI cZ cN cO m0 d2 d3 d4 d5 d6 d7 d8 d13 d14 d15 d16 d17 d18 d19 d20 d21 d22 d23 d24 d25 d26 d27 d28 d29 d30 d31 d32 d33 d34 d35 d36 d39 n y1 H.size ) (cwV 1 hg (gw_V kM_L_59 kI_X4_deliver kS_X4_deliver kN_X4 kD_X4_deliver) rfl rfl rfl (by decide +kernel) ⟨Nat.le_of_ble_eq_true rfl, Nat.le_of_ble_eq_true rfl⟩) ⟨fun a U g mk q => by obtain ⟨q0, q1, qP, qK, qD⟩ := q; exact ⟨q0, q1, qP, va_K.moved (u := U) (U := U.calling g mk a) (Vm.Alike.refl U.vm) qK, qD⟩, va_recv hK hP (ci := 4) (q0 := 0) rfl rfl, fun U hU hW => ⟨rfl, by rw [hU], by rw [hU]; exact hPc, va_K.moved hW.alike (hK.sub (tys' := gTy cI cZ cN cO) [0, 1, 2, 3] rfl), hDc.weaken (fun _ _ _ _ => trivial)⟩⟩ rfl rfl hl.1 rfl (lv_room (Nat.le_of_ble_eq_true rfl)) dL_law_312 ⟨Nat.le_of_ble_eq_true rfl, Nat.le_of_ble_eq_true rfl⟩) hS (fun q _ h => hFc q h) hFc (fun r_2 u t H1 locs ht hvm hwr_2 hB hz1 hk1 hS => ?_)
  obtain ⟨fs_3, hfs_4, hP1, hK1, hD1⟩ := hB
  rw [ht] at hP1
  obtain ⟨hP, hD⟩ := va_join (wr := []) (w1 := [(m0, .inr (4, fs_3))]) hP hD [0] [] rfl rfl (by decide) (by decide) hk1 hFc hP1 hD1
  clear hPc hDc hFc hP1 hK1 hD1 hz1 hk1 ht
  generalize H1 = H at hP hS ⊢
  have hP : va_P (dC, dI) vwCl [(m0, .inr (4, fs_3))] H := hP
  have hD : va_D (fun q : Nat => s.heap.size ≤ q) [(m0, .inr (4, fs_3))] := hD
  refine lv_istore (lv' := [(6, .int r_2), (5, .int r_1), (4, .int 1), (3, .ref oo), (2, .ref m0), (1, .ref x), (0, .ref b)]) hx hb dL_law_315 hl (by decide) rfl (fun ls hl => ?_)
  refine lv_aload_n hx hb dL_law_317 rfl (lv_at hl 4 rfl) ?_
  have hPc := hP.sub (ws' := [(m0, .inr (4, fs_3))]) [0] rfl
  refine vp_callSi (W.runV (As := []) (rest := []) ⟨hx, hb, hml, hown, hg⟩ (c_X4_thrown l dC dI cI cZ cN cO m0 fs_3 1 hfs_4) (cwV 0 hg (gw_V kM_L_48 kI_X4_thrown kS_X4_thrown kN_X4 kD_X4_thrown) rfl rfl rfl (by decide +kernel) ⟨Nat.le_of_ble_eq_true rfl, Nat.le_of_ble_eq_true rfl⟩) ⟨fun a U g mk q => by obtain ⟨q0, qP, qK⟩ := q; exact ⟨q0, qP, va_K.moved (u := U) (U := U.calling g mk a) (Vm.Alike.refl U.vm) qK⟩, va_recv hK hP (ci := 4) (q0 := 0) rfl rfl, fun U hU hW => ⟨rfl, by rw [hU]; exact hPc, va_K.moved hW.alike (hK.sub (tys' := gTy cI cZ cN cO) [0, 1, 2, 3] rfl)⟩⟩ rfl rfl hl.1 rfl (lv_room (Nat.le_of_ble_eq_true rfl)) dL_law_318 ⟨Nat.le_of_ble_eq_true rfl, Nat.le_of_ble_eq_true rfl⟩) (fun r_5 hr_5 => ?_)
  refine lv_iload hx hb dL_law_321 (lv_at hl 1 rfl) ?_
  refine lv_icmp_eq (tgt := 328) hx hb dL_law_323 (by decide) (fun c_323 => ?_) (fun c_323 => absurd (by rw [hr_5, hwr_1]) c_323)
  refine lv_iload hx hb dL_law_328 (lv_at hl 1 rfl) ?_
  refine lv_if_ne (tgt := 345) hx hb dL_law_330 (by decide) (fun c_330 => ?_) (fun c_330 => absurd c_330 (by rw [hwr_1]; decide))
  refine lv_goto (tgt := 753) hx hb dL_law_345 (by decide) ?_
  exact law_end C9 hS (Nat.le_of_ble_eq_true rfl) (by first | exact Nat.le_of_ble_eq_true rfl | (show _ ≤ 7302198; omega)) (lv_sub hl [2, 6] rfl)
set_option maxHeartbeats 4000000 in
set_option maxRecDepth 100000 in
theorem lc_calm_bad {p : Program} {l : Launch} {e : Env} {s : State} {m : MethodId} {below : List Frame} {meth : Method} {c : Code} {b : Nat} {xs : Nat → Int32} (C0 : lw_At p s m meth c b 6 xs) {dC : Nat → ClassId} {dI : Nat → Nat → Nat} {cI cZ cN cO cL : ClassId} (hK : va_K (dC, dI) vwCl (gTyL cI cZ cN cO cL) s) (x oo : Nat) (na ro oa b1 b2 b3 b4 b5 b6 : Nat) (m0 d2 d3 d4 d5 d6 d7 d8 d13 d14 d15 d16 d17 d18 d19 d20 d21 d22 d23 d24 d25 d26 d27 d28 d29 d30 d31 d32 d33 d34 d35 d36 d39 n : Nat)  {H : Heap} {locs : List Loc} (hP : va_P (dC, dI) vwCl [(x, .inr (3, [.ref na, .ref ro, .ref oa, .int 0, .int 0, .int 0, .int 0, .int 0, .int 0])), (m0, .inr (4, [.int (nI n), .int 0, .ref d2, .ref d3, .ref d4, .ref d5, .ref d6, .ref d7, .ref d8, .int 0, .int 0, .int 0, .int 0, .ref d13, .ref d14, .ref d15, .ref d16, .ref d17, .ref d18, .ref d19, .ref d20, .ref d21, .ref d22, .ref d23, .ref d24, .ref d25, .ref d26, .ref d27, .ref d28, .ref d29, .ref d30, .ref d31, .ref d32, .ref d33, .ref d34, .ref d35, .ref d36, .int 0, .int 0, .ref d39, .int 0]))] H) (hD : va_D (fun q : Nat => s.heap.size ≤ q) [(x, .inr (3, [.ref na, .ref ro, .ref oa, .int 0, .int 0, .int 0, .int 0, .int 0, .int 0])), (m0, .inr (4, [.int (nI n), .int 0, .ref d2, .ref d3, .ref d4, .ref d5, .ref d6, .ref d7, .ref d8, .int 0, .int 0, .int 0, .int 0, .ref d13, .ref d14, .ref d15, .ref d16, .ref d17, .ref d18, .ref d19, .ref d20, .ref d21, .ref d22, .ref d23, .ref d24, .ref d25, .ref d26, .ref d27, .ref d28, .ref d29, .ref d30, .ref d31, .ref d32, .ref d33, .ref d34, .ref d35, .ref d36, .int 0, .int 0, .ref d39, .int 0]))]) (hS : va_S (fun q : Nat => s.heap.size ≤ q) s.heap H locs) {ls : Array Slot} (hl : lv_has ls 7 [(4, .int 1), (3, .ref oo), (2, .ref m0), (1, .ref x), (0, .ref b)]) (y1 y2 y3 y4 : Int32) (hy1 : y1 = xs (2 : Int32).toNatClampNeg) (hy2 : y2 = xs (3 : Int32).toNatClampNeg) (hy3 : y3 = xs (4 : Int32).toNatClampNeg) (hy4 : y4 = xs (5 : Int32).toNatClampNeg) (sa : Nat) (hst : l.stackTraces = false) (hTh : gThr (fun q : Nat => s.heap.size ≤ q) s s.heap) (hBo : gThB "java/lang/IndexOutOfBoundsException" s) (hBa : gThB "java/lang/IllegalArgumentException" s) (hNc : va_Nc "java/lang/IllegalArgumentException" "java/lang/IndexOutOfBoundsException" s)(hR : vk_R RX3 64 "calm takes 0 .. 2,000 messages" sa s) (hbad : y1 < 0 ∨ ¬ y1 ≤ 2000) : W p l e room_1 s m #[Value.ref b] below meth c H locs 300 200000 (lw_Z below #[Value.ref b] s) (F0 m 348 ls []) := by
  have C9 := C0
  obtain ⟨hx, hb, hr, hml, hown, hts, hX, hbl, hlocks, hgv⟩ := C0
  have hg : ∀ w ∈ gw, w.before _ s = true := fun w h => hts w (List.mem_filter.mp h).1
  have hA : ∀ q : Nat, s.heap.size ≤ q → (fun q : Nat => s.heap.size ≤ q) q := fun _ h => h
  have hbA : ¬ (fun q : Nat => s.heap.size ≤ q) b := Nat.not_le.mpr hbl
  refine lv_aload_n hx hb dL_law_348 rfl (lv_at hl 3 rfl) ?_
  refine lv_aload_n hx hb dL_law_349 rfl (lv_at hl 4 rfl) ?_
  refine lv_iload hx hb dL_law_350 (lv_at hl 0 rfl) ?_
  refine lv_iconst (v := 1) hx hb dL_law_352 (by decide) ?_
  refine lv_iadd hx hb dL_law_353 ?_
  rw [show (1 : Int32) + 1 = 2 from by decide]
  refine va_sld hx hb hX hbl hbA hS (by unfold vp_in; decide +kernel) dL_law_354 ?_
  rw [← hy1]
  refine lv_aload_n hx hb dL_law_355 rfl (lv_at hl 1 rfl) ?_
  have hPc := hP.sub (ws' := [(x, .inr (3, [.ref na, .ref ro, .ref oa, .int 0, .int 0, .int 0, .int 0, .int 0, .int 0]))]) [0] rfl
  have hDc := hD.sub (ws' := [(x, .inr (3, [.ref na, .ref ro, .ref oa, .int 0, .int 0, .int 0, .int 0, .int 0, .int 0]))]) [0] (by decide) rfl
  have hFc := va_free (wc := [(x, .inr (3, [.ref na, .ref ro, .ref oa, .int 0, .int 0, .int 0, .int 0, .int 0, .int 0]))]) hD hS hA [0] rfl
  refine va_calli (vx_runSW (As := [.ref x, .int y1, .ref oo]) (rest := []) ⟨hx, hb, hml, hown, hg⟩ (h_calm_bad l dC dI cI cZ cN cO x na ro oa b1 b2 b3 b4 b5 b6 n y1 oo H.size sa hst hbad) (vx_cwSW 3 hg (gw_SW kM_L_60 kT_L_calm kN_L kW_L_calm) rfl rfl rfl (by decide +kernel) ⟨Nat.le_of_ble_eq_true rfl, Nat.le_of_ble_eq_true rfl⟩) ⟨fun a U g mk q => by obtain ⟨q0, q1, qP, qK, qR, qB, qT⟩ := q; exact ⟨q0, q1, qP, va_K.moved (u := U) (U := U.calling g mk a) (Vm.Alike.refl U.vm) qK, vk_R.same rfl qR, gThB.same (u := U) (U := U.calling g mk a) rfl qB, gThr.moved (u := U) (U := U.calling g mk a) (Vm.Alike.refl U.vm) qT⟩, fun U hU hW => ⟨rfl, by rw [hU], by rw [hU]; exact hPc, va_K.moved hW.alike (hK.sub (tys' := gTy cI cZ cN cO) [0, 1, 2, 3] rfl), vk_R.warm hW hR, gThB.warm hW hBa, (by rw [hU]; exact gThr.moved hW.alike ((hTh.kept (fun a h1 h2 => hS.2.1 a h1 h2)).narrow hFc))⟩⟩ rfl rfl hl.1 rfl (lv_room (Nat.le_of_ble_eq_true rfl)) dL_law_356 ⟨Nat.le_of_ble_eq_true rfl, Nat.le_of_ble_eq_true rfl⟩) hS (fun q _ h => hFc q h) hFc (fun r_1 u t H1 locs ht hvm hwr_1 hB1 hz1 hk1 hS => ?_)
  obtain ⟨hP, hD⟩ := va_join (wr := [(m0, .inr (4, [.int (nI n), .int 0, .ref d2, .ref d3, .ref d4, .ref d5, .ref d6, .ref d7, .ref d8, .int 0, .int 0, .int 0, .int 0, .ref d13, .ref d14, .ref d15, .ref d16, .ref d17, .ref d18, .ref d19, .ref d20, .ref d21, .ref d22, .ref d23, .ref d24, .ref d25, .ref d26, .ref d27, .ref d28, .ref d29, .ref d30, .ref d31, .ref d32, .ref d33, .ref d34, .ref d35, .ref d36, .int 0, .int 0, .ref d39, .int 0]))]) (w1 := []) hP hD [0] [1] rfl rfl (by decide) (by decide) hk1 hFc gP_nil gD_nil
  clear hPc hDc hFc hz1 hk1
  generalize H1 = H at hP hS ⊢
  have hP : va_P (dC, dI) vwCl [(m0, .inr (4, [.int (nI n), .int 0, .ref d2, .ref d3, .ref d4, .ref d5, .ref d6, .ref d7, .ref d8, .int 0, .int 0, .int 0, .int 0, .ref d13, .ref d14, .ref d15, .ref d16, .ref d17, .ref d18, .ref d19, .ref d20, .ref d21, .ref d22, .ref d23, .ref d24, .ref d25, .ref d26, .ref d27, .ref d28, .ref d29, .ref d30, .ref d31, .ref d32, .ref d33, .ref d34, .ref d35, .ref d36, .int 0, .int 0, .ref d39, .int 0]))] H := hP
  have hD : va_D (fun q : Nat => s.heap.size ≤ q) [(m0, .inr (4, [.int (nI n), .int 0, .ref d2, .ref d3, .ref d4, .ref d5, .ref d6, .ref d7, .ref d8, .int 0, .int 0, .int 0, .int 0, .ref d13, .ref d14, .ref d15, .ref d16, .ref d17, .ref d18, .ref d19, .ref d20, .ref d21, .ref d22, .ref d23, .ref d24, .ref d25, .ref d26, .ref d27, .ref d28, .ref d29, .ref d30, .ref d31, .ref d32, .ref d33, .ref d34, .ref d35, .ref d36, .int 0, .int 0, .ref d39, .int 0]))] := hD
  refine lv_istore (lv' := [(5, .int r_1), (4, .int 1), (3, .ref oo), (2, .ref m0), (1, .ref x), (0, .ref b)]) hx hb dL_law_359 hl (by decide) rfl (fun ls hl => ?_)
  refine lv_aload_n hx hb dL_law_361 rfl (lv_at hl 3 rfl) ?_
  refine lv_aload_n hx hb dL_law_362 rfl (lv_at hl 5 rfl) ?_
  refine lv_iload hx hb dL_law_363 (lv_at hl 1 rfl) ?_
  refine lv_iconst (v := 1) hx hb dL_law_365 (by decide) ?_
  refine lv_iadd hx hb dL_law_366 ?_
  rw [show (1 : Int32) + 1 = 2 from by decide]
  refine va_sld hx hb hX hbl hbA hS (by unfold vp_in; decide +kernel) dL_law_367 ?_
  rw [← hy1]
  have hPc := hP.sub (ws' := [(m0, .inr (4, [.int (nI n), .int 0, .ref d2, .ref d3, .ref d4, .ref d5, .ref d6, .ref d7, .ref d8, .int 0, .int 0, .int 0, .int 0, .ref d13, .ref d14, .ref d15, .ref d16, .ref d17, .ref d18, .ref d19, .ref d20, .ref d21, .ref d22, .ref d23, .ref d24, .ref d25, .ref d26, .ref d27, .ref d28, .ref d29, .ref d30, .ref d31, .ref d32, .ref d33, .ref d34, .ref d35, .ref d36, .int 0, .int 0, .ref d39, .int 0]))]) [0] rfl
  have hDc := hD.sub (ws' := [(m0, .inr (4, [.int (nI n), .int 0, .ref d2, .ref d3, .ref d4, .ref d5, .ref d6, .ref d7, .ref d8, .int 0, .int 0, .int 0, .int 0, .ref d13, .ref d14, .ref d15, .ref d16, .ref d17, .ref d18, .ref d19, .ref d20, .ref d21, .ref d22, .ref d23, .ref d24, .ref d25, .ref d26, .ref d27, .ref d28, .ref d29, .ref d30, .ref d31, .ref d32, .ref d33, .ref d34, .ref d35, .ref d36, .int 0, .int 0, .ref d39, .int 0]))]) [0] (by decide) rfl
  have hFc := va_free (wc := [(m0, .inr (4, [.int (nI n), .int 0, .ref d2, .ref d3, .ref d4, .ref d5, .ref d6, .ref d7, .ref d8, .int 0, .int 0, .int 0, .int 0, .ref d13, .ref d14, .ref d15, .ref d16, .ref d17, .ref d18, .ref d19, .ref d20, .ref d21, .ref d22, .ref d23, .ref d24, .ref d25, .ref d26, .ref d27, .ref d28, .ref d29, .ref d30, .ref d31, .ref d32, .ref d33, .ref d34, .ref d35, .ref d36, .int 0, .int 0, .ref d39, .int 0]))]) hD hS hA [0] rfl
  refine va_calli (va_runV (As := [.int y1]) (rest := []) ⟨hx, hb, hml, hown, hg⟩ (c_X4_calm_bad l dC dI cI cZ cN cO m0 d2 d3 d4 d5 d6 d7 d8 d13 d14 d15 d16 d17 d18 d19 d20 d21 d22 d23 d24 d25 d26 d27 d28 d29 d30 d31 d32 d33 d34 d35 d36 d39 n y1 H.size hbad) (cwV 1 hg (gw_V kM_L_62 kI_X4_calm kS_X4_calm kN_X4 kD_X4_calm) rfl rfl rfl (by decide +kernel) ⟨Nat.le_of_ble_eq_true rfl, Nat.le_of_ble_eq_true rfl⟩) ⟨fun a U g mk q => by obtain ⟨q0, q1, qP, qK, qD⟩ := q; exact ⟨q0, q1, qP, va_K.moved (u := U) (U := U.calling g mk a) (Vm.Alike.refl U.vm) qK, qD⟩, va_recv hK hP (ci := 4) (q0 := 0) rfl rfl, fun U hU hW => ⟨rfl, by rw [hU], by rw [hU]; exact hPc, va_K.moved hW.alike (hK.sub (tys' := gTy cI cZ cN cO) [0, 1, 2, 3] rfl), hDc.weaken (fun _ _ _ _ => trivial)⟩⟩ rfl rfl hl.1 rfl (lv_room (Nat.le_of_ble_eq_true rfl)) dL_law_368 ⟨Nat.le_of_ble_eq_true rfl, Nat.le_of_ble_eq_true rfl⟩) hS (fun q _ h => hFc q h) hFc (fun r_2 u t H1 locs ht hvm hwr_2 hB hz1 hk1 hS => ?_)
  obtain ⟨fs_3, hfs_4, hP1, hK1, hD1⟩ := hB
  rw [ht] at hP1
  obtain ⟨hP, hD⟩ := va_join (wr := []) (w1 := [(m0, .inr (4, fs_3))]) hP hD [0] [] rfl rfl (by decide) (by decide) hk1 hFc hP1 hD1
  clear hPc hDc hFc hP1 hK1 hD1 hz1 hk1 ht
  generalize H1 = H at hP hS ⊢
  have hP : va_P (dC, dI) vwCl [(m0, .inr (4, fs_3))] H := hP
  have hD : va_D (fun q : Nat => s.heap.size ≤ q) [(m0, .inr (4, fs_3))] := hD
  refine lv_istore (lv' := [(6, .int r_2), (5, .int r_1), (4, .int 1), (3, .ref oo), (2, .ref m0), (1, .ref x), (0, .ref b)]) hx hb dL_law_371 hl (by decide) rfl (fun ls hl => ?_)
  refine lv_aload_n hx hb dL_law_373 rfl (lv_at hl 4 rfl) ?_
  have hPc := hP.sub (ws' := [(m0, .inr (4, fs_3))]) [0] rfl
  refine vp_callSi (W.runV (As := []) (rest := []) ⟨hx, hb, hml, hown, hg⟩ (c_X4_thrown l dC dI cI cZ cN cO m0 fs_3 1 hfs_4) (cwV 0 hg (gw_V kM_L_48 kI_X4_thrown kS_X4_thrown kN_X4 kD_X4_thrown) rfl rfl rfl (by decide +kernel) ⟨Nat.le_of_ble_eq_true rfl, Nat.le_of_ble_eq_true rfl⟩) ⟨fun a U g mk q => by obtain ⟨q0, qP, qK⟩ := q; exact ⟨q0, qP, va_K.moved (u := U) (U := U.calling g mk a) (Vm.Alike.refl U.vm) qK⟩, va_recv hK hP (ci := 4) (q0 := 0) rfl rfl, fun U hU hW => ⟨rfl, by rw [hU]; exact hPc, va_K.moved hW.alike (hK.sub (tys' := gTy cI cZ cN cO) [0, 1, 2, 3] rfl)⟩⟩ rfl rfl hl.1 rfl (lv_room (Nat.le_of_ble_eq_true rfl)) dL_law_374 ⟨Nat.le_of_ble_eq_true rfl, Nat.le_of_ble_eq_true rfl⟩) (fun r_5 hr_5 => ?_)
  refine lv_iload hx hb dL_law_377 (lv_at hl 1 rfl) ?_
  refine lv_icmp_eq (tgt := 384) hx hb dL_law_379 (by decide) (fun c_379 => ?_) (fun c_379 => absurd (by rw [hr_5, hwr_1]) c_379)
  refine lv_iload hx hb dL_law_384 (lv_at hl 1 rfl) ?_
  refine lv_if_ne (tgt := 401) hx hb dL_law_386 (by decide) (fun c_386 => ?_) (fun c_386 => absurd c_386 (by rw [hwr_1]; decide))
  refine lv_goto (tgt := 753) hx hb dL_law_401 (by decide) ?_
  exact law_end C9 hS (Nat.le_of_ble_eq_true rfl) (by first | exact Nat.le_of_ble_eq_true rfl | (show _ ≤ 7302198; omega)) (lv_sub hl [2, 6] rfl)
set_option maxHeartbeats 4000000 in
set_option maxRecDepth 100000 in
theorem lc_crash_no {p : Program} {l : Launch} {e : Env} {s : State} {m : MethodId} {below : List Frame} {meth : Method} {c : Code} {b : Nat} {xs : Nat → Int32} (C0 : lw_At p s m meth c b 6 xs) {dC : Nat → ClassId} {dI : Nat → Nat → Nat} {cI cZ cN cO cL : ClassId} (hK : va_K (dC, dI) vwCl (gTyL cI cZ cN cO cL) s) (x oo : Nat) (na ro oa : Nat) (fn : Nat → Option Nat) (m0 d2 d3 d4 d5 d6 d7 d8 d13 d14 d15 d16 d17 d18 d19 d20 d21 d22 d23 d24 d25 d26 d27 d28 d29 d30 d31 d32 d33 d34 d35 d36 d39 n : Nat)  {H : Heap} {locs : List Loc} (hP : va_P (dC, dI) vwCl [(x, .inr (3, [.ref na, .ref ro, .ref oa, .int 0, .int 0, .int 0, .int 0, .int 0, .int 0])), (na, .inl (cN, n, .inr (.inr (.inr (.inr fn))))), (m0, .inr (4, [.int (nI n), .int 0, .ref d2, .ref d3, .ref d4, .ref d5, .ref d6, .ref d7, .ref d8, .int 0, .int 0, .int 0, .int 0, .ref d13, .ref d14, .ref d15, .ref d16, .ref d17, .ref d18, .ref d19, .ref d20, .ref d21, .ref d22, .ref d23, .ref d24, .ref d25, .ref d26, .ref d27, .ref d28, .ref d29, .ref d30, .ref d31, .ref d32, .ref d33, .ref d34, .ref d35, .ref d36, .int 0, .int 0, .ref d39, .int 0]))] H) (hD : va_D (fun q : Nat => s.heap.size ≤ q) [(x, .inr (3, [.ref na, .ref ro, .ref oa, .int 0, .int 0, .int 0, .int 0, .int 0, .int 0])), (na, .inl (cN, n, .inr (.inr (.inr (.inr fn))))), (m0, .inr (4, [.int (nI n), .int 0, .ref d2, .ref d3, .ref d4, .ref d5, .ref d6, .ref d7, .ref d8, .int 0, .int 0, .int 0, .int 0, .ref d13, .ref d14, .ref d15, .ref d16, .ref d17, .ref d18, .ref d19, .ref d20, .ref d21, .ref d22, .ref d23, .ref d24, .ref d25, .ref d26, .ref d27, .ref d28, .ref d29, .ref d30, .ref d31, .ref d32, .ref d33, .ref d34, .ref d35, .ref d36, .int 0, .int 0, .ref d39, .int 0]))]) (hS : va_S (fun q : Nat => s.heap.size ≤ q) s.heap H locs) {ls : Array Slot} (hl : lv_has ls 7 [(4, .int 1), (3, .ref oo), (2, .ref m0), (1, .ref x), (0, .ref b)]) (y1 y2 y3 y4 : Int32) (hy1 : y1 = xs (2 : Int32).toNatClampNeg) (hy2 : y2 = xs (3 : Int32).toNatClampNeg) (hy3 : y3 = xs (4 : Int32).toNatClampNeg) (hy4 : y4 = xs (5 : Int32).toNatClampNeg) (sa : Nat) (hst : l.stackTraces = false) (hTh : gThr (fun q : Nat => s.heap.size ≤ q) s s.heap) (hBo : gThB "java/lang/IndexOutOfBoundsException" s) (hBa : gThB "java/lang/IllegalArgumentException" s) (hNc : va_Nc "java/lang/IllegalArgumentException" "java/lang/IndexOutOfBoundsException" s)(hR : vk_R RX3 39 "there is no such node" sa s) (hno : ¬ isN n y1) : W p l e room_1 s m #[Value.ref b] below meth c H locs 300 200000 (lw_Z below #[Value.ref b] s) (F0 m 404 ls []) := by
  have C9 := C0
  obtain ⟨hx, hb, hr, hml, hown, hts, hX, hbl, hlocks, hgv⟩ := C0
  have hg : ∀ w ∈ gw, w.before _ s = true := fun w h => hts w (List.mem_filter.mp h).1
  have hA : ∀ q : Nat, s.heap.size ≤ q → (fun q : Nat => s.heap.size ≤ q) q := fun _ h => h
  have hbA : ¬ (fun q : Nat => s.heap.size ≤ q) b := Nat.not_le.mpr hbl
  refine lv_aload_n hx hb dL_law_404 rfl (lv_at hl 3 rfl) ?_
  refine lv_aload_n hx hb dL_law_405 rfl (lv_at hl 4 rfl) ?_
  refine lv_iload hx hb dL_law_406 (lv_at hl 0 rfl) ?_
  refine lv_iconst (v := 1) hx hb dL_law_408 (by decide) ?_
  refine lv_iadd hx hb dL_law_409 ?_
  rw [show (1 : Int32) + 1 = 2 from by decide]
  refine va_sld hx hb hX hbl hbA hS (by unfold vp_in; decide +kernel) dL_law_410 ?_
  rw [← hy1]
  refine lv_aload_n hx hb dL_law_411 rfl (lv_at hl 1 rfl) ?_
  have hPc := hP.sub (ws' := [(x, .inr (3, [.ref na, .ref ro, .ref oa, .int 0, .int 0, .int 0, .int 0, .int 0, .int 0])), (na, .inl (cN, n, .inr (.inr (.inr (.inr fn)))))]) [0, 1] rfl
  have hDc := hD.sub (ws' := [(x, .inr (3, [.ref na, .ref ro, .ref oa, .int 0, .int 0, .int 0, .int 0, .int 0, .int 0])), (na, .inl (cN, n, .inr (.inr (.inr (.inr fn)))))]) [0, 1] (by decide) rfl
  have hFc := va_free (wc := [(x, .inr (3, [.ref na, .ref ro, .ref oa, .int 0, .int 0, .int 0, .int 0, .int 0, .int 0])), (na, .inl (cN, n, .inr (.inr (.inr (.inr fn)))))]) hD hS hA [0, 1] rfl
  refine va_calli (vx_runSW (As := [.ref x, .int y1, .ref oo]) (rest := []) ⟨hx, hb, hml, hown, hg⟩ (h_crash_no l dC dI cI cZ cN cO x na ro oa n fn y1 oo H.size sa hst hno) (vx_cwSW 3 hg (gw_SW kM_L_63 kT_L_crash kN_L kW_L_crash) rfl rfl rfl (by decide +kernel) ⟨Nat.le_of_ble_eq_true rfl, Nat.le_of_ble_eq_true rfl⟩) ⟨fun a U g mk q => by obtain ⟨q0, q1, qP, qK, qR, qB, qT⟩ := q; exact ⟨q0, q1, qP, va_K.moved (u := U) (U := U.calling g mk a) (Vm.Alike.refl U.vm) qK, vk_R.same rfl qR, gThB.same (u := U) (U := U.calling g mk a) rfl qB, gThr.moved (u := U) (U := U.calling g mk a) (Vm.Alike.refl U.vm) qT⟩, fun U hU hW => ⟨rfl, by rw [hU], by rw [hU]; exact hPc, va_K.moved hW.alike (hK.sub (tys' := gTy cI cZ cN cO) [0, 1, 2, 3] rfl), vk_R.warm hW hR, gThB.warm hW hBo, (by rw [hU]; exact gThr.moved hW.alike ((hTh.kept (fun a h1 h2 => hS.2.1 a h1 h2)).narrow hFc))⟩⟩ rfl rfl hl.1 rfl (lv_room (Nat.le_of_ble_eq_true rfl)) dL_law_412 ⟨Nat.le_of_ble_eq_true rfl, Nat.le_of_ble_eq_true rfl⟩) hS (fun q _ h => hFc q h) hFc (fun r_1 u t H1 locs ht hvm hwr_1 hB1 hz1 hk1 hS => ?_)
  obtain ⟨hP, hD⟩ := va_join (wr := [(m0, .inr (4, [.int (nI n), .int 0, .ref d2, .ref d3, .ref d4, .ref d5, .ref d6, .ref d7, .ref d8, .int 0, .int 0, .int 0, .int 0, .ref d13, .ref d14, .ref d15, .ref d16, .ref d17, .ref d18, .ref d19, .ref d20, .ref d21, .ref d22, .ref d23, .ref d24, .ref d25, .ref d26, .ref d27, .ref d28, .ref d29, .ref d30, .ref d31, .ref d32, .ref d33, .ref d34, .ref d35, .ref d36, .int 0, .int 0, .ref d39, .int 0]))]) (w1 := []) hP hD [0, 1] [2] rfl rfl (by decide) (by decide) hk1 hFc gP_nil gD_nil
  clear hPc hDc hFc hz1 hk1
  generalize H1 = H at hP hS ⊢
  have hP : va_P (dC, dI) vwCl [(m0, .inr (4, [.int (nI n), .int 0, .ref d2, .ref d3, .ref d4, .ref d5, .ref d6, .ref d7, .ref d8, .int 0, .int 0, .int 0, .int 0, .ref d13, .ref d14, .ref d15, .ref d16, .ref d17, .ref d18, .ref d19, .ref d20, .ref d21, .ref d22, .ref d23, .ref d24, .ref d25, .ref d26, .ref d27, .ref d28, .ref d29, .ref d30, .ref d31, .ref d32, .ref d33, .ref d34, .ref d35, .ref d36, .int 0, .int 0, .ref d39, .int 0]))] H := hP
  have hD : va_D (fun q : Nat => s.heap.size ≤ q) [(m0, .inr (4, [.int (nI n), .int 0, .ref d2, .ref d3, .ref d4, .ref d5, .ref d6, .ref d7, .ref d8, .int 0, .int 0, .int 0, .int 0, .ref d13, .ref d14, .ref d15, .ref d16, .ref d17, .ref d18, .ref d19, .ref d20, .ref d21, .ref d22, .ref d23, .ref d24, .ref d25, .ref d26, .ref d27, .ref d28, .ref d29, .ref d30, .ref d31, .ref d32, .ref d33, .ref d34, .ref d35, .ref d36, .int 0, .int 0, .ref d39, .int 0]))] := hD
  refine lv_istore (lv' := [(5, .int r_1), (4, .int 1), (3, .ref oo), (2, .ref m0), (1, .ref x), (0, .ref b)]) hx hb dL_law_415 hl (by decide) rfl (fun ls hl => ?_)
  refine lv_aload_n hx hb dL_law_417 rfl (lv_at hl 3 rfl) ?_
  refine lv_aload_n hx hb dL_law_418 rfl (lv_at hl 5 rfl) ?_
  refine lv_iload hx hb dL_law_419 (lv_at hl 1 rfl) ?_
  refine lv_iconst (v := 1) hx hb dL_law_421 (by decide) ?_
  refine lv_iadd hx hb dL_law_422 ?_
  rw [show (1 : Int32) + 1 = 2 from by decide]
  refine va_sld hx hb hX hbl hbA hS (by unfold vp_in; decide +kernel) dL_law_423 ?_
  rw [← hy1]
  have hPc := hP.sub (ws' := [(m0, .inr (4, [.int (nI n), .int 0, .ref d2, .ref d3, .ref d4, .ref d5, .ref d6, .ref d7, .ref d8, .int 0, .int 0, .int 0, .int 0, .ref d13, .ref d14, .ref d15, .ref d16, .ref d17, .ref d18, .ref d19, .ref d20, .ref d21, .ref d22, .ref d23, .ref d24, .ref d25, .ref d26, .ref d27, .ref d28, .ref d29, .ref d30, .ref d31, .ref d32, .ref d33, .ref d34, .ref d35, .ref d36, .int 0, .int 0, .ref d39, .int 0]))]) [0] rfl
  have hDc := hD.sub (ws' := [(m0, .inr (4, [.int (nI n), .int 0, .ref d2, .ref d3, .ref d4, .ref d5, .ref d6, .ref d7, .ref d8, .int 0, .int 0, .int 0, .int 0, .ref d13, .ref d14, .ref d15, .ref d16, .ref d17, .ref d18, .ref d19, .ref d20, .ref d21, .ref d22, .ref d23, .ref d24, .ref d25, .ref d26, .ref d27, .ref d28, .ref d29, .ref d30, .ref d31, .ref d32, .ref d33, .ref d34, .ref d35, .ref d36, .int 0, .int 0, .ref d39, .int 0]))]) [0] (by decide) rfl
  have hFc := va_free (wc := [(m0, .inr (4, [.int (nI n), .int 0, .ref d2, .ref d3, .ref d4, .ref d5, .ref d6, .ref d7, .ref d8, .int 0, .int 0, .int 0, .int 0, .ref d13, .ref d14, .ref d15, .ref d16, .ref d17, .ref d18, .ref d19, .ref d20, .ref d21, .ref d22, .ref d23, .ref d24, .ref d25, .ref d26, .ref d27, .ref d28, .ref d29, .ref d30, .ref d31, .ref d32, .ref d33, .ref d34, .ref d35, .ref d36, .int 0, .int 0, .ref d39, .int 0]))]) hD hS hA [0] rfl
  refine va_calli (va_runV (As := [.int y1]) (rest := []) ⟨hx, hb, hml, hown, hg⟩ (c_X4_crash_no l dC dI cI cZ cN cO m0 d2 d3 d4 d5 d6 d7 d8 d13 d14 d15 d16 d17 d18 d19 d20 d21 d22 d23 d24 d25 d26 d27 d28 d29 d30 d31 d32 d33 d34 d35 d36 d39 n y1 H.size hno) (cwV 1 hg (gw_V kM_L_65 kI_X4_crash kS_X4_crash kN_X4 kD_X4_crash) rfl rfl rfl (by decide +kernel) ⟨Nat.le_of_ble_eq_true rfl, Nat.le_of_ble_eq_true rfl⟩) ⟨fun a U g mk q => by obtain ⟨q0, q1, qP, qK, qD⟩ := q; exact ⟨q0, q1, qP, va_K.moved (u := U) (U := U.calling g mk a) (Vm.Alike.refl U.vm) qK, qD⟩, va_recv hK hP (ci := 4) (q0 := 0) rfl rfl, fun U hU hW => ⟨rfl, by rw [hU], by rw [hU]; exact hPc, va_K.moved hW.alike (hK.sub (tys' := gTy cI cZ cN cO) [0, 1, 2, 3] rfl), hDc.weaken (fun _ _ _ _ => trivial)⟩⟩ rfl rfl hl.1 rfl (lv_room (Nat.le_of_ble_eq_true rfl)) dL_law_424 ⟨Nat.le_of_ble_eq_true rfl, Nat.le_of_ble_eq_true rfl⟩) hS (fun q _ h => hFc q h) hFc (fun r_2 u t H1 locs ht hvm hwr_2 hB hz1 hk1 hS => ?_)
  obtain ⟨fs_3, hfs_4, hP1, hK1, hD1⟩ := hB
  rw [ht] at hP1
  obtain ⟨hP, hD⟩ := va_join (wr := []) (w1 := [(m0, .inr (4, fs_3))]) hP hD [0] [] rfl rfl (by decide) (by decide) hk1 hFc hP1 hD1
  clear hPc hDc hFc hP1 hK1 hD1 hz1 hk1 ht
  generalize H1 = H at hP hS ⊢
  have hP : va_P (dC, dI) vwCl [(m0, .inr (4, fs_3))] H := hP
  have hD : va_D (fun q : Nat => s.heap.size ≤ q) [(m0, .inr (4, fs_3))] := hD
  refine lv_istore (lv' := [(6, .int r_2), (5, .int r_1), (4, .int 1), (3, .ref oo), (2, .ref m0), (1, .ref x), (0, .ref b)]) hx hb dL_law_427 hl (by decide) rfl (fun ls hl => ?_)
  refine lv_aload_n hx hb dL_law_429 rfl (lv_at hl 4 rfl) ?_
  have hPc := hP.sub (ws' := [(m0, .inr (4, fs_3))]) [0] rfl
  refine vp_callSi (W.runV (As := []) (rest := []) ⟨hx, hb, hml, hown, hg⟩ (c_X4_thrown l dC dI cI cZ cN cO m0 fs_3 1 hfs_4) (cwV 0 hg (gw_V kM_L_48 kI_X4_thrown kS_X4_thrown kN_X4 kD_X4_thrown) rfl rfl rfl (by decide +kernel) ⟨Nat.le_of_ble_eq_true rfl, Nat.le_of_ble_eq_true rfl⟩) ⟨fun a U g mk q => by obtain ⟨q0, qP, qK⟩ := q; exact ⟨q0, qP, va_K.moved (u := U) (U := U.calling g mk a) (Vm.Alike.refl U.vm) qK⟩, va_recv hK hP (ci := 4) (q0 := 0) rfl rfl, fun U hU hW => ⟨rfl, by rw [hU]; exact hPc, va_K.moved hW.alike (hK.sub (tys' := gTy cI cZ cN cO) [0, 1, 2, 3] rfl)⟩⟩ rfl rfl hl.1 rfl (lv_room (Nat.le_of_ble_eq_true rfl)) dL_law_430 ⟨Nat.le_of_ble_eq_true rfl, Nat.le_of_ble_eq_true rfl⟩) (fun r_5 hr_5 => ?_)
  refine lv_iload hx hb dL_law_433 (lv_at hl 1 rfl) ?_
  refine lv_icmp_eq (tgt := 440) hx hb dL_law_435 (by decide) (fun c_435 => ?_) (fun c_435 => absurd (by rw [hr_5, hwr_1]) c_435)
  refine lv_iload hx hb dL_law_440 (lv_at hl 1 rfl) ?_
  refine lv_if_ne (tgt := 464) hx hb dL_law_442 (by decide) (fun c_442 => ?_) (fun c_442 => absurd c_442 (by rw [hwr_1]; decide))
  refine lv_goto (tgt := 753) hx hb dL_law_464 (by decide) ?_
  exact law_end C9 hS (Nat.le_of_ble_eq_true rfl) (by first | exact Nat.le_of_ble_eq_true rfl | (show _ ≤ 7302198; omega)) (lv_sub hl [2, 6] rfl)
set_option maxHeartbeats 4000000 in
set_option maxRecDepth 100000 in
theorem lc_update_ok {p : Program} {l : Launch} {e : Env} {s : State} {m : MethodId} {below : List Frame} {meth : Method} {c : Code} {b : Nat} {xs : Nat → Int32} (C0 : lw_At p s m meth c b 6 xs) {dC : Nat → ClassId} {dI : Nat → Nat → Nat} {cI cZ cN cO cL : ClassId} (hK : va_K (dC, dI) vwCl (gTyL cI cZ cN cO cL) s) (x oo : Nat) (na ro oa : Nat) (fn : Nat → Option Nat) (nd a1 a2 a3 a4 a5 b1 b2 b3 b4 b5 b6 : Nat) (ix : Int32) (fs : Nat → Int32) (m0 d2 d3 d4 d5 d6 d7 d8 d13 d14 d15 d16 d17 d18 d19 d20 d21 d22 d23 d24 d25 d26 d27 d28 d29 d30 d31 d32 d33 d34 d35 d36 d39 n : Nat)  {H : Heap} {locs : List Loc} (hP : va_P (dC, dI) vwCl [(x, .inr (3, [.ref na, .ref ro, .ref oa, .int 0, .int 0, .int 0, .int 0, .int 0, .int 0])), (na, .inl (cN, n, .inr (.inr (.inr (.inr fn))))), (nd, .inr (0, [.int ix, .ref a1, .ref a2, .ref a3, .ref a4, .ref a5, .int 1, .int 0, .int 0, .int 0, .null])), (a2, .inl (cI, n, .inl ((fun _ => 0)))), (a4, .inl (cI, n, .inl ((fun _ => 0)))), (ro, .inr (2, [.int (nI n), .ref b1, .ref b2, .ref b3, .ref b4, .ref b5, .ref b6, .int 0, .int 0, .int 0])), (b1, .inl (cI, 2000, .inl fs)), (b2, .inl (cI, 2000, .inl ((fun _ => 0)))), (b3, .inl (cI, 2000, .inl ((fun _ => 0)))), (b4, .inl (cI, 2000, .inl ((fun _ => 0)))), (b5, .inl (cI, 2000, .inl ((fun _ => 0)))), (oa, .inl (cO, 512, .inr (.inr (.inr (.inr ((fun _ => none))))))), (oo, .inl (cL, 1, .inr (.inl ((fun _ => 0))))), (m0, .inr (4, [.int (nI n), .int 0, .ref d2, .ref d3, .ref d4, .ref d5, .ref d6, .ref d7, .ref d8, .int 0, .int 0, .int 0, .int 0, .ref d13, .ref d14, .ref d15, .ref d16, .ref d17, .ref d18, .ref d19, .ref d20, .ref d21, .ref d22, .ref d23, .ref d24, .ref d25, .ref d26, .ref d27, .ref d28, .ref d29, .ref d30, .ref d31, .ref d32, .ref d33, .ref d34, .ref d35, .ref d36, .int 0, .int 0, .ref d39, .int 0])), (d13, .inl (cZ, 31, .inl ((fun _ => 0)))), (d14, .inl (cI, 31, .inl ((fun _ => 0)))), (d26, .inl (cI, 512, .inl ((fun _ => 0)))), (d27, .inl (cI, 512, .inl ((fun _ => 0)))), (d28, .inl (cI, 512, .inl ((fun _ => 0)))), (d29, .inl (cI, 512, .inl ((fun _ => 0)))), (d30, .inl (cI, 512, .inl ((fun _ => 0)))), (d31, .inl (cI, 512, .inl ((fun _ => 0)))), (d33, .inl (cI, 512, .inl ((fun _ => 0)))), (d16, .inl (cI, 31, .inl ((fun _ => 0)))), (d24, .inl (cZ, 31, .inl ((fun _ => 0)))), (d25, .inl (cI, 961, .inl ((fun _ => 0)))), (d32, .inl (cI, 512, .inl ((fun _ => 0)))), (d21, .inl (cI, 961, .inl ((fun _ => 0)))), (d15, .inl (cI, 31, .inl ((fun _ => 0)))), (d17, .inl (cI, 31, .inl ((fun _ => 0)))), (d2, .inl (cI, 2001, .inl ((fun _ => 0)))), (d3, .inl (cI, 2001, .inl ((fun _ => 0)))), (d4, .inl (cI, 2001, .inl ((fun _ => 0)))), (d5, .inl (cI, 2001, .inl ((fun _ => 0)))), (d8, .inl (cI, 2001, .inl ((fun _ => 0)))), (d7, .inl (cZ, 2001, .inl ((fun _ => 0))))] H) (hD : va_D (fun q : Nat => s.heap.size ≤ q) [(x, .inr (3, [.ref na, .ref ro, .ref oa, .int 0, .int 0, .int 0, .int 0, .int 0, .int 0])), (na, .inl (cN, n, .inr (.inr (.inr (.inr fn))))), (nd, .inr (0, [.int ix, .ref a1, .ref a2, .ref a3, .ref a4, .ref a5, .int 1, .int 0, .int 0, .int 0, .null])), (a2, .inl (cI, n, .inl ((fun _ => 0)))), (a4, .inl (cI, n, .inl ((fun _ => 0)))), (ro, .inr (2, [.int (nI n), .ref b1, .ref b2, .ref b3, .ref b4, .ref b5, .ref b6, .int 0, .int 0, .int 0])), (b1, .inl (cI, 2000, .inl fs)), (b2, .inl (cI, 2000, .inl ((fun _ => 0)))), (b3, .inl (cI, 2000, .inl ((fun _ => 0)))), (b4, .inl (cI, 2000, .inl ((fun _ => 0)))), (b5, .inl (cI, 2000, .inl ((fun _ => 0)))), (oa, .inl (cO, 512, .inr (.inr (.inr (.inr ((fun _ => none))))))), (oo, .inl (cL, 1, .inr (.inl ((fun _ => 0))))), (m0, .inr (4, [.int (nI n), .int 0, .ref d2, .ref d3, .ref d4, .ref d5, .ref d6, .ref d7, .ref d8, .int 0, .int 0, .int 0, .int 0, .ref d13, .ref d14, .ref d15, .ref d16, .ref d17, .ref d18, .ref d19, .ref d20, .ref d21, .ref d22, .ref d23, .ref d24, .ref d25, .ref d26, .ref d27, .ref d28, .ref d29, .ref d30, .ref d31, .ref d32, .ref d33, .ref d34, .ref d35, .ref d36, .int 0, .int 0, .ref d39, .int 0])), (d13, .inl (cZ, 31, .inl ((fun _ => 0)))), (d14, .inl (cI, 31, .inl ((fun _ => 0)))), (d26, .inl (cI, 512, .inl ((fun _ => 0)))), (d27, .inl (cI, 512, .inl ((fun _ => 0)))), (d28, .inl (cI, 512, .inl ((fun _ => 0)))), (d29, .inl (cI, 512, .inl ((fun _ => 0)))), (d30, .inl (cI, 512, .inl ((fun _ => 0)))), (d31, .inl (cI, 512, .inl ((fun _ => 0)))), (d33, .inl (cI, 512, .inl ((fun _ => 0)))), (d16, .inl (cI, 31, .inl ((fun _ => 0)))), (d24, .inl (cZ, 31, .inl ((fun _ => 0)))), (d25, .inl (cI, 961, .inl ((fun _ => 0)))), (d32, .inl (cI, 512, .inl ((fun _ => 0)))), (d21, .inl (cI, 961, .inl ((fun _ => 0)))), (d15, .inl (cI, 31, .inl ((fun _ => 0)))), (d17, .inl (cI, 31, .inl ((fun _ => 0)))), (d2, .inl (cI, 2001, .inl ((fun _ => 0)))), (d3, .inl (cI, 2001, .inl ((fun _ => 0)))), (d4, .inl (cI, 2001, .inl ((fun _ => 0)))), (d5, .inl (cI, 2001, .inl ((fun _ => 0)))), (d8, .inl (cI, 2001, .inl ((fun _ => 0)))), (d7, .inl (cZ, 2001, .inl ((fun _ => 0))))]) (hS : va_S (fun q : Nat => s.heap.size ≤ q) s.heap H locs) {ls : Array Slot} (hl : lv_has ls 7 [(4, .int 1), (3, .ref oo), (2, .ref m0), (1, .ref x), (0, .ref b)]) (y1 y2 y3 y4 : Int32) (hy1 : y1 = xs (2 : Int32).toNatClampNeg) (hy2 : y2 = xs (3 : Int32).toNatClampNeg) (hy3 : y3 = xs (4 : Int32).toNatClampNeg) (hy4 : y4 = xs (5 : Int32).toNatClampNeg) (j : Nat) (hn : n ≤ 31) (hn3 : 3 ≤ n) (hj : j < n) (hyj : y1 = nI j) (hfs : ∀ j, j < 2000 → fs j = nI j) (hnd : fn j = some nd) (hok1 : ¬ y2 < 0) (hok2 : y2 ≤ 3) : W p l e room_1 s m #[Value.ref b] below meth c H locs 300 200000 (lw_Z below #[Value.ref b] s) (F0 m 120 ls []) := by
  have C9 := C0
  rw [hyj] at hy1
  clear hyj
  obtain ⟨hx, hb, hr, hml, hown, hts, hX, hbl, hlocks, hgv⟩ := C0
  have hg : ∀ w ∈ gw, w.before _ s = true := fun w h => hts w (List.mem_filter.mp h).1
  have hA : ∀ q : Nat, s.heap.size ≤ q → (fun q : Nat => s.heap.size ≤ q) q := fun _ h => h
  have hbA : ¬ (fun q : Nat => s.heap.size ≤ q) b := Nat.not_le.mpr hbl
  refine lv_aload_n hx hb dL_law_120 rfl (lv_at hl 3 rfl) ?_
  refine lv_aload_n hx hb dL_law_121 rfl (lv_at hl 4 rfl) ?_
  refine lv_iload hx hb dL_law_122 (lv_at hl 0 rfl) ?_
  refine lv_iconst (v := 1) hx hb dL_law_124 (by decide) ?_
  refine lv_iadd hx hb dL_law_125 ?_
  rw [show (1 : Int32) + 1 = 2 from by decide]
  refine va_sld hx hb hX hbl hbA hS (by unfold vp_in; decide +kernel) dL_law_126 ?_
  rw [← hy1]
  refine lv_aload_n hx hb dL_law_127 rfl (lv_at hl 4 rfl) ?_
  refine lv_iload hx hb dL_law_128 (lv_at hl 0 rfl) ?_
  refine lv_iconst (v := 2) hx hb dL_law_130 (by decide) ?_
  refine lv_iadd hx hb dL_law_131 ?_
  rw [show (1 : Int32) + 2 = 3 from by decide]
  refine va_sld hx hb hX hbl hbA hS (by unfold vp_in; decide +kernel) dL_law_132 ?_
  rw [← hy2]
  refine lv_aload_n hx hb dL_law_133 rfl (lv_at hl 4 rfl) ?_
  refine lv_iload hx hb dL_law_134 (lv_at hl 0 rfl) ?_
  refine lv_iconst (v := 3) hx hb dL_law_136 (by decide) ?_
  refine lv_iadd hx hb dL_law_137 ?_
  rw [show (1 : Int32) + 3 = 4 from by decide]
  refine va_sld hx hb hX hbl hbA hS (by unfold vp_in; decide +kernel) dL_law_138 ?_
  rw [← hy3]
  refine lv_aload_n hx hb dL_law_139 rfl (lv_at hl 4 rfl) ?_
  refine lv_iload hx hb dL_law_140 (lv_at hl 0 rfl) ?_
  refine lv_iconst (v := 4) hx hb dL_law_142 (by decide) ?_
  refine lv_iadd hx hb dL_law_143 ?_
  rw [show (1 : Int32) + 4 = 5 from by decide]
  refine va_sld hx hb hX hbl hbA hS (by unfold vp_in; decide +kernel) dL_law_144 ?_
  rw [← hy4]
  refine lv_aload_n hx hb dL_law_145 rfl (lv_at hl 1 rfl) ?_
  have hPc := hP.sub (ws' := [(x, .inr (3, [.ref na, .ref ro, .ref oa, .int 0, .int 0, .int 0, .int 0, .int 0, .int 0])), (na, .inl (cN, n, .inr (.inr (.inr (.inr fn))))), (nd, .inr (0, [.int ix, .ref a1, .ref a2, .ref a3, .ref a4, .ref a5, .int 1, .int 0, .int 0, .int 0, .null])), (a2, .inl (cI, n, .inl ((fun _ => 0)))), (a4, .inl (cI, n, .inl ((fun _ => 0)))), (ro, .inr (2, [.int (nI n), .ref b1, .ref b2, .ref b3, .ref b4, .ref b5, .ref b6, .int 0, .int 0, .int 0])), (b1, .inl (cI, 2000, .inl fs)), (b2, .inl (cI, 2000, .inl ((fun _ => 0)))), (b3, .inl (cI, 2000, .inl ((fun _ => 0)))), (b4, .inl (cI, 2000, .inl ((fun _ => 0)))), (b5, .inl (cI, 2000, .inl ((fun _ => 0)))), (oa, .inl (cO, 512, .inr (.inr (.inr (.inr ((fun _ => none))))))), (oo, .inl (cL, 1, .inr (.inl ((fun _ => 0)))))]) [0, 1, 2, 3, 4, 5, 6, 7, 8, 9, 10, 11, 12] rfl
  have hDc := hD.sub (ws' := [(x, .inr (3, [.ref na, .ref ro, .ref oa, .int 0, .int 0, .int 0, .int 0, .int 0, .int 0])), (na, .inl (cN, n, .inr (.inr (.inr (.inr fn))))), (nd, .inr (0, [.int ix, .ref a1, .ref a2, .ref a3, .ref a4, .ref a5, .int 1, .int 0, .int 0, .int 0, .null])), (a2, .inl (cI, n, .inl ((fun _ => 0)))), (a4, .inl (cI, n, .inl ((fun _ => 0)))), (ro, .inr (2, [.int (nI n), .ref b1, .ref b2, .ref b3, .ref b4, .ref b5, .ref b6, .int 0, .int 0, .int 0])), (b1, .inl (cI, 2000, .inl fs)), (b2, .inl (cI, 2000, .inl ((fun _ => 0)))), (b3, .inl (cI, 2000, .inl ((fun _ => 0)))), (b4, .inl (cI, 2000, .inl ((fun _ => 0)))), (b5, .inl (cI, 2000, .inl ((fun _ => 0)))), (oa, .inl (cO, 512, .inr (.inr (.inr (.inr ((fun _ => none))))))), (oo, .inl (cL, 1, .inr (.inl ((fun _ => 0)))))]) [0, 1, 2, 3, 4, 5, 6, 7, 8, 9, 10, 11, 12] (by decide) rfl
  have hFc := va_free (wc := [(x, .inr (3, [.ref na, .ref ro, .ref oa, .int 0, .int 0, .int 0, .int 0, .int 0, .int 0])), (na, .inl (cN, n, .inr (.inr (.inr (.inr fn))))), (nd, .inr (0, [.int ix, .ref a1, .ref a2, .ref a3, .ref a4, .ref a5, .int 1, .int 0, .int 0, .int 0, .null])), (a2, .inl (cI, n, .inl ((fun _ => 0)))), (a4, .inl (cI, n, .inl ((fun _ => 0)))), (ro, .inr (2, [.int (nI n), .ref b1, .ref b2, .ref b3, .ref b4, .ref b5, .ref b6, .int 0, .int 0, .int 0])), (b1, .inl (cI, 2000, .inl fs)), (b2, .inl (cI, 2000, .inl ((fun _ => 0)))), (b3, .inl (cI, 2000, .inl ((fun _ => 0)))), (b4, .inl (cI, 2000, .inl ((fun _ => 0)))), (b5, .inl (cI, 2000, .inl ((fun _ => 0)))), (oa, .inl (cO, 512, .inr (.inr (.inr (.inr ((fun _ => none))))))), (oo, .inl (cL, 1, .inr (.inl ((fun _ => 0)))))]) hD hS hA [0, 1, 2, 3, 4, 5, 6, 7, 8, 9, 10, 11, 12] rfl
  refine va_calli (vx_runSW (As := [.ref x, .int (nI j), .int y2, .int y3, .int y4, .ref oo]) (rest := []) ⟨hx, hb, hml, hown, hg⟩ (h_update_ok l dC dI cI cZ cN cO cL x na ro oa n fn nd a1 a2 a3 a4 a5 b1 b2 b3 b4 b5 b6 ix (nI j) y2 y3 y4 fs oo (fun _ => 0) H.size hn hfs ⟨nI_pos (by omega), nI_ge hj (by omega)⟩ (by rw [nI_clamp (by omega)]; exact hnd) hok1 hok2) (vx_cwSW 6 hg (gw_SW kM_L_44 kT_L_update kN_L kW_L_update) rfl rfl rfl (by decide +kernel) ⟨Nat.le_of_ble_eq_true rfl, Nat.le_of_ble_eq_true rfl⟩) ⟨fun a U g mk q => by obtain ⟨q0, q1, qP, qK, qD⟩ := q; exact ⟨q0, q1, qP, va_K.moved (u := U) (U := U.calling g mk a) (Vm.Alike.refl U.vm) qK, qD⟩, fun U hU hW => ⟨rfl, by rw [hU], by rw [hU]; exact hPc, va_K.moved hW.alike hK, hDc.weaken (fun _ _ _ _ => trivial)⟩⟩ rfl rfl hl.1 rfl (lv_room (Nat.le_of_ble_eq_true rfl)) dL_law_146 ⟨(Nat.le_of_ble_eq_true rfl), (by show 200000 + (12 + n) ≤ 7302198; omega)⟩) hS (fun q _ h => hFc q h) hFc (fun r_1 u t H1 locs ht hvm hwr_1 hB1 hz1 hk1 hS => ?_)
  obtain ⟨g_2, hg_2, hP1, hK1, hD1⟩ := hB1
  rw [ht] at hP1
  obtain ⟨hP, hD⟩ := va_join (wr := [(m0, .inr (4, [.int (nI n), .int 0, .ref d2, .ref d3, .ref d4, .ref d5, .ref d6, .ref d7, .ref d8, .int 0, .int 0, .int 0, .int 0, .ref d13, .ref d14, .ref d15, .ref d16, .ref d17, .ref d18, .ref d19, .ref d20, .ref d21, .ref d22, .ref d23, .ref d24, .ref d25, .ref d26, .ref d27, .ref d28, .ref d29, .ref d30, .ref d31, .ref d32, .ref d33, .ref d34, .ref d35, .ref d36, .int 0, .int 0, .ref d39, .int 0])), (d13, .inl (cZ, 31, .inl ((fun _ => 0)))), (d14, .inl (cI, 31, .inl ((fun _ => 0)))), (d26, .inl (cI, 512, .inl ((fun _ => 0)))), (d27, .inl (cI, 512, .inl ((fun _ => 0)))), (d28, .inl (cI, 512, .inl ((fun _ => 0)))), (d29, .inl (cI, 512, .inl ((fun _ => 0)))), (d30, .inl (cI, 512, .inl ((fun _ => 0)))), (d31, .inl (cI, 512, .inl ((fun _ => 0)))), (d33, .inl (cI, 512, .inl ((fun _ => 0)))), (d16, .inl (cI, 31, .inl ((fun _ => 0)))), (d24, .inl (cZ, 31, .inl ((fun _ => 0)))), (d25, .inl (cI, 961, .inl ((fun _ => 0)))), (d32, .inl (cI, 512, .inl ((fun _ => 0)))), (d21, .inl (cI, 961, .inl ((fun _ => 0)))), (d15, .inl (cI, 31, .inl ((fun _ => 0)))), (d17, .inl (cI, 31, .inl ((fun _ => 0)))), (d2, .inl (cI, 2001, .inl ((fun _ => 0)))), (d3, .inl (cI, 2001, .inl ((fun _ => 0)))), (d4, .inl (cI, 2001, .inl ((fun _ => 0)))), (d5, .inl (cI, 2001, .inl ((fun _ => 0)))), (d8, .inl (cI, 2001, .inl ((fun _ => 0)))), (d7, .inl (cZ, 2001, .inl ((fun _ => 0))))]) (w1 := [(oo, .inl (cL, 1, .inr (.inl g_2)))]) hP hD [0, 1, 2, 3, 4, 5, 6, 7, 8, 9, 10, 11, 12] [13, 14, 15, 16, 17, 18, 19, 20, 21, 22, 23, 24, 25, 26, 27, 28, 29, 30, 31, 32, 33, 34, 35] rfl rfl (by decide) (by decide) hk1 hFc hP1 hD1
  clear hPc hDc hFc hz1 hk1
  generalize H1 = H at hP hS ⊢
  have hP : va_P (dC, dI) vwCl [(m0, .inr (4, [.int (nI n), .int 0, .ref d2, .ref d3, .ref d4, .ref d5, .ref d6, .ref d7, .ref d8, .int 0, .int 0, .int 0, .int 0, .ref d13, .ref d14, .ref d15, .ref d16, .ref d17, .ref d18, .ref d19, .ref d20, .ref d21, .ref d22, .ref d23, .ref d24, .ref d25, .ref d26, .ref d27, .ref d28, .ref d29, .ref d30, .ref d31, .ref d32, .ref d33, .ref d34, .ref d35, .ref d36, .int 0, .int 0, .ref d39, .int 0])), (d13, .inl (cZ, 31, .inl ((fun _ => 0)))), (d14, .inl (cI, 31, .inl ((fun _ => 0)))), (d26, .inl (cI, 512, .inl ((fun _ => 0)))), (d27, .inl (cI, 512, .inl ((fun _ => 0)))), (d28, .inl (cI, 512, .inl ((fun _ => 0)))), (d29, .inl (cI, 512, .inl ((fun _ => 0)))), (d30, .inl (cI, 512, .inl ((fun _ => 0)))), (d31, .inl (cI, 512, .inl ((fun _ => 0)))), (d33, .inl (cI, 512, .inl ((fun _ => 0)))), (d16, .inl (cI, 31, .inl ((fun _ => 0)))), (d24, .inl (cZ, 31, .inl ((fun _ => 0)))), (d25, .inl (cI, 961, .inl ((fun _ => 0)))), (d32, .inl (cI, 512, .inl ((fun _ => 0)))), (d21, .inl (cI, 961, .inl ((fun _ => 0)))), (d15, .inl (cI, 31, .inl ((fun _ => 0)))), (d17, .inl (cI, 31, .inl ((fun _ => 0)))), (d2, .inl (cI, 2001, .inl ((fun _ => 0)))), (d3, .inl (cI, 2001, .inl ((fun _ => 0)))), (d4, .inl (cI, 2001, .inl ((fun _ => 0)))), (d5, .inl (cI, 2001, .inl ((fun _ => 0)))), (d8, .inl (cI, 2001, .inl ((fun _ => 0)))), (d7, .inl (cZ, 2001, .inl ((fun _ => 0)))), (oo, .inl (cL, 1, .inr (.inl g_2)))] H := hP
  have hD : va_D (fun q : Nat => s.heap.size ≤ q) [(m0, .inr (4, [.int (nI n), .int 0, .ref d2, .ref d3, .ref d4, .ref d5, .ref d6, .ref d7, .ref d8, .int 0, .int 0, .int 0, .int 0, .ref d13, .ref d14, .ref d15, .ref d16, .ref d17, .ref d18, .ref d19, .ref d20, .ref d21, .ref d22, .ref d23, .ref d24, .ref d25, .ref d26, .ref d27, .ref d28, .ref d29, .ref d30, .ref d31, .ref d32, .ref d33, .ref d34, .ref d35, .ref d36, .int 0, .int 0, .ref d39, .int 0])), (d13, .inl (cZ, 31, .inl ((fun _ => 0)))), (d14, .inl (cI, 31, .inl ((fun _ => 0)))), (d26, .inl (cI, 512, .inl ((fun _ => 0)))), (d27, .inl (cI, 512, .inl ((fun _ => 0)))), (d28, .inl (cI, 512, .inl ((fun _ => 0)))), (d29, .inl (cI, 512, .inl ((fun _ => 0)))), (d30, .inl (cI, 512, .inl ((fun _ => 0)))), (d31, .inl (cI, 512, .inl ((fun _ => 0)))), (d33, .inl (cI, 512, .inl ((fun _ => 0)))), (d16, .inl (cI, 31, .inl ((fun _ => 0)))), (d24, .inl (cZ, 31, .inl ((fun _ => 0)))), (d25, .inl (cI, 961, .inl ((fun _ => 0)))), (d32, .inl (cI, 512, .inl ((fun _ => 0)))), (d21, .inl (cI, 961, .inl ((fun _ => 0)))), (d15, .inl (cI, 31, .inl ((fun _ => 0)))), (d17, .inl (cI, 31, .inl ((fun _ => 0)))), (d2, .inl (cI, 2001, .inl ((fun _ => 0)))), (d3, .inl (cI, 2001, .inl ((fun _ => 0)))), (d4, .inl (cI, 2001, .inl ((fun _ => 0)))), (d5, .inl (cI, 2001, .inl ((fun _ => 0)))), (d8, .inl (cI, 2001, .inl ((fun _ => 0)))), (d7, .inl (cZ, 2001, .inl ((fun _ => 0)))), (oo, .inl (cL, 1, .inr (.inl g_2)))] := hD
  refine lv_istore (lv' := [(5, .int r_1), (4, .int 1), (3, .ref oo), (2, .ref m0), (1, .ref x), (0, .ref b)]) hx hb dL_law_149 hl (by decide) rfl (fun ls hl => ?_)
  refine lv_aload_n hx hb dL_law_151 rfl (lv_at hl 3 rfl) ?_
  refine lv_aload_n hx hb dL_law_152 rfl (lv_at hl 5 rfl) ?_
  refine lv_iload hx hb dL_law_153 (lv_at hl 1 rfl) ?_
  refine lv_iconst (v := 1) hx hb dL_law_155 (by decide) ?_
  refine lv_iadd hx hb dL_law_156 ?_
  rw [show (1 : Int32) + 1 = 2 from by decide]
  refine va_sld hx hb hX hbl hbA hS (by unfold vp_in; decide +kernel) dL_law_157 ?_
  rw [← hy1]
  refine lv_aload_n hx hb dL_law_158 rfl (lv_at hl 5 rfl) ?_
  refine lv_iload hx hb dL_law_159 (lv_at hl 1 rfl) ?_
  refine lv_iconst (v := 2) hx hb dL_law_161 (by decide) ?_
  refine lv_iadd hx hb dL_law_162 ?_
  rw [show (1 : Int32) + 2 = 3 from by decide]
  refine va_sld hx hb hX hbl hbA hS (by unfold vp_in; decide +kernel) dL_law_163 ?_
  rw [← hy2]
  refine lv_aload_n hx hb dL_law_164 rfl (lv_at hl 5 rfl) ?_
  refine lv_iload hx hb dL_law_165 (lv_at hl 1 rfl) ?_
  refine lv_iconst (v := 3) hx hb dL_law_167 (by decide) ?_
  refine lv_iadd hx hb dL_law_168 ?_
  rw [show (1 : Int32) + 3 = 4 from by decide]
  refine va_sld hx hb hX hbl hbA hS (by unfold vp_in; decide +kernel) dL_law_169 ?_
  rw [← hy3]
  refine lv_aload_n hx hb dL_law_170 rfl (lv_at hl 5 rfl) ?_
  refine lv_iload hx hb dL_law_171 (lv_at hl 1 rfl) ?_
  refine lv_iconst (v := 4) hx hb dL_law_173 (by decide) ?_
  refine lv_iadd hx hb dL_law_174 ?_
  rw [show (1 : Int32) + 4 = 5 from by decide]
  refine va_sld hx hb hX hbl hbA hS (by unfold vp_in; decide +kernel) dL_law_175 ?_
  rw [← hy4]
  have hPc := hP.sub (ws' := [(m0, .inr (4, [.int (nI n), .int 0, .ref d2, .ref d3, .ref d4, .ref d5, .ref d6, .ref d7, .ref d8, .int 0, .int 0, .int 0, .int 0, .ref d13, .ref d14, .ref d15, .ref d16, .ref d17, .ref d18, .ref d19, .ref d20, .ref d21, .ref d22, .ref d23, .ref d24, .ref d25, .ref d26, .ref d27, .ref d28, .ref d29, .ref d30, .ref d31, .ref d32, .ref d33, .ref d34, .ref d35, .ref d36, .int 0, .int 0, .ref d39, .int 0])), (d13, .inl (cZ, 31, .inl ((fun _ => 0)))), (d14, .inl (cI, 31, .inl ((fun _ => 0)))), (d26, .inl (cI, 512, .inl ((fun _ => 0)))), (d27, .inl (cI, 512, .inl ((fun _ => 0)))), (d28, .inl (cI, 512, .inl ((fun _ => 0)))), (d29, .inl (cI, 512, .inl ((fun _ => 0)))), (d30, .inl (cI, 512, .inl ((fun _ => 0)))), (d31, .inl (cI, 512, .inl ((fun _ => 0)))), (d33, .inl (cI, 512, .inl ((fun _ => 0)))), (d16, .inl (cI, 31, .inl ((fun _ => 0)))), (d24, .inl (cZ, 31, .inl ((fun _ => 0)))), (d25, .inl (cI, 961, .inl ((fun _ => 0)))), (d32, .inl (cI, 512, .inl ((fun _ => 0)))), (d21, .inl (cI, 961, .inl ((fun _ => 0)))), (d15, .inl (cI, 31, .inl ((fun _ => 0)))), (d17, .inl (cI, 31, .inl ((fun _ => 0)))), (d2, .inl (cI, 2001, .inl ((fun _ => 0)))), (d3, .inl (cI, 2001, .inl ((fun _ => 0)))), (d4, .inl (cI, 2001, .inl ((fun _ => 0)))), (d5, .inl (cI, 2001, .inl ((fun _ => 0)))), (d8, .inl (cI, 2001, .inl ((fun _ => 0)))), (d7, .inl (cZ, 2001, .inl ((fun _ => 0))))]) [0, 1, 2, 3, 4, 5, 6, 7, 8, 9, 10, 11, 12, 13, 14, 15, 16, 17, 18, 19, 20, 21, 22] rfl
  have hDc := hD.sub (ws' := [(m0, .inr (4, [.int (nI n), .int 0, .ref d2, .ref d3, .ref d4, .ref d5, .ref d6, .ref d7, .ref d8, .int 0, .int 0, .int 0, .int 0, .ref d13, .ref d14, .ref d15, .ref d16, .ref d17, .ref d18, .ref d19, .ref d20, .ref d21, .ref d22, .ref d23, .ref d24, .ref d25, .ref d26, .ref d27, .ref d28, .ref d29, .ref d30, .ref d31, .ref d32, .ref d33, .ref d34, .ref d35, .ref d36, .int 0, .int 0, .ref d39, .int 0])), (d13, .inl (cZ, 31, .inl ((fun _ => 0)))), (d14, .inl (cI, 31, .inl ((fun _ => 0)))), (d26, .inl (cI, 512, .inl ((fun _ => 0)))), (d27, .inl (cI, 512, .inl ((fun _ => 0)))), (d28, .inl (cI, 512, .inl ((fun _ => 0)))), (d29, .inl (cI, 512, .inl ((fun _ => 0)))), (d30, .inl (cI, 512, .inl ((fun _ => 0)))), (d31, .inl (cI, 512, .inl ((fun _ => 0)))), (d33, .inl (cI, 512, .inl ((fun _ => 0)))), (d16, .inl (cI, 31, .inl ((fun _ => 0)))), (d24, .inl (cZ, 31, .inl ((fun _ => 0)))), (d25, .inl (cI, 961, .inl ((fun _ => 0)))), (d32, .inl (cI, 512, .inl ((fun _ => 0)))), (d21, .inl (cI, 961, .inl ((fun _ => 0)))), (d15, .inl (cI, 31, .inl ((fun _ => 0)))), (d17, .inl (cI, 31, .inl ((fun _ => 0)))), (d2, .inl (cI, 2001, .inl ((fun _ => 0)))), (d3, .inl (cI, 2001, .inl ((fun _ => 0)))), (d4, .inl (cI, 2001, .inl ((fun _ => 0)))), (d5, .inl (cI, 2001, .inl ((fun _ => 0)))), (d8, .inl (cI, 2001, .inl ((fun _ => 0)))), (d7, .inl (cZ, 2001, .inl ((fun _ => 0))))]) [0, 1, 2, 3, 4, 5, 6, 7, 8, 9, 10, 11, 12, 13, 14, 15, 16, 17, 18, 19, 20, 21, 22] (by decide) rfl
  have hFc := va_free (wc := [(m0, .inr (4, [.int (nI n), .int 0, .ref d2, .ref d3, .ref d4, .ref d5, .ref d6, .ref d7, .ref d8, .int 0, .int 0, .int 0, .int 0, .ref d13, .ref d14, .ref d15, .ref d16, .ref d17, .ref d18, .ref d19, .ref d20, .ref d21, .ref d22, .ref d23, .ref d24, .ref d25, .ref d26, .ref d27, .ref d28, .ref d29, .ref d30, .ref d31, .ref d32, .ref d33, .ref d34, .ref d35, .ref d36, .int 0, .int 0, .ref d39, .int 0])), (d13, .inl (cZ, 31, .inl ((fun _ => 0)))), (d14, .inl (cI, 31, .inl ((fun _ => 0)))), (d26, .inl (cI, 512, .inl ((fun _ => 0)))), (d27, .inl (cI, 512, .inl ((fun _ => 0)))), (d28, .inl (cI, 512, .inl ((fun _ => 0)))), (d29, .inl (cI, 512, .inl ((fun _ => 0)))), (d30, .inl (cI, 512, .inl ((fun _ => 0)))), (d31, .inl (cI, 512, .inl ((fun _ => 0)))), (d33, .inl (cI, 512, .inl ((fun _ => 0)))), (d16, .inl (cI, 31, .inl ((fun _ => 0)))), (d24, .inl (cZ, 31, .inl ((fun _ => 0)))), (d25, .inl (cI, 961, .inl ((fun _ => 0)))), (d32, .inl (cI, 512, .inl ((fun _ => 0)))), (d21, .inl (cI, 961, .inl ((fun _ => 0)))), (d15, .inl (cI, 31, .inl ((fun _ => 0)))), (d17, .inl (cI, 31, .inl ((fun _ => 0)))), (d2, .inl (cI, 2001, .inl ((fun _ => 0)))), (d3, .inl (cI, 2001, .inl ((fun _ => 0)))), (d4, .inl (cI, 2001, .inl ((fun _ => 0)))), (d5, .inl (cI, 2001, .inl ((fun _ => 0)))), (d8, .inl (cI, 2001, .inl ((fun _ => 0)))), (d7, .inl (cZ, 2001, .inl ((fun _ => 0))))]) hD hS hA [0, 1, 2, 3, 4, 5, 6, 7, 8, 9, 10, 11, 12, 13, 14, 15, 16, 17, 18, 19, 20, 21, 22] rfl
  refine va_calli (va_runV (As := [.int (nI j), .int y2, .int y3, .int y4]) (rest := []) ⟨hx, hb, hml, hown, hg⟩ (c_X4_update_ok l dC dI cI cZ cN cO m0 d2 d3 d4 d5 d6 d7 d8 d13 d14 d15 d16 d17 d18 d19 d20 d21 d22 d23 d24 d25 d26 d27 d28 d29 d30 d31 d32 d33 d34 d35 d36 d39 n j y2 y3 y4 H.size hn hn3 hj hok1 hok2) (cwV 4 hg (gw_V kM_L_47 kI_X4_update kS_X4_update kN_X4 kD_X4_update) rfl rfl rfl (by decide +kernel) ⟨Nat.le_of_ble_eq_true rfl, Nat.le_of_ble_eq_true rfl⟩) ⟨fun a U g mk q => by obtain ⟨q0, q1, qP, qK, qD⟩ := q; exact ⟨q0, q1, qP, va_K.moved (u := U) (U := U.calling g mk a) (Vm.Alike.refl U.vm) qK, qD⟩, va_recv hK hP (ci := 4) (q0 := 0) rfl rfl, fun U hU hW => ⟨rfl, by rw [hU], by rw [hU]; exact hPc, va_K.moved hW.alike (hK.sub (tys' := gTy cI cZ cN cO) [0, 1, 2, 3] rfl), hDc.weaken (fun _ _ _ _ => trivial)⟩⟩ rfl rfl hl.1 rfl (lv_room (Nat.le_of_ble_eq_true rfl)) dL_law_176 ⟨(Nat.le_of_ble_eq_true rfl), (by show 200000 + (12 + n) + 0 ≤ 7302198; omega)⟩) hS (fun q _ h => hFc q h) hFc (fun r_3 u t H1 locs ht hvm hwr_3 hB hz1 hk1 hS => ?_)
  obtain ⟨fs_4, hfs_5, hP1, hK1, hD1⟩ := hB
  rw [ht] at hP1
  obtain ⟨hP, hD⟩ := va_join (wr := [(oo, .inl (cL, 1, .inr (.inl g_2)))]) (w1 := [(m0, .inr (4, fs_4))]) hP hD [0, 1, 2, 3, 4, 5, 6, 7, 8, 9, 10, 11, 12, 13, 14, 15, 16, 17, 18, 19, 20, 21, 22] [23] rfl rfl (by decide) (by decide) hk1 hFc hP1 hD1
  clear hPc hDc hFc hP1 hK1 hD1 hz1 hk1 ht
  generalize H1 = H at hP hS ⊢
  have hP : va_P (dC, dI) vwCl [(oo, .inl (cL, 1, .inr (.inl g_2))), (m0, .inr (4, fs_4))] H := hP
  have hD : va_D (fun q : Nat => s.heap.size ≤ q) [(oo, .inl (cL, 1, .inr (.inl g_2))), (m0, .inr (4, fs_4))] := hD
  refine lv_istore (lv' := [(6, .int r_3), (5, .int r_1), (4, .int 1), (3, .ref oo), (2, .ref m0), (1, .ref x), (0, .ref b)]) hx hb dL_law_179 hl (by decide) rfl (fun ls hl => ?_)
  refine lv_aload_n hx hb dL_law_181 rfl (lv_at hl 4 rfl) ?_
  have hPc := hP.sub (ws' := [(m0, .inr (4, fs_4))]) [1] rfl
  refine vp_callSi (W.runV (As := []) (rest := []) ⟨hx, hb, hml, hown, hg⟩ (c_X4_thrown l dC dI cI cZ cN cO m0 fs_4 0 hfs_5) (cwV 0 hg (gw_V kM_L_48 kI_X4_thrown kS_X4_thrown kN_X4 kD_X4_thrown) rfl rfl rfl (by decide +kernel) ⟨Nat.le_of_ble_eq_true rfl, Nat.le_of_ble_eq_true rfl⟩) ⟨fun a U g mk q => by obtain ⟨q0, qP, qK⟩ := q; exact ⟨q0, qP, va_K.moved (u := U) (U := U.calling g mk a) (Vm.Alike.refl U.vm) qK⟩, va_recv hK hP (ci := 4) (q0 := 1) rfl rfl, fun U hU hW => ⟨rfl, by rw [hU]; exact hPc, va_K.moved hW.alike (hK.sub (tys' := gTy cI cZ cN cO) [0, 1, 2, 3] rfl)⟩⟩ rfl rfl hl.1 rfl (lv_room (Nat.le_of_ble_eq_true rfl)) dL_law_182 ⟨(Nat.le_of_ble_eq_true rfl), (by show 200000 + (12 + n) + 0 + 0 ≤ 7302198; omega)⟩) (fun r_6 hr_6 => ?_)
  refine lv_iload hx hb dL_law_185 (lv_at hl 1 rfl) ?_
  refine lv_icmp_eq (tgt := 192) hx hb dL_law_187 (by decide) (fun c_187 => ?_) (fun c_187 => absurd (by rw [hr_6, hwr_1]) c_187)
  refine lv_iload hx hb dL_law_192 (lv_at hl 1 rfl) ?_
  refine lv_if_ne (tgt := 209) hx hb dL_law_194 (by decide) (fun c_194 => absurd hwr_1 c_194) (fun c_194 => ?_)
  refine lv_aload_n hx hb dL_law_197 rfl (lv_at hl 3 rfl) ?_
  refine lv_iconst (v := 0) hx hb dL_law_198 (by decide) ?_
  refine va_lald hx hb hK hP 0 4 rfl rfl (by unfold vp_in; decide +kernel) dL_law_199 ?_
  refine lv_iload hx hb dL_law_200 (lv_at hl 0 rfl) ?_
  refine lv_i2l (v := r_3.toInt64) hx hb dL_law_202 rfl ?_
  refine W.lcmp hx hb dL_law_203 ?_
  refine lv_topi (fun t_8 et_8 => ?_)
  refine lv_if_eq (tgt := 209) hx hb dL_law_204 (by decide) (fun c_204 => ?_) (fun c_204 => absurd (by rw [et_8]; show lg_cmp (g_2 0) _ = 0; rw [hg_2, hwr_3]; decide +kernel) c_204)
  refine lv_goto (tgt := 753) hx hb dL_law_209 (by decide) ?_
  exact law_end C9 hS (Nat.le_of_ble_eq_true rfl) (by first | exact Nat.le_of_ble_eq_true rfl | (show _ ≤ 7302198; omega)) (lv_sub hl [2, 6] rfl)
set_option maxHeartbeats 4000000 in
set_option maxRecDepth 100000 in
theorem lc_query_ok {p : Program} {l : Launch} {e : Env} {s : State} {m : MethodId} {below : List Frame} {meth : Method} {c : Code} {b : Nat} {xs : Nat → Int32} (C0 : lw_At p s m meth c b 6 xs) {dC : Nat → ClassId} {dI : Nat → Nat → Nat} {cI cZ cN cO cL : ClassId} (hK : va_K (dC, dI) vwCl (gTyL cI cZ cN cO cL) s) (x oo : Nat) (na ro oa : Nat) (fn : Nat → Option Nat) (nd a1 a2 a3 a4 a5 b1 b2 b3 b4 b5 b6 : Nat) (ix : Int32) (fs : Nat → Int32) (m0 d2 d3 d4 d5 d6 d7 d8 d13 d14 d15 d16 d17 d18 d19 d20 d21 d22 d23 d24 d25 d26 d27 d28 d29 d30 d31 d32 d33 d34 d35 d36 d39 n : Nat)  {H : Heap} {locs : List Loc} (hP : va_P (dC, dI) vwCl [(x, .inr (3, [.ref na, .ref ro, .ref oa, .int 0, .int 0, .int 0, .int 0, .int 0, .int 0])), (na, .inl (cN, n, .inr (.inr (.inr (.inr fn))))), (nd, .inr (0, [.int ix, .ref a1, .ref a2, .ref a3, .ref a4, .ref a5, .int 1, .int 0, .int 0, .int 0, .null])), (a2, .inl (cI, n, .inl ((fun _ => 0)))), (a4, .inl (cI, n, .inl ((fun _ => 0)))), (ro, .inr (2, [.int (nI n), .ref b1, .ref b2, .ref b3, .ref b4, .ref b5, .ref b6, .int 0, .int 0, .int 0])), (b1, .inl (cI, 2000, .inl fs)), (b2, .inl (cI, 2000, .inl ((fun _ => 0)))), (b3, .inl (cI, 2000, .inl ((fun _ => 0)))), (b4, .inl (cI, 2000, .inl ((fun _ => 0)))), (b5, .inl (cI, 2000, .inl ((fun _ => 0)))), (oa, .inl (cO, 512, .inr (.inr (.inr (.inr ((fun _ => none))))))), (oo, .inl (cL, 1, .inr (.inl ((fun _ => 0))))), (m0, .inr (4, [.int (nI n), .int 0, .ref d2, .ref d3, .ref d4, .ref d5, .ref d6, .ref d7, .ref d8, .int 0, .int 0, .int 0, .int 0, .ref d13, .ref d14, .ref d15, .ref d16, .ref d17, .ref d18, .ref d19, .ref d20, .ref d21, .ref d22, .ref d23, .ref d24, .ref d25, .ref d26, .ref d27, .ref d28, .ref d29, .ref d30, .ref d31, .ref d32, .ref d33, .ref d34, .ref d35, .ref d36, .int 0, .int 0, .ref d39, .int 0])), (d13, .inl (cZ, 31, .inl ((fun _ => 0)))), (d14, .inl (cI, 31, .inl ((fun _ => 0)))), (d26, .inl (cI, 512, .inl ((fun _ => 0)))), (d27, .inl (cI, 512, .inl ((fun _ => 0)))), (d28, .inl (cI, 512, .inl ((fun _ => 0)))), (d29, .inl (cI, 512, .inl ((fun _ => 0)))), (d30, .inl (cI, 512, .inl ((fun _ => 0)))), (d31, .inl (cI, 512, .inl ((fun _ => 0)))), (d33, .inl (cI, 512, .inl ((fun _ => 0)))), (d16, .inl (cI, 31, .inl ((fun _ => 0)))), (d24, .inl (cZ, 31, .inl ((fun _ => 0)))), (d25, .inl (cI, 961, .inl ((fun _ => 0)))), (d32, .inl (cI, 512, .inl ((fun _ => 0)))), (d21, .inl (cI, 961, .inl ((fun _ => 0)))), (d15, .inl (cI, 31, .inl ((fun _ => 0)))), (d17, .inl (cI, 31, .inl ((fun _ => 0)))), (d2, .inl (cI, 2001, .inl ((fun _ => 0)))), (d3, .inl (cI, 2001, .inl ((fun _ => 0)))), (d4, .inl (cI, 2001, .inl ((fun _ => 0)))), (d5, .inl (cI, 2001, .inl ((fun _ => 0)))), (d8, .inl (cI, 2001, .inl ((fun _ => 0)))), (d7, .inl (cZ, 2001, .inl ((fun _ => 0))))] H) (hD : va_D (fun q : Nat => s.heap.size ≤ q) [(x, .inr (3, [.ref na, .ref ro, .ref oa, .int 0, .int 0, .int 0, .int 0, .int 0, .int 0])), (na, .inl (cN, n, .inr (.inr (.inr (.inr fn))))), (nd, .inr (0, [.int ix, .ref a1, .ref a2, .ref a3, .ref a4, .ref a5, .int 1, .int 0, .int 0, .int 0, .null])), (a2, .inl (cI, n, .inl ((fun _ => 0)))), (a4, .inl (cI, n, .inl ((fun _ => 0)))), (ro, .inr (2, [.int (nI n), .ref b1, .ref b2, .ref b3, .ref b4, .ref b5, .ref b6, .int 0, .int 0, .int 0])), (b1, .inl (cI, 2000, .inl fs)), (b2, .inl (cI, 2000, .inl ((fun _ => 0)))), (b3, .inl (cI, 2000, .inl ((fun _ => 0)))), (b4, .inl (cI, 2000, .inl ((fun _ => 0)))), (b5, .inl (cI, 2000, .inl ((fun _ => 0)))), (oa, .inl (cO, 512, .inr (.inr (.inr (.inr ((fun _ => none))))))), (oo, .inl (cL, 1, .inr (.inl ((fun _ => 0))))), (m0, .inr (4, [.int (nI n), .int 0, .ref d2, .ref d3, .ref d4, .ref d5, .ref d6, .ref d7, .ref d8, .int 0, .int 0, .int 0, .int 0, .ref d13, .ref d14, .ref d15, .ref d16, .ref d17, .ref d18, .ref d19, .ref d20, .ref d21, .ref d22, .ref d23, .ref d24, .ref d25, .ref d26, .ref d27, .ref d28, .ref d29, .ref d30, .ref d31, .ref d32, .ref d33, .ref d34, .ref d35, .ref d36, .int 0, .int 0, .ref d39, .int 0])), (d13, .inl (cZ, 31, .inl ((fun _ => 0)))), (d14, .inl (cI, 31, .inl ((fun _ => 0)))), (d26, .inl (cI, 512, .inl ((fun _ => 0)))), (d27, .inl (cI, 512, .inl ((fun _ => 0)))), (d28, .inl (cI, 512, .inl ((fun _ => 0)))), (d29, .inl (cI, 512, .inl ((fun _ => 0)))), (d30, .inl (cI, 512, .inl ((fun _ => 0)))), (d31, .inl (cI, 512, .inl ((fun _ => 0)))), (d33, .inl (cI, 512, .inl ((fun _ => 0)))), (d16, .inl (cI, 31, .inl ((fun _ => 0)))), (d24, .inl (cZ, 31, .inl ((fun _ => 0)))), (d25, .inl (cI, 961, .inl ((fun _ => 0)))), (d32, .inl (cI, 512, .inl ((fun _ => 0)))), (d21, .inl (cI, 961, .inl ((fun _ => 0)))), (d15, .inl (cI, 31, .inl ((fun _ => 0)))), (d17, .inl (cI, 31, .inl ((fun _ => 0)))), (d2, .inl (cI, 2001, .inl ((fun _ => 0)))), (d3, .inl (cI, 2001, .inl ((fun _ => 0)))), (d4, .inl (cI, 2001, .inl ((fun _ => 0)))), (d5, .inl (cI, 2001, .inl ((fun _ => 0)))), (d8, .inl (cI, 2001, .inl ((fun _ => 0)))), (d7, .inl (cZ, 2001, .inl ((fun _ => 0))))]) (hS : va_S (fun q : Nat => s.heap.size ≤ q) s.heap H locs) {ls : Array Slot} (hl : lv_has ls 7 [(4, .int 1), (3, .ref oo), (2, .ref m0), (1, .ref x), (0, .ref b)]) (y1 y2 y3 y4 : Int32) (hy1 : y1 = xs (2 : Int32).toNatClampNeg) (hy2 : y2 = xs (3 : Int32).toNatClampNeg) (hy3 : y3 = xs (4 : Int32).toNatClampNeg) (hy4 : y4 = xs (5 : Int32).toNatClampNeg) (j : Nat) (hn : n ≤ 31) (hn3 : 3 ≤ n) (hj : j < n) (hyj : y1 = nI j) (hfs : ∀ j, j < 2000 → fs j = nI j) (hnd : fn j = some nd) (hok1 : ¬ y2 < 10) (hok2 : y2 ≤ 15) : W p l e room_1 s m #[Value.ref b] below meth c H locs 300 200000 (lw_Z below #[Value.ref b] s) (F0 m 212 ls []) := by
  have C9 := C0
  rw [hyj] at hy1
  clear hyj
  obtain ⟨hx, hb, hr, hml, hown, hts, hX, hbl, hlocks, hgv⟩ := C0
  have hg : ∀ w ∈ gw, w.before _ s = true := fun w h => hts w (List.mem_filter.mp h).1
  have hA : ∀ q : Nat, s.heap.size ≤ q → (fun q : Nat => s.heap.size ≤ q) q := fun _ h => h
  have hbA : ¬ (fun q : Nat => s.heap.size ≤ q) b := Nat.not_le.mpr hbl
  refine lv_aload_n hx hb dL_law_212 rfl (lv_at hl 3 rfl) ?_
  refine lv_aload_n hx hb dL_law_213 rfl (lv_at hl 4 rfl) ?_
  refine lv_iload hx hb dL_law_214 (lv_at hl 0 rfl) ?_
  refine lv_iconst (v := 1) hx hb dL_law_216 (by decide) ?_
  refine lv_iadd hx hb dL_law_217 ?_
  rw [show (1 : Int32) + 1 = 2 from by decide]
  refine va_sld hx hb hX hbl hbA hS (by unfold vp_in; decide +kernel) dL_law_218 ?_
  rw [← hy1]
  refine lv_aload_n hx hb dL_law_219 rfl (lv_at hl 4 rfl) ?_
  refine lv_iload hx hb dL_law_220 (lv_at hl 0 rfl) ?_
  refine lv_iconst (v := 2) hx hb dL_law_222 (by decide) ?_
  refine lv_iadd hx hb dL_law_223 ?_
  rw [show (1 : Int32) + 2 = 3 from by decide]
  refine va_sld hx hb hX hbl hbA hS (by unfold vp_in; decide +kernel) dL_law_224 ?_
  rw [← hy2]
  refine lv_aload_n hx hb dL_law_225 rfl (lv_at hl 4 rfl) ?_
  refine lv_iload hx hb dL_law_226 (lv_at hl 0 rfl) ?_
  refine lv_iconst (v := 3) hx hb dL_law_228 (by decide) ?_
  refine lv_iadd hx hb dL_law_229 ?_
  rw [show (1 : Int32) + 3 = 4 from by decide]
  refine va_sld hx hb hX hbl hbA hS (by unfold vp_in; decide +kernel) dL_law_230 ?_
  rw [← hy3]
  refine lv_aload_n hx hb dL_law_231 rfl (lv_at hl 1 rfl) ?_
  have hPc := hP.sub (ws' := [(x, .inr (3, [.ref na, .ref ro, .ref oa, .int 0, .int 0, .int 0, .int 0, .int 0, .int 0])), (na, .inl (cN, n, .inr (.inr (.inr (.inr fn))))), (nd, .inr (0, [.int ix, .ref a1, .ref a2, .ref a3, .ref a4, .ref a5, .int 1, .int 0, .int 0, .int 0, .null])), (a2, .inl (cI, n, .inl ((fun _ => 0)))), (a4, .inl (cI, n, .inl ((fun _ => 0)))), (ro, .inr (2, [.int (nI n), .ref b1, .ref b2, .ref b3, .ref b4, .ref b5, .ref b6, .int 0, .int 0, .int 0])), (b1, .inl (cI, 2000, .inl fs)), (b2, .inl (cI, 2000, .inl ((fun _ => 0)))), (b3, .inl (cI, 2000, .inl ((fun _ => 0)))), (b4, .inl (cI, 2000, .inl ((fun _ => 0)))), (b5, .inl (cI, 2000, .inl ((fun _ => 0)))), (oa, .inl (cO, 512, .inr (.inr (.inr (.inr ((fun _ => none))))))), (oo, .inl (cL, 1, .inr (.inl ((fun _ => 0)))))]) [0, 1, 2, 3, 4, 5, 6, 7, 8, 9, 10, 11, 12] rfl
  have hDc := hD.sub (ws' := [(x, .inr (3, [.ref na, .ref ro, .ref oa, .int 0, .int 0, .int 0, .int 0, .int 0, .int 0])), (na, .inl (cN, n, .inr (.inr (.inr (.inr fn))))), (nd, .inr (0, [.int ix, .ref a1, .ref a2, .ref a3, .ref a4, .ref a5, .int 1, .int 0, .int 0, .int 0, .null])), (a2, .inl (cI, n, .inl ((fun _ => 0)))), (a4, .inl (cI, n, .inl ((fun _ => 0)))), (ro, .inr (2, [.int (nI n), .ref b1, .ref b2, .ref b3, .ref b4, .ref b5, .ref b6, .int 0, .int 0, .int 0])), (b1, .inl (cI, 2000, .inl fs)), (b2, .inl (cI, 2000, .inl ((fun _ => 0)))), (b3, .inl (cI, 2000, .inl ((fun _ => 0)))), (b4, .inl (cI, 2000, .inl ((fun _ => 0)))), (b5, .inl (cI, 2000, .inl ((fun _ => 0)))), (oa, .inl (cO, 512, .inr (.inr (.inr (.inr ((fun _ => none))))))), (oo, .inl (cL, 1, .inr (.inl ((fun _ => 0)))))]) [0, 1, 2, 3, 4, 5, 6, 7, 8, 9, 10, 11, 12] (by decide) rfl
  have hFc := va_free (wc := [(x, .inr (3, [.ref na, .ref ro, .ref oa, .int 0, .int 0, .int 0, .int 0, .int 0, .int 0])), (na, .inl (cN, n, .inr (.inr (.inr (.inr fn))))), (nd, .inr (0, [.int ix, .ref a1, .ref a2, .ref a3, .ref a4, .ref a5, .int 1, .int 0, .int 0, .int 0, .null])), (a2, .inl (cI, n, .inl ((fun _ => 0)))), (a4, .inl (cI, n, .inl ((fun _ => 0)))), (ro, .inr (2, [.int (nI n), .ref b1, .ref b2, .ref b3, .ref b4, .ref b5, .ref b6, .int 0, .int 0, .int 0])), (b1, .inl (cI, 2000, .inl fs)), (b2, .inl (cI, 2000, .inl ((fun _ => 0)))), (b3, .inl (cI, 2000, .inl ((fun _ => 0)))), (b4, .inl (cI, 2000, .inl ((fun _ => 0)))), (b5, .inl (cI, 2000, .inl ((fun _ => 0)))), (oa, .inl (cO, 512, .inr (.inr (.inr (.inr ((fun _ => none))))))), (oo, .inl (cL, 1, .inr (.inl ((fun _ => 0)))))]) hD hS hA [0, 1, 2, 3, 4, 5, 6, 7, 8, 9, 10, 11, 12] rfl
  refine va_calli (vx_runSW (As := [.ref x, .int (nI j), .int y2, .int y3, .ref oo]) (rest := []) ⟨hx, hb, hml, hown, hg⟩ (h_query_ok l dC dI cI cZ cN cO cL x na ro oa n fn nd a1 a2 a3 a4 a5 b1 b2 b3 b4 b5 b6 ix (nI j) y2 y3 fs oo (fun _ => 0) H.size hn hfs ⟨nI_pos (by omega), nI_ge hj (by omega)⟩ (by rw [nI_clamp (by omega)]; exact hnd) hok1 hok2) (vx_cwSW 5 hg (gw_SW kM_L_52 kT_L_query kN_L kW_L_query) rfl rfl rfl (by decide +kernel) ⟨Nat.le_of_ble_eq_true rfl, Nat.le_of_ble_eq_true rfl⟩) ⟨fun a U g mk q => by obtain ⟨q0, q1, qP, qK, qD⟩ := q; exact ⟨q0, q1, qP, va_K.moved (u := U) (U := U.calling g mk a) (Vm.Alike.refl U.vm) qK, qD⟩, fun U hU hW => ⟨rfl, by rw [hU], by rw [hU]; exact hPc, va_K.moved hW.alike hK, hDc.weaken (fun _ _ _ _ => trivial)⟩⟩ rfl rfl hl.1 rfl (lv_room (Nat.le_of_ble_eq_true rfl)) dL_law_232 ⟨(Nat.le_of_ble_eq_true rfl), (by show 200000 + (12 + n) ≤ 7302198; omega)⟩) hS (fun q _ h => hFc q h) hFc (fun r_1 u t H1 locs ht hvm hwr_1 hB1 hz1 hk1 hS => ?_)
  obtain ⟨g_2, hg_2, hP1, hK1, hD1⟩ := hB1
  rw [ht] at hP1
  obtain ⟨hP, hD⟩ := va_join (wr := [(m0, .inr (4, [.int (nI n), .int 0, .ref d2, .ref d3, .ref d4, .ref d5, .ref d6, .ref d7, .ref d8, .int 0, .int 0, .int 0, .int 0, .ref d13, .ref d14, .ref d15, .ref d16, .ref d17, .ref d18, .ref d19, .ref d20, .ref d21, .ref d22, .ref d23, .ref d24, .ref d25, .ref d26, .ref d27, .ref d28, .ref d29, .ref d30, .ref d31, .ref d32, .ref d33, .ref d34, .ref d35, .ref d36, .int 0, .int 0, .ref d39, .int 0])), (d13, .inl (cZ, 31, .inl ((fun _ => 0)))), (d14, .inl (cI, 31, .inl ((fun _ => 0)))), (d26, .inl (cI, 512, .inl ((fun _ => 0)))), (d27, .inl (cI, 512, .inl ((fun _ => 0)))), (d28, .inl (cI, 512, .inl ((fun _ => 0)))), (d29, .inl (cI, 512, .inl ((fun _ => 0)))), (d30, .inl (cI, 512, .inl ((fun _ => 0)))), (d31, .inl (cI, 512, .inl ((fun _ => 0)))), (d33, .inl (cI, 512, .inl ((fun _ => 0)))), (d16, .inl (cI, 31, .inl ((fun _ => 0)))), (d24, .inl (cZ, 31, .inl ((fun _ => 0)))), (d25, .inl (cI, 961, .inl ((fun _ => 0)))), (d32, .inl (cI, 512, .inl ((fun _ => 0)))), (d21, .inl (cI, 961, .inl ((fun _ => 0)))), (d15, .inl (cI, 31, .inl ((fun _ => 0)))), (d17, .inl (cI, 31, .inl ((fun _ => 0)))), (d2, .inl (cI, 2001, .inl ((fun _ => 0)))), (d3, .inl (cI, 2001, .inl ((fun _ => 0)))), (d4, .inl (cI, 2001, .inl ((fun _ => 0)))), (d5, .inl (cI, 2001, .inl ((fun _ => 0)))), (d8, .inl (cI, 2001, .inl ((fun _ => 0)))), (d7, .inl (cZ, 2001, .inl ((fun _ => 0))))]) (w1 := [(oo, .inl (cL, 1, .inr (.inl g_2)))]) hP hD [0, 1, 2, 3, 4, 5, 6, 7, 8, 9, 10, 11, 12] [13, 14, 15, 16, 17, 18, 19, 20, 21, 22, 23, 24, 25, 26, 27, 28, 29, 30, 31, 32, 33, 34, 35] rfl rfl (by decide) (by decide) hk1 hFc hP1 hD1
  clear hPc hDc hFc hz1 hk1
  generalize H1 = H at hP hS ⊢
  have hP : va_P (dC, dI) vwCl [(m0, .inr (4, [.int (nI n), .int 0, .ref d2, .ref d3, .ref d4, .ref d5, .ref d6, .ref d7, .ref d8, .int 0, .int 0, .int 0, .int 0, .ref d13, .ref d14, .ref d15, .ref d16, .ref d17, .ref d18, .ref d19, .ref d20, .ref d21, .ref d22, .ref d23, .ref d24, .ref d25, .ref d26, .ref d27, .ref d28, .ref d29, .ref d30, .ref d31, .ref d32, .ref d33, .ref d34, .ref d35, .ref d36, .int 0, .int 0, .ref d39, .int 0])), (d13, .inl (cZ, 31, .inl ((fun _ => 0)))), (d14, .inl (cI, 31, .inl ((fun _ => 0)))), (d26, .inl (cI, 512, .inl ((fun _ => 0)))), (d27, .inl (cI, 512, .inl ((fun _ => 0)))), (d28, .inl (cI, 512, .inl ((fun _ => 0)))), (d29, .inl (cI, 512, .inl ((fun _ => 0)))), (d30, .inl (cI, 512, .inl ((fun _ => 0)))), (d31, .inl (cI, 512, .inl ((fun _ => 0)))), (d33, .inl (cI, 512, .inl ((fun _ => 0)))), (d16, .inl (cI, 31, .inl ((fun _ => 0)))), (d24, .inl (cZ, 31, .inl ((fun _ => 0)))), (d25, .inl (cI, 961, .inl ((fun _ => 0)))), (d32, .inl (cI, 512, .inl ((fun _ => 0)))), (d21, .inl (cI, 961, .inl ((fun _ => 0)))), (d15, .inl (cI, 31, .inl ((fun _ => 0)))), (d17, .inl (cI, 31, .inl ((fun _ => 0)))), (d2, .inl (cI, 2001, .inl ((fun _ => 0)))), (d3, .inl (cI, 2001, .inl ((fun _ => 0)))), (d4, .inl (cI, 2001, .inl ((fun _ => 0)))), (d5, .inl (cI, 2001, .inl ((fun _ => 0)))), (d8, .inl (cI, 2001, .inl ((fun _ => 0)))), (d7, .inl (cZ, 2001, .inl ((fun _ => 0)))), (oo, .inl (cL, 1, .inr (.inl g_2)))] H := hP
  have hD : va_D (fun q : Nat => s.heap.size ≤ q) [(m0, .inr (4, [.int (nI n), .int 0, .ref d2, .ref d3, .ref d4, .ref d5, .ref d6, .ref d7, .ref d8, .int 0, .int 0, .int 0, .int 0, .ref d13, .ref d14, .ref d15, .ref d16, .ref d17, .ref d18, .ref d19, .ref d20, .ref d21, .ref d22, .ref d23, .ref d24, .ref d25, .ref d26, .ref d27, .ref d28, .ref d29, .ref d30, .ref d31, .ref d32, .ref d33, .ref d34, .ref d35, .ref d36, .int 0, .int 0, .ref d39, .int 0])), (d13, .inl (cZ, 31, .inl ((fun _ => 0)))), (d14, .inl (cI, 31, .inl ((fun _ => 0)))), (d26, .inl (cI, 512, .inl ((fun _ => 0)))), (d27, .inl (cI, 512, .inl ((fun _ => 0)))), (d28, .inl (cI, 512, .inl ((fun _ => 0)))), (d29, .inl (cI, 512, .inl ((fun _ => 0)))), (d30, .inl (cI, 512, .inl ((fun _ => 0)))), (d31, .inl (cI, 512, .inl ((fun _ => 0)))), (d33, .inl (cI, 512, .inl ((fun _ => 0)))), (d16, .inl (cI, 31, .inl ((fun _ => 0)))), (d24, .inl (cZ, 31, .inl ((fun _ => 0)))), (d25, .inl (cI, 961, .inl ((fun _ => 0)))), (d32, .inl (cI, 512, .inl ((fun _ => 0)))), (d21, .inl (cI, 961, .inl ((fun _ => 0)))), (d15, .inl (cI, 31, .inl ((fun _ => 0)))), (d17, .inl (cI, 31, .inl ((fun _ => 0)))), (d2, .inl (cI, 2001, .inl ((fun _ => 0)))), (d3, .inl (cI, 2001, .inl ((fun _ => 0)))), (d4, .inl (cI, 2001, .inl ((fun _ => 0)))), (d5, .inl (cI, 2001, .inl ((fun _ => 0)))), (d8, .inl (cI, 2001, .inl ((fun _ => 0)))), (d7, .inl (cZ, 2001, .inl ((fun _ => 0)))), (oo, .inl (cL, 1, .inr (.inl g_2)))] := hD
  refine lv_istore (lv' := [(5, .int r_1), (4, .int 1), (3, .ref oo), (2, .ref m0), (1, .ref x), (0, .ref b)]) hx hb dL_law_235 hl (by decide) rfl (fun ls hl => ?_)
  refine lv_aload_n hx hb dL_law_237 rfl (lv_at hl 3 rfl) ?_
  refine lv_aload_n hx hb dL_law_238 rfl (lv_at hl 5 rfl) ?_
  refine lv_iload hx hb dL_law_239 (lv_at hl 1 rfl) ?_
  refine lv_iconst (v := 1) hx hb dL_law_241 (by decide) ?_
  refine lv_iadd hx hb dL_law_242 ?_
  rw [show (1 : Int32) + 1 = 2 from by decide]
  refine va_sld hx hb hX hbl hbA hS (by unfold vp_in; decide +kernel) dL_law_243 ?_
  rw [← hy1]
  refine lv_aload_n hx hb dL_law_244 rfl (lv_at hl 5 rfl) ?_
  refine lv_iload hx hb dL_law_245 (lv_at hl 1 rfl) ?_
  refine lv_iconst (v := 2) hx hb dL_law_247 (by decide) ?_
  refine lv_iadd hx hb dL_law_248 ?_
  rw [show (1 : Int32) + 2 = 3 from by decide]
  refine va_sld hx hb hX hbl hbA hS (by unfold vp_in; decide +kernel) dL_law_249 ?_
  rw [← hy2]
  refine lv_aload_n hx hb dL_law_250 rfl (lv_at hl 5 rfl) ?_
  refine lv_iload hx hb dL_law_251 (lv_at hl 1 rfl) ?_
  refine lv_iconst (v := 3) hx hb dL_law_253 (by decide) ?_
  refine lv_iadd hx hb dL_law_254 ?_
  rw [show (1 : Int32) + 3 = 4 from by decide]
  refine va_sld hx hb hX hbl hbA hS (by unfold vp_in; decide +kernel) dL_law_255 ?_
  rw [← hy3]
  have hPc := hP.sub (ws' := [(m0, .inr (4, [.int (nI n), .int 0, .ref d2, .ref d3, .ref d4, .ref d5, .ref d6, .ref d7, .ref d8, .int 0, .int 0, .int 0, .int 0, .ref d13, .ref d14, .ref d15, .ref d16, .ref d17, .ref d18, .ref d19, .ref d20, .ref d21, .ref d22, .ref d23, .ref d24, .ref d25, .ref d26, .ref d27, .ref d28, .ref d29, .ref d30, .ref d31, .ref d32, .ref d33, .ref d34, .ref d35, .ref d36, .int 0, .int 0, .ref d39, .int 0])), (d13, .inl (cZ, 31, .inl ((fun _ => 0)))), (d14, .inl (cI, 31, .inl ((fun _ => 0)))), (d26, .inl (cI, 512, .inl ((fun _ => 0)))), (d27, .inl (cI, 512, .inl ((fun _ => 0)))), (d28, .inl (cI, 512, .inl ((fun _ => 0)))), (d29, .inl (cI, 512, .inl ((fun _ => 0)))), (d30, .inl (cI, 512, .inl ((fun _ => 0)))), (d31, .inl (cI, 512, .inl ((fun _ => 0)))), (d33, .inl (cI, 512, .inl ((fun _ => 0)))), (d16, .inl (cI, 31, .inl ((fun _ => 0)))), (d24, .inl (cZ, 31, .inl ((fun _ => 0)))), (d25, .inl (cI, 961, .inl ((fun _ => 0)))), (d32, .inl (cI, 512, .inl ((fun _ => 0)))), (d21, .inl (cI, 961, .inl ((fun _ => 0)))), (d15, .inl (cI, 31, .inl ((fun _ => 0)))), (d17, .inl (cI, 31, .inl ((fun _ => 0)))), (d2, .inl (cI, 2001, .inl ((fun _ => 0)))), (d3, .inl (cI, 2001, .inl ((fun _ => 0)))), (d4, .inl (cI, 2001, .inl ((fun _ => 0)))), (d5, .inl (cI, 2001, .inl ((fun _ => 0)))), (d8, .inl (cI, 2001, .inl ((fun _ => 0)))), (d7, .inl (cZ, 2001, .inl ((fun _ => 0))))]) [0, 1, 2, 3, 4, 5, 6, 7, 8, 9, 10, 11, 12, 13, 14, 15, 16, 17, 18, 19, 20, 21, 22] rfl
  have hDc := hD.sub (ws' := [(m0, .inr (4, [.int (nI n), .int 0, .ref d2, .ref d3, .ref d4, .ref d5, .ref d6, .ref d7, .ref d8, .int 0, .int 0, .int 0, .int 0, .ref d13, .ref d14, .ref d15, .ref d16, .ref d17, .ref d18, .ref d19, .ref d20, .ref d21, .ref d22, .ref d23, .ref d24, .ref d25, .ref d26, .ref d27, .ref d28, .ref d29, .ref d30, .ref d31, .ref d32, .ref d33, .ref d34, .ref d35, .ref d36, .int 0, .int 0, .ref d39, .int 0])), (d13, .inl (cZ, 31, .inl ((fun _ => 0)))), (d14, .inl (cI, 31, .inl ((fun _ => 0)))), (d26, .inl (cI, 512, .inl ((fun _ => 0)))), (d27, .inl (cI, 512, .inl ((fun _ => 0)))), (d28, .inl (cI, 512, .inl ((fun _ => 0)))), (d29, .inl (cI, 512, .inl ((fun _ => 0)))), (d30, .inl (cI, 512, .inl ((fun _ => 0)))), (d31, .inl (cI, 512, .inl ((fun _ => 0)))), (d33, .inl (cI, 512, .inl ((fun _ => 0)))), (d16, .inl (cI, 31, .inl ((fun _ => 0)))), (d24, .inl (cZ, 31, .inl ((fun _ => 0)))), (d25, .inl (cI, 961, .inl ((fun _ => 0)))), (d32, .inl (cI, 512, .inl ((fun _ => 0)))), (d21, .inl (cI, 961, .inl ((fun _ => 0)))), (d15, .inl (cI, 31, .inl ((fun _ => 0)))), (d17, .inl (cI, 31, .inl ((fun _ => 0)))), (d2, .inl (cI, 2001, .inl ((fun _ => 0)))), (d3, .inl (cI, 2001, .inl ((fun _ => 0)))), (d4, .inl (cI, 2001, .inl ((fun _ => 0)))), (d5, .inl (cI, 2001, .inl ((fun _ => 0)))), (d8, .inl (cI, 2001, .inl ((fun _ => 0)))), (d7, .inl (cZ, 2001, .inl ((fun _ => 0))))]) [0, 1, 2, 3, 4, 5, 6, 7, 8, 9, 10, 11, 12, 13, 14, 15, 16, 17, 18, 19, 20, 21, 22] (by decide) rfl
  have hFc := va_free (wc := [(m0, .inr (4, [.int (nI n), .int 0, .ref d2, .ref d3, .ref d4, .ref d5, .ref d6, .ref d7, .ref d8, .int 0, .int 0, .int 0, .int 0, .ref d13, .ref d14, .ref d15, .ref d16, .ref d17, .ref d18, .ref d19, .ref d20, .ref d21, .ref d22, .ref d23, .ref d24, .ref d25, .ref d26, .ref d27, .ref d28, .ref d29, .ref d30, .ref d31, .ref d32, .ref d33, .ref d34, .ref d35, .ref d36, .int 0, .int 0, .ref d39, .int 0])), (d13, .inl (cZ, 31, .inl ((fun _ => 0)))), (d14, .inl (cI, 31, .inl ((fun _ => 0)))), (d26, .inl (cI, 512, .inl ((fun _ => 0)))), (d27, .inl (cI, 512, .inl ((fun _ => 0)))), (d28, .inl (cI, 512, .inl ((fun _ => 0)))), (d29, .inl (cI, 512, .inl ((fun _ => 0)))), (d30, .inl (cI, 512, .inl ((fun _ => 0)))), (d31, .inl (cI, 512, .inl ((fun _ => 0)))), (d33, .inl (cI, 512, .inl ((fun _ => 0)))), (d16, .inl (cI, 31, .inl ((fun _ => 0)))), (d24, .inl (cZ, 31, .inl ((fun _ => 0)))), (d25, .inl (cI, 961, .inl ((fun _ => 0)))), (d32, .inl (cI, 512, .inl ((fun _ => 0)))), (d21, .inl (cI, 961, .inl ((fun _ => 0)))), (d15, .inl (cI, 31, .inl ((fun _ => 0)))), (d17, .inl (cI, 31, .inl ((fun _ => 0)))), (d2, .inl (cI, 2001, .inl ((fun _ => 0)))), (d3, .inl (cI, 2001, .inl ((fun _ => 0)))), (d4, .inl (cI, 2001, .inl ((fun _ => 0)))), (d5, .inl (cI, 2001, .inl ((fun _ => 0)))), (d8, .inl (cI, 2001, .inl ((fun _ => 0)))), (d7, .inl (cZ, 2001, .inl ((fun _ => 0))))]) hD hS hA [0, 1, 2, 3, 4, 5, 6, 7, 8, 9, 10, 11, 12, 13, 14, 15, 16, 17, 18, 19, 20, 21, 22] rfl
  refine va_calli (va_runV (As := [.int (nI j), .int y2, .int y3]) (rest := []) ⟨hx, hb, hml, hown, hg⟩ (c_X4_query_ok l dC dI cI cZ cN cO m0 d2 d3 d4 d5 d6 d7 d8 d13 d14 d15 d16 d17 d18 d19 d20 d21 d22 d23 d24 d25 d26 d27 d28 d29 d30 d31 d32 d33 d34 d35 d36 d39 n j y2 y3 H.size hn hn3 hj hok1 hok2) (cwV 3 hg (gw_V kM_L_55 kI_X4_query kS_X4_query kN_X4 kD_X4_query) rfl rfl rfl (by decide +kernel) ⟨Nat.le_of_ble_eq_true rfl, Nat.le_of_ble_eq_true rfl⟩) ⟨fun a U g mk q => by obtain ⟨q0, q1, qP, qK, qD⟩ := q; exact ⟨q0, q1, qP, va_K.moved (u := U) (U := U.calling g mk a) (Vm.Alike.refl U.vm) qK, qD⟩, va_recv hK hP (ci := 4) (q0 := 0) rfl rfl, fun U hU hW => ⟨rfl, by rw [hU], by rw [hU]; exact hPc, va_K.moved hW.alike (hK.sub (tys' := gTy cI cZ cN cO) [0, 1, 2, 3] rfl), hDc.weaken (fun _ _ _ _ => trivial)⟩⟩ rfl rfl hl.1 rfl (lv_room (Nat.le_of_ble_eq_true rfl)) dL_law_256 ⟨(Nat.le_of_ble_eq_true rfl), (by show 200000 + (12 + n) + 0 ≤ 7302198; omega)⟩) hS (fun q _ h => hFc q h) hFc (fun r_3 u t H1 locs ht hvm hwr_3 hB hz1 hk1 hS => ?_)
  obtain ⟨fs_4, hfs_5, hP1, hK1, hD1⟩ := hB
  rw [ht] at hP1
  obtain ⟨hP, hD⟩ := va_join (wr := [(oo, .inl (cL, 1, .inr (.inl g_2)))]) (w1 := [(m0, .inr (4, fs_4))]) hP hD [0, 1, 2, 3, 4, 5, 6, 7, 8, 9, 10, 11, 12, 13, 14, 15, 16, 17, 18, 19, 20, 21, 22] [23] rfl rfl (by decide) (by decide) hk1 hFc hP1 hD1
  clear hPc hDc hFc hP1 hK1 hD1 hz1 hk1 ht
  generalize H1 = H at hP hS ⊢
  have hP : va_P (dC, dI) vwCl [(oo, .inl (cL, 1, .inr (.inl g_2))), (m0, .inr (4, fs_4))] H := hP
  have hD : va_D (fun q : Nat => s.heap.size ≤ q) [(oo, .inl (cL, 1, .inr (.inl g_2))), (m0, .inr (4, fs_4))] := hD
  refine lv_istore (lv' := [(6, .int r_3), (5, .int r_1), (4, .int 1), (3, .ref oo), (2, .ref m0), (1, .ref x), (0, .ref b)]) hx hb dL_law_259 hl (by decide) rfl (fun ls hl => ?_)
  refine lv_aload_n hx hb dL_law_261 rfl (lv_at hl 4 rfl) ?_
  have hPc := hP.sub (ws' := [(m0, .inr (4, fs_4))]) [1] rfl
  refine vp_callSi (W.runV (As := []) (rest := []) ⟨hx, hb, hml, hown, hg⟩ (c_X4_thrown l dC dI cI cZ cN cO m0 fs_4 0 hfs_5) (cwV 0 hg (gw_V kM_L_48 kI_X4_thrown kS_X4_thrown kN_X4 kD_X4_thrown) rfl rfl rfl (by decide +kernel) ⟨Nat.le_of_ble_eq_true rfl, Nat.le_of_ble_eq_true rfl⟩) ⟨fun a U g mk q => by obtain ⟨q0, qP, qK⟩ := q; exact ⟨q0, qP, va_K.moved (u := U) (U := U.calling g mk a) (Vm.Alike.refl U.vm) qK⟩, va_recv hK hP (ci := 4) (q0 := 1) rfl rfl, fun U hU hW => ⟨rfl, by rw [hU]; exact hPc, va_K.moved hW.alike (hK.sub (tys' := gTy cI cZ cN cO) [0, 1, 2, 3] rfl)⟩⟩ rfl rfl hl.1 rfl (lv_room (Nat.le_of_ble_eq_true rfl)) dL_law_262 ⟨(Nat.le_of_ble_eq_true rfl), (by show 200000 + (12 + n) + 0 + 0 ≤ 7302198; omega)⟩) (fun r_6 hr_6 => ?_)
  refine lv_iload hx hb dL_law_265 (lv_at hl 1 rfl) ?_
  refine lv_icmp_eq (tgt := 272) hx hb dL_law_267 (by decide) (fun c_267 => ?_) (fun c_267 => absurd (by rw [hr_6, hwr_1]) c_267)
  refine lv_iload hx hb dL_law_272 (lv_at hl 1 rfl) ?_
  refine lv_if_ne (tgt := 289) hx hb dL_law_274 (by decide) (fun c_274 => absurd hwr_1 c_274) (fun c_274 => ?_)
  refine lv_aload_n hx hb dL_law_277 rfl (lv_at hl 3 rfl) ?_
  refine lv_iconst (v := 0) hx hb dL_law_278 (by decide) ?_
  refine va_lald hx hb hK hP 0 4 rfl rfl (by unfold vp_in; decide +kernel) dL_law_279 ?_
  refine lv_iload hx hb dL_law_280 (lv_at hl 0 rfl) ?_
  refine lv_i2l (v := r_3.toInt64) hx hb dL_law_282 rfl ?_
  refine W.lcmp hx hb dL_law_283 ?_
  refine lv_topi (fun t_8 et_8 => ?_)
  refine lv_if_eq (tgt := 289) hx hb dL_law_284 (by decide) (fun c_284 => ?_) (fun c_284 => absurd (by rw [et_8]; show lg_cmp (g_2 0) _ = 0; rw [hg_2, hwr_3]; decide +kernel) c_284)
  refine lv_goto (tgt := 753) hx hb dL_law_289 (by decide) ?_
  exact law_end C9 hS (Nat.le_of_ble_eq_true rfl) (by first | exact Nat.le_of_ble_eq_true rfl | (show _ ≤ 7302198; omega)) (lv_sub hl [2, 6] rfl)
set_option maxHeartbeats 4000000 in
set_option maxRecDepth 100000 in
theorem lc_calm_ok {p : Program} {l : Launch} {e : Env} {s : State} {m : MethodId} {below : List Frame} {meth : Method} {c : Code} {b : Nat} {xs : Nat → Int32} (C0 : lw_At p s m meth c b 6 xs) {dC : Nat → ClassId} {dI : Nat → Nat → Nat} {cI cZ cN cO cL : ClassId} (hK : va_K (dC, dI) vwCl (gTyL cI cZ cN cO cL) s) (x oo : Nat) (na ro oa b1 b2 b3 b4 b5 b6 : Nat) (m0 d2 d3 d4 d5 d6 d7 d8 d13 d14 d15 d16 d17 d18 d19 d20 d21 d22 d23 d24 d25 d26 d27 d28 d29 d30 d31 d32 d33 d34 d35 d36 d39 n : Nat)  {H : Heap} {locs : List Loc} (hP : va_P (dC, dI) vwCl [(x, .inr (3, [.ref na, .ref ro, .ref oa, .int 0, .int 0, .int 0, .int 0, .int 0, .int 0])), (ro, .inr (2, [.int (nI n), .ref b1, .ref b2, .ref b3, .ref b4, .ref b5, .ref b6, .int 0, .int 0, .int 0])), (oo, .inl (cL, 1, .inr (.inl ((fun _ => 0))))), (m0, .inr (4, [.int (nI n), .int 0, .ref d2, .ref d3, .ref d4, .ref d5, .ref d6, .ref d7, .ref d8, .int 0, .int 0, .int 0, .int 0, .ref d13, .ref d14, .ref d15, .ref d16, .ref d17, .ref d18, .ref d19, .ref d20, .ref d21, .ref d22, .ref d23, .ref d24, .ref d25, .ref d26, .ref d27, .ref d28, .ref d29, .ref d30, .ref d31, .ref d32, .ref d33, .ref d34, .ref d35, .ref d36, .int 0, .int 0, .ref d39, .int 0]))] H) (hD : va_D (fun q : Nat => s.heap.size ≤ q) [(x, .inr (3, [.ref na, .ref ro, .ref oa, .int 0, .int 0, .int 0, .int 0, .int 0, .int 0])), (ro, .inr (2, [.int (nI n), .ref b1, .ref b2, .ref b3, .ref b4, .ref b5, .ref b6, .int 0, .int 0, .int 0])), (oo, .inl (cL, 1, .inr (.inl ((fun _ => 0))))), (m0, .inr (4, [.int (nI n), .int 0, .ref d2, .ref d3, .ref d4, .ref d5, .ref d6, .ref d7, .ref d8, .int 0, .int 0, .int 0, .int 0, .ref d13, .ref d14, .ref d15, .ref d16, .ref d17, .ref d18, .ref d19, .ref d20, .ref d21, .ref d22, .ref d23, .ref d24, .ref d25, .ref d26, .ref d27, .ref d28, .ref d29, .ref d30, .ref d31, .ref d32, .ref d33, .ref d34, .ref d35, .ref d36, .int 0, .int 0, .ref d39, .int 0]))]) (hS : va_S (fun q : Nat => s.heap.size ≤ q) s.heap H locs) {ls : Array Slot} (hl : lv_has ls 7 [(4, .int 1), (3, .ref oo), (2, .ref m0), (1, .ref x), (0, .ref b)]) (y1 y2 y3 y4 : Int32) (hy1 : y1 = xs (2 : Int32).toNatClampNeg) (hy2 : y2 = xs (3 : Int32).toNatClampNeg) (hy3 : y3 = xs (4 : Int32).toNatClampNeg) (hy4 : y4 = xs (5 : Int32).toNatClampNeg) (hok1 : ¬ y1 < 0) (hok2 : y1 ≤ 2000) : W p l e room_1 s m #[Value.ref b] below meth c H locs 300 200000 (lw_Z below #[Value.ref b] s) (F0 m 348 ls []) := by
  have C9 := C0
  obtain ⟨hx, hb, hr, hml, hown, hts, hX, hbl, hlocks, hgv⟩ := C0
  have hg : ∀ w ∈ gw, w.before _ s = true := fun w h => hts w (List.mem_filter.mp h).1
  have hA : ∀ q : Nat, s.heap.size ≤ q → (fun q : Nat => s.heap.size ≤ q) q := fun _ h => h
  have hbA : ¬ (fun q : Nat => s.heap.size ≤ q) b := Nat.not_le.mpr hbl
  refine lv_aload_n hx hb dL_law_348 rfl (lv_at hl 3 rfl) ?_
  refine lv_aload_n hx hb dL_law_349 rfl (lv_at hl 4 rfl) ?_
  refine lv_iload hx hb dL_law_350 (lv_at hl 0 rfl) ?_
  refine lv_iconst (v := 1) hx hb dL_law_352 (by decide) ?_
  refine lv_iadd hx hb dL_law_353 ?_
  rw [show (1 : Int32) + 1 = 2 from by decide]
  refine va_sld hx hb hX hbl hbA hS (by unfold vp_in; decide +kernel) dL_law_354 ?_
  rw [← hy1]
  refine lv_aload_n hx hb dL_law_355 rfl (lv_at hl 1 rfl) ?_
  have hPc := hP.sub (ws' := [(x, .inr (3, [.ref na, .ref ro, .ref oa, .int 0, .int 0, .int 0, .int 0, .int 0, .int 0])), (ro, .inr (2, [.int (nI n), .ref b1, .ref b2, .ref b3, .ref b4, .ref b5, .ref b6, .int 0, .int 0, .int 0])), (oo, .inl (cL, 1, .inr (.inl ((fun _ => 0)))))]) [0, 1, 2] rfl
  have hDc := hD.sub (ws' := [(x, .inr (3, [.ref na, .ref ro, .ref oa, .int 0, .int 0, .int 0, .int 0, .int 0, .int 0])), (ro, .inr (2, [.int (nI n), .ref b1, .ref b2, .ref b3, .ref b4, .ref b5, .ref b6, .int 0, .int 0, .int 0])), (oo, .inl (cL, 1, .inr (.inl ((fun _ => 0)))))]) [0, 1, 2] (by decide) rfl
  have hFc := va_free (wc := [(x, .inr (3, [.ref na, .ref ro, .ref oa, .int 0, .int 0, .int 0, .int 0, .int 0, .int 0])), (ro, .inr (2, [.int (nI n), .ref b1, .ref b2, .ref b3, .ref b4, .ref b5, .ref b6, .int 0, .int 0, .int 0])), (oo, .inl (cL, 1, .inr (.inl ((fun _ => 0)))))]) hD hS hA [0, 1, 2] rfl
  refine va_calli (vx_runSW (As := [.ref x, .int y1, .ref oo]) (rest := []) ⟨hx, hb, hml, hown, hg⟩ (h_calm_ok l dC dI cI cZ cN cO cL x na ro oa b1 b2 b3 b4 b5 b6 n y1 oo (fun _ => 0) H.size hok1 hok2) (vx_cwSW 3 hg (gw_SW kM_L_60 kT_L_calm kN_L kW_L_calm) rfl rfl rfl (by decide +kernel) ⟨Nat.le_of_ble_eq_true rfl, Nat.le_of_ble_eq_true rfl⟩) ⟨fun a U g mk q => by obtain ⟨q0, q1, qP, qK, qD⟩ := q; exact ⟨q0, q1, qP, va_K.moved (u := U) (U := U.calling g mk a) (Vm.Alike.refl U.vm) qK, qD⟩, fun U hU hW => ⟨rfl, by rw [hU], by rw [hU]; exact hPc, va_K.moved hW.alike hK, hDc.weaken (fun _ _ _ _ => trivial)⟩⟩ rfl rfl hl.1 rfl (lv_room (Nat.le_of_ble_eq_true rfl)) dL_law_356 ⟨Nat.le_of_ble_eq_true rfl, Nat.le_of_ble_eq_true rfl⟩) hS (fun q _ h => hFc q h) hFc (fun r_1 u t H1 locs ht hvm hwr_1 hB1 hz1 hk1 hS => ?_)
  obtain ⟨g_2, hg_2, hP1, hK1, hD1⟩ := hB1
  rw [ht] at hP1
  obtain ⟨hP, hD⟩ := va_join (wr := [(m0, .inr (4, [.int (nI n), .int 0, .ref d2, .ref d3, .ref d4, .ref d5, .ref d6, .ref d7, .ref d8, .int 0, .int 0, .int 0, .int 0, .ref d13, .ref d14, .ref d15, .ref d16, .ref d17, .ref d18, .ref d19, .ref d20, .ref d21, .ref d22, .ref d23, .ref d24, .ref d25, .ref d26, .ref d27, .ref d28, .ref d29, .ref d30, .ref d31, .ref d32, .ref d33, .ref d34, .ref d35, .ref d36, .int 0, .int 0, .ref d39, .int 0]))]) (w1 := [(oo, .inl (cL, 1, .inr (.inl g_2)))]) hP hD [0, 1, 2] [3] rfl rfl (by decide) (by decide) hk1 hFc hP1 hD1
  clear hPc hDc hFc hz1 hk1
  generalize H1 = H at hP hS ⊢
  have hP : va_P (dC, dI) vwCl [(m0, .inr (4, [.int (nI n), .int 0, .ref d2, .ref d3, .ref d4, .ref d5, .ref d6, .ref d7, .ref d8, .int 0, .int 0, .int 0, .int 0, .ref d13, .ref d14, .ref d15, .ref d16, .ref d17, .ref d18, .ref d19, .ref d20, .ref d21, .ref d22, .ref d23, .ref d24, .ref d25, .ref d26, .ref d27, .ref d28, .ref d29, .ref d30, .ref d31, .ref d32, .ref d33, .ref d34, .ref d35, .ref d36, .int 0, .int 0, .ref d39, .int 0])), (oo, .inl (cL, 1, .inr (.inl g_2)))] H := hP
  have hD : va_D (fun q : Nat => s.heap.size ≤ q) [(m0, .inr (4, [.int (nI n), .int 0, .ref d2, .ref d3, .ref d4, .ref d5, .ref d6, .ref d7, .ref d8, .int 0, .int 0, .int 0, .int 0, .ref d13, .ref d14, .ref d15, .ref d16, .ref d17, .ref d18, .ref d19, .ref d20, .ref d21, .ref d22, .ref d23, .ref d24, .ref d25, .ref d26, .ref d27, .ref d28, .ref d29, .ref d30, .ref d31, .ref d32, .ref d33, .ref d34, .ref d35, .ref d36, .int 0, .int 0, .ref d39, .int 0])), (oo, .inl (cL, 1, .inr (.inl g_2)))] := hD
  refine lv_istore (lv' := [(5, .int r_1), (4, .int 1), (3, .ref oo), (2, .ref m0), (1, .ref x), (0, .ref b)]) hx hb dL_law_359 hl (by decide) rfl (fun ls hl => ?_)
  refine lv_aload_n hx hb dL_law_361 rfl (lv_at hl 3 rfl) ?_
  refine lv_aload_n hx hb dL_law_362 rfl (lv_at hl 5 rfl) ?_
  refine lv_iload hx hb dL_law_363 (lv_at hl 1 rfl) ?_
  refine lv_iconst (v := 1) hx hb dL_law_365 (by decide) ?_
  refine lv_iadd hx hb dL_law_366 ?_
  rw [show (1 : Int32) + 1 = 2 from by decide]
  refine va_sld hx hb hX hbl hbA hS (by unfold vp_in; decide +kernel) dL_law_367 ?_
  rw [← hy1]
  have hPc := hP.sub (ws' := [(m0, .inr (4, [.int (nI n), .int 0, .ref d2, .ref d3, .ref d4, .ref d5, .ref d6, .ref d7, .ref d8, .int 0, .int 0, .int 0, .int 0, .ref d13, .ref d14, .ref d15, .ref d16, .ref d17, .ref d18, .ref d19, .ref d20, .ref d21, .ref d22, .ref d23, .ref d24, .ref d25, .ref d26, .ref d27, .ref d28, .ref d29, .ref d30, .ref d31, .ref d32, .ref d33, .ref d34, .ref d35, .ref d36, .int 0, .int 0, .ref d39, .int 0]))]) [0] rfl
  have hDc := hD.sub (ws' := [(m0, .inr (4, [.int (nI n), .int 0, .ref d2, .ref d3, .ref d4, .ref d5, .ref d6, .ref d7, .ref d8, .int 0, .int 0, .int 0, .int 0, .ref d13, .ref d14, .ref d15, .ref d16, .ref d17, .ref d18, .ref d19, .ref d20, .ref d21, .ref d22, .ref d23, .ref d24, .ref d25, .ref d26, .ref d27, .ref d28, .ref d29, .ref d30, .ref d31, .ref d32, .ref d33, .ref d34, .ref d35, .ref d36, .int 0, .int 0, .ref d39, .int 0]))]) [0] (by decide) rfl
  have hFc := va_free (wc := [(m0, .inr (4, [.int (nI n), .int 0, .ref d2, .ref d3, .ref d4, .ref d5, .ref d6, .ref d7, .ref d8, .int 0, .int 0, .int 0, .int 0, .ref d13, .ref d14, .ref d15, .ref d16, .ref d17, .ref d18, .ref d19, .ref d20, .ref d21, .ref d22, .ref d23, .ref d24, .ref d25, .ref d26, .ref d27, .ref d28, .ref d29, .ref d30, .ref d31, .ref d32, .ref d33, .ref d34, .ref d35, .ref d36, .int 0, .int 0, .ref d39, .int 0]))]) hD hS hA [0] rfl
  refine va_calli (va_runV (As := [.int y1]) (rest := []) ⟨hx, hb, hml, hown, hg⟩ (c_X4_calm_ok l dC dI cI cZ cN cO m0 d2 d3 d4 d5 d6 d7 d8 d13 d14 d15 d16 d17 d18 d19 d20 d21 d22 d23 d24 d25 d26 d27 d28 d29 d30 d31 d32 d33 d34 d35 d36 d39 n y1 H.size hok1 hok2) (cwV 1 hg (gw_V kM_L_62 kI_X4_calm kS_X4_calm kN_X4 kD_X4_calm) rfl rfl rfl (by decide +kernel) ⟨Nat.le_of_ble_eq_true rfl, Nat.le_of_ble_eq_true rfl⟩) ⟨fun a U g mk q => by obtain ⟨q0, q1, qP, qK, qD⟩ := q; exact ⟨q0, q1, qP, va_K.moved (u := U) (U := U.calling g mk a) (Vm.Alike.refl U.vm) qK, qD⟩, va_recv hK hP (ci := 4) (q0 := 0) rfl rfl, fun U hU hW => ⟨rfl, by rw [hU], by rw [hU]; exact hPc, va_K.moved hW.alike (hK.sub (tys' := gTy cI cZ cN cO) [0, 1, 2, 3] rfl), hDc.weaken (fun _ _ _ _ => trivial)⟩⟩ rfl rfl hl.1 rfl (lv_room (Nat.le_of_ble_eq_true rfl)) dL_law_368 ⟨Nat.le_of_ble_eq_true rfl, Nat.le_of_ble_eq_true rfl⟩) hS (fun q _ h => hFc q h) hFc (fun r_3 u t H1 locs ht hvm hwr_3 hB hz1 hk1 hS => ?_)
  obtain ⟨fs_4, hfs_5, hP1, hK1, hD1⟩ := hB
  rw [ht] at hP1
  obtain ⟨hP, hD⟩ := va_join (wr := [(oo, .inl (cL, 1, .inr (.inl g_2)))]) (w1 := [(m0, .inr (4, fs_4))]) hP hD [0] [1] rfl rfl (by decide) (by decide) hk1 hFc hP1 hD1
  clear hPc hDc hFc hP1 hK1 hD1 hz1 hk1 ht
  generalize H1 = H at hP hS ⊢
  have hP : va_P (dC, dI) vwCl [(oo, .inl (cL, 1, .inr (.inl g_2))), (m0, .inr (4, fs_4))] H := hP
  have hD : va_D (fun q : Nat => s.heap.size ≤ q) [(oo, .inl (cL, 1, .inr (.inl g_2))), (m0, .inr (4, fs_4))] := hD
  refine lv_istore (lv' := [(6, .int r_3), (5, .int r_1), (4, .int 1), (3, .ref oo), (2, .ref m0), (1, .ref x), (0, .ref b)]) hx hb dL_law_371 hl (by decide) rfl (fun ls hl => ?_)
  refine lv_aload_n hx hb dL_law_373 rfl (lv_at hl 4 rfl) ?_
  have hPc := hP.sub (ws' := [(m0, .inr (4, fs_4))]) [1] rfl
  refine vp_callSi (W.runV (As := []) (rest := []) ⟨hx, hb, hml, hown, hg⟩ (c_X4_thrown l dC dI cI cZ cN cO m0 fs_4 0 hfs_5) (cwV 0 hg (gw_V kM_L_48 kI_X4_thrown kS_X4_thrown kN_X4 kD_X4_thrown) rfl rfl rfl (by decide +kernel) ⟨Nat.le_of_ble_eq_true rfl, Nat.le_of_ble_eq_true rfl⟩) ⟨fun a U g mk q => by obtain ⟨q0, qP, qK⟩ := q; exact ⟨q0, qP, va_K.moved (u := U) (U := U.calling g mk a) (Vm.Alike.refl U.vm) qK⟩, va_recv hK hP (ci := 4) (q0 := 1) rfl rfl, fun U hU hW => ⟨rfl, by rw [hU]; exact hPc, va_K.moved hW.alike (hK.sub (tys' := gTy cI cZ cN cO) [0, 1, 2, 3] rfl)⟩⟩ rfl rfl hl.1 rfl (lv_room (Nat.le_of_ble_eq_true rfl)) dL_law_374 ⟨Nat.le_of_ble_eq_true rfl, Nat.le_of_ble_eq_true rfl⟩) (fun r_6 hr_6 => ?_)
  refine lv_iload hx hb dL_law_377 (lv_at hl 1 rfl) ?_
  refine lv_icmp_eq (tgt := 384) hx hb dL_law_379 (by decide) (fun c_379 => ?_) (fun c_379 => absurd (by rw [hr_6, hwr_1]) c_379)
  refine lv_iload hx hb dL_law_384 (lv_at hl 1 rfl) ?_
  refine lv_if_ne (tgt := 401) hx hb dL_law_386 (by decide) (fun c_386 => absurd hwr_1 c_386) (fun c_386 => ?_)
  refine lv_aload_n hx hb dL_law_389 rfl (lv_at hl 3 rfl) ?_
  refine lv_iconst (v := 0) hx hb dL_law_390 (by decide) ?_
  refine va_lald hx hb hK hP 0 4 rfl rfl (by unfold vp_in; decide +kernel) dL_law_391 ?_
  refine lv_iload hx hb dL_law_392 (lv_at hl 0 rfl) ?_
  refine lv_i2l (v := r_3.toInt64) hx hb dL_law_394 rfl ?_
  refine W.lcmp hx hb dL_law_395 ?_
  refine lv_topi (fun t_8 et_8 => ?_)
  refine lv_if_eq (tgt := 401) hx hb dL_law_396 (by decide) (fun c_396 => ?_) (fun c_396 => absurd (by rw [et_8]; show lg_cmp (g_2 0) _ = 0; rw [hg_2, hwr_3]; decide +kernel) c_396)
  refine lv_goto (tgt := 753) hx hb dL_law_401 (by decide) ?_
  exact law_end C9 hS (Nat.le_of_ble_eq_true rfl) (by first | exact Nat.le_of_ble_eq_true rfl | (show _ ≤ 7302198; omega)) (lv_sub hl [2, 6] rfl)
set_option maxHeartbeats 4000000 in
set_option maxRecDepth 100000 in
theorem lc_crash_ok {p : Program} {l : Launch} {e : Env} {s : State} {m : MethodId} {below : List Frame} {meth : Method} {c : Code} {b : Nat} {xs : Nat → Int32} (C0 : lw_At p s m meth c b 6 xs) {dC : Nat → ClassId} {dI : Nat → Nat → Nat} {cI cZ cN cO cL : ClassId} (hK : va_K (dC, dI) vwCl (gTyL cI cZ cN cO cL) s) (x oo : Nat) (na ro oa : Nat) (fn : Nat → Option Nat) (m0 d2 d3 d4 d5 d6 d7 d8 d13 d14 d15 d16 d17 d18 d19 d20 d21 d22 d23 d24 d25 d26 d27 d28 d29 d30 d31 d32 d33 d34 d35 d36 d39 n : Nat) (nd a1 a2 a3 a4 a5 : Nat) (ix : Int32)  {H : Heap} {locs : List Loc} (hP : va_P (dC, dI) vwCl [(x, .inr (3, [.ref na, .ref ro, .ref oa, .int 0, .int 0, .int 0, .int 0, .int 0, .int 0])), (na, .inl (cN, n, .inr (.inr (.inr (.inr fn))))), (nd, .inr (0, [.int ix, .ref a1, .ref a2, .ref a3, .ref a4, .ref a5, .int 1, .int 0, .int 0, .int 0, .null])), (oo, .inl (cL, 1, .inr (.inl ((fun _ => 0))))), (m0, .inr (4, [.int (nI n), .int 0, .ref d2, .ref d3, .ref d4, .ref d5, .ref d6, .ref d7, .ref d8, .int 0, .int 0, .int 0, .int 0, .ref d13, .ref d14, .ref d15, .ref d16, .ref d17, .ref d18, .ref d19, .ref d20, .ref d21, .ref d22, .ref d23, .ref d24, .ref d25, .ref d26, .ref d27, .ref d28, .ref d29, .ref d30, .ref d31, .ref d32, .ref d33, .ref d34, .ref d35, .ref d36, .int 0, .int 0, .ref d39, .int 0])), (d13, .inl (cZ, 31, .inl ((fun _ => 0))))] H) (hD : va_D (fun q : Nat => s.heap.size ≤ q) [(x, .inr (3, [.ref na, .ref ro, .ref oa, .int 0, .int 0, .int 0, .int 0, .int 0, .int 0])), (na, .inl (cN, n, .inr (.inr (.inr (.inr fn))))), (nd, .inr (0, [.int ix, .ref a1, .ref a2, .ref a3, .ref a4, .ref a5, .int 1, .int 0, .int 0, .int 0, .null])), (oo, .inl (cL, 1, .inr (.inl ((fun _ => 0))))), (m0, .inr (4, [.int (nI n), .int 0, .ref d2, .ref d3, .ref d4, .ref d5, .ref d6, .ref d7, .ref d8, .int 0, .int 0, .int 0, .int 0, .ref d13, .ref d14, .ref d15, .ref d16, .ref d17, .ref d18, .ref d19, .ref d20, .ref d21, .ref d22, .ref d23, .ref d24, .ref d25, .ref d26, .ref d27, .ref d28, .ref d29, .ref d30, .ref d31, .ref d32, .ref d33, .ref d34, .ref d35, .ref d36, .int 0, .int 0, .ref d39, .int 0])), (d13, .inl (cZ, 31, .inl ((fun _ => 0))))]) (hS : va_S (fun q : Nat => s.heap.size ≤ q) s.heap H locs) {ls : Array Slot} (hl : lv_has ls 7 [(4, .int 1), (3, .ref oo), (2, .ref m0), (1, .ref x), (0, .ref b)]) (y1 y2 y3 y4 : Int32) (hy1 : y1 = xs (2 : Int32).toNatClampNeg) (hy2 : y2 = xs (3 : Int32).toNatClampNeg) (hy3 : y3 = xs (4 : Int32).toNatClampNeg) (hy4 : y4 = xs (5 : Int32).toNatClampNeg) (hn : n ≤ 31) (hy : isN n y1) (hnd : fn y1.toNatClampNeg = some nd) : W p l e room_1 s m #[Value.ref b] below meth c H locs 300 200000 (lw_Z below #[Value.ref b] s) (F0 m 404 ls []) := by
  have C9 := C0
  obtain ⟨hx, hb, hr, hml, hown, hts, hX, hbl, hlocks, hgv⟩ := C0
  have hg : ∀ w ∈ gw, w.before _ s = true := fun w h => hts w (List.mem_filter.mp h).1
  have hA : ∀ q : Nat, s.heap.size ≤ q → (fun q : Nat => s.heap.size ≤ q) q := fun _ h => h
  have hbA : ¬ (fun q : Nat => s.heap.size ≤ q) b := Nat.not_le.mpr hbl
  refine lv_aload_n hx hb dL_law_404 rfl (lv_at hl 3 rfl) ?_
  refine lv_aload_n hx hb dL_law_405 rfl (lv_at hl 4 rfl) ?_
  refine lv_iload hx hb dL_law_406 (lv_at hl 0 rfl) ?_
  refine lv_iconst (v := 1) hx hb dL_law_408 (by decide) ?_
  refine lv_iadd hx hb dL_law_409 ?_
  rw [show (1 : Int32) + 1 = 2 from by decide]
  refine va_sld hx hb hX hbl hbA hS (by unfold vp_in; decide +kernel) dL_law_410 ?_
  rw [← hy1]
  refine lv_aload_n hx hb dL_law_411 rfl (lv_at hl 1 rfl) ?_
  have hPc := hP.sub (ws' := [(x, .inr (3, [.ref na, .ref ro, .ref oa, .int 0, .int 0, .int 0, .int 0, .int 0, .int 0])), (na, .inl (cN, n, .inr (.inr (.inr (.inr fn))))), (nd, .inr (0, [.int ix, .ref a1, .ref a2, .ref a3, .ref a4, .ref a5, .int 1, .int 0, .int 0, .int 0, .null])), (oo, .inl (cL, 1, .inr (.inl ((fun _ => 0)))))]) [0, 1, 2, 3] rfl
  have hDc := hD.sub (ws' := [(x, .inr (3, [.ref na, .ref ro, .ref oa, .int 0, .int 0, .int 0, .int 0, .int 0, .int 0])), (na, .inl (cN, n, .inr (.inr (.inr (.inr fn))))), (nd, .inr (0, [.int ix, .ref a1, .ref a2, .ref a3, .ref a4, .ref a5, .int 1, .int 0, .int 0, .int 0, .null])), (oo, .inl (cL, 1, .inr (.inl ((fun _ => 0)))))]) [0, 1, 2, 3] (by decide) rfl
  have hFc := va_free (wc := [(x, .inr (3, [.ref na, .ref ro, .ref oa, .int 0, .int 0, .int 0, .int 0, .int 0, .int 0])), (na, .inl (cN, n, .inr (.inr (.inr (.inr fn))))), (nd, .inr (0, [.int ix, .ref a1, .ref a2, .ref a3, .ref a4, .ref a5, .int 1, .int 0, .int 0, .int 0, .null])), (oo, .inl (cL, 1, .inr (.inl ((fun _ => 0)))))]) hD hS hA [0, 1, 2, 3] rfl
  refine va_calli (vx_runSW (As := [.ref x, .int y1, .ref oo]) (rest := []) ⟨hx, hb, hml, hown, hg⟩ (h_crash_ok l dC dI cI cZ cN cO cL x na ro oa n fn nd a1 a2 a3 a4 a5 ix y1 oo (fun _ => 0) H.size (by omega) hy hnd) (vx_cwSW 3 hg (gw_SW kM_L_63 kT_L_crash kN_L kW_L_crash) rfl rfl rfl (by decide +kernel) ⟨Nat.le_of_ble_eq_true rfl, Nat.le_of_ble_eq_true rfl⟩) ⟨fun a U g mk q => by obtain ⟨q0, q1, qP, qK, qD⟩ := q; exact ⟨q0, q1, qP, va_K.moved (u := U) (U := U.calling g mk a) (Vm.Alike.refl U.vm) qK, qD⟩, fun U hU hW => ⟨rfl, by rw [hU], by rw [hU]; exact hPc, va_K.moved hW.alike hK, hDc.weaken (fun _ _ _ _ => trivial)⟩⟩ rfl rfl hl.1 rfl (lv_room (Nat.le_of_ble_eq_true rfl)) dL_law_412 ⟨Nat.le_of_ble_eq_true rfl, Nat.le_of_ble_eq_true rfl⟩) hS (fun q _ h => hFc q h) hFc (fun r_1 u t H1 locs ht hvm hwr_1 hB1 hz1 hk1 hS => ?_)
  obtain ⟨g_2, hg_2, hP1, hK1, hD1⟩ := hB1
  rw [ht] at hP1
  obtain ⟨hP, hD⟩ := va_join (wr := [(m0, .inr (4, [.int (nI n), .int 0, .ref d2, .ref d3, .ref d4, .ref d5, .ref d6, .ref d7, .ref d8, .int 0, .int 0, .int 0, .int 0, .ref d13, .ref d14, .ref d15, .ref d16, .ref d17, .ref d18, .ref d19, .ref d20, .ref d21, .ref d22, .ref d23, .ref d24, .ref d25, .ref d26, .ref d27, .ref d28, .ref d29, .ref d30, .ref d31, .ref d32, .ref d33, .ref d34, .ref d35, .ref d36, .int 0, .int 0, .ref d39, .int 0])), (d13, .inl (cZ, 31, .inl ((fun _ => 0))))]) (w1 := [(oo, .inl (cL, 1, .inr (.inl g_2)))]) hP hD [0, 1, 2, 3] [4, 5] rfl rfl (by decide) (by decide) hk1 hFc hP1 hD1
  clear hPc hDc hFc hz1 hk1
  generalize H1 = H at hP hS ⊢
  have hP : va_P (dC, dI) vwCl [(m0, .inr (4, [.int (nI n), .int 0, .ref d2, .ref d3, .ref d4, .ref d5, .ref d6, .ref d7, .ref d8, .int 0, .int 0, .int 0, .int 0, .ref d13, .ref d14, .ref d15, .ref d16, .ref d17, .ref d18, .ref d19, .ref d20, .ref d21, .ref d22, .ref d23, .ref d24, .ref d25, .ref d26, .ref d27, .ref d28, .ref d29, .ref d30, .ref d31, .ref d32, .ref d33, .ref d34, .ref d35, .ref d36, .int 0, .int 0, .ref d39, .int 0])), (d13, .inl (cZ, 31, .inl ((fun _ => 0)))), (oo, .inl (cL, 1, .inr (.inl g_2)))] H := hP
  have hD : va_D (fun q : Nat => s.heap.size ≤ q) [(m0, .inr (4, [.int (nI n), .int 0, .ref d2, .ref d3, .ref d4, .ref d5, .ref d6, .ref d7, .ref d8, .int 0, .int 0, .int 0, .int 0, .ref d13, .ref d14, .ref d15, .ref d16, .ref d17, .ref d18, .ref d19, .ref d20, .ref d21, .ref d22, .ref d23, .ref d24, .ref d25, .ref d26, .ref d27, .ref d28, .ref d29, .ref d30, .ref d31, .ref d32, .ref d33, .ref d34, .ref d35, .ref d36, .int 0, .int 0, .ref d39, .int 0])), (d13, .inl (cZ, 31, .inl ((fun _ => 0)))), (oo, .inl (cL, 1, .inr (.inl g_2)))] := hD
  refine lv_istore (lv' := [(5, .int r_1), (4, .int 1), (3, .ref oo), (2, .ref m0), (1, .ref x), (0, .ref b)]) hx hb dL_law_415 hl (by decide) rfl (fun ls hl => ?_)
  refine lv_aload_n hx hb dL_law_417 rfl (lv_at hl 3 rfl) ?_
  refine lv_aload_n hx hb dL_law_418 rfl (lv_at hl 5 rfl) ?_
  refine lv_iload hx hb dL_law_419 (lv_at hl 1 rfl) ?_
  refine lv_iconst (v := 1) hx hb dL_law_421 (by decide) ?_
  refine lv_iadd hx hb dL_law_422 ?_
  rw [show (1 : Int32) + 1 = 2 from by decide]
  refine va_sld hx hb hX hbl hbA hS (by unfold vp_in; decide +kernel) dL_law_423 ?_
  rw [← hy1]
  have hPc := hP.sub (ws' := [(m0, .inr (4, [.int (nI n), .int 0, .ref d2, .ref d3, .ref d4, .ref d5, .ref d6, .ref d7, .ref d8, .int 0, .int 0, .int 0, .int 0, .ref d13, .ref d14, .ref d15, .ref d16, .ref d17, .ref d18, .ref d19, .ref d20, .ref d21, .ref d22, .ref d23, .ref d24, .ref d25, .ref d26, .ref d27, .ref d28, .ref d29, .ref d30, .ref d31, .ref d32, .ref d33, .ref d34, .ref d35, .ref d36, .int 0, .int 0, .ref d39, .int 0])), (d13, .inl (cZ, 31, .inl ((fun _ => 0))))]) [0, 1] rfl
  have hDc := hD.sub (ws' := [(m0, .inr (4, [.int (nI n), .int 0, .ref d2, .ref d3, .ref d4, .ref d5, .ref d6, .ref d7, .ref d8, .int 0, .int 0, .int 0, .int 0, .ref d13, .ref d14, .ref d15, .ref d16, .ref d17, .ref d18, .ref d19, .ref d20, .ref d21, .ref d22, .ref d23, .ref d24, .ref d25, .ref d26, .ref d27, .ref d28, .ref d29, .ref d30, .ref d31, .ref d32, .ref d33, .ref d34, .ref d35, .ref d36, .int 0, .int 0, .ref d39, .int 0])), (d13, .inl (cZ, 31, .inl ((fun _ => 0))))]) [0, 1] (by decide) rfl
  have hFc := va_free (wc := [(m0, .inr (4, [.int (nI n), .int 0, .ref d2, .ref d3, .ref d4, .ref d5, .ref d6, .ref d7, .ref d8, .int 0, .int 0, .int 0, .int 0, .ref d13, .ref d14, .ref d15, .ref d16, .ref d17, .ref d18, .ref d19, .ref d20, .ref d21, .ref d22, .ref d23, .ref d24, .ref d25, .ref d26, .ref d27, .ref d28, .ref d29, .ref d30, .ref d31, .ref d32, .ref d33, .ref d34, .ref d35, .ref d36, .int 0, .int 0, .ref d39, .int 0])), (d13, .inl (cZ, 31, .inl ((fun _ => 0))))]) hD hS hA [0, 1] rfl
  refine va_calli (va_runV (As := [.int y1]) (rest := []) ⟨hx, hb, hml, hown, hg⟩ (c_X4_crash_ok l dC dI cI cZ cN cO m0 d2 d3 d4 d5 d6 d7 d8 d13 d14 d15 d16 d17 d18 d19 d20 d21 d22 d23 d24 d25 d26 d27 d28 d29 d30 d31 d32 d33 d34 d35 d36 d39 n y1 H.size hn hy) (cwV 1 hg (gw_V kM_L_65 kI_X4_crash kS_X4_crash kN_X4 kD_X4_crash) rfl rfl rfl (by decide +kernel) ⟨Nat.le_of_ble_eq_true rfl, Nat.le_of_ble_eq_true rfl⟩) ⟨fun a U g mk q => by obtain ⟨q0, q1, qP, qK, qD⟩ := q; exact ⟨q0, q1, qP, va_K.moved (u := U) (U := U.calling g mk a) (Vm.Alike.refl U.vm) qK, qD⟩, va_recv hK hP (ci := 4) (q0 := 0) rfl rfl, fun U hU hW => ⟨rfl, by rw [hU], by rw [hU]; exact hPc, va_K.moved hW.alike (hK.sub (tys' := gTy cI cZ cN cO) [0, 1, 2, 3] rfl), hDc.weaken (fun _ _ _ _ => trivial)⟩⟩ rfl rfl hl.1 rfl (lv_room (Nat.le_of_ble_eq_true rfl)) dL_law_424 ⟨Nat.le_of_ble_eq_true rfl, Nat.le_of_ble_eq_true rfl⟩) hS (fun q _ h => hFc q h) hFc (fun r_3 u t H1 locs ht hvm hwr_3 hB hz1 hk1 hS => ?_)
  obtain ⟨fs_4, hfs_5, hP1, hK1, hD1⟩ := hB
  rw [ht] at hP1
  obtain ⟨hP, hD⟩ := va_join (wr := [(oo, .inl (cL, 1, .inr (.inl g_2)))]) (w1 := [(m0, .inr (4, fs_4))]) hP hD [0, 1] [2] rfl rfl (by decide) (by decide) hk1 hFc hP1 hD1
  clear hPc hDc hFc hP1 hK1 hD1 hz1 hk1 ht
  generalize H1 = H at hP hS ⊢
  have hP : va_P (dC, dI) vwCl [(oo, .inl (cL, 1, .inr (.inl g_2))), (m0, .inr (4, fs_4))] H := hP
  have hD : va_D (fun q : Nat => s.heap.size ≤ q) [(oo, .inl (cL, 1, .inr (.inl g_2))), (m0, .inr (4, fs_4))] := hD
  refine lv_istore (lv' := [(6, .int r_3), (5, .int r_1), (4, .int 1), (3, .ref oo), (2, .ref m0), (1, .ref x), (0, .ref b)]) hx hb dL_law_427 hl (by decide) rfl (fun ls hl => ?_)
  refine lv_aload_n hx hb dL_law_429 rfl (lv_at hl 4 rfl) ?_
  have hPc := hP.sub (ws' := [(m0, .inr (4, fs_4))]) [1] rfl
  refine vp_callSi (W.runV (As := []) (rest := []) ⟨hx, hb, hml, hown, hg⟩ (c_X4_thrown l dC dI cI cZ cN cO m0 fs_4 0 hfs_5) (cwV 0 hg (gw_V kM_L_48 kI_X4_thrown kS_X4_thrown kN_X4 kD_X4_thrown) rfl rfl rfl (by decide +kernel) ⟨Nat.le_of_ble_eq_true rfl, Nat.le_of_ble_eq_true rfl⟩) ⟨fun a U g mk q => by obtain ⟨q0, qP, qK⟩ := q; exact ⟨q0, qP, va_K.moved (u := U) (U := U.calling g mk a) (Vm.Alike.refl U.vm) qK⟩, va_recv hK hP (ci := 4) (q0 := 1) rfl rfl, fun U hU hW => ⟨rfl, by rw [hU]; exact hPc, va_K.moved hW.alike (hK.sub (tys' := gTy cI cZ cN cO) [0, 1, 2, 3] rfl)⟩⟩ rfl rfl hl.1 rfl (lv_room (Nat.le_of_ble_eq_true rfl)) dL_law_430 ⟨Nat.le_of_ble_eq_true rfl, Nat.le_of_ble_eq_true rfl⟩) (fun r_6 hr_6 => ?_)
  refine lv_iload hx hb dL_law_433 (lv_at hl 1 rfl) ?_
  refine lv_icmp_eq (tgt := 440) hx hb dL_law_435 (by decide) (fun c_435 => ?_) (fun c_435 => absurd (by rw [hr_6, hwr_1]) c_435)
  refine lv_iload hx hb dL_law_440 (lv_at hl 1 rfl) ?_
  refine lv_if_ne (tgt := 464) hx hb dL_law_442 (by decide) (fun c_442 => absurd hwr_1 c_442) (fun c_442 => ?_)
  refine lv_aload_n hx hb dL_law_445 rfl (lv_at hl 3 rfl) ?_
  refine lv_iconst (v := 0) hx hb dL_law_446 (by decide) ?_
  refine va_lald hx hb hK hP 0 4 rfl rfl (by unfold vp_in; decide +kernel) dL_law_447 ?_
  refine lv_iload hx hb dL_law_448 (lv_at hl 0 rfl) ?_
  refine lv_if_eq (tgt := 457) hx hb dL_law_450 (by decide) (fun c_450 => absurd c_450 (by rw [hwr_3]; decide)) (fun c_450 => ?_)
  refine lv_lconst (v := 1) hx hb dL_law_453 (by decide) ?_
  refine lv_goto (tgt := 458) hx hb dL_law_454 (by decide) ?_
  refine W.lcmp hx hb dL_law_458 ?_
  refine lv_topi (fun t_7 et_7 => ?_)
  refine lv_if_eq (tgt := 464) hx hb dL_law_459 (by decide) (fun c_459 => ?_) (fun c_459 => absurd (by rw [et_7]; show lg_cmp (g_2 0) _ = 0; rw [hg_2]; decide +kernel) c_459)
  refine lv_goto (tgt := 753) hx hb dL_law_464 (by decide) ?_
  exact law_end C9 hS (Nat.le_of_ble_eq_true rfl) (by first | exact Nat.le_of_ble_eq_true rfl | (show _ ≤ 7302198; omega)) (lv_sub hl [2, 6] rfl)
