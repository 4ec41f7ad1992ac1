theorem gP_nil {D : va_G} {H : Heap} : va_P D vwCl [] H := fun k q h => by simp at h
theorem gD_nil {A : Nat → Prop} : va_D A [] := ⟨fun i j p q h => by simp at h, fun k q h => by simp at h⟩
set_option maxHeartbeats 4000000 in
set_option maxRecDepth 100000 in
/-- behind the one call: the loop ends, the law answers 1 -/
theorem law_end {p : Program} {l : Launch} {e : Env} {s : State} {m : MethodId} {below : List Frame} {meth : Method} {c : Code} {b : Nat} {xs : Nat → Int32} (C0 : lw_At p s m meth c b 6 xs) {H : Heap} {locs : List Loc} {cells slots : Nat} (hS : va_S (fun q : Nat => s.heap.size ≤ q) s.heap H locs) (hc : cells ≤ 600002) (hs : slots ≤ 7302198) {ls : Array Slot} (hl : lv_has ls 7 [(4, .int 1), (0, .ref b)]) : W p l e room_1 s m #[Value.ref b] below meth c H locs cells slots (lw_Z below #[Value.ref b] s) (F0 m 753 ls []) := by
  obtain ⟨hx, hb, hr, hml, hown, hts, hX, hbl, hlocks, hgv⟩ := C0
  have hg : ∀ w ∈ gw, w.before _ s = true := fun w h => hts w (List.mem_filter.mp h).1
  have hA : ∀ q : Nat, s.heap.size ≤ q → (fun q : Nat => s.heap.size ≤ q) q := fun _ h => h
  have hbA : ¬ (fun q : Nat => s.heap.size ≤ q) b := Nat.not_le.mpr hbl
  refine lv_iinc (v := 6) (lv' := [(4, .int 6), (0, .ref b)]) hx hb dL_law_753 hl (k := 0) rfl (by decide) (by decide) rfl (fun ls hl => ?_)
  refine lv_goto (tgt := 33) hx hb dL_law_756 (by decide) ?_
  refine lv_iload hx hb dL_law_33 (lv_at hl 0 rfl) ?_
  refine lv_aload_n hx hb dL_law_35 rfl (lv_at hl 1 rfl) ?_
  refine va_slen hx hb hX hbl hbA hS dL_law_36 ?_
  refine lv_iconst (v := 5) hx hb dL_law_37 (by decide) ?_
  refine lv_isub hx hb dL_law_38 ?_
  refine lv_icmp_gt (tgt := 759) hx hb dL_law_39 (by decide) (fun c_39 => ?_) (fun c_39 => absurd (by decide +kernel) c_39)
  refine lv_iconst (v := 1) hx hb dL_law_759 (by decide) ?_
  refine va_forget (fun q hq => hS.2.2 q hq) ?_
  refine W.widen (k := 600002) (n := 7302198) hc hs ?_
  exact lw_ret hx hb hr hlocks dL_law_760
set_option maxHeartbeats 4000000 in
set_option maxRecDepth 100000 in
theorem lc_told {p : Program} {l : Launch} {e : Env} {s : State} {m : MethodId} {below : List Frame} {meth : Method} {c : Code} {b : Nat} {xs : Nat → Int32} (C0 : lw_At p s m meth c b 6 xs) {dC : Nat → ClassId} {dI : Nat → Nat → Nat} {cI cZ cN cO cL : ClassId} (hK : va_K (dC, dI) vwCl (gTyL cI cZ cN cO cL) s) (x oo : Nat) (na ro oa : Nat) (m0 d2 d3 d4 d5 d6 d7 d8 d13 d14 d15 d16 d17 d18 d19 d20 d21 d22 d23 d24 d25 d26 d27 d28 d29 d30 d31 d32 d33 d34 d35 d36 d39 n : Nat)  {H : Heap} {locs : List Loc} (hP : va_P (dC, dI) vwCl [(x, .inr (3, [.ref na, .ref ro, .ref oa, .int 0, .int 0, .int 0, .int 0, .int 0, .int 0])), (oa, .inl (cO, 512, .inr (.inr (.inr (.inr ((fun _ => none))))))), (m0, .inr (4, [.int (nI n), .int 0, .ref d2, .ref d3, .ref d4, .ref d5, .ref d6, .ref d7, .ref d8, .int 0, .int 0, .int 0, .int 0, .ref d13, .ref d14, .ref d15, .ref d16, .ref d17, .ref d18, .ref d19, .ref d20, .ref d21, .ref d22, .ref d23, .ref d24, .ref d25, .ref d26, .ref d27, .ref d28, .ref d29, .ref d30, .ref d31, .ref d32, .ref d33, .ref d34, .ref d35, .ref d36, .int 0, .int 0, .ref d39, .int 0]))] H) (hD : va_D (fun q : Nat => s.heap.size ≤ q) [(x, .inr (3, [.ref na, .ref ro, .ref oa, .int 0, .int 0, .int 0, .int 0, .int 0, .int 0])), (oa, .inl (cO, 512, .inr (.inr (.inr (.inr ((fun _ => none))))))), (m0, .inr (4, [.int (nI n), .int 0, .ref d2, .ref d3, .ref d4, .ref d5, .ref d6, .ref d7, .ref d8, .int 0, .int 0, .int 0, .int 0, .ref d13, .ref d14, .ref d15, .ref d16, .ref d17, .ref d18, .ref d19, .ref d20, .ref d21, .ref d22, .ref d23, .ref d24, .ref d25, .ref d26, .ref d27, .ref d28, .ref d29, .ref d30, .ref d31, .ref d32, .ref d33, .ref d34, .ref d35, .ref d36, .int 0, .int 0, .ref d39, .int 0]))]) (hS : va_S (fun q : Nat => s.heap.size ≤ q) s.heap H locs) {ls : Array Slot} (hl : lv_has ls 7 [(4, .int 1), (3, .ref oo), (2, .ref m0), (1, .ref x), (0, .ref b)]) (y1 y2 y3 y4 : Int32) (hy1 : y1 = xs (2 : Int32).toNatClampNeg) (hy2 : y2 = xs (3 : Int32).toNatClampNeg) (hy3 : y3 = xs (4 : Int32).toNatClampNeg) (hy4 : y4 = xs (5 : Int32).toNatClampNeg)  : W p l e room_1 s m #[Value.ref b] below meth c H locs 300 200000 (lw_Z below #[Value.ref b] s) (F0 m 467 ls []) := by
  have C9 := C0
  obtain ⟨hx, hb, hr, hml, hown, hts, hX, hbl, hlocks, hgv⟩ := C0
  have hg : ∀ w ∈ gw, w.before _ s = true := fun w h => hts w (List.mem_filter.mp h).1
  have hA : ∀ q : Nat, s.heap.size ≤ q → (fun q : Nat => s.heap.size ≤ q) q := fun _ h => h
  have hbA : ¬ (fun q : Nat => s.heap.size ≤ q) b := Nat.not_le.mpr hbl
  refine lv_aload_n hx hb dL_law_467 rfl (lv_at hl 3 rfl) ?_
  refine lv_aload_n hx hb dL_law_468 rfl (lv_at hl 4 rfl) ?_
  refine lv_iload hx hb dL_law_469 (lv_at hl 0 rfl) ?_
  refine lv_iconst (v := 1) hx hb dL_law_471 (by decide) ?_
  refine lv_iadd hx hb dL_law_472 ?_
  rw [show (1 : Int32) + 1 = 2 from by decide]
  refine va_sld hx hb hX hbl hbA hS (by unfold vp_in; decide +kernel) dL_law_473 ?_
  rw [← hy1]
  refine lv_aload_n hx hb dL_law_474 rfl (lv_at hl 4 rfl) ?_
  refine lv_iload hx hb dL_law_475 (lv_at hl 0 rfl) ?_
  refine lv_iconst (v := 2) hx hb dL_law_477 (by decide) ?_
  refine lv_iadd hx hb dL_law_478 ?_
  rw [show (1 : Int32) + 2 = 3 from by decide]
  refine va_sld hx hb hX hbl hbA hS (by unfold vp_in; decide +kernel) dL_law_479 ?_
  rw [← hy2]
  have hPc := hP.sub (ws' := [(x, .inr (3, [.ref na, .ref ro, .ref oa, .int 0, .int 0, .int 0, .int 0, .int 0, .int 0])), (oa, .inl (cO, 512, .inr (.inr (.inr (.inr ((fun _ => none)))))))]) [0, 1] rfl
  refine vp_callSi (W.runV (As := [.int y1, .int y2]) (rest := []) ⟨hx, hb, hml, hown, hg⟩ (c_X3_told l dC dI cI cZ cN cO x na ro oa y1 y2) (cwV 2 hg (gw_V kM_L_66 kI_X3_told kS_X3_told kN_X3 kD_X3_told) rfl rfl rfl (by decide +kernel) ⟨Nat.le_of_ble_eq_true rfl, Nat.le_of_ble_eq_true rfl⟩) ⟨fun a U g mk q => by obtain ⟨q0, qP, qK⟩ := q; exact ⟨q0, qP, va_K.moved (u := U) (U := U.calling g mk a) (Vm.Alike.refl U.vm) qK⟩, va_recv hK hP (ci := 3) (q0 := 0) rfl rfl, fun U hU hW => ⟨rfl, by rw [hU]; exact hPc, va_K.moved hW.alike (hK.sub (tys' := gTy cI cZ cN cO) [0, 1, 2, 3] rfl)⟩⟩ rfl rfl hl.1 rfl (lv_room (Nat.le_of_ble_eq_true rfl)) dL_law_480 ⟨Nat.le_of_ble_eq_true rfl, Nat.le_of_ble_eq_true rfl⟩) (fun r_1 hr_1 => ?_)
  refine lv_aload_n hx hb dL_law_483 rfl (lv_at hl 2 rfl) ?_
  refine lv_aload_n hx hb dL_law_484 rfl (lv_at hl 4 rfl) ?_
  refine lv_iload hx hb dL_law_485 (lv_at hl 0 rfl) ?_
  refine lv_iconst (v := 1) hx hb dL_law_487 (by decide) ?_
  refine lv_iadd hx hb dL_law_488 ?_
  rw [show (1 : Int32) + 1 = 2 from by decide]
  refine va_sld hx hb hX hbl hbA hS (by unfold vp_in; decide +kernel) dL_law_489 ?_
  rw [← hy1]
  refine lv_aload_n hx hb dL_law_490 rfl (lv_at hl 4 rfl) ?_
  refine lv_iload hx hb dL_law_491 (lv_at hl 0 rfl) ?_
  refine lv_iconst (v := 2) hx hb dL_law_493 (by decide) ?_
  refine lv_iadd hx hb dL_law_494 ?_
  rw [show (1 : Int32) + 2 = 3 from by decide]
  refine va_sld hx hb hX hbl hbA hS (by unfold vp_in; decide +kernel) dL_law_495 ?_
  rw [← hy2]
  have hPc := hP.sub (ws' := [(m0, .inr (4, [.int (nI n), .int 0, .ref d2, .ref d3, .ref d4, .ref d5, .ref d6, .ref d7, .ref d8, .int 0, .int 0, .int 0, .int 0, .ref d13, .ref d14, .ref d15, .ref d16, .ref d17, .ref d18, .ref d19, .ref d20, .ref d21, .ref d22, .ref d23, .ref d24, .ref d25, .ref d26, .ref d27, .ref d28, .ref d29, .ref d30, .ref d31, .ref d32, .ref d33, .ref d34, .ref d35, .ref d36, .int 0, .int 0, .ref d39, .int 0]))]) [2] rfl
  have hDc := hD.sub (ws' := [(m0, .inr (4, [.int (nI n), .int 0, .ref d2, .ref d3, .ref d4, .ref d5, .ref d6, .ref d7, .ref d8, .int 0, .int 0, .int 0, .int 0, .ref d13, .ref d14, .ref d15, .ref d16, .ref d17, .ref d18, .ref d19, .ref d20, .ref d21, .ref d22, .ref d23, .ref d24, .ref d25, .ref d26, .ref d27, .ref d28, .ref d29, .ref d30, .ref d31, .ref d32, .ref d33, .ref d34, .ref d35, .ref d36, .int 0, .int 0, .ref d39, .int 0]))]) [2] (by decide) rfl
  have hFc := va_free (wc := [(m0, .inr (4, [.int (nI n), .int 0, .ref d2, .ref d3, .ref d4, .ref d5, .ref d6, .ref d7, .ref d8, .int 0, .int 0, .int 0, .int 0, .ref d13, .ref d14, .ref d15, .ref d16, .ref d17, .ref d18, .ref d19, .ref d20, .ref d21, .ref d22, .ref d23, .ref d24, .ref d25, .ref d26, .ref d27, .ref d28, .ref d29, .ref d30, .ref d31, .ref d32, .ref d33, .ref d34, .ref d35, .ref d36, .int 0, .int 0, .ref d39, .int 0]))]) hD hS hA [2] rfl
  refine va_calli (va_runV (As := [.int y1, .int y2]) (rest := [.int r_1]) ⟨hx, hb, hml, hown, hg⟩ (c_X4_told l dC dI cI cZ cN cO m0 d2 d3 d4 d5 d6 d7 d8 d13 d14 d15 d16 d17 d18 d19 d20 d21 d22 d23 d24 d25 d26 d27 d28 d29 d30 d31 d32 d33 d34 d35 d36 d39 n y1 y2 H.size ) (cwV 2 hg (gw_V kM_L_70 kI_X4_told kS_X4_told kN_X4 kD_X4_told) rfl rfl rfl (by decide +kernel) ⟨Nat.le_of_ble_eq_true rfl, Nat.le_of_ble_eq_true rfl⟩) ⟨fun a U g mk q => by obtain ⟨q0, q1, qP, qK, qD⟩ := q; exact ⟨q0, q1, qP, va_K.moved (u := U) (U := U.calling g mk a) (Vm.Alike.refl U.vm) qK, qD⟩, va_recv hK hP (ci := 4) (q0 := 2) rfl rfl, fun U hU hW => ⟨rfl, by rw [hU], by rw [hU]; exact hPc, va_K.moved hW.alike (hK.sub (tys' := gTy cI cZ cN cO) [0, 1, 2, 3] rfl), hDc.weaken (fun _ _ _ _ => trivial)⟩⟩ rfl rfl hl.1 rfl (lv_room (Nat.le_of_ble_eq_true rfl)) dL_law_496 ⟨Nat.le_of_ble_eq_true rfl, Nat.le_of_ble_eq_true rfl⟩) hS (fun q _ h => hFc q h) hFc (fun r_2 u t H1 locs ht hvm hwr_2 hB hz1 hk1 hS => ?_)
  obtain ⟨hP1, hK1, hD1⟩ := hB
  rw [ht] at hP1
  obtain ⟨hP, hD⟩ := va_join (wr := [(x, .inr (3, [.ref na, .ref ro, .ref oa, .int 0, .int 0, .int 0, .int 0, .int 0, .int 0])), (oa, .inl (cO, 512, .inr (.inr (.inr (.inr ((fun _ => none)))))))]) (w1 := []) hP hD [2] [0, 1] rfl rfl (by decide) (by decide) hk1 hFc hP1 hD1
  clear hPc hDc hFc hP1 hK1 hD1 hz1 hk1 ht
  generalize H1 = H at hP hS ⊢
  have hP : va_P (dC, dI) vwCl [(x, .inr (3, [.ref na, .ref ro, .ref oa, .int 0, .int 0, .int 0, .int 0, .int 0, .int 0])), (oa, .inl (cO, 512, .inr (.inr (.inr (.inr ((fun _ => none)))))))] H := hP
  have hD : va_D (fun q : Nat => s.heap.size ≤ q) [(x, .inr (3, [.ref na, .ref ro, .ref oa, .int 0, .int 0, .int 0, .int 0, .int 0, .int 0])), (oa, .inl (cO, 512, .inr (.inr (.inr (.inr ((fun _ => none)))))))] := hD
  refine lv_icmp_eq (tgt := 753) hx hb dL_law_499 (by decide) (fun c_499 => ?_) (fun c_499 => absurd (by rw [hr_1, hwr_2]) c_499)
  exact law_end C9 hS (Nat.le_of_ble_eq_true rfl) (by first | exact Nat.le_of_ble_eq_true rfl | (show _ ≤ 7302198; omega)) (lv_sub hl [0, 4] rfl)
set_option maxHeartbeats 4000000 in
set_option maxRecDepth 100000 in
theorem lc_answer {p : Program} {l : Launch} {e : Env} {s : State} {m : MethodId} {below : List Frame} {meth : Method} {c : Code} {b : Nat} {xs : Nat → Int32} (C0 : lw_At p s m meth c b 6 xs) {dC : Nat → ClassId} {dI : Nat → Nat → Nat} {cI cZ cN cO cL : ClassId} (hK : va_K (dC, dI) vwCl (gTyL cI cZ cN cO cL) s) (x oo : Nat) (na ro oa : Nat) (m0 d2 d3 d4 d5 d6 d7 d8 d13 d14 d15 d16 d17 d18 d19 d20 d21 d22 d23 d24 d25 d26 d27 d28 d29 d30 d31 d32 d33 d34 d35 d36 d39 n : Nat)  {H : Heap} {locs : List Loc} (hP : va_P (dC, dI) vwCl [(x, .inr (3, [.ref na, .ref ro, .ref oa, .int 0, .int 0, .int 0, .int 0, .int 0, .int 0])), (oa, .inl (cO, 512, .inr (.inr (.inr (.inr ((fun _ => none))))))), (m0, .inr (4, [.int (nI n), .int 0, .ref d2, .ref d3, .ref d4, .ref d5, .ref d6, .ref d7, .ref d8, .int 0, .int 0, .int 0, .int 0, .ref d13, .ref d14, .ref d15, .ref d16, .ref d17, .ref d18, .ref d19, .ref d20, .ref d21, .ref d22, .ref d23, .ref d24, .ref d25, .ref d26, .ref d27, .ref d28, .ref d29, .ref d30, .ref d31, .ref d32, .ref d33, .ref d34, .ref d35, .ref d36, .int 0, .int 0, .ref d39, .int 0]))] H) (hD : va_D (fun q : Nat => s.heap.size ≤ q) [(x, .inr (3, [.ref na, .ref ro, .ref oa, .int 0, .int 0, .int 0, .int 0, .int 0, .int 0])), (oa, .inl (cO, 512, .inr (.inr (.inr (.inr ((fun _ => none))))))), (m0, .inr (4, [.int (nI n), .int 0, .ref d2, .ref d3, .ref d4, .ref d5, .ref d6, .ref d7, .ref d8, .int 0, .int 0, .int 0, .int 0, .ref d13, .ref d14, .ref d15, .ref d16, .ref d17, .ref d18, .ref d19, .ref d20, .ref d21, .ref d22, .ref d23, .ref d24, .ref d25, .ref d26, .ref d27, .ref d28, .ref d29, .ref d30, .ref d31, .ref d32, .ref d33, .ref d34, .ref d35, .ref d36, .int 0, .int 0, .ref d39, .int 0]))]) (hS : va_S (fun q : Nat => s.heap.size ≤ q) s.heap H locs) {ls : Array Slot} (hl : lv_has ls 7 [(4, .int 1), (3, .ref oo), (2, .ref m0), (1, .ref x), (0, .ref b)]) (y1 y2 y3 y4 : Int32) (hy1 : y1 = xs (2 : Int32).toNatClampNeg) (hy2 : y2 = xs (3 : Int32).toNatClampNeg) (hy3 : y3 = xs (4 : Int32).toNatClampNeg) (hy4 : y4 = xs (5 : Int32).toNatClampNeg)  : W p l e room_1 s m #[Value.ref b] below meth c H locs 300 200000 (lw_Z below #[Value.ref b] s) (F0 m 504 ls []) := by
  have C9 := C0
  obtain ⟨hx, hb, hr, hml, hown, hts, hX, hbl, hlocks, hgv⟩ := C0
  have hg : ∀ w ∈ gw, w.before _ s = true := fun w h => hts w (List.mem_filter.mp h).1
  have hA : ∀ q : Nat, s.heap.size ≤ q → (fun q : Nat => s.heap.size ≤ q) q := fun _ h => h
  have hbA : ¬ (fun q : Nat => s.heap.size ≤ q) b := Nat.not_le.mpr hbl
  refine lv_aload_n hx hb dL_law_504 rfl (lv_at hl 3 rfl) ?_
  refine lv_aload_n hx hb dL_law_505 rfl (lv_at hl 4 rfl) ?_
  refine lv_iload hx hb dL_law_506 (lv_at hl 0 rfl) ?_
  refine lv_iconst (v := 1) hx hb dL_law_508 (by decide) ?_
  refine lv_iadd hx hb dL_law_509 ?_
  rw [show (1 : Int32) + 1 = 2 from by decide]
  refine va_sld hx hb hX hbl hbA hS (by unfold vp_in; decide +kernel) dL_law_510 ?_
  rw [← hy1]
  have hPc := hP.sub (ws' := [(x, .inr (3, [.ref na, .ref ro, .ref oa, .int 0, .int 0, .int 0, .int 0, .int 0, .int 0])), (oa, .inl (cO, 512, .inr (.inr (.inr (.inr ((fun _ => none)))))))]) [0, 1] rfl
  refine vp_callSl (W.runV (As := [.int y1]) (rest := []) ⟨hx, hb, hml, hown, hg⟩ (c_X3_answer l dC dI cI cZ cN cO x na ro oa y1) (cwV 1 hg (gw_V kM_L_71 kI_X3_answer kS_X3_answer kN_X3 kD_X3_answer) rfl rfl rfl (by decide +kernel) ⟨Nat.le_of_ble_eq_true rfl, Nat.le_of_ble_eq_true rfl⟩) ⟨fun a U g mk q => by obtain ⟨q0, qP, qK⟩ := q; exact ⟨q0, qP, va_K.moved (u := U) (U := U.calling g mk a) (Vm.Alike.refl U.vm) qK⟩, va_recv hK hP (ci := 3) (q0 := 0) rfl rfl, fun U hU hW => ⟨rfl, by rw [hU]; exact hPc, va_K.moved hW.alike (hK.sub (tys' := gTy cI cZ cN cO) [0, 1, 2, 3] rfl)⟩⟩ rfl rfl hl.1 rfl (lv_room (Nat.le_of_ble_eq_true rfl)) dL_law_511 ⟨Nat.le_of_ble_eq_true rfl, Nat.le_of_ble_eq_true rfl⟩) (fun r_1 hr_1 => ?_)
  refine lv_aload_n hx hb dL_law_514 rfl (lv_at hl 2 rfl) ?_
  refine lv_aload_n hx hb dL_law_515 rfl (lv_at hl 4 rfl) ?_
  refine lv_iload hx hb dL_law_516 (lv_at hl 0 rfl) ?_
  refine lv_iconst (v := 1) hx hb dL_law_518 (by decide) ?_
  refine lv_iadd hx hb dL_law_519 ?_
  rw [show (1 : Int32) + 1 = 2 from by decide]
  refine va_sld hx hb hX hbl hbA hS (by unfold vp_in; decide +kernel) dL_law_520 ?_
  rw [← hy1]
  have hPc := hP.sub (ws' := [(m0, .inr (4, [.int (nI n), .int 0, .ref d2, .ref d3, .ref d4, .ref d5, .ref d6, .ref d7, .ref d8, .int 0, .int 0, .int 0, .int 0, .ref d13, .ref d14, .ref d15, .ref d16, .ref d17, .ref d18, .ref d19, .ref d20, .ref d21, .ref d22, .ref d23, .ref d24, .ref d25, .ref d26, .ref d27, .ref d28, .ref d29, .ref d30, .ref d31, .ref d32, .ref d33, .ref d34, .ref d35, .ref d36, .int 0, .int 0, .ref d39, .int 0]))]) [2] rfl
  have hDc := hD.sub (ws' := [(m0, .inr (4, [.int (nI n), .int 0, .ref d2, .ref d3, .ref d4, .ref d5, .ref d6, .ref d7, .ref d8, .int 0, .int 0, .int 0, .int 0, .ref d13, .ref d14, .ref d15, .ref d16, .ref d17, .ref d18, .ref d19, .ref d20, .ref d21, .ref d22, .ref d23, .ref d24, .ref d25, .ref d26, .ref d27, .ref d28, .ref d29, .ref d30, .ref d31, .ref d32, .ref d33, .ref d34, .ref d35, .ref d36, .int 0, .int 0, .ref d39, .int 0]))]) [2] (by decide) rfl
  have hFc := va_free (wc := [(m0, .inr (4, [.int (nI n), .int 0, .ref d2, .ref d3, .ref d4, .ref d5, .ref d6, .ref d7, .ref d8, .int 0, .int 0, .int 0, .int 0, .ref d13, .ref d14, .ref d15, .ref d16, .ref d17, .ref d18, .ref d19, .ref d20, .ref d21, .ref d22, .ref d23, .ref d24, .ref d25, .ref d26, .ref d27, .ref d28, .ref d29, .ref d30, .ref d31, .ref d32, .ref d33, .ref d34, .ref d35, .ref d36, .int 0, .int 0, .ref d39, .int 0]))]) hD hS hA [2] rfl
  refine va_calll (va_runV (As := [.int y1]) (rest := [.long r_1]) ⟨hx, hb, hml, hown, hg⟩ (c_X4_answer l dC dI cI cZ cN cO m0 d2 d3 d4 d5 d6 d7 d8 d13 d14 d15 d16 d17 d18 d19 d20 d21 d22 d23 d24 d25 d26 d27 d28 d29 d30 d31 d32 d33 d34 d35 d36 d39 n y1 0 H.size ) (cwV 1 hg (gw_V kM_L_75 kI_X4_answer kS_X4_answer kN_X4 kD_X4_answer) rfl rfl rfl (by decide +kernel) ⟨Nat.le_of_ble_eq_true rfl, Nat.le_of_ble_eq_true rfl⟩) ⟨fun a U g mk q => by obtain ⟨q0, q1, qP, qK, qD⟩ := q; exact ⟨q0, q1, qP, va_K.moved (u := U) (U := U.calling g mk a) (Vm.Alike.refl U.vm) qK, qD⟩, va_recv hK hP (ci := 4) (q0 := 2) rfl rfl, fun U hU hW => ⟨rfl, by rw [hU], by rw [hU]; exact hPc, va_K.moved hW.alike (hK.sub (tys' := gTy cI cZ cN cO) [0, 1, 2, 3] rfl), hDc.weaken (fun _ _ _ _ => trivial)⟩⟩ rfl rfl hl.1 rfl (lv_room (Nat.le_of_ble_eq_true rfl)) dL_law_521 ⟨Nat.le_of_ble_eq_true rfl, Nat.le_of_ble_eq_true rfl⟩) hS (fun q _ h => hFc q h) hFc (fun r_2 u t H1 locs ht hvm hwr_2 hB hz1 hk1 hS => ?_)
  obtain ⟨hP1, hK1, hD1⟩ := hB
  rw [ht] at hP1
  obtain ⟨hP, hD⟩ := va_join (wr := [(x, .inr (3, [.ref na, .ref ro, .ref oa, .int 0, .int 0, .int 0, .int 0, .int 0, .int 0])), (oa, .inl (cO, 512, .inr (.inr (.inr (.inr ((fun _ => none)))))))]) (w1 := []) hP hD [2] [0, 1] rfl rfl (by decide) (by decide) hk1 hFc hP1 hD1
  clear hPc hDc hFc hP1 hK1 hD1 hz1 hk1 ht
  generalize H1 = H at hP hS ⊢
  have hP : va_P (dC, dI) vwCl [(x, .inr (3, [.ref na, .ref ro, .ref oa, .int 0, .int 0, .int 0, .int 0, .int 0, .int 0])), (oa, .inl (cO, 512, .inr (.inr (.inr (.inr ((fun _ => none)))))))] H := hP
  have hD : va_D (fun q : Nat => s.heap.size ≤ q) [(x, .inr (3, [.ref na, .ref ro, .ref oa, .int 0, .int 0, .int 0, .int 0, .int 0, .int 0])), (oa, .inl (cO, 512, .inr (.inr (.inr (.inr ((fun _ => none)))))))] := hD
  refine W.lcmp hx hb dL_law_524 ?_
  refine lv_topi (fun t_3 et_3 => ?_)
  refine lv_if_eq (tgt := 753) hx hb dL_law_525 (by decide) (fun c_525 => ?_) (fun c_525 => absurd (by rw [et_3, hr_1, hwr_2]; decide +kernel) c_525)
  exact law_end C9 hS (Nat.le_of_ble_eq_true rfl) (by first | exact Nat.le_of_ble_eq_true rfl | (show _ ≤ 7302198; omega)) (lv_sub hl [0, 4] rfl)
set_option maxHeartbeats 4000000 in
set_option maxRecDepth 100000 in
theorem lc_view {p : Program} {l : Launch} {e : Env} {s : State} {m : MethodId} {below : List Frame} {meth : Method} {c : Code} {b : Nat} {xs : Nat → Int32} (C0 : lw_At p s m meth c b 6 xs) {dC : Nat → ClassId} {dI : Nat → Nat → Nat} {cI cZ cN cO cL : ClassId} (hK : va_K (dC, dI) vwCl (gTyL cI cZ cN cO cL) s) (x oo : Nat) (na ro oa : Nat) (m0 d2 d3 d4 d5 d6 d7 d8 d13 d14 d15 d16 d17 d18 d19 d20 d21 d22 d23 d24 d25 d26 d27 d28 d29 d30 d31 d32 d33 d34 d35 d36 d39 n : Nat)  {H : Heap} {locs : List Loc} (hP : va_P (dC, dI) vwCl [(x, .inr (3, [.ref na, .ref ro, .ref oa, .int 0, .int 0, .int 0, .int 0, .int 0, .int 0])), (oa, .inl (cO, 512, .inr (.inr (.inr (.inr ((fun _ => none))))))), (m0, .inr (4, [.int (nI n), .int 0, .ref d2, .ref d3, .ref d4, .ref d5, .ref d6, .ref d7, .ref d8, .int 0, .int 0, .int 0, .int 0, .ref d13, .ref d14, .ref d15, .ref d16, .ref d17, .ref d18, .ref d19, .ref d20, .ref d21, .ref d22, .ref d23, .ref d24, .ref d25, .ref d26, .ref d27, .ref d28, .ref d29, .ref d30, .ref d31, .ref d32, .ref d33, .ref d34, .ref d35, .ref d36, .int 0, .int 0, .ref d39, .int 0]))] H) (hD : va_D (fun q : Nat => s.heap.size ≤ q) [(x, .inr (3, [.ref na, .ref ro, .ref oa, .int 0, .int 0, .int 0, .int 0, .int 0, .int 0])), (oa, .inl (cO, 512, .inr (.inr (.inr (.inr ((fun _ => none))))))), (m0, .inr (4, [.int (nI n), .int 0, .ref d2, .ref d3, .ref d4, .ref d5, .ref d6, .ref d7, .ref d8, .int 0, .int 0, .int 0, .int 0, .ref d13, .ref d14, .ref d15, .ref d16, .ref d17, .ref d18, .ref d19, .ref d20, .ref d21, .ref d22, .ref d23, .ref d24, .ref d25, .ref d26, .ref d27, .ref d28, .ref d29, .ref d30, .ref d31, .ref d32, .ref d33, .ref d34, .ref d35, .ref d36, .int 0, .int 0, .ref d39, .int 0]))]) (hS : va_S (fun q : Nat => s.heap.size ≤ q) s.heap H locs) {ls : Array Slot} (hl : lv_has ls 7 [(4, .int 1), (3, .ref oo), (2, .ref m0), (1, .ref x), (0, .ref b)]) (y1 y2 y3 y4 : Int32) (hy1 : y1 = xs (2 : Int32).toNatClampNeg) (hy2 : y2 = xs (3 : Int32).toNatClampNeg) (hy3 : y3 = xs (4 : Int32).toNatClampNeg) (hy4 : y4 = xs (5 : Int32).toNatClampNeg)  : W p l e room_1 s m #[Value.ref b] below meth c H locs 300 200000 (lw_Z below #[Value.ref b] s) (F0 m 530 ls []) := by
  have C9 := C0
  obtain ⟨hx, hb, hr, hml, hown, hts, hX, hbl, hlocks, hgv⟩ := C0
  have hg : ∀ w ∈ gw, w.before _ s = true := fun w h => hts w (List.mem_filter.mp h).1
  have hA : ∀ q : Nat, s.heap.size ≤ q → (fun q : Nat => s.heap.size ≤ q) q := fun _ h => h
  have hbA : ¬ (fun q : Nat => s.heap.size ≤ q) b := Nat.not_le.mpr hbl
  refine lv_aload_n hx hb dL_law_530 rfl (lv_at hl 3 rfl) ?_
  refine lv_aload_n hx hb dL_law_531 rfl (lv_at hl 4 rfl) ?_
  refine lv_iload hx hb dL_law_532 (lv_at hl 0 rfl) ?_
  refine lv_iconst (v := 1) hx hb dL_law_534 (by decide) ?_
  refine lv_iadd hx hb dL_law_535 ?_
  rw [show (1 : Int32) + 1 = 2 from by decide]
  refine va_sld hx hb hX hbl hbA hS (by unfold vp_in; decide +kernel) dL_law_536 ?_
  rw [← hy1]
  refine lv_aload_n hx hb dL_law_537 rfl (lv_at hl 4 rfl) ?_
  refine lv_iload hx hb dL_law_538 (lv_at hl 0 rfl) ?_
  refine lv_iconst (v := 2) hx hb dL_law_540 (by decide) ?_
  refine lv_iadd hx hb dL_law_541 ?_
  rw [show (1 : Int32) + 2 = 3 from by decide]
  refine va_sld hx hb hX hbl hbA hS (by unfold vp_in; decide +kernel) dL_law_542 ?_
  rw [← hy2]
  have hPc := hP.sub (ws' := [(x, .inr (3, [.ref na, .ref ro, .ref oa, .int 0, .int 0, .int 0, .int 0, .int 0, .int 0])), (oa, .inl (cO, 512, .inr (.inr (.inr (.inr ((fun _ => none)))))))]) [0, 1] rfl
  refine vp_callSi (W.runV (As := [.int y1, .int y2]) (rest := []) ⟨hx, hb, hml, hown, hg⟩ (c_X3_view l dC dI cI cZ cN cO x na ro oa y1 y2) (cwV 2 hg (gw_V kM_L_76 kI_X3_view kS_X3_view kN_X3 kD_X3_view) rfl rfl rfl (by decide +kernel) ⟨Nat.le_of_ble_eq_true rfl, Nat.le_of_ble_eq_true rfl⟩) ⟨fun a U g mk q => by obtain ⟨q0, qP, qK⟩ := q; exact ⟨q0, qP, va_K.moved (u := U) (U := U.calling g mk a) (Vm.Alike.refl U.vm) qK⟩, va_recv hK hP (ci := 3) (q0 := 0) rfl rfl, fun U hU hW => ⟨rfl, by rw [hU]; exact hPc, va_K.moved hW.alike (hK.sub (tys' := gTy cI cZ cN cO) [0, 1, 2, 3] rfl)⟩⟩ rfl rfl hl.1 rfl (lv_room (Nat.le_of_ble_eq_true rfl)) dL_law_543 ⟨Nat.le_of_ble_eq_true rfl, Nat.le_of_ble_eq_true rfl⟩) (fun r_1 hr_1 => ?_)
  refine lv_aload_n hx hb dL_law_546 rfl (lv_at hl 2 rfl) ?_
  refine lv_aload_n hx hb dL_law_547 rfl (lv_at hl 4 rfl) ?_
  refine lv_iload hx hb dL_law_548 (lv_at hl 0 rfl) ?_
  refine lv_iconst (v := 1) hx hb dL_law_550 (by decide) ?_
  refine lv_iadd hx hb dL_law_551 ?_
  rw [show (1 : Int32) + 1 = 2 from by decide]
  refine va_sld hx hb hX hbl hbA hS (by unfold vp_in; decide +kernel) dL_law_552 ?_
  rw [← hy1]
  refine lv_aload_n hx hb dL_law_553 rfl (lv_at hl 4 rfl) ?_
  refine lv_iload hx hb dL_law_554 (lv_at hl 0 rfl) ?_
  refine lv_iconst (v := 2) hx hb dL_law_556 (by decide) ?_
  refine lv_iadd hx hb dL_law_557 ?_
  rw [show (1 : Int32) + 2 = 3 from by decide]
  refine va_sld hx hb hX hbl hbA hS (by unfold vp_in; decide +kernel) dL_law_558 ?_
  rw [← hy2]
  have hPc := hP.sub (ws' := [(m0, .inr (4, [.int (nI n), .int 0, .ref d2, .ref d3, .ref d4, .ref d5, .ref d6, .ref d7, .ref d8, .int 0, .int 0, .int 0, .int 0, .ref d13, .ref d14, .ref d15, .ref d16, .ref d17, .ref d18, .ref d19, .ref d20, .ref d21, .ref d22, .ref d23, .ref d24, .ref d25, .ref d26, .ref d27, .ref d28, .ref d29, .ref d30, .ref d31, .ref d32, .ref d33, .ref d34, .ref d35, .ref d36, .int 0, .int 0, .ref d39, .int 0]))]) [2] rfl
  have hDc := hD.sub (ws' := [(m0, .inr (4, [.int (nI n), .int 0, .ref d2, .ref d3, .ref d4, .ref d5, .ref d6, .ref d7, .ref d8, .int 0, .int 0, .int 0, .int 0, .ref d13, .ref d14, .ref d15, .ref d16, .ref d17, .ref d18, .ref d19, .ref d20, .ref d21, .ref d22, .ref d23, .ref d24, .ref d25, .ref d26, .ref d27, .ref d28, .ref d29, .ref d30, .ref d31, .ref d32, .ref d33, .ref d34, .ref d35, .ref d36, .int 0, .int 0, .ref d39, .int 0]))]) [2] (by decide) rfl
  have hFc := va_free (wc := [(m0, .inr (4, [.int (nI n), .int 0, .ref d2, .ref d3, .ref d4, .ref d5, .ref d6, .ref d7, .ref d8, .int 0, .int 0, .int 0, .int 0, .ref d13, .ref d14, .ref d15, .ref d16, .ref d17, .ref d18, .ref d19, .ref d20, .ref d21, .ref d22, .ref d23, .ref d24, .ref d25, .ref d26, .ref d27, .ref d28, .ref d29, .ref d30, .ref d31, .ref d32, .ref d33, .ref d34, .ref d35, .ref d36, .int 0, .int 0, .ref d39, .int 0]))]) hD hS hA [2] rfl
  refine va_calli (va_runV (As := [.int y1, .int y2]) (rest := [.int r_1]) ⟨hx, hb, hml, hown, hg⟩ (c_X4_view l dC dI cI cZ cN cO m0 d2 d3 d4 d5 d6 d7 d8 d13 d14 d15 d16 d17 d18 d19 d20 d21 d22 d23 d24 d25 d26 d27 d28 d29 d30 d31 d32 d33 d34 d35 d36 d39 n y1 y2 H.size ) (cwV 2 hg (gw_V kM_L_79 kI_X4_view kS_X4_view kN_X4 kD_X4_view) rfl rfl rfl (by decide +kernel) ⟨Nat.le_of_ble_eq_true rfl, Nat.le_of_ble_eq_true rfl⟩) ⟨fun a U g mk q => by obtain ⟨q0, q1, qP, qK, qD⟩ := q; exact ⟨q0, q1, qP, va_K.moved (u := U) (U := U.calling g mk a) (Vm.Alike.refl U.vm) qK, qD⟩, va_recv hK hP (ci := 4) (q0 := 2) rfl rfl, fun U hU hW => ⟨rfl, by rw [hU], by rw [hU]; exact hPc, va_K.moved hW.alike (hK.sub (tys' := gTy cI cZ cN cO) [0, 1, 2, 3] rfl), hDc.weaken (fun _ _ _ _ => trivial)⟩⟩ rfl rfl hl.1 rfl (lv_room (Nat.le_of_ble_eq_true rfl)) dL_law_559 ⟨Nat.le_of_ble_eq_true rfl, Nat.le_of_ble_eq_true rfl⟩) hS (fun q _ h => hFc q h) hFc (fun r_2 u t H1 locs ht hvm hwr_2 hB hz1 hk1 hS => ?_)
  obtain ⟨hP1, hK1, hD1⟩ := hB
  rw [ht] at hP1
  obtain ⟨hP, hD⟩ := va_join (wr := [(x, .inr (3, [.ref na, .ref ro, .ref oa, .int 0, .int 0, .int 0, .int 0, .int 0, .int 0])), (oa, .inl (cO, 512, .inr (.inr (.inr (.inr ((fun _ => none)))))))]) (w1 := []) hP hD [2] [0, 1] rfl rfl (by decide) (by decide) hk1 hFc hP1 hD1
  clear hPc hDc hFc hP1 hK1 hD1 hz1 hk1 ht
  generalize H1 = H at hP hS ⊢
  have hP : va_P (dC, dI) vwCl [(x, .inr (3, [.ref na, .ref ro, .ref oa, .int 0, .int 0, .int 0, .int 0, .int 0, .int 0])), (oa, .inl (cO, 512, .inr (.inr (.inr (.inr ((fun _ => none)))))))] H := hP
  have hD : va_D (fun q : Nat => s.heap.size ≤ q) [(x, .inr (3, [.ref na, .ref ro, .ref oa, .int 0, .int 0, .int 0, .int 0, .int 0, .int 0])), (oa, .inl (cO, 512, .inr (.inr (.inr (.inr ((fun _ => none)))))))] := hD
  refine lv_icmp_eq (tgt := 753) hx hb dL_law_562 (by decide) (fun c_562 => ?_) (fun c_562 => absurd (by rw [hr_1, hwr_2]) c_562)
  exact law_end C9 hS (Nat.le_of_ble_eq_true rfl) (by first | exact Nat.le_of_ble_eq_true rfl | (show _ ≤ 7302198; omega)) (lv_sub hl [0, 4] rfl)
set_option maxHeartbeats 4000000 in
set_option maxRecDepth 100000 in
theorem lc_message {p : Program} {l : Launch} {e : Env} {s : State} {m : MethodId} {below : List Frame} {meth : Method} {c : Code} {b : Nat} {xs : Nat → Int32} (C0 : lw_At p s m meth c b 6 xs) {dC : Nat → ClassId} {dI : Nat → Nat → Nat} {cI cZ cN cO cL : ClassId} (hK : va_K (dC, dI) vwCl (gTyL cI cZ cN cO cL) s) (x oo : Nat) (na ro oa b1 b2 b3 b4 b5 b6 : Nat) (m0 d2 d3 d4 d5 d6 d7 d8 d13 d14 d15 d16 d17 d18 d19 d20 d21 d22 d23 d24 d25 d26 d27 d28 d29 d30 d31 d32 d33 d34 d35 d36 d39 n : Nat)  {H : Heap} {locs : List Loc} (hP : va_P (dC, dI) vwCl [(x, .inr (3, [.ref na, .ref ro, .ref oa, .int 0, .int 0, .int 0, .int 0, .int 0, .int 0])), (ro, .inr (2, [.int (nI n), .ref b1, .ref b2, .ref b3, .ref b4, .ref b5, .ref b6, .int 0, .int 0, .int 0])), (m0, .inr (4, [.int (nI n), .int 0, .ref d2, .ref d3, .ref d4, .ref d5, .ref d6, .ref d7, .ref d8, .int 0, .int 0, .int 0, .int 0, .ref d13, .ref d14, .ref d15, .ref d16, .ref d17, .ref d18, .ref d19, .ref d20, .ref d21, .ref d22, .ref d23, .ref d24, .ref d25, .ref d26, .ref d27, .ref d28, .ref d29, .ref d30, .ref d31, .ref d32, .ref d33, .ref d34, .ref d35, .ref d36, .int 0, .int 0, .ref d39, .int 0]))] H) (hD : va_D (fun q : Nat => s.heap.size ≤ q) [(x, .inr (3, [.ref na, .ref ro, .ref oa, .int 0, .int 0, .int 0, .int 0, .int 0, .int 0])), (ro, .inr (2, [.int (nI n), .ref b1, .ref b2, .ref b3, .ref b4, .ref b5, .ref b6, .int 0, .int 0, .int 0])), (m0, .inr (4, [.int (nI n), .int 0, .ref d2, .ref d3, .ref d4, .ref d5, .ref d6, .ref d7, .ref d8, .int 0, .int 0, .int 0, .int 0, .ref d13, .ref d14, .ref d15, .ref d16, .ref d17, .ref d18, .ref d19, .ref d20, .ref d21, .ref d22, .ref d23, .ref d24, .ref d25, .ref d26, .ref d27, .ref d28, .ref d29, .ref d30, .ref d31, .ref d32, .ref d33, .ref d34, .ref d35, .ref d36, .int 0, .int 0, .ref d39, .int 0]))]) (hS : va_S (fun q : Nat => s.heap.size ≤ q) s.heap H locs) {ls : Array Slot} (hl : lv_has ls 7 [(4, .int 1), (3, .ref oo), (2, .ref m0), (1, .ref x), (0, .ref b)]) (y1 y2 y3 y4 : Int32) (hy1 : y1 = xs (2 : Int32).toNatClampNeg) (hy2 : y2 = xs (3 : Int32).toNatClampNeg) (hy3 : y3 = xs (4 : Int32).toNatClampNeg) (hy4 : y4 = xs (5 : Int32).toNatClampNeg)  : W p l e room_1 s m #[Value.ref b] below meth c H locs 300 200000 (lw_Z below #[Value.ref b] s) (F0 m 641 ls []) := by
  have C9 := C0
  obtain ⟨hx, hb, hr, hml, hown, hts, hX, hbl, hlocks, hgv⟩ := C0
  have hg : ∀ w ∈ gw, w.before _ s = true := fun w h => hts w (List.mem_filter.mp h).1
  have hA : ∀ q : Nat, s.heap.size ≤ q → (fun q : Nat => s.heap.size ≤ q) q := fun _ h => h
  have hbA : ¬ (fun q : Nat => s.heap.size ≤ q) b := Nat.not_le.mpr hbl
  refine lv_aload_n hx hb dL_law_641 rfl (lv_at hl 3 rfl) ?_
  refine lv_aload_n hx hb dL_law_642 rfl (lv_at hl 4 rfl) ?_
  refine lv_iload hx hb dL_law_643 (lv_at hl 0 rfl) ?_
  refine lv_iconst (v := 1) hx hb dL_law_645 (by decide) ?_
  refine lv_iadd hx hb dL_law_646 ?_
  rw [show (1 : Int32) + 1 = 2 from by decide]
  refine va_sld hx hb hX hbl hbA hS (by unfold vp_in; decide +kernel) dL_law_647 ?_
  rw [← hy1]
  refine lv_aload_n hx hb dL_law_648 rfl (lv_at hl 4 rfl) ?_
  refine lv_iload hx hb dL_law_649 (lv_at hl 0 rfl) ?_
  refine lv_iconst (v := 2) hx hb dL_law_651 (by decide) ?_
  refine lv_iadd hx hb dL_law_652 ?_
  rw [show (1 : Int32) + 2 = 3 from by decide]
  refine va_sld hx hb hX hbl hbA hS (by unfold vp_in; decide +kernel) dL_law_653 ?_
  rw [← hy2]
  have hPc := hP.sub (ws' := [(x, .inr (3, [.ref na, .ref ro, .ref oa, .int 0, .int 0, .int 0, .int 0, .int 0, .int 0])), (ro, .inr (2, [.int (nI n), .ref b1, .ref b2, .ref b3, .ref b4, .ref b5, .ref b6, .int 0, .int 0, .int 0]))]) [0, 1] rfl
  refine vp_callSi (W.runV (As := [.int y1, .int y2]) (rest := []) ⟨hx, hb, hml, hown, hg⟩ (c_X3_message l dC dI cI cZ cN cO x na ro oa b1 b2 b3 b4 b5 b6 n y1 y2) (cwV 2 hg (gw_V kM_L_88 kI_X3_message kS_X3_message kN_X3 kD_X3_message) rfl rfl rfl (by decide +kernel) ⟨Nat.le_of_ble_eq_true rfl, Nat.le_of_ble_eq_true rfl⟩) ⟨fun a U g mk q => by obtain ⟨q0, qP, qK⟩ := q; exact ⟨q0, qP, va_K.moved (u := U) (U := U.calling g mk a) (Vm.Alike.refl U.vm) qK⟩, va_recv hK hP (ci := 3) (q0 := 0) rfl rfl, fun U hU hW => ⟨rfl, by rw [hU]; exact hPc, va_K.moved hW.alike (hK.sub (tys' := gTy cI cZ cN cO) [0, 1, 2, 3] rfl)⟩⟩ rfl rfl hl.1 rfl (lv_room (Nat.le_of_ble_eq_true rfl)) dL_law_654 ⟨Nat.le_of_ble_eq_true rfl, Nat.le_of_ble_eq_true rfl⟩) (fun r_1 hr_1 => ?_)
  refine lv_aload_n hx hb dL_law_657 rfl (lv_at hl 2 rfl) ?_
  refine lv_aload_n hx hb dL_law_658 rfl (lv_at hl 4 rfl) ?_
  refine lv_iload hx hb dL_law_659 (lv_at hl 0 rfl) ?_
  refine lv_iconst (v := 1) hx hb dL_law_661 (by decide) ?_
  refine lv_iadd hx hb dL_law_662 ?_
  rw [show (1 : Int32) + 1 = 2 from by decide]
  refine va_sld hx hb hX hbl hbA hS (by unfold vp_in; decide +kernel) dL_law_663 ?_
  rw [← hy1]
  refine lv_aload_n hx hb dL_law_664 rfl (lv_at hl 4 rfl) ?_
  refine lv_iload hx hb dL_law_665 (lv_at hl 0 rfl) ?_
  refine lv_iconst (v := 2) hx hb dL_law_667 (by decide) ?_
  refine lv_iadd hx hb dL_law_668 ?_
  rw [show (1 : Int32) + 2 = 3 from by decide]
  refine va_sld hx hb hX hbl hbA hS (by unfold vp_in; decide +kernel) dL_law_669 ?_
  rw [← hy2]
  have hPc := hP.sub (ws' := [(m0, .inr (4, [.int (nI n), .int 0, .ref d2, .ref d3, .ref d4, .ref d5, .ref d6, .ref d7, .ref d8, .int 0, .int 0, .int 0, .int 0, .ref d13, .ref d14, .ref d15, .ref d16, .ref d17, .ref d18, .ref d19, .ref d20, .ref d21, .ref d22, .ref d23, .ref d24, .ref d25, .ref d26, .ref d27, .ref d28, .ref d29, .ref d30, .ref d31, .ref d32, .ref d33, .ref d34, .ref d35, .ref d36, .int 0, .int 0, .ref d39, .int 0]))]) [2] rfl
  have hDc := hD.sub (ws' := [(m0, .inr (4, [.int (nI n), .int 0, .ref d2, .ref d3, .ref d4, .ref d5, .ref d6, .ref d7, .ref d8, .int 0, .int 0, .int 0, .int 0, .ref d13, .ref d14, .ref d15, .ref d16, .ref d17, .ref d18, .ref d19, .ref d20, .ref d21, .ref d22, .ref d23, .ref d24, .ref d25, .ref d26, .ref d27, .ref d28, .ref d29, .ref d30, .ref d31, .ref d32, .ref d33, .ref d34, .ref d35, .ref d36, .int 0, .int 0, .ref d39, .int 0]))]) [2] (by decide) rfl
  have hFc := va_free (wc := [(m0, .inr (4, [.int (nI n), .int 0, .ref d2, .ref d3, .ref d4, .ref d5, .ref d6, .ref d7, .ref d8, .int 0, .int 0, .int 0, .int 0, .ref d13, .ref d14, .ref d15, .ref d16, .ref d17, .ref d18, .ref d19, .ref d20, .ref d21, .ref d22, .ref d23, .ref d24, .ref d25, .ref d26, .ref d27, .ref d28, .ref d29, .ref d30, .ref d31, .ref d32, .ref d33, .ref d34, .ref d35, .ref d36, .int 0, .int 0, .ref d39, .int 0]))]) hD hS hA [2] rfl
  refine va_calli (va_runV (As := [.int y1, .int y2]) (rest := [.int r_1]) ⟨hx, hb, hml, hown, hg⟩ (c_X4_message l dC dI cI cZ cN cO m0 d2 d3 d4 d5 d6 d7 d8 d13 d14 d15 d16 d17 d18 d19 d20 d21 d22 d23 d24 d25 d26 d27 d28 d29 d30 d31 d32 d33 d34 d35 d36 d39 n y1 y2 H.size ) (cwV 2 hg (gw_V kM_L_91 kI_X4_message kS_X4_message kN_X4 kD_X4_message) rfl rfl rfl (by decide +kernel) ⟨Nat.le_of_ble_eq_true rfl, Nat.le_of_ble_eq_true rfl⟩) ⟨fun a U g mk q => by obtain ⟨q0, q1, qP, qK, qD⟩ := q; exact ⟨q0, q1, qP, va_K.moved (u := U) (U := U.calling g mk a) (Vm.Alike.refl U.vm) qK, qD⟩, va_recv hK hP (ci := 4) (q0 := 2) rfl rfl, fun U hU hW => ⟨rfl, by rw [hU], by rw [hU]; exact hPc, va_K.moved hW.alike (hK.sub (tys' := gTy cI cZ cN cO) [0, 1, 2, 3] rfl), hDc.weaken (fun _ _ _ _ => trivial)⟩⟩ rfl rfl hl.1 rfl (lv_room (Nat.le_of_ble_eq_true rfl)) dL_law_670 ⟨Nat.le_of_ble_eq_true rfl, Nat.le_of_ble_eq_true rfl⟩) hS (fun q _ h => hFc q h) hFc (fun r_2 u t H1 locs ht hvm hwr_2 hB hz1 hk1 hS => ?_)
  obtain ⟨hP1, hK1, hD1⟩ := hB
  rw [ht] at hP1
  obtain ⟨hP, hD⟩ := va_join (wr := [(x, .inr (3, [.ref na, .ref ro, .ref oa, .int 0, .int 0, .int 0, .int 0, .int 0, .int 0])), (ro, .inr (2, [.int (nI n), .ref b1, .ref b2, .ref b3, .ref b4, .ref b5, .ref b6, .int 0, .int 0, .int 0]))]) (w1 := []) hP hD [2] [0, 1] rfl rfl (by decide) (by decide) hk1 hFc hP1 hD1
  clear hPc hDc hFc hP1 hK1 hD1 hz1 hk1 ht
  generalize H1 = H at hP hS ⊢
  have hP : va_P (dC, dI) vwCl [(x, .inr (3, [.ref na, .ref ro, .ref oa, .int 0, .int 0, .int 0, .int 0, .int 0, .int 0])), (ro, .inr (2, [.int (nI n), .ref b1, .ref b2, .ref b3, .ref b4, .ref b5, .ref b6, .int 0, .int 0, .int 0]))] H := hP
  have hD : va_D (fun q : Nat => s.heap.size ≤ q) [(x, .inr (3, [.ref na, .ref ro, .ref oa, .int 0, .int 0, .int 0, .int 0, .int 0, .int 0])), (ro, .inr (2, [.int (nI n), .ref b1, .ref b2, .ref b3, .ref b4, .ref b5, .ref b6, .int 0, .int 0, .int 0]))] := hD
  refine lv_icmp_eq (tgt := 753) hx hb dL_law_673 (by decide) (fun c_673 => ?_) (fun c_673 => absurd (by rw [hr_1, hwr_2]) c_673)
  exact law_end C9 hS (Nat.le_of_ble_eq_true rfl) (by first | exact Nat.le_of_ble_eq_true rfl | (show _ ≤ 7302198; omega)) (lv_sub hl [0, 4] rfl)
set_option maxHeartbeats 4000000 in
set_option maxRecDepth 100000 in
theorem lc_vector {p : Program} {l : Launch} {e : Env} {s : State} {m : MethodId} {below : List Frame} {meth : Method} {c : Code} {b : Nat} {xs : Nat → Int32} (C0 : lw_At p s m meth c b 6 xs) {dC : Nat → ClassId} {dI : Nat → Nat → Nat} {cI cZ cN cO cL : ClassId} (hK : va_K (dC, dI) vwCl (gTyL cI cZ cN cO cL) s) (x oo : Nat) (na ro oa b1 b2 b3 b4 b5 b6 : Nat) (m0 d2 d3 d4 d5 d6 d7 d8 d13 d14 d15 d16 d17 d18 d19 d20 d21 d22 d23 d24 d25 d26 d27 d28 d29 d30 d31 d32 d33 d34 d35 d36 d39 n : Nat)  {H : Heap} {locs : List Loc} (hP : va_P (dC, dI) vwCl [(x, .inr (3, [.ref na, .ref ro, .ref oa, .int 0, .int 0, .int 0, .int 0, .int 0, .int 0])), (ro, .inr (2, [.int (nI n), .ref b1, .ref b2, .ref b3, .ref b4, .ref b5, .ref b6, .int 0, .int 0, .int 0])), (m0, .inr (4, [.int (nI n), .int 0, .ref d2, .ref d3, .ref d4, .ref d5, .ref d6, .ref d7, .ref d8, .int 0, .int 0, .int 0, .int 0, .ref d13, .ref d14, .ref d15, .ref d16, .ref d17, .ref d18, .ref d19, .ref d20, .ref d21, .ref d22, .ref d23, .ref d24, .ref d25, .ref d26, .ref d27, .ref d28, .ref d29, .ref d30, .ref d31, .ref d32, .ref d33, .ref d34, .ref d35, .ref d36, .int 0, .int 0, .ref d39, .int 0]))] H) (hD : va_D (fun q : Nat => s.heap.size ≤ q) [(x, .inr (3, [.ref na, .ref ro, .ref oa, .int 0, .int 0, .int 0, .int 0, .int 0, .int 0])), (ro, .inr (2, [.int (nI n), .ref b1, .ref b2, .ref b3, .ref b4, .ref b5, .ref b6, .int 0, .int 0, .int 0])), (m0, .inr (4, [.int (nI n), .int 0, .ref d2, .ref d3, .ref d4, .ref d5, .ref d6, .ref d7, .ref d8, .int 0, .int 0, .int 0, .int 0, .ref d13, .ref d14, .ref d15, .ref d16, .ref d17, .ref d18, .ref d19, .ref d20, .ref d21, .ref d22, .ref d23, .ref d24, .ref d25, .ref d26, .ref d27, .ref d28, .ref d29, .ref d30, .ref d31, .ref d32, .ref d33, .ref d34, .ref d35, .ref d36, .int 0, .int 0, .ref d39, .int 0]))]) (hS : va_S (fun q : Nat => s.heap.size ≤ q) s.heap H locs) {ls : Array Slot} (hl : lv_has ls 7 [(4, .int 1), (3, .ref oo), (2, .ref m0), (1, .ref x), (0, .ref b)]) (y1 y2 y3 y4 : Int32) (hy1 : y1 = xs (2 : Int32).toNatClampNeg) (hy2 : y2 = xs (3 : Int32).toNatClampNeg) (hy3 : y3 = xs (4 : Int32).toNatClampNeg) (hy4 : y4 = xs (5 : Int32).toNatClampNeg)  : W p l e room_1 s m #[Value.ref b] below meth c H locs 300 200000 (lw_Z below #[Value.ref b] s) (F0 m 678 ls []) := by
  have C9 := C0
  obtain ⟨hx, hb, hr, hml, hown, hts, hX, hbl, hlocks, hgv⟩ := C0
  have hg : ∀ w ∈ gw, w.before _ s = true := fun w h => hts w (List.mem_filter.mp h).1
  have hA : ∀ q : Nat, s.heap.size ≤ q → (fun q : Nat => s.heap.size ≤ q) q := fun _ h => h
  have hbA : ¬ (fun q : Nat => s.heap.size ≤ q) b := Nat.not_le.mpr hbl
  refine lv_aload_n hx hb dL_law_678 rfl (lv_at hl 3 rfl) ?_
  refine lv_aload_n hx hb dL_law_679 rfl (lv_at hl 4 rfl) ?_
  refine lv_iload hx hb dL_law_680 (lv_at hl 0 rfl) ?_
  refine lv_iconst (v := 1) hx hb dL_law_682 (by decide) ?_
  refine lv_iadd hx hb dL_law_683 ?_
  rw [show (1 : Int32) + 1 = 2 from by decide]
  refine va_sld hx hb hX hbl hbA hS (by unfold vp_in; decide +kernel) dL_law_684 ?_
  rw [← hy1]
  refine lv_aload_n hx hb dL_law_685 rfl (lv_at hl 4 rfl) ?_
  refine lv_iload hx hb dL_law_686 (lv_at hl 0 rfl) ?_
  refine lv_iconst (v := 2) hx hb dL_law_688 (by decide) ?_
  refine lv_iadd hx hb dL_law_689 ?_
  rw [show (1 : Int32) + 2 = 3 from by decide]
  refine va_sld hx hb hX hbl hbA hS (by unfold vp_in; decide +kernel) dL_law_690 ?_
  rw [← hy2]
  have hPc := hP.sub (ws' := [(x, .inr (3, [.ref na, .ref ro, .ref oa, .int 0, .int 0, .int 0, .int 0, .int 0, .int 0])), (ro, .inr (2, [.int (nI n), .ref b1, .ref b2, .ref b3, .ref b4, .ref b5, .ref b6, .int 0, .int 0, .int 0]))]) [0, 1] rfl
  refine vp_callSi (W.runV (As := [.int y1, .int y2]) (rest := []) ⟨hx, hb, hml, hown, hg⟩ (c_X3_vector l dC dI cI cZ cN cO x na ro oa b1 b2 b3 b4 b5 b6 n y1 y2) (cwV 2 hg (gw_V kM_L_92 kI_X3_vector kS_X3_vector kN_X3 kD_X3_vector) rfl rfl rfl (by decide +kernel) ⟨Nat.le_of_ble_eq_true rfl, Nat.le_of_ble_eq_true rfl⟩) ⟨fun a U g mk q => by obtain ⟨q0, qP, qK⟩ := q; exact ⟨q0, qP, va_K.moved (u := U) (U := U.calling g mk a) (Vm.Alike.refl U.vm) qK⟩, va_recv hK hP (ci := 3) (q0 := 0) rfl rfl, fun U hU hW => ⟨rfl, by rw [hU]; exact hPc, va_K.moved hW.alike (hK.sub (tys' := gTy cI cZ cN cO) [0, 1, 2, 3] rfl)⟩⟩ rfl rfl hl.1 rfl (lv_room (Nat.le_of_ble_eq_true rfl)) dL_law_691 ⟨Nat.le_of_ble_eq_true rfl, Nat.le_of_ble_eq_true rfl⟩) (fun r_1 hr_1 => ?_)
  refine lv_aload_n hx hb dL_law_694 rfl (lv_at hl 2 rfl) ?_
  refine lv_aload_n hx hb dL_law_695 rfl (lv_at hl 4 rfl) ?_
  refine lv_iload hx hb dL_law_696 (lv_at hl 0 rfl) ?_
  refine lv_iconst (v := 1) hx hb dL_law_698 (by decide) ?_
  refine lv_iadd hx hb dL_law_699 ?_
  rw [show (1 : Int32) + 1 = 2 from by decide]
  refine va_sld hx hb hX hbl hbA hS (by unfold vp_in; decide +kernel) dL_law_700 ?_
  rw [← hy1]
  refine lv_aload_n hx hb dL_law_701 rfl (lv_at hl 4 rfl) ?_
  refine lv_iload hx hb dL_law_702 (lv_at hl 0 rfl) ?_
  refine lv_iconst (v := 2) hx hb dL_law_704 (by decide) ?_
  refine lv_iadd hx hb dL_law_705 ?_
  rw [show (1 : Int32) + 2 = 3 from by decide]
  refine va_sld hx hb hX hbl hbA hS (by unfold vp_in; decide +kernel) dL_law_706 ?_
  rw [← hy2]
  have hPc := hP.sub (ws' := [(m0, .inr (4, [.int (nI n), .int 0, .ref d2, .ref d3, .ref d4, .ref d5, .ref d6, .ref d7, .ref d8, .int 0, .int 0, .int 0, .int 0, .ref d13, .ref d14, .ref d15, .ref d16, .ref d17, .ref d18, .ref d19, .ref d20, .ref d21, .ref d22, .ref d23, .ref d24, .ref d25, .ref d26, .ref d27, .ref d28, .ref d29, .ref d30, .ref d31, .ref d32, .ref d33, .ref d34, .ref d35, .ref d36, .int 0, .int 0, .ref d39, .int 0]))]) [2] rfl
  have hDc := hD.sub (ws' := [(m0, .inr (4, [.int (nI n), .int 0, .ref d2, .ref d3, .ref d4, .ref d5, .ref d6, .ref d7, .ref d8, .int 0, .int 0, .int 0, .int 0, .ref d13, .ref d14, .ref d15, .ref d16, .ref d17, .ref d18, .ref d19, .ref d20, .ref d21, .ref d22, .ref d23, .ref d24, .ref d25, .ref d26, .ref d27, .ref d28, .ref d29, .ref d30, .ref d31, .ref d32, .ref d33, .ref d34, .ref d35, .ref d36, .int 0, .int 0, .ref d39, .int 0]))]) [2] (by decide) rfl
  have hFc := va_free (wc := [(m0, .inr (4, [.int (nI n), .int 0, .ref d2, .ref d3, .ref d4, .ref d5, .ref d6, .ref d7, .ref d8, .int 0, .int 0, .int 0, .int 0, .ref d13, .ref d14, .ref d15, .ref d16, .ref d17, .ref d18, .ref d19, .ref d20, .ref d21, .ref d22, .ref d23, .ref d24, .ref d25, .ref d26, .ref d27, .ref d28, .ref d29, .ref d30, .ref d31, .ref d32, .ref d33, .ref d34, .ref d35, .ref d36, .int 0, .int 0, .ref d39, .int 0]))]) hD hS hA [2] rfl
  refine va_calli (va_runV (As := [.int y1, .int y2]) (rest := [.int r_1]) ⟨hx, hb, hml, hown, hg⟩ (c_X4_vector l dC dI cI cZ cN cO m0 d2 d3 d4 d5 d6 d7 d8 d13 d14 d15 d16 d17 d18 d19 d20 d21 d22 d23 d24 d25 d26 d27 d28 d29 d30 d31 d32 d33 d34 d35 d36 d39 n y1 y2 H.size ) (cwV 2 hg (gw_V kM_L_95 kI_X4_vector kS_X4_vector kN_X4 kD_X4_vector) rfl rfl rfl (by decide +kernel) ⟨Nat.le_of_ble_eq_true rfl, Nat.le_of_ble_eq_true rfl⟩) ⟨fun a U g mk q => by obtain ⟨q0, q1, qP, qK, qD⟩ := q; exact ⟨q0, q1, qP, va_K.moved (u := U) (U := U.calling g mk a) (Vm.Alike.refl U.vm) qK, qD⟩, va_recv hK hP (ci := 4) (q0 := 2) rfl rfl, fun U hU hW => ⟨rfl, by rw [hU], by rw [hU]; exact hPc, va_K.moved hW.alike (hK.sub (tys' := gTy cI cZ cN cO) [0, 1, 2, 3] rfl), hDc.weaken (fun _ _ _ _ => trivial)⟩⟩ rfl rfl hl.1 rfl (lv_room (Nat.le_of_ble_eq_true rfl)) dL_law_707 ⟨Nat.le_of_ble_eq_true rfl, Nat.le_of_ble_eq_true rfl⟩) hS (fun q _ h => hFc q h) hFc (fun r_2 u t H1 locs ht hvm hwr_2 hB hz1 hk1 hS => ?_)
  obtain ⟨hP1, hK1, hD1⟩ := hB
  rw [ht] at hP1
  obtain ⟨hP, hD⟩ := va_join (wr := [(x, .inr (3, [.ref na, .ref ro, .ref oa, .int 0, .int 0, .int 0, .int 0, .int 0, .int 0])), (ro, .inr (2, [.int (nI n), .ref b1, .ref b2, .ref b3, .ref b4, .ref b5, .ref b6, .int 0, .int 0, .int 0]))]) (w1 := []) hP hD [2] [0, 1] rfl rfl (by decide) (by decide) hk1 hFc hP1 hD1
  clear hPc hDc hFc hP1 hK1 hD1 hz1 hk1 ht
  generalize H1 = H at hP hS ⊢
  have hP : va_P (dC, dI) vwCl [(x, .inr (3, [.ref na, .ref ro, .ref oa, .int 0, .int 0, .int 0, .int 0, .int 0, .int 0])), (ro, .inr (2, [.int (nI n), .ref b1, .ref b2, .ref b3, .ref b4, .ref b5, .ref b6, .int 0, .int 0, .int 0]))] H := hP
  have hD : va_D (fun q : Nat => s.heap.size ≤ q) [(x, .inr (3, [.ref na, .ref ro, .ref oa, .int 0, .int 0, .int 0, .int 0, .int 0, .int 0])), (ro, .inr (2, [.int (nI n), .ref b1, .ref b2, .ref b3, .ref b4, .ref b5, .ref b6, .int 0, .int 0, .int 0]))] := hD
  refine lv_icmp_eq (tgt := 753) hx hb dL_law_710 (by decide) (fun c_710 => ?_) (fun c_710 => absurd (by rw [hr_1, hwr_2]) c_710)
  exact law_end C9 hS (Nat.le_of_ble_eq_true rfl) (by first | exact Nat.le_of_ble_eq_true rfl | (show _ ≤ 7302198; omega)) (lv_sub hl [0, 4] rfl)
set_option maxHeartbeats 4000000 in
set_option maxRecDepth 100000 in
theorem lc_astray {p : Program} {l : Launch} {e : Env} {s : State} {m : MethodId} {below : List Frame} {meth : Method} {c : Code} {b : Nat} {xs : Nat → Int32} (C0 : lw_At p s m meth c b 6 xs) {dC : Nat → ClassId} {dI : Nat → Nat → Nat} {cI cZ cN cO cL : ClassId} (hK : va_K (dC, dI) vwCl (gTyL cI cZ cN cO cL) s) (x oo : Nat) (na ro oa b1 b2 b3 b4 b5 b6 : Nat) (m0 d2 d3 d4 d5 d6 d7 d8 d13 d14 d15 d16 d17 d18 d19 d20 d21 d22 d23 d24 d25 d26 d27 d28 d29 d30 d31 d32 d33 d34 d35 d36 d39 n : Nat)  {H : Heap} {locs : List Loc} (hP : va_P (dC, dI) vwCl [(x, .inr (3, [.ref na, .ref ro, .ref oa, .int 0, .int 0, .int 0, .int 0, .int 0, .int 0])), (m0, .inr (4, [.int (nI n), .int 0, .ref d2, .ref d3, .ref d4, .ref d5, .ref d6, .ref d7, .ref d8, .int 0, .int 0, .int 0, .int 0, .ref d13, .ref d14, .ref d15, .ref d16, .ref d17, .ref d18, .ref d19, .ref d20, .ref d21, .ref d22, .ref d23, .ref d24, .ref d25, .ref d26, .ref d27, .ref d28, .ref d29, .ref d30, .ref d31, .ref d32, .ref d33, .ref d34, .ref d35, .ref d36, .int 0, .int 0, .ref d39, .int 0]))] H) (hD : va_D (fun q : Nat => s.heap.size ≤ q) [(x, .inr (3, [.ref na, .ref ro, .ref oa, .int 0, .int 0, .int 0, .int 0, .int 0, .int 0])), (m0, .inr (4, [.int (nI n), .int 0, .ref d2, .ref d3, .ref d4, .ref d5, .ref d6, .ref d7, .ref d8, .int 0, .int 0, .int 0, .int 0, .ref d13, .ref d14, .ref d15, .ref d16, .ref d17, .ref d18, .ref d19, .ref d20, .ref d21, .ref d22, .ref d23, .ref d24, .ref d25, .ref d26, .ref d27, .ref d28, .ref d29, .ref d30, .ref d31, .ref d32, .ref d33, .ref d34, .ref d35, .ref d36, .int 0, .int 0, .ref d39, .int 0]))]) (hS : va_S (fun q : Nat => s.heap.size ≤ q) s.heap H locs) {ls : Array Slot} (hl : lv_has ls 7 [(4, .int 1), (3, .ref oo), (2, .ref m0), (1, .ref x), (0, .ref b)]) (y1 y2 y3 y4 : Int32) (hy1 : y1 = xs (2 : Int32).toNatClampNeg) (hy2 : y2 = xs (3 : Int32).toNatClampNeg) (hy3 : y3 = xs (4 : Int32).toNatClampNeg) (hy4 : y4 = xs (5 : Int32).toNatClampNeg)  : W p l e room_1 s m #[Value.ref b] below meth c H locs 300 200000 (lw_Z below #[Value.ref b] s) (F0 m 740 ls []) := by
  have C9 := C0
  obtain ⟨hx, hb, hr, hml, hown, hts, hX, hbl, hlocks, hgv⟩ := C0
  have hg : ∀ w ∈ gw, w.before _ s = true := fun w h => hts w (List.mem_filter.mp h).1
  have hA : ∀ q : Nat, s.heap.size ≤ q → (fun q : Nat => s.heap.size ≤ q) q := fun _ h => h
  have hbA : ¬ (fun q : Nat => s.heap.size ≤ q) b := Nat.not_le.mpr hbl
  refine lv_aload_n hx hb dL_law_740 rfl (lv_at hl 3 rfl) ?_
  have hPc := hP.sub (ws' := [(x, .inr (3, [.ref na, .ref ro, .ref oa, .int 0, .int 0, .int 0, .int 0, .int 0, .int 0]))]) [0] rfl
  refine vp_callSi (W.runV (As := []) (rest := []) ⟨hx, hb, hml, hown, hg⟩ (c_X3_astray l dC dI cI cZ cN cO x na ro oa b1 b2 b3 b4 b5 b6 n) (cwV 0 hg (gw_V kM_L_100 kI_X3_astray kS_X3_astray kN_X3 kD_X3_astray) rfl rfl rfl (by decide +kernel) ⟨Nat.le_of_ble_eq_true rfl, Nat.le_of_ble_eq_true rfl⟩) ⟨fun a U g mk q => by obtain ⟨q0, qP, qK⟩ := q; exact ⟨q0, qP, va_K.moved (u := U) (U := U.calling g mk a) (Vm.Alike.refl U.vm) qK⟩, va_recv hK hP (ci := 3) (q0 := 0) rfl rfl, fun U hU hW => ⟨rfl, by rw [hU]; exact hPc, va_K.moved hW.alike (hK.sub (tys' := gTy cI cZ cN cO) [0, 1, 2, 3] rfl)⟩⟩ rfl rfl hl.1 rfl (lv_room (Nat.le_of_ble_eq_true rfl)) dL_law_741 ⟨Nat.le_of_ble_eq_true rfl, Nat.le_of_ble_eq_true rfl⟩) (fun r_1 hr_1 => ?_)
  refine lv_aload_n hx hb dL_law_744 rfl (lv_at hl 2 rfl) ?_
  have hPc := hP.sub (ws' := [(m0, .inr (4, [.int (nI n), .int 0, .ref d2, .ref d3, .ref d4, .ref d5, .ref d6, .ref d7, .ref d8, .int 0, .int 0, .int 0, .int 0, .ref d13, .ref d14, .ref d15, .ref d16, .ref d17, .ref d18, .ref d19, .ref d20, .ref d21, .ref d22, .ref d23, .ref d24, .ref d25, .ref d26, .ref d27, .ref d28, .ref d29, .ref d30, .ref d31, .ref d32, .ref d33, .ref d34, .ref d35, .ref d36, .int 0, .int 0, .ref d39, .int 0]))]) [1] rfl
  have hDc := hD.sub (ws' := [(m0, .inr (4, [.int (nI n), .int 0, .ref d2, .ref d3, .ref d4, .ref d5, .ref d6, .ref d7, .ref d8, .int 0, .int 0, .int 0, .int 0, .ref d13, .ref d14, .ref d15, .ref d16, .ref d17, .ref d18, .ref d19, .ref d20, .ref d21, .ref d22, .ref d23, .ref d24, .ref d25, .ref d26, .ref d27, .ref d28, .ref d29, .ref d30, .ref d31, .ref d32, .ref d33, .ref d34, .ref d35, .ref d36, .int 0, .int 0, .ref d39, .int 0]))]) [1] (by decide) rfl
  have hFc := va_free (wc := [(m0, .inr (4, [.int (nI n), .int 0, .ref d2, .ref d3, .ref d4, .ref d5, .ref d6, .ref d7, .ref d8, .int 0, .int 0, .int 0, .int 0, .ref d13, .ref d14, .ref d15, .ref d16, .ref d17, .ref d18, .ref d19, .ref d20, .ref d21, .ref d22, .ref d23, .ref d24, .ref d25, .ref d26, .ref d27, .ref d28, .ref d29, .ref d30, .ref d31, .ref d32, .ref d33, .ref d34, .ref d35, .ref d36, .int 0, .int 0, .ref d39, .int 0]))]) hD hS hA [1] rfl
  refine va_calli (va_runV (As := []) (rest := [.int r_1]) ⟨hx, hb, hml, hown, hg⟩ (c_X4_astray l dC dI cI cZ cN cO m0 d2 d3 d4 d5 d6 d7 d8 d13 d14 d15 d16 d17 d18 d19 d20 d21 d22 d23 d24 d25 d26 d27 d28 d29 d30 d31 d32 d33 d34 d35 d36 d39 n 0 0 H.size ) (cwV 0 hg (gw_V kM_L_103 kI_X4_astray kS_X4_astray kN_X4 kD_X4_astray) rfl rfl rfl (by decide +kernel) ⟨Nat.le_of_ble_eq_true rfl, Nat.le_of_ble_eq_true rfl⟩) ⟨fun a U g mk q => by obtain ⟨q0, q1, qP, qK, qD⟩ := q; exact ⟨q0, q1, qP, va_K.moved (u := U) (U := U.calling g mk a) (Vm.Alike.refl U.vm) qK, qD⟩, va_recv hK hP (ci := 4) (q0 := 1) rfl rfl, fun U hU hW => ⟨rfl, by rw [hU], by rw [hU]; exact hPc, va_K.moved hW.alike (hK.sub (tys' := gTy cI cZ cN cO) [0, 1, 2, 3] rfl), hDc.weaken (fun _ _ _ _ => trivial)⟩⟩ rfl rfl hl.1 rfl (lv_room (Nat.le_of_ble_eq_true rfl)) dL_law_745 ⟨Nat.le_of_ble_eq_true rfl, Nat.le_of_ble_eq_true rfl⟩) hS (fun q _ h => hFc q h) hFc (fun r_2 u t H1 locs ht hvm hwr_2 hB hz1 hk1 hS => ?_)
  obtain ⟨hP1, hK1, hD1⟩ := hB
  rw [ht] at hP1
  obtain ⟨hP, hD⟩ := va_join (wr := [(x, .inr (3, [.ref na, .ref ro, .ref oa, .int 0, .int 0, .int 0, .int 0, .int 0, .int 0]))]) (w1 := []) hP hD [1] [0] rfl rfl (by decide) (by decide) hk1 hFc hP1 hD1
  clear hPc hDc hFc hP1 hK1 hD1 hz1 hk1 ht
  generalize H1 = H at hP hS ⊢
  have hP : va_P (dC, dI) vwCl [(x, .inr (3, [.ref na, .ref ro, .ref oa, .int 0, .int 0, .int 0, .int 0, .int 0, .int 0]))] H := hP
  have hD : va_D (fun q : Nat => s.heap.size ≤ q) [(x, .inr (3, [.ref na, .ref ro, .ref oa, .int 0, .int 0, .int 0, .int 0, .int 0, .int 0]))] := hD
  refine lv_icmp_eq (tgt := 753) hx hb dL_law_748 (by decide) (fun c_748 => ?_) (fun c_748 => absurd (by rw [hr_1, hwr_2]) c_748)
  exact law_end C9 hS (Nat.le_of_ble_eq_true rfl) (by first | exact Nat.le_of_ble_eq_true rfl | (show _ ≤ 7302198; omega)) (lv_sub hl [0, 4] rfl)
set_option maxHeartbeats 4000000 in
set_option maxRecDepth 100000 in
theorem lc_node_no {p : Program} {l : Launch} {e : Env} {s : State} {m : MethodId} {below : List Frame} {meth : Method} {c : Code} {b : Nat} {xs : Nat → Int32} (C0 : lw_At p s m meth c b 6 xs) {dC : Nat → ClassId} {dI : Nat → Nat → Nat} {cI cZ cN cO cL : ClassId} (hK : va_K (dC, dI) vwCl (gTyL cI cZ cN cO cL) s) (x oo : Nat) (na ro oa : Nat) (fn : Nat → Option Nat) (m0 d2 d3 d4 d5 d6 d7 d8 d13 d14 d15 d16 d17 d18 d19 d20 d21 d22 d23 d24 d25 d26 d27 d28 d29 d30 d31 d32 d33 d34 d35 d36 d39 n : Nat)  {H : Heap} {locs : List Loc} (hP : va_P (dC, dI) vwCl [(x, .inr (3, [.ref na, .ref ro, .ref oa, .int 0, .int 0, .int 0, .int 0, .int 0, .int 0])), (na, .inl (cN, n, .inr (.inr (.inr (.inr fn))))), (m0, .inr (4, [.int (nI n), .int 0, .ref d2, .ref d3, .ref d4, .ref d5, .ref d6, .ref d7, .ref d8, .int 0, .int 0, .int 0, .int 0, .ref d13, .ref d14, .ref d15, .ref d16, .ref d17, .ref d18, .ref d19, .ref d20, .ref d21, .ref d22, .ref d23, .ref d24, .ref d25, .ref d26, .ref d27, .ref d28, .ref d29, .ref d30, .ref d31, .ref d32, .ref d33, .ref d34, .ref d35, .ref d36, .int 0, .int 0, .ref d39, .int 0]))] H) (hD : va_D (fun q : Nat => s.heap.size ≤ q) [(x, .inr (3, [.ref na, .ref ro, .ref oa, .int 0, .int 0, .int 0, .int 0, .int 0, .int 0])), (na, .inl (cN, n, .inr (.inr (.inr (.inr fn))))), (m0, .inr (4, [.int (nI n), .int 0, .ref d2, .ref d3, .ref d4, .ref d5, .ref d6, .ref d7, .ref d8, .int 0, .int 0, .int 0, .int 0, .ref d13, .ref d14, .ref d15, .ref d16, .ref d17, .ref d18, .ref d19, .ref d20, .ref d21, .ref d22, .ref d23, .ref d24, .ref d25, .ref d26, .ref d27, .ref d28, .ref d29, .ref d30, .ref d31, .ref d32, .ref d33, .ref d34, .ref d35, .ref d36, .int 0, .int 0, .ref d39, .int 0]))]) (hS : va_S (fun q : Nat => s.heap.size ≤ q) s.heap H locs) {ls : Array Slot} (hl : lv_has ls 7 [(4, .int 1), (3, .ref oo), (2, .ref m0), (1, .ref x), (0, .ref b)]) (y1 y2 y3 y4 : Int32) (hy1 : y1 = xs (2 : Int32).toNatClampNeg) (hy2 : y2 = xs (3 : Int32).toNatClampNeg) (hy3 : y3 = xs (4 : Int32).toNatClampNeg) (hy4 : y4 = xs (5 : Int32).toNatClampNeg) (hno : ¬ isN n y1) : W p l e room_1 s m #[Value.ref b] below meth c H locs 300 200000 (lw_Z below #[Value.ref b] s) (F0 m 567 ls []) := by
  have C9 := C0
  obtain ⟨hx, hb, hr, hml, hown, hts, hX, hbl, hlocks, hgv⟩ := C0
  have hg : ∀ w ∈ gw, w.before _ s = true := fun w h => hts w (List.mem_filter.mp h).1
  have hA : ∀ q : Nat, s.heap.size ≤ q → (fun q : Nat => s.heap.size ≤ q) q := fun _ h => h
  have hbA : ¬ (fun q : Nat => s.heap.size ≤ q) b := Nat.not_le.mpr hbl
  refine lv_aload_n hx hb dL_law_567 rfl (lv_at hl 3 rfl) ?_
  refine lv_aload_n hx hb dL_law_568 rfl (lv_at hl 4 rfl) ?_
  refine lv_iload hx hb dL_law_569 (lv_at hl 0 rfl) ?_
  refine lv_iconst (v := 1) hx hb dL_law_571 (by decide) ?_
  refine lv_iadd hx hb dL_law_572 ?_
  rw [show (1 : Int32) + 1 = 2 from by decide]
  refine va_sld hx hb hX hbl hbA hS (by unfold vp_in; decide +kernel) dL_law_573 ?_
  rw [← hy1]
  refine lv_aload_n hx hb dL_law_574 rfl (lv_at hl 4 rfl) ?_
  refine lv_iload hx hb dL_law_575 (lv_at hl 0 rfl) ?_
  refine lv_iconst (v := 2) hx hb dL_law_577 (by decide) ?_
  refine lv_iadd hx hb dL_law_578 ?_
  rw [show (1 : Int32) + 2 = 3 from by decide]
  refine va_sld hx hb hX hbl hbA hS (by unfold vp_in; decide +kernel) dL_law_579 ?_
  rw [← hy2]
  have hPc := hP.sub (ws' := [(x, .inr (3, [.ref na, .ref ro, .ref oa, .int 0, .int 0, .int 0, .int 0, .int 0, .int 0])), (na, .inl (cN, n, .inr (.inr (.inr (.inr fn)))))]) [0, 1] rfl
  refine vp_callSi (W.runV (As := [.int y1, .int y2]) (rest := []) ⟨hx, hb, hml, hown, hg⟩ (c_X3_node_no l dC dI cI cZ cN cO x na ro oa n fn y1 y2 hno) (cwV 2 hg (gw_V kM_L_80 kI_X3_node kS_X3_node kN_X3 kD_X3_node) rfl rfl rfl (by decide +kernel) ⟨Nat.le_of_ble_eq_true rfl, Nat.le_of_ble_eq_true rfl⟩) ⟨fun a U g mk q => by obtain ⟨q0, qP, qK⟩ := q; exact ⟨q0, qP, va_K.moved (u := U) (U := U.calling g mk a) (Vm.Alike.refl U.vm) qK⟩, va_recv hK hP (ci := 3) (q0 := 0) rfl rfl, fun U hU hW => ⟨rfl, by rw [hU]; exact hPc, va_K.moved hW.alike (hK.sub (tys' := gTy cI cZ cN cO) [0, 1, 2, 3] rfl)⟩⟩ rfl rfl hl.1 rfl (lv_room (Nat.le_of_ble_eq_true rfl)) dL_law_580 ⟨Nat.le_of_ble_eq_true rfl, Nat.le_of_ble_eq_true rfl⟩) (fun r_1 hr_1 => ?_)
  refine lv_aload_n hx hb dL_law_583 rfl (lv_at hl 2 rfl) ?_
  refine lv_aload_n hx hb dL_law_584 rfl (lv_at hl 4 rfl) ?_
  refine lv_iload hx hb dL_law_585 (lv_at hl 0 rfl) ?_
  refine lv_iconst (v := 1) hx hb dL_law_587 (by decide) ?_
  refine lv_iadd hx hb dL_law_588 ?_
  rw [show (1 : Int32) + 1 = 2 from by decide]
  refine va_sld hx hb hX hbl hbA hS (by unfold vp_in; decide +kernel) dL_law_589 ?_
  rw [← hy1]
  refine lv_aload_n hx hb dL_law_590 rfl (lv_at hl 4 rfl) ?_
  refine lv_iload hx hb dL_law_591 (lv_at hl 0 rfl) ?_
  refine lv_iconst (v := 2) hx hb dL_law_593 (by decide) ?_
  refine lv_iadd hx hb dL_law_594 ?_
  rw [show (1 : Int32) + 2 = 3 from by decide]
  refine va_sld hx hb hX hbl hbA hS (by unfold vp_in; decide +kernel) dL_law_595 ?_
  rw [← hy2]
  have hPc := hP.sub (ws' := [(m0, .inr (4, [.int (nI n), .int 0, .ref d2, .ref d3, .ref d4, .ref d5, .ref d6, .ref d7, .ref d8, .int 0, .int 0, .int 0, .int 0, .ref d13, .ref d14, .ref d15, .ref d16, .ref d17, .ref d18, .ref d19, .ref d20, .ref d21, .ref d22, .ref d23, .ref d24, .ref d25, .ref d26, .ref d27, .ref d28, .ref d29, .ref d30, .ref d31, .ref d32, .ref d33, .ref d34, .ref d35, .ref d36, .int 0, .int 0, .ref d39, .int 0]))]) [2] rfl
  have hDc := hD.sub (ws' := [(m0, .inr (4, [.int (nI n), .int 0, .ref d2, .ref d3, .ref d4, .ref d5, .ref d6, .ref d7, .ref d8, .int 0, .int 0, .int 0, .int 0, .ref d13, .ref d14, .ref d15, .ref d16, .ref d17, .ref d18, .ref d19, .ref d20, .ref d21, .ref d22, .ref d23, .ref d24, .ref d25, .ref d26, .ref d27, .ref d28, .ref d29, .ref d30, .ref d31, .ref d32, .ref d33, .ref d34, .ref d35, .ref d36, .int 0, .int 0, .ref d39, .int 0]))]) [2] (by decide) rfl
  have hFc := va_free (wc := [(m0, .inr (4, [.int (nI n), .int 0, .ref d2, .ref d3, .ref d4, .ref d5, .ref d6, .ref d7, .ref d8, .int 0, .int 0, .int 0, .int 0, .ref d13, .ref d14, .ref d15, .ref d16, .ref d17, .ref d18, .ref d19, .ref d20, .ref d21, .ref d22, .ref d23, .ref d24, .ref d25, .ref d26, .ref d27, .ref d28, .ref d29, .ref d30, .ref d31, .ref d32, .ref d33, .ref d34, .ref d35, .ref d36, .int 0, .int 0, .ref d39, .int 0]))]) hD hS hA [2] rfl
  refine va_calli (va_runV (As := [.int y1, .int y2]) (rest := [.int r_1]) ⟨hx, hb, hml, hown, hg⟩ (c_X4_node_no l dC dI cI cZ cN cO m0 d2 d3 d4 d5 d6 d7 d8 d13 d14 d15 d16 d17 d18 d19 d20 d21 d22 d23 d24 d25 d26 d27 d28 d29 d30 d31 d32 d33 d34 d35 d36 d39 n y1 y2 H.size hno) (cwV 2 hg (gw_V kM_L_83 kI_X4_node kS_X4_node kN_X4 kD_X4_node) rfl rfl rfl (by decide +kernel) ⟨Nat.le_of_ble_eq_true rfl, Nat.le_of_ble_eq_true rfl⟩) ⟨fun a U g mk q => by obtain ⟨q0, q1, qP, qK, qD⟩ := q; exact ⟨q0, q1, qP, va_K.moved (u := U) (U := U.calling g mk a) (Vm.Alike.refl U.vm) qK, qD⟩, va_recv hK hP (ci := 4) (q0 := 2) rfl rfl, fun U hU hW => ⟨rfl, by rw [hU], by rw [hU]; exact hPc, va_K.moved hW.alike (hK.sub (tys' := gTy cI cZ cN cO) [0, 1, 2, 3] rfl), hDc.weaken (fun _ _ _ _ => trivial)⟩⟩ rfl rfl hl.1 rfl (lv_room (Nat.le_of_ble_eq_true rfl)) dL_law_596 ⟨Nat.le_of_ble_eq_true rfl, Nat.le_of_ble_eq_true rfl⟩) hS (fun q _ h => hFc q h) hFc (fun r_2 u t H1 locs ht hvm hwr_2 hB hz1 hk1 hS => ?_)
  obtain ⟨hP1, hK1, hD1⟩ := hB
  rw [ht] at hP1
  obtain ⟨hP, hD⟩ := va_join (wr := [(x, .inr (3, [.ref na, .ref ro, .ref oa, .int 0, .int 0, .int 0, .int 0, .int 0, .int 0])), (na, .inl (cN, n, .inr (.inr (.inr (.inr fn)))))]) (w1 := []) hP hD [2] [0, 1] rfl rfl (by decide) (by decide) hk1 hFc hP1 hD1
  clear hPc hDc hFc hP1 hK1 hD1 hz1 hk1 ht
  generalize H1 = H at hP hS ⊢
  have hP : va_P (dC, dI) vwCl [(x, .inr (3, [.ref na, .ref ro, .ref oa, .int 0, .int 0, .int 0, .int 0, .int 0, .int 0])), (na, .inl (cN, n, .inr (.inr (.inr (.inr fn)))))] H := hP
  have hD : va_D (fun q : Nat => s.heap.size ≤ q) [(x, .inr (3, [.ref na, .ref ro, .ref oa, .int 0, .int 0, .int 0, .int 0, .int 0, .int 0])), (na, .inl (cN, n, .inr (.inr (.inr (.inr fn)))))] := hD
  refine lv_icmp_eq (tgt := 753) hx hb dL_law_599 (by decide) (fun c_599 => ?_) (fun c_599 => absurd (by rw [hr_1, hwr_2]) c_599)
  exact law_end C9 hS (Nat.le_of_ble_eq_true rfl) (by first | exact Nat.le_of_ble_eq_true rfl | (show _ ≤ 7302198; omega)) (lv_sub hl [0, 4] rfl)
set_option maxHeartbeats 4000000 in
set_option maxRecDepth 100000 in
theorem lc_node_yes {p : Program} {l : Launch} {e : Env} {s : State} {m : MethodId} {below : List Frame} {meth : Method} {c : Code} {b : Nat} {xs : Nat → Int32} (C0 : lw_At p s m meth c b 6 xs) {dC : Nat → ClassId} {dI : Nat → Nat → Nat} {cI cZ cN cO cL : ClassId} (hK : va_K (dC, dI) vwCl (gTyL cI cZ cN cO cL) s) (x oo : Nat) (na ro oa : Nat) (fn : Nat → Option Nat) (m0 d2 d3 d4 d5 d6 d7 d8 d13 d14 d15 d16 d17 d18 d19 d20 d21 d22 d23 d24 d25 d26 d27 d28 d29 d30 d31 d32 d33 d34 d35 d36 d39 n : Nat) (nd a1 a2 a3 a4 a5 : Nat) (ix : Int32)  {H : Heap} {locs : List Loc} (hP : va_P (dC, dI) vwCl [(x, .inr (3, [.ref na, .ref ro, .ref oa, .int 0, .int 0, .int 0, .int 0, .int 0, .int 0])), (na, .inl (cN, n, .inr (.inr (.inr (.inr fn))))), (nd, .inr (0, [.int ix, .ref a1, .ref a2, .ref a3, .ref a4, .ref a5, .int 1, .int 0, .int 0, .int 0, .null])), (a5, .inl (cI, n, .inl ((fun _ => 0)))), (m0, .inr (4, [.int (nI n), .int 0, .ref d2, .ref d3, .ref d4, .ref d5, .ref d6, .ref d7, .ref d8, .int 0, .int 0, .int 0, .int 0, .ref d13, .ref d14, .ref d15, .ref d16, .ref d17, .ref d18, .ref d19, .ref d20, .ref d21, .ref d22, .ref d23, .ref d24, .ref d25, .ref d26, .ref d27, .ref d28, .ref d29, .ref d30, .ref d31, .ref d32, .ref d33, .ref d34, .ref d35, .ref d36, .int 0, .int 0, .ref d39, .int 0])), (d13, .inl (cZ, 31, .inl ((fun _ => 0)))), (d14, .inl (cI, 31, .inl ((fun _ => 0)))), (d15, .inl (cI, 31, .inl ((fun _ => 0)))), (d16, .inl (cI, 31, .inl ((fun _ => 0)))), (d17, .inl (cI, 31, .inl ((fun _ => 0)))), (d19, .inl (cI, 31, .inl ((fun _ => 0))))] H) (hD : va_D (fun q : Nat => s.heap.size ≤ q) [(x, .inr (3, [.ref na, .ref ro, .ref oa, .int 0, .int 0, .int 0, .int 0, .int 0, .int 0])), (na, .inl (cN, n, .inr (.inr (.inr (.inr fn))))), (nd, .inr (0, [.int ix, .ref a1, .ref a2, .ref a3, .ref a4, .ref a5, .int 1, .int 0, .int 0, .int 0, .null])), (a5, .inl (cI, n, .inl ((fun _ => 0)))), (m0, .inr (4, [.int (nI n), .int 0, .ref d2, .ref d3, .ref d4, .ref d5, .ref d6, .ref d7, .ref d8, .int 0, .int 0, .int 0, .int 0, .ref d13, .ref d14, .ref d15, .ref d16, .ref d17, .ref d18, .ref d19, .ref d20, .ref d21, .ref d22, .ref d23, .ref d24, .ref d25, .ref d26, .ref d27, .ref d28, .ref d29, .ref d30, .ref d31, .ref d32, .ref d33, .ref d34, .ref d35, .ref d36, .int 0, .int 0, .ref d39, .int 0])), (d13, .inl (cZ, 31, .inl ((fun _ => 0)))), (d14, .inl (cI, 31, .inl ((fun _ => 0)))), (d15, .inl (cI, 31, .inl ((fun _ => 0)))), (d16, .inl (cI, 31, .inl ((fun _ => 0)))), (d17, .inl (cI, 31, .inl ((fun _ => 0)))), (d19, .inl (cI, 31, .inl ((fun _ => 0))))]) (hS : va_S (fun q : Nat => s.heap.size ≤ q) s.heap H locs) {ls : Array Slot} (hl : lv_has ls 7 [(4, .int 1), (3, .ref oo), (2, .ref m0), (1, .ref x), (0, .ref b)]) (y1 y2 y3 y4 : Int32) (hy1 : y1 = xs (2 : Int32).toNatClampNeg) (hy2 : y2 = xs (3 : Int32).toNatClampNeg) (hy3 : y3 = xs (4 : Int32).toNatClampNeg) (hy4 : y4 = xs (5 : Int32).toNatClampNeg) (hn : n ≤ 31) (hy : isN n y1) (hnd : fn y1.toNatClampNeg = some nd) (hix : vp_in ix n) : W p l e room_1 s m #[Value.ref b] below meth c H locs 300 200000 (lw_Z below #[Value.ref b] s) (F0 m 567 ls []) := by
  have C9 := C0
  obtain ⟨hx, hb, hr, hml, hown, hts, hX, hbl, hlocks, hgv⟩ := C0
  have hg : ∀ w ∈ gw, w.before _ s = true := fun w h => hts w (List.mem_filter.mp h).1
  have hA : ∀ q : Nat, s.heap.size ≤ q → (fun q : Nat => s.heap.size ≤ q) q := fun _ h => h
  have hbA : ¬ (fun q : Nat => s.heap.size ≤ q) b := Nat.not_le.mpr hbl
  refine lv_aload_n hx hb dL_law_567 rfl (lv_at hl 3 rfl) ?_
  refine lv_aload_n hx hb dL_law_568 rfl (lv_at hl 4 rfl) ?_
  refine lv_iload hx hb dL_law_569 (lv_at hl 0 rfl) ?_
  refine lv_iconst (v := 1) hx hb dL_law_571 (by decide) ?_
  refine lv_iadd hx hb dL_law_572 ?_
  rw [show (1 : Int32) + 1 = 2 from by decide]
  refine va_sld hx hb hX hbl hbA hS (by unfold vp_in; decide +kernel) dL_law_573 ?_
  rw [← hy1]
  refine lv_aload_n hx hb dL_law_574 rfl (lv_at hl 4 rfl) ?_
  refine lv_iload hx hb dL_law_575 (lv_at hl 0 rfl) ?_
  refine lv_iconst (v := 2) hx hb dL_law_577 (by decide) ?_
  refine lv_iadd hx hb dL_law_578 ?_
  rw [show (1 : Int32) + 2 = 3 from by decide]
  refine va_sld hx hb hX hbl hbA hS (by unfold vp_in; decide +kernel) dL_law_579 ?_
  rw [← hy2]
  have hPc := hP.sub (ws' := [(x, .inr (3, [.ref na, .ref ro, .ref oa, .int 0, .int 0, .int 0, .int 0, .int 0, .int 0])), (na, .inl (cN, n, .inr (.inr (.inr (.inr fn))))), (nd, .inr (0, [.int ix, .ref a1, .ref a2, .ref a3, .ref a4, .ref a5, .int 1, .int 0, .int 0, .int 0, .null])), (a5, .inl (cI, n, .inl ((fun _ => 0))))]) [0, 1, 2, 3] rfl
  refine vp_callSi (W.runV (As := [.int y1, .int y2]) (rest := []) ⟨hx, hb, hml, hown, hg⟩ (c_X3_node_yes l dC dI cI cZ cN cO x na ro oa n fn nd a1 a2 a3 a4 a5 ix y1 y2 (by omega) hy hnd hix) (cwV 2 hg (gw_V kM_L_80 kI_X3_node kS_X3_node kN_X3 kD_X3_node) rfl rfl rfl (by decide +kernel) ⟨Nat.le_of_ble_eq_true rfl, Nat.le_of_ble_eq_true rfl⟩) ⟨fun a U g mk q => by obtain ⟨q0, qP, qK⟩ := q; exact ⟨q0, qP, va_K.moved (u := U) (U := U.calling g mk a) (Vm.Alike.refl U.vm) qK⟩, va_recv hK hP (ci := 3) (q0 := 0) rfl rfl, fun U hU hW => ⟨rfl, by rw [hU]; exact hPc, va_K.moved hW.alike (hK.sub (tys' := gTy cI cZ cN cO) [0, 1, 2, 3] rfl)⟩⟩ rfl rfl hl.1 rfl (lv_room (Nat.le_of_ble_eq_true rfl)) dL_law_580 ⟨Nat.le_of_ble_eq_true rfl, Nat.le_of_ble_eq_true rfl⟩) (fun r_1 hr_1 => ?_)
  refine lv_aload_n hx hb dL_law_583 rfl (lv_at hl 2 rfl) ?_
  refine lv_aload_n hx hb dL_law_584 rfl (lv_at hl 4 rfl) ?_
  refine lv_iload hx hb dL_law_585 (lv_at hl 0 rfl) ?_
  refine lv_iconst (v := 1) hx hb dL_law_587 (by decide) ?_
  refine lv_iadd hx hb dL_law_588 ?_
  rw [show (1 : Int32) + 1 = 2 from by decide]
  refine va_sld hx hb hX hbl hbA hS (by unfold vp_in; decide +kernel) dL_law_589 ?_
  rw [← hy1]
  refine lv_aload_n hx hb dL_law_590 rfl (lv_at hl 4 rfl) ?_
  refine lv_iload hx hb dL_law_591 (lv_at hl 0 rfl) ?_
  refine lv_iconst (v := 2) hx hb dL_law_593 (by decide) ?_
  refine lv_iadd hx hb dL_law_594 ?_
  rw [show (1 : Int32) + 2 = 3 from by decide]
  refine va_sld hx hb hX hbl hbA hS (by unfold vp_in; decide +kernel) dL_law_595 ?_
  rw [← hy2]
  have hPc := hP.sub (ws' := [(m0, .inr (4, [.int (nI n), .int 0, .ref d2, .ref d3, .ref d4, .ref d5, .ref d6, .ref d7, .ref d8, .int 0, .int 0, .int 0, .int 0, .ref d13, .ref d14, .ref d15, .ref d16, .ref d17, .ref d18, .ref d19, .ref d20, .ref d21, .ref d22, .ref d23, .ref d24, .ref d25, .ref d26, .ref d27, .ref d28, .ref d29, .ref d30, .ref d31, .ref d32, .ref d33, .ref d34, .ref d35, .ref d36, .int 0, .int 0, .ref d39, .int 0])), (d13, .inl (cZ, 31, .inl ((fun _ => 0)))), (d14, .inl (cI, 31, .inl ((fun _ => 0)))), (d15, .inl (cI, 31, .inl ((fun _ => 0)))), (d16, .inl (cI, 31, .inl ((fun _ => 0)))), (d17, .inl (cI, 31, .inl ((fun _ => 0)))), (d19, .inl (cI, 31, .inl ((fun _ => 0))))]) [4, 5, 6, 7, 8, 9, 10] rfl
  have hDc := hD.sub (ws' := [(m0, .inr (4, [.int (nI n), .int 0, .ref d2, .ref d3, .ref d4, .ref d5, .ref d6, .ref d7, .ref d8, .int 0, .int 0, .int 0, .int 0, .ref d13, .ref d14, .ref d15, .ref d16, .ref d17, .ref d18, .ref d19, .ref d20, .ref d21, .ref d22, .ref d23, .ref d24, .ref d25, .ref d26, .ref d27, .ref d28, .ref d29, .ref d30, .ref d31, .ref d32, .ref d33, .ref d34, .ref d35, .ref d36, .int 0, .int 0, .ref d39, .int 0])), (d13, .inl (cZ, 31, .inl ((fun _ => 0)))), (d14, .inl (cI, 31, .inl ((fun _ => 0)))), (d15, .inl (cI, 31, .inl ((fun _ => 0)))), (d16, .inl (cI, 31, .inl ((fun _ => 0)))), (d17, .inl (cI, 31, .inl ((fun _ => 0)))), (d19, .inl (cI, 31, .inl ((fun _ => 0))))]) [4, 5, 6, 7, 8, 9, 10] (by decide) rfl
  have hFc := va_free (wc := [(m0, .inr (4, [.int (nI n), .int 0, .ref d2, .ref d3, .ref d4, .ref d5, .ref d6, .ref d7, .ref d8, .int 0, .int 0, .int 0, .int 0, .ref d13, .ref d14, .ref d15, .ref d16, .ref d17, .ref d18, .ref d19, .ref d20, .ref d21, .ref d22, .ref d23, .ref d24, .ref d25, .ref d26, .ref d27, .ref d28, .ref d29, .ref d30, .ref d31, .ref d32, .ref d33, .ref d34, .ref d35, .ref d36, .int 0, .int 0, .ref d39, .int 0])), (d13, .inl (cZ, 31, .inl ((fun _ => 0)))), (d14, .inl (cI, 31, .inl ((fun _ => 0)))), (d15, .inl (cI, 31, .inl ((fun _ => 0)))), (d16, .inl (cI, 31, .inl ((fun _ => 0)))), (d17, .inl (cI, 31, .inl ((fun _ => 0)))), (d19, .inl (cI, 31, .inl ((fun _ => 0))))]) hD hS hA [4, 5, 6, 7, 8, 9, 10] rfl
  refine va_calli (va_runV (As := [.int y1, .int y2]) (rest := [.int r_1]) ⟨hx, hb, hml, hown, hg⟩ (c_X4_node_yes l dC dI cI cZ cN cO m0 d2 d3 d4 d5 d6 d7 d8 d13 d14 d15 d16 d17 d18 d19 d20 d21 d22 d23 d24 d25 d26 d27 d28 d29 d30 d31 d32 d33 d34 d35 d36 d39 n y1 y2 H.size hn hy) (cwV 2 hg (gw_V kM_L_83 kI_X4_node kS_X4_node kN_X4 kD_X4_node) rfl rfl rfl (by decide +kernel) ⟨Nat.le_of_ble_eq_true rfl, Nat.le_of_ble_eq_true rfl⟩) ⟨fun a U g mk q => by obtain ⟨q0, q1, qP, qK, qD⟩ := q; exact ⟨q0, q1, qP, va_K.moved (u := U) (U := U.calling g mk a) (Vm.Alike.refl U.vm) qK, qD⟩, va_recv hK hP (ci := 4) (q0 := 4) rfl rfl, fun U hU hW => ⟨rfl, by rw [hU], by rw [hU]; exact hPc, va_K.moved hW.alike (hK.sub (tys' := gTy cI cZ cN cO) [0, 1, 2, 3] rfl), hDc.weaken (fun _ _ _ _ => trivial)⟩⟩ rfl rfl hl.1 rfl (lv_room (Nat.le_of_ble_eq_true rfl)) dL_law_596 ⟨Nat.le_of_ble_eq_true rfl, Nat.le_of_ble_eq_true rfl⟩) hS (fun q _ h => hFc q h) hFc (fun r_2 u t H1 locs ht hvm hwr_2 hB hz1 hk1 hS => ?_)
  obtain ⟨hP1, hK1, hD1⟩ := hB
  rw [ht] at hP1
  obtain ⟨hP, hD⟩ := va_join (wr := [(x, .inr (3, [.ref na, .ref ro, .ref oa, .int 0, .int 0, .int 0, .int 0, .int 0, .int 0])), (na, .inl (cN, n, .inr (.inr (.inr (.inr fn))))), (nd, .inr (0, [.int ix, .ref a1, .ref a2, .ref a3, .ref a4, .ref a5, .int 1, .int 0, .int 0, .int 0, .null])), (a5, .inl (cI, n, .inl ((fun _ => 0))))]) (w1 := []) hP hD [4, 5, 6, 7, 8, 9, 10] [0, 1, 2, 3] rfl rfl (by decide) (by decide) hk1 hFc hP1 hD1
  clear hPc hDc hFc hP1 hK1 hD1 hz1 hk1 ht
  generalize H1 = H at hP hS ⊢
  have hP : va_P (dC, dI) vwCl [(x, .inr (3, [.ref na, .ref ro, .ref oa, .int 0, .int 0, .int 0, .int 0, .int 0, .int 0])), (na, .inl (cN, n, .inr (.inr (.inr (.inr fn))))), (nd, .inr (0, [.int ix, .ref a1, .ref a2, .ref a3, .ref a4, .ref a5, .int 1, .int 0, .int 0, .int 0, .null])), (a5, .inl (cI, n, .inl ((fun _ => 0))))] H := hP
  have hD : va_D (fun q : Nat => s.heap.size ≤ q) [(x, .inr (3, [.ref na, .ref ro, .ref oa, .int 0, .int 0, .int 0, .int 0, .int 0, .int 0])), (na, .inl (cN, n, .inr (.inr (.inr (.inr fn))))), (nd, .inr (0, [.int ix, .ref a1, .ref a2, .ref a3, .ref a4, .ref a5, .int 1, .int 0, .int 0, .int 0, .null])), (a5, .inl (cI, n, .inl ((fun _ => 0))))] := hD
  refine lv_icmp_eq (tgt := 753) hx hb dL_law_599 (by decide) (fun c_599 => ?_) (fun c_599 => absurd (by rw [hr_1, hwr_2]) c_599)
  exact law_end C9 hS (Nat.le_of_ble_eq_true rfl) (by first | exact Nat.le_of_ble_eq_true rfl | (show _ ≤ 7302198; omega)) (lv_sub hl [0, 4] rfl)
set_option maxHeartbeats 4000000 in
set_option maxRecDepth 100000 in
theorem lc_kept_no {p : Program} {l : Launch} {e : Env} {s : State} {m : MethodId} {below : List Frame} {meth : Method} {c : Code} {b : Nat} {xs : Nat → Int32} (C0 : lw_At p s m meth c b 6 xs) {dC : Nat → ClassId} {dI : Nat → Nat → Nat} {cI cZ cN cO cL : ClassId} (hK : va_K (dC, dI) vwCl (gTyL cI cZ cN cO cL) s) (x oo : Nat) (na ro oa : Nat) (fn : Nat → Option Nat) (m0 d2 d3 d4 d5 d6 d7 d8 d13 d14 d15 d16 d17 d18 d19 d20 d21 d22 d23 d24 d25 d26 d27 d28 d29 d30 d31 d32 d33 d34 d35 d36 d39 n : Nat)  {H : Heap} {locs : List Loc} (hP : va_P (dC, dI) vwCl [(x, .inr (3, [.ref na, .ref ro, .ref oa, .int 0, .int 0, .int 0, .int 0, .int 0, .int 0])), (na, .inl (cN, n, .inr (.inr (.inr (.inr fn))))), (m0, .inr (4, [.int (nI n), .int 0, .ref d2, .ref d3, .ref d4, .ref d5, .ref d6, .ref d7, .ref d8, .int 0, .int 0, .int 0, .int 0, .ref d13, .ref d14, .ref d15, .ref d16, .ref d17, .ref d18, .ref d19, .ref d20, .ref d21, .ref d22, .ref d23, .ref d24, .ref d25, .ref d26, .ref d27, .ref d28, .ref d29, .ref d30, .ref d31, .ref d32, .ref d33, .ref d34, .ref d35, .ref d36, .int 0, .int 0, .ref d39, .int 0]))] H) (hD : va_D (fun q : Nat => s.heap.size ≤ q) [(x, .inr (3, [.ref na, .ref ro, .ref oa, .int 0, .int 0, .int 0, .int 0, .int 0, .int 0])), (na, .inl (cN, n, .inr (.inr (.inr (.inr fn))))), (m0, .inr (4, [.int (nI n), .int 0, .ref d2, .ref d3, .ref d4, .ref d5, .ref d6, .ref d7, .ref d8, .int 0, .int 0, .int 0, .int 0, .ref d13, .ref d14, .ref d15, .ref d16, .ref d17, .ref d18, .ref d19, .ref d20, .ref d21, .ref d22, .ref d23, .ref d24, .ref d25, .ref d26, .ref d27, .ref d28, .ref d29, .ref d30, .ref d31, .ref d32, .ref d33, .ref d34, .ref d35, .ref d36, .int 0, .int 0, .ref d39, .int 0]))]) (hS : va_S (fun q : Nat => s.heap.size ≤ q) s.heap H locs) {ls : Array Slot} (hl : lv_has ls 7 [(4, .int 1), (3, .ref oo), (2, .ref m0), (1, .ref x), (0, .ref b)]) (y1 y2 y3 y4 : Int32) (hy1 : y1 = xs (2 : Int32).toNatClampNeg) (hy2 : y2 = xs (3 : Int32).toNatClampNeg) (hy3 : y3 = xs (4 : Int32).toNatClampNeg) (hy4 : y4 = xs (5 : Int32).toNatClampNeg) (hno : ¬ (isN n y1 ∧ isN n y2)) : W p l e room_1 s m #[Value.ref b] below meth c H locs 300 200000 (lw_Z below #[Value.ref b] s) (F0 m 604 ls []) := by
  have C9 := C0
  obtain ⟨hx, hb, hr, hml, hown, hts, hX, hbl, hlocks, hgv⟩ := C0
  have hg : ∀ w ∈ gw, w.before _ s = true := fun w h => hts w (List.mem_filter.mp h).1
  have hA : ∀ q : Nat, s.heap.size ≤ q → (fun q : Nat => s.heap.size ≤ q) q := fun _ h => h
  have hbA : ¬ (fun q : Nat => s.heap.size ≤ q) b := Nat.not_le.mpr hbl
  refine lv_aload_n hx hb dL_law_604 rfl (lv_at hl 3 rfl) ?_
  refine lv_aload_n hx hb dL_law_605 rfl (lv_at hl 4 rfl) ?_
  refine lv_iload hx hb dL_law_606 (lv_at hl 0 rfl) ?_
  refine lv_iconst (v := 1) hx hb dL_law_608 (by decide) ?_
  refine lv_iadd hx hb dL_law_609 ?_
  rw [show (1 : Int32) + 1 = 2 from by decide]
  refine va_sld hx hb hX hbl hbA hS (by unfold vp_in; decide +kernel) dL_law_610 ?_
  rw [← hy1]
  refine lv_aload_n hx hb dL_law_611 rfl (lv_at hl 4 rfl) ?_
  refine lv_iload hx hb dL_law_612 (lv_at hl 0 rfl) ?_
  refine lv_iconst (v := 2) hx hb dL_law_614 (by decide) ?_
  refine lv_iadd hx hb dL_law_615 ?_
  rw [show (1 : Int32) + 2 = 3 from by decide]
  refine va_sld hx hb hX hbl hbA hS (by unfold vp_in; decide +kernel) dL_law_616 ?_
  rw [← hy2]
  have hPc := hP.sub (ws' := [(x, .inr (3, [.ref na, .ref ro, .ref oa, .int 0, .int 0, .int 0, .int 0, .int 0, .int 0])), (na, .inl (cN, n, .inr (.inr (.inr (.inr fn)))))]) [0, 1] rfl
  refine vp_callSi (W.runV (As := [.int y1, .int y2]) (rest := []) ⟨hx, hb, hml, hown, hg⟩ (c_X3_kept_no l dC dI cI cZ cN cO x na ro oa n fn y1 y2 hno) (cwV 2 hg (gw_V kM_L_84 kI_X3_kept kS_X3_kept kN_X3 kD_X3_kept) rfl rfl rfl (by decide +kernel) ⟨Nat.le_of_ble_eq_true rfl, Nat.le_of_ble_eq_true rfl⟩) ⟨fun a U g mk q => by obtain ⟨q0, qP, qK⟩ := q; exact ⟨q0, qP, va_K.moved (u := U) (U := U.calling g mk a) (Vm.Alike.refl U.vm) qK⟩, va_recv hK hP (ci := 3) (q0 := 0) rfl rfl, fun U hU hW => ⟨rfl, by rw [hU]; exact hPc, va_K.moved hW.alike (hK.sub (tys' := gTy cI cZ cN cO) [0, 1, 2, 3] rfl)⟩⟩ rfl rfl hl.1 rfl (lv_room (Nat.le_of_ble_eq_true rfl)) dL_law_617 ⟨Nat.le_of_ble_eq_true rfl, Nat.le_of_ble_eq_true rfl⟩) (fun r_1 hr_1 => ?_)
  refine lv_aload_n hx hb dL_law_620 rfl (lv_at hl 2 rfl) ?_
  refine lv_aload_n hx hb dL_law_621 rfl (lv_at hl 4 rfl) ?_
  refine lv_iload hx hb dL_law_622 (lv_at hl 0 rfl) ?_
  refine lv_iconst (v := 1) hx hb dL_law_624 (by decide) ?_
  refine lv_iadd hx hb dL_law_625 ?_
  rw [show (1 : Int32) + 1 = 2 from by decide]
  refine va_sld hx hb hX hbl hbA hS (by unfold vp_in; decide +kernel) dL_law_626 ?_
  rw [← hy1]
  refine lv_aload_n hx hb dL_law_627 rfl (lv_at hl 4 rfl) ?_
  refine lv_iload hx hb dL_law_628 (lv_at hl 0 rfl) ?_
  refine lv_iconst (v := 2) hx hb dL_law_630 (by decide) ?_
  refine lv_iadd hx hb dL_law_631 ?_
  rw [show (1 : Int32) + 2 = 3 from by decide]
  refine va_sld hx hb hX hbl hbA hS (by unfold vp_in; decide +kernel) dL_law_632 ?_
  rw [← hy2]
  have hPc := hP.sub (ws' := [(m0, .inr (4, [.int (nI n), .int 0, .ref d2, .ref d3, .ref d4, .ref d5, .ref d6, .ref d7, .ref d8, .int 0, .int 0, .int 0, .int 0, .ref d13, .ref d14, .ref d15, .ref d16, .ref d17, .ref d18, .ref d19, .ref d20, .ref d21, .ref d22, .ref d23, .ref d24, .ref d25, .ref d26, .ref d27, .ref d28, .ref d29, .ref d30, .ref d31, .ref d32, .ref d33, .ref d34, .ref d35, .ref d36, .int 0, .int 0, .ref d39, .int 0]))]) [2] rfl
  have hDc := hD.sub (ws' := [(m0, .inr (4, [.int (nI n), .int 0, .ref d2, .ref d3, .ref d4, .ref d5, .ref d6, .ref d7, .ref d8, .int 0, .int 0, .int 0, .int 0, .ref d13, .ref d14, .ref d15, .ref d16, .ref d17, .ref d18, .ref d19, .ref d20, .ref d21, .ref d22, .ref d23, .ref d24, .ref d25, .ref d26, .ref d27, .ref d28, .ref d29, .ref d30, .ref d31, .ref d32, .ref d33, .ref d34, .ref d35, .ref d36, .int 0, .int 0, .ref d39, .int 0]))]) [2] (by decide) rfl
  have hFc := va_free (wc := [(m0, .inr (4, [.int (nI n), .int 0, .ref d2, .ref d3, .ref d4, .ref d5, .ref d6, .ref d7, .ref d8, .int 0, .int 0, .int 0, .int 0, .ref d13, .ref d14, .ref d15, .ref d16, .ref d17, .ref d18, .ref d19, .ref d20, .ref d21, .ref d22, .ref d23, .ref d24, .ref d25, .ref d26, .ref d27, .ref d28, .ref d29, .ref d30, .ref d31, .ref d32, .ref d33, .ref d34, .ref d35, .ref d36, .int 0, .int 0, .ref d39, .int 0]))]) hD hS hA [2] rfl
  refine va_calli (va_runV (As := [.int y1, .int y2]) (rest := [.int r_1]) ⟨hx, hb, hml, hown, hg⟩ (c_X4_kept_no l dC dI cI cZ cN cO m0 d2 d3 d4 d5 d6 d7 d8 d13 d14 d15 d16 d17 d18 d19 d20 d21 d22 d23 d24 d25 d26 d27 d28 d29 d30 d31 d32 d33 d34 d35 d36 d39 n y1 y2 H.size hno) (cwV 2 hg (gw_V kM_L_87 kI_X4_kept kS_X4_kept kN_X4 kD_X4_kept) rfl rfl rfl (by decide +kernel) ⟨Nat.le_of_ble_eq_true rfl, Nat.le_of_ble_eq_true rfl⟩) ⟨fun a U g mk q => by obtain ⟨q0, q1, qP, qK, qD⟩ := q; exact ⟨q0, q1, qP, va_K.moved (u := U) (U := U.calling g mk a) (Vm.Alike.refl U.vm) qK, qD⟩, va_recv hK hP (ci := 4) (q0 := 2) rfl rfl, fun U hU hW => ⟨rfl, by rw [hU], by rw [hU]; exact hPc, va_K.moved hW.alike (hK.sub (tys' := gTy cI cZ cN cO) [0, 1, 2, 3] rfl), hDc.weaken (fun _ _ _ _ => trivial)⟩⟩ rfl rfl hl.1 rfl (lv_room (Nat.le_of_ble_eq_true rfl)) dL_law_633 ⟨Nat.le_of_ble_eq_true rfl, Nat.le_of_ble_eq_true rfl⟩) hS (fun q _ h => hFc q h) hFc (fun r_2 u t H1 locs ht hvm hwr_2 hB hz1 hk1 hS => ?_)
  obtain ⟨hP1, hK1, hD1⟩ := hB
  rw [ht] at hP1
  obtain ⟨hP, hD⟩ := va_join (wr := [(x, .inr (3, [.ref na, .ref ro, .ref oa, .int 0, .int 0, .int 0, .int 0, .int 0, .int 0])), (na, .inl (cN, n, .inr (.inr (.inr (.inr fn)))))]) (w1 := []) hP hD [2] [0, 1] rfl rfl (by decide) (by decide) hk1 hFc hP1 hD1
  clear hPc hDc hFc hP1 hK1 hD1 hz1 hk1 ht
  generalize H1 = H at hP hS ⊢
  have hP : va_P (dC, dI) vwCl [(x, .inr (3, [.ref na, .ref ro, .ref oa, .int 0, .int 0, .int 0, .int 0, .int 0, .int 0])), (na, .inl (cN, n, .inr (.inr (.inr (.inr fn)))))] H := hP
  have hD : va_D (fun q : Nat => s.heap.size ≤ q) [(x, .inr (3, [.ref na, .ref ro, .ref oa, .int 0, .int 0, .int 0, .int 0, .int 0, .int 0])), (na, .inl (cN, n, .inr (.inr (.inr (.inr fn)))))] := hD
  refine lv_icmp_eq (tgt := 753) hx hb dL_law_636 (by decide) (fun c_636 => ?_) (fun c_636 => absurd (by rw [hr_1, hwr_2]) c_636)
  exact law_end C9 hS (Nat.le_of_ble_eq_true rfl) (by first | exact Nat.le_of_ble_eq_true rfl | (show _ ≤ 7302198; omega)) (lv_sub hl [0, 4] rfl)
set_option maxHeartbeats 4000000 in
set_option maxRecDepth 100000 in
theorem lc_kept_yes {p : Program} {l : Launch} {e : Env} {s : State} {m : MethodId} {below : List Frame} {meth : Method} {c : Code} {b : Nat} {xs : Nat → Int32} (C0 : lw_At p s m meth c b 6 xs) {dC : Nat → ClassId} {dI : Nat → Nat → Nat} {cI cZ cN cO cL : ClassId} (hK : va_K (dC, dI) vwCl (gTyL cI cZ cN cO cL) s) (x oo : Nat) (na ro oa : Nat) (fn : Nat → Option Nat) (m0 d2 d3 d4 d5 d6 d7 d8 d13 d14 d15 d16 d17 d18 d19 d20 d21 d22 d23 d24 d25 d26 d27 d28 d29 d30 d31 d32 d33 d34 d35 d36 d39 n : Nat) (nd a1 a2 a3 a4 a5 : Nat) (ix : Int32)  {H : Heap} {locs : List Loc} (hP : va_P (dC, dI) vwCl [(x, .inr (3, [.ref na, .ref ro, .ref oa, .int 0, .int 0, .int 0, .int 0, .int 0, .int 0])), (na, .inl (cN, n, .inr (.inr (.inr (.inr fn))))), (nd, .inr (0, [.int ix, .ref a1, .ref a2, .ref a3, .ref a4, .ref a5, .int 1, .int 0, .int 0, .int 0, .null])), (a1, .inl (cI, n, .inl ((fun _ => 0)))), (m0, .inr (4, [.int (nI n), .int 0, .ref d2, .ref d3, .ref d4, .ref d5, .ref d6, .ref d7, .ref d8, .int 0, .int 0, .int 0, .int 0, .ref d13, .ref d14, .ref d15, .ref d16, .ref d17, .ref d18, .ref d19, .ref d20, .ref d21, .ref d22, .ref d23, .ref d24, .ref d25, .ref d26, .ref d27, .ref d28, .ref d29, .ref d30, .ref d31, .ref d32, .ref d33, .ref d34, .ref d35, .ref d36, .int 0, .int 0, .ref d39, .int 0])), (d18, .inl (cI, 961, .inl ((fun _ => 0))))] H) (hD : va_D (fun q : Nat => s.heap.size ≤ q) [(x, .inr (3, [.ref na, .ref ro, .ref oa, .int 0, .int 0, .int 0, .int 0, .int 0, .int 0])), (na, .inl (cN, n, .inr (.inr (.inr (.inr fn))))), (nd, .inr (0, [.int ix, .ref a1, .ref a2, .ref a3, .ref a4, .ref a5, .int 1, .int 0, .int 0, .int 0, .null])), (a1, .inl (cI, n, .inl ((fun _ => 0)))), (m0, .inr (4, [.int (nI n), .int 0, .ref d2, .ref d3, .ref d4, .ref d5, .ref d6, .ref d7, .ref d8, .int 0, .int 0, .int 0, .int 0, .ref d13, .ref d14, .ref d15, .ref d16, .ref d17, .ref d18, .ref d19, .ref d20, .ref d21, .ref d22, .ref d23, .ref d24, .ref d25, .ref d26, .ref d27, .ref d28, .ref d29, .ref d30, .ref d31, .ref d32, .ref d33, .ref d34, .ref d35, .ref d36, .int 0, .int 0, .ref d39, .int 0])), (d18, .inl (cI, 961, .inl ((fun _ => 0))))]) (hS : va_S (fun q : Nat => s.heap.size ≤ q) s.heap H locs) {ls : Array Slot} (hl : lv_has ls 7 [(4, .int 1), (3, .ref oo), (2, .ref m0), (1, .ref x), (0, .ref b)]) (y1 y2 y3 y4 : Int32) (hy1 : y1 = xs (2 : Int32).toNatClampNeg) (hy2 : y2 = xs (3 : Int32).toNatClampNeg) (hy3 : y3 = xs (4 : Int32).toNatClampNeg) (hy4 : y4 = xs (5 : Int32).toNatClampNeg) (hn : n ≤ 31) (hy : isN n y1) (hyb : isN n y2) (hnd : fn y1.toNatClampNeg = some nd) : W p l e room_1 s m #[Value.ref b] below meth c H locs 300 200000 (lw_Z below #[Value.ref b] s) (F0 m 604 ls []) := by
  have C9 := C0
  obtain ⟨hx, hb, hr, hml, hown, hts, hX, hbl, hlocks, hgv⟩ := C0
  have hg : ∀ w ∈ gw, w.before _ s = true := fun w h => hts w (List.mem_filter.mp h).1
  have hA : ∀ q : Nat, s.heap.size ≤ q → (fun q : Nat => s.heap.size ≤ q) q := fun _ h => h
  have hbA : ¬ (fun q : Nat => s.heap.size ≤ q) b := Nat.not_le.mpr hbl
  refine lv_aload_n hx hb dL_law_604 rfl (lv_at hl 3 rfl) ?_
  refine lv_aload_n hx hb dL_law_605 rfl (lv_at hl 4 rfl) ?_
  refine lv_iload hx hb dL_law_606 (lv_at hl 0 rfl) ?_
  refine lv_iconst (v := 1) hx hb dL_law_608 (by decide) ?_
  refine lv_iadd hx hb dL_law_609 ?_
  rw [show (1 : Int32) + 1 = 2 from by decide]
  refine va_sld hx hb hX hbl hbA hS (by unfold vp_in; decide +kernel) dL_law_610 ?_
  rw [← hy1]
  refine lv_aload_n hx hb dL_law_611 rfl (lv_at hl 4 rfl) ?_
  refine lv_iload hx hb dL_law_612 (lv_at hl 0 rfl) ?_
  refine lv_iconst (v := 2) hx hb dL_law_614 (by decide) ?_
  refine lv_iadd hx hb dL_law_615 ?_
  rw [show (1 : Int32) + 2 = 3 from by decide]
  refine va_sld hx hb hX hbl hbA hS (by unfold vp_in; decide +kernel) dL_law_616 ?_
  rw [← hy2]
  have hPc := hP.sub (ws' := [(x, .inr (3, [.ref na, .ref ro, .ref oa, .int 0, .int 0, .int 0, .int 0, .int 0, .int 0])), (na, .inl (cN, n, .inr (.inr (.inr (.inr fn))))), (nd, .inr (0, [.int ix, .ref a1, .ref a2, .ref a3, .ref a4, .ref a5, .int 1, .int 0, .int 0, .int 0, .null])), (a1, .inl (cI, n, .inl ((fun _ => 0))))]) [0, 1, 2, 3] rfl
  refine vp_callSi (W.runV (As := [.int y1, .int y2]) (rest := []) ⟨hx, hb, hml, hown, hg⟩ (c_X3_kept_yes l dC dI cI cZ cN cO x na ro oa n fn nd a1 a2 a3 a4 a5 ix y1 y2 (by omega) hy hyb hnd) (cwV 2 hg (gw_V kM_L_84 kI_X3_kept kS_X3_kept kN_X3 kD_X3_kept) rfl rfl rfl (by decide +kernel) ⟨Nat.le_of_ble_eq_true rfl, Nat.le_of_ble_eq_true rfl⟩) ⟨fun a U g mk q => by obtain ⟨q0, qP, qK⟩ := q; exact ⟨q0, qP, va_K.moved (u := U) (U := U.calling g mk a) (Vm.Alike.refl U.vm) qK⟩, va_recv hK hP (ci := 3) (q0 := 0) rfl rfl, fun U hU hW => ⟨rfl, by rw [hU]; exact hPc, va_K.moved hW.alike (hK.sub (tys' := gTy cI cZ cN cO) [0, 1, 2, 3] rfl)⟩⟩ rfl rfl hl.1 rfl (lv_room (Nat.le_of_ble_eq_true rfl)) dL_law_617 ⟨Nat.le_of_ble_eq_true rfl, Nat.le_of_ble_eq_true rfl⟩) (fun r_1 hr_1 => ?_)
  refine lv_aload_n hx hb dL_law_620 rfl (lv_at hl 2 rfl) ?_
  refine lv_aload_n hx hb dL_law_621 rfl (lv_at hl 4 rfl) ?_
  refine lv_iload hx hb dL_law_622 (lv_at hl 0 rfl) ?_
  refine lv_iconst (v := 1) hx hb dL_law_624 (by decide) ?_
  refine lv_iadd hx hb dL_law_625 ?_
  rw [show (1 : Int32) + 1 = 2 from by decide]
  refine va_sld hx hb hX hbl hbA hS (by unfold vp_in; decide +kernel) dL_law_626 ?_
  rw [← hy1]
  refine lv_aload_n hx hb dL_law_627 rfl (lv_at hl 4 rfl) ?_
  refine lv_iload hx hb dL_law_628 (lv_at hl 0 rfl) ?_
  refine lv_iconst (v := 2) hx hb dL_law_630 (by decide) ?_
  refine lv_iadd hx hb dL_law_631 ?_
  rw [show (1 : Int32) + 2 = 3 from by decide]
  refine va_sld hx hb hX hbl hbA hS (by unfold vp_in; decide +kernel) dL_law_632 ?_
  rw [← hy2]
  have hPc := hP.sub (ws' := [(m0, .inr (4, [.int (nI n), .int 0, .ref d2, .ref d3, .ref d4, .ref d5, .ref d6, .ref d7, .ref d8, .int 0, .int 0, .int 0, .int 0, .ref d13, .ref d14, .ref d15, .ref d16, .ref d17, .ref d18, .ref d19, .ref d20, .ref d21, .ref d22, .ref d23, .ref d24, .ref d25, .ref d26, .ref d27, .ref d28, .ref d29, .ref d30, .ref d31, .ref d32, .ref d33, .ref d34, .ref d35, .ref d36, .int 0, .int 0, .ref d39, .int 0])), (d18, .inl (cI, 961, .inl ((fun _ => 0))))]) [4, 5] rfl
  have hDc := hD.sub (ws' := [(m0, .inr (4, [.int (nI n), .int 0, .ref d2, .ref d3, .ref d4, .ref d5, .ref d6, .ref d7, .ref d8, .int 0, .int 0, .int 0, .int 0, .ref d13, .ref d14, .ref d15, .ref d16, .ref d17, .ref d18, .ref d19, .ref d20, .ref d21, .ref d22, .ref d23, .ref d24, .ref d25, .ref d26, .ref d27, .ref d28, .ref d29, .ref d30, .ref d31, .ref d32, .ref d33, .ref d34, .ref d35, .ref d36, .int 0, .int 0, .ref d39, .int 0])), (d18, .inl (cI, 961, .inl ((fun _ => 0))))]) [4, 5] (by decide) rfl
  have hFc := va_free (wc := [(m0, .inr (4, [.int (nI n), .int 0, .ref d2, .ref d3, .ref d4, .ref d5, .ref d6, .ref d7, .ref d8, .int 0, .int 0, .int 0, .int 0, .ref d13, .ref d14, .ref d15, .ref d16, .ref d17, .ref d18, .ref d19, .ref d20, .ref d21, .ref d22, .ref d23, .ref d24, .ref d25, .ref d26, .ref d27, .ref d28, .ref d29, .ref d30, .ref d31, .ref d32, .ref d33, .ref d34, .ref d35, .ref d36, .int 0, .int 0, .ref d39, .int 0])), (d18, .inl (cI, 961, .inl ((fun _ => 0))))]) hD hS hA [4, 5] rfl
  refine va_calli (va_runV (As := [.int y1, .int y2]) (rest := [.int r_1]) ⟨hx, hb, hml, hown, hg⟩ (c_X4_kept_yes l dC dI cI cZ cN cO m0 d2 d3 d4 d5 d6 d7 d8 d13 d14 d15 d16 d17 d18 d19 d20 d21 d22 d23 d24 d25 d26 d27 d28 d29 d30 d31 d32 d33 d34 d35 d36 d39 n y1 y2 H.size hn hy hyb) (cwV 2 hg (gw_V kM_L_87 kI_X4_kept kS_X4_kept kN_X4 kD_X4_kept) rfl rfl rfl (by decide +kernel) ⟨Nat.le_of_ble_eq_true rfl, Nat.le_of_ble_eq_true rfl⟩) ⟨fun a U g mk q => by obtain ⟨q0, q1, qP, qK, qD⟩ := q; exact ⟨q0, q1, qP, va_K.moved (u := U) (U := U.calling g mk a) (Vm.Alike.refl U.vm) qK, qD⟩, va_recv hK hP (ci := 4) (q0 := 4) rfl rfl, fun U hU hW => ⟨rfl, by rw [hU], by rw [hU]; exact hPc, va_K.moved hW.alike (hK.sub (tys' := gTy cI cZ cN cO) [0, 1, 2, 3] rfl), hDc.weaken (fun _ _ _ _ => trivial)⟩⟩ rfl rfl hl.1 rfl (lv_room (Nat.le_of_ble_eq_true rfl)) dL_law_633 ⟨Nat.le_of_ble_eq_true rfl, Nat.le_of_ble_eq_true rfl⟩) hS (fun q _ h => hFc q h) hFc (fun r_2 u t H1 locs ht hvm hwr_2 hB hz1 hk1 hS => ?_)
  obtain ⟨hP1, hK1, hD1⟩ := hB
  rw [ht] at hP1
  obtain ⟨hP, hD⟩ := va_join (wr := [(x, .inr (3, [.ref na, .ref ro, .ref oa, .int 0, .int 0, .int 0, .int 0, .int 0, .int 0])), (na, .inl (cN, n, .inr (.inr (.inr (.inr fn))))), (nd, .inr (0, [.int ix, .ref a1, .ref a2, .ref a3, .ref a4, .ref a5, .int 1, .int 0, .int 0, .int 0, .null])), (a1, .inl (cI, n, .inl ((fun _ => 0))))]) (w1 := []) hP hD [4, 5] [0, 1, 2, 3] rfl rfl (by decide) (by decide) hk1 hFc hP1 hD1
  clear hPc hDc hFc hP1 hK1 hD1 hz1 hk1 ht
  generalize H1 = H at hP hS ⊢
  have hP : va_P (dC, dI) vwCl [(x, .inr (3, [.ref na, .ref ro, .ref oa, .int 0, .int 0, .int 0, .int 0, .int 0, .int 0])), (na, .inl (cN, n, .inr (.inr (.inr (.inr fn))))), (nd, .inr (0, [.int ix, .ref a1, .ref a2, .ref a3, .ref a4, .ref a5, .int 1, .int 0, .int 0, .int 0, .null])), (a1, .inl (cI, n, .inl ((fun _ => 0))))] H := hP
  have hD : va_D (fun q : Nat => s.heap.size ≤ q) [(x, .inr (3, [.ref na, .ref ro, .ref oa, .int 0, .int 0, .int 0, .int 0, .int 0, .int 0])), (na, .inl (cN, n, .inr (.inr (.inr (.inr fn))))), (nd, .inr (0, [.int ix, .ref a1, .ref a2, .ref a3, .ref a4, .ref a5, .int 1, .int 0, .int 0, .int 0, .null])), (a1, .inl (cI, n, .inl ((fun _ => 0))))] := hD
  refine lv_icmp_eq (tgt := 753) hx hb dL_law_636 (by decide) (fun c_636 => ?_) (fun c_636 => absurd (by rw [hr_1, hwr_2]) c_636)
  exact law_end C9 hS (Nat.le_of_ble_eq_true rfl) (by first | exact Nat.le_of_ble_eq_true rfl | (show _ ≤ 7302198; omega)) (lv_sub hl [0, 4] rfl)
