set_option maxHeartbeats 4000000 in
set_option maxRecDepth 100000 in
/-- the NODES are made -/
theorem lp_X3_init {p : Program} {l : Launch} {e : Env} {R : Room} {s : State} {m : MethodId} {args : Array Value} {below : List Frame} {meth : Method} {c : Code} {Q : State → Prop} {A : Nat → Prop} {H0 : Heap} {dC : Nat → ClassId} {dI : Nat → Nat → Nat} {cI cZ cN cO : ClassId} (hx : p.tables.exec = Jvm.exec) (hb : c.code = cX3_init) (hml : c.maxLocals = 4) (hown : s.vm.findClass RX3 = some m.cls) (hg : ∀ w ∈ gw, w.before args s = true) (hK : va_K (dC, dI) vwCl (gTy cI cZ cN cO) s) (hA : ∀ q : Nat, H0.size ≤ q → A q) (x na n : Nat) (p0 : Int32) (hn : n ≤ 31) (hRc : 1 + 6 * n ≤ R.cells) (hRs : n + (11 + 5 * n) * n ≤ R.slots) (hRf : 2 ≤ R.frames) (hRl : 34 ≤ R.locals) (kk : ∀ (fn : Nat → Option Nat) (P : va_W), gNodes cI n n fn P → ∀ (H : Heap) (locs : List Loc), va_P (dC, dI) vwCl ([(x, .inr (3, [.ref na, .null, .null, .int 0, .int 0, .int 0, .int 0, .int 0, .int 0])), (na, .inl (cN, n, .inr (.inr (.inr (.inr fn)))))] ++ P) H → va_D A ([(x, .inr (3, [.ref na, .null, .null, .int 0, .int 0, .int 0, .int 0, .int 0, .int 0])), (na, .inl (cN, n, .inr (.inr (.inr (.inr fn)))))] ++ P) → va_S A H0 H locs → ∀ ls : Array Slot, lv_has ls 4 [(3, .int (nI n)), (0, .ref x), (1, .int p0), (2, .int (nI n))] → W p l e R s m args below meth c H locs (1 + 6 * n) (n + (11 + 5 * n) * n) Q (F0 m 57 ls [])) : ∀ (k i : Nat), i + k = n → ∀ (fn : Nat → Option Nat) (P : va_W), gNodes cI n i fn P → ∀ (H : Heap) (locs : List Loc), va_P (dC, dI) vwCl ([(x, .inr (3, [.ref na, .null, .null, .int 0, .int 0, .int 0, .int 0, .int 0, .int 0])), (na, .inl (cN, n, .inr (.inr (.inr (.inr fn)))))] ++ P) H → va_D A ([(x, .inr (3, [.ref na, .null, .null, .int 0, .int 0, .int 0, .int 0, .int 0, .int 0])), (na, .inl (cN, n, .inr (.inr (.inr (.inr fn)))))] ++ P) → va_S A H0 H locs → ∀ ls : Array Slot, lv_has ls 4 [(3, .int (nI i)), (0, .ref x), (1, .int p0), (2, .int (nI n))] → W p l e R s m args below meth c H locs (1 + 6 * i) (n + (11 + 5 * n) * i) Q (F0 m 31 ls []) := by
  intro k
  induction k with
  | zero =>
    intro i hik
    intro fn P hI H locs hP hD hS ls hl
    have hi : n = i := by omega
    subst hi
    refine lv_iload_n hx hb dX3_init_31 rfl (lv_at hl 0 rfl) ?_
    refine lv_iload_n hx hb dX3_init_32 rfl (lv_at hl 3 rfl) ?_
    refine lv_icmp_ge (tgt := 57) hx hb dX3_init_33 (by decide) (fun c_33 => ?_) (fun c_33 => absurd (Int32.le_refl _) c_33)
    exact kk fn P hI _ _ hP hD hS ls (lv_sub hl [0, 1, 2, 3] rfl)
  | succ k ih =>
    intro i hik
    intro fn P hI H locs hP hD hS ls hl
    have hi : i < n := by omega
    have hm : (11 + 5 * n) * i + (11 + 5 * n) ≤ (11 + 5 * n) * n := by rw [← Nat.mul_succ]; exact Nat.mul_le_mul_left _ hi
    refine lv_iload_n hx hb dX3_init_31 rfl (lv_at hl 0 rfl) ?_
    refine lv_iload_n hx hb dX3_init_32 rfl (lv_at hl 3 rfl) ?_
    refine lv_icmp_ge (tgt := 57) hx hb dX3_init_33 (by decide) (fun c_33 => absurd c_33 (nI_ge hi (by omega))) (fun c_33 => ?_)
    refine lv_aload_n hx hb dX3_init_36 rfl (lv_at hl 1 rfl) ?_
    refine va_get (D := (dC, dI)) (ci := 3) (v := .ref na) (C := RX3) (T := TX3) (N := 9) hx hb hg inX3 hown hK hP 0 rfl rfl 0 (by decide) (hg _ kF_X3_11) (fun _ h9 => h9) rfl dX3_init_37 ?_
    refine lv_iload_n hx hb dX3_init_40 rfl (lv_at hl 0 rfl) ?_
    refine va_new (ci := 0) (fs := [.int 0, .null, .null, .null, .null, .null, .int 0, .int 0, .int 0, .int 0, .null]) (C := RX0) (T := TX0) (N := 11) hx hb hg inX0 tyX0 tyX0_ok hown (hg _ kC_X3_9) (hg _ kB_X0) (hg _ kN_X0) hK hP hD hS hA rfl (fun j hj => by have hj2 : j < 11 := hj; clear hj; revert j; decide) (by omega) (by omega) dX3_init_41 (fun q_1 H hP hD hS => ?_)
    have hP := hP.swap
    have hD := hD.swap
    have hP : va_P (dC, dI) vwCl ([(x, .inr (3, [.ref na, .null, .null, .int 0, .int 0, .int 0, .int 0, .int 0, .int 0])), (na, .inl (cN, n, .inr (.inr (.inr (.inr fn))))), (q_1, .inr (0, [.int 0, .null, .null, .null, .null, .null, .int 0, .int 0, .int 0, .int 0, .null]))] ++ P) H := hP
    have hD : va_D A ([(x, .inr (3, [.ref na, .null, .null, .int 0, .int 0, .int 0, .int 0, .int 0, .int 0])), (na, .inl (cN, n, .inr (.inr (.inr (.inr fn))))), (q_1, .inr (0, [.int 0, .null, .null, .null, .null, .null, .int 0, .int 0, .int 0, .int 0, .null]))] ++ P) := hD
    refine lv_dup hx hb dX3_init_44 rfl ?_
    refine lv_iload_n hx hb dX3_init_45 rfl (lv_at hl 0 rfl) ?_
    refine lv_iload_n hx hb dX3_init_46 rfl (lv_at hl 3 rfl) ?_
    have hPc := hP.sub (ws' := [(q_1, .inr (0, [.int 0, .null, .null, .null, .null, .null, .int 0, .int 0, .int 0, .int 0, .null]))]) [2] rfl
    have hDc := hD.sub (ws' := [(q_1, .inr (0, [.int 0, .null, .null, .null, .null, .null, .int 0, .int 0, .int 0, .int 0, .null]))]) [2] (by decide) rfl
    have hFc := va_free (wc := [(q_1, .inr (0, [.int 0, .null, .null, .null, .null, .null, .int 0, .int 0, .int 0, .int 0, .null]))]) hD hS hA [2] rfl
    refine va_callv (va_runI (As := [.int (nI i), .int (nI n)]) (rest := [.ref q_1, .int (nI i), .ref na]) ⟨hx, hb, hml, hown, hg⟩ (c_X0_init l dC dI cI cZ cN cO q_1 n (nI i) H.size hn) (cwI 2 hg (gw_in kD_X0_init) rfl rfl rfl (hg _ kN_X0) (hg _ kM_X3_15) (hg _ kI_X0_init) rfl (by decide +kernel) ⟨(by show 1 + 1 ≤ R.frames; omega), (by show 8 + (3 + 11) + 12 ≤ R.locals; omega)⟩) ⟨fun a U g mk q => by obtain ⟨q0, q1, qP, qK, qD⟩ := q; exact ⟨q0, q1, qP, va_K.moved (u := U) (U := U.calling g mk a) (Vm.Alike.refl U.vm) qK, qD⟩, fun U hU hW => ⟨rfl, by rw [hU], by rw [hU]; exact hPc, va_K.moved hW.alike hK, hDc.weaken (fun _ _ _ _ => trivial)⟩⟩ rfl rfl hl.1 rfl (lv_room (Nat.le_of_ble_eq_true rfl)) dX3_init_47 ⟨(by omega), (by omega)⟩) hS (fun q _ h => hFc q h) hFc (fun u t H1 locs ht hvm hw hB hz1 hk1 hS => ?_)
    obtain ⟨a_2, a_3, a_4, a_5, a_6, hP1, hK1, hD1⟩ := hB
    rw [ht] at hP1
    obtain ⟨hP, hD⟩ := va_joinQ (pl := P) (X := [(x, .inr (3, [.ref na, .null, .null, .int 0, .int 0, .int 0, .int 0, .int 0, .int 0])), (na, .inl (cN, n, .inr (.inr (.inr (.inr fn))))), (q_1, .inr (0, [.int 0, .null, .null, .null, .null, .null, .int 0, .int 0, .int 0, .int 0, .null]))]) (cx := [(q_1, .inr (0, [.int 0, .null, .null, .null, .null, .null, .int 0, .int 0, .int 0, .int 0, .null]))]) (wr := [(x, .inr (3, [.ref na, .null, .null, .int 0, .int 0, .int 0, .int 0, .int 0, .int 0])), (na, .inl (cN, n, .inr (.inr (.inr (.inr fn)))))]) (w1 := [(q_1, .inr (0, [.int (nI i), .ref a_2, .ref a_3, .ref a_4, .ref a_5, .ref a_6, .int 1, .int 0, .int 0, .int 0, .null])), (a_2, .inl (cI, n, .inl ((fun _ => 0)))), (a_3, .inl (cI, n, .inl ((fun _ => 0)))), (a_4, .inl (cI, n, .inl ((fun _ => 0)))), (a_5, .inl (cI, n, .inl ((fun _ => 0)))), (a_6, .inl (cI, n, .inl ((fun _ => 0))))]) hP hD [2] [0, 1] rfl rfl (by decide) (by decide) hk1 hFc hP1 hD1
    clear hPc hDc hFc hP1 hK1 hD1 hz1 hk1 ht
    generalize H1 = H at hP hS ⊢
    have hP : va_P (dC, dI) vwCl ([(x, .inr (3, [.ref na, .null, .null, .int 0, .int 0, .int 0, .int 0, .int 0, .int 0])), (na, .inl (cN, n, .inr (.inr (.inr (.inr fn))))), (q_1, .inr (0, [.int (nI i), .ref a_2, .ref a_3, .ref a_4, .ref a_5, .ref a_6, .int 1, .int 0, .int 0, .int 0, .null])), (a_2, .inl (cI, n, .inl ((fun _ => 0)))), (a_3, .inl (cI, n, .inl ((fun _ => 0)))), (a_4, .inl (cI, n, .inl ((fun _ => 0)))), (a_5, .inl (cI, n, .inl ((fun _ => 0)))), (a_6, .inl (cI, n, .inl ((fun _ => 0))))] ++ P) H := hP
    have hD : va_D A ([(x, .inr (3, [.ref na, .null, .null, .int 0, .int 0, .int 0, .int 0, .int 0, .int 0])), (na, .inl (cN, n, .inr (.inr (.inr (.inr fn))))), (q_1, .inr (0, [.int (nI i), .ref a_2, .ref a_3, .ref a_4, .ref a_5, .ref a_6, .int 1, .int 0, .int 0, .int 0, .null])), (a_2, .inl (cI, n, .inl ((fun _ => 0)))), (a_3, .inl (cI, n, .inl ((fun _ => 0)))), (a_4, .inl (cI, n, .inl ((fun _ => 0)))), (a_5, .inl (cI, n, .inl ((fun _ => 0)))), (a_6, .inl (cI, n, .inl ((fun _ => 0))))] ++ P) := hD
    refine va_astq (r := (RX0, TX0, 11)) hx hb hK hP hD hS 1 2 2 0 rfl rfl rfl rfl (vp_in_nI hi (by omega)) dX3_init_50 (fun H locs hP hD hS => ?_)
    have hP : va_P (dC, dI) vwCl ([(x, .inr (3, [.ref na, .null, .null, .int 0, .int 0, .int 0, .int 0, .int 0, .int 0])), (na, .inl (cN, n, .inr (.inr (.inr (.inr (va_up fn (nI i).toNatClampNeg (some q_1))))))), (q_1, .inr (0, [.int (nI i), .ref a_2, .ref a_3, .ref a_4, .ref a_5, .ref a_6, .int 1, .int 0, .int 0, .int 0, .null])), (a_2, .inl (cI, n, .inl ((fun _ => 0)))), (a_3, .inl (cI, n, .inl ((fun _ => 0)))), (a_4, .inl (cI, n, .inl ((fun _ => 0)))), (a_5, .inl (cI, n, .inl ((fun _ => 0)))), (a_6, .inl (cI, n, .inl ((fun _ => 0))))] ++ P) H := hP
    have hD : va_D A ([(x, .inr (3, [.ref na, .null, .null, .int 0, .int 0, .int 0, .int 0, .int 0, .int 0])), (na, .inl (cN, n, .inr (.inr (.inr (.inr (va_up fn (nI i).toNatClampNeg (some q_1))))))), (q_1, .inr (0, [.int (nI i), .ref a_2, .ref a_3, .ref a_4, .ref a_5, .ref a_6, .int 1, .int 0, .int 0, .int 0, .null])), (a_2, .inl (cI, n, .inl ((fun _ => 0)))), (a_3, .inl (cI, n, .inl ((fun _ => 0)))), (a_4, .inl (cI, n, .inl ((fun _ => 0)))), (a_5, .inl (cI, n, .inl ((fun _ => 0)))), (a_6, .inl (cI, n, .inl ((fun _ => 0))))] ++ P) := hD
    obtain ⟨g_7, eg_7⟩ : ∃ y : Nat → Option Nat, y = va_up fn (nI i).toNatClampNeg (some q_1) := ⟨_, rfl⟩
    rw [← eg_7] at hP hD
    have hP : va_P (dC, dI) vwCl ([(x, .inr (3, [.ref na, .null, .null, .int 0, .int 0, .int 0, .int 0, .int 0, .int 0])), (na, .inl (cN, n, .inr (.inr (.inr (.inr g_7))))), (q_1, .inr (0, [.int (nI i), .ref a_2, .ref a_3, .ref a_4, .ref a_5, .ref a_6, .int 1, .int 0, .int 0, .int 0, .null])), (a_2, .inl (cI, n, .inl ((fun _ => 0)))), (a_3, .inl (cI, n, .inl ((fun _ => 0)))), (a_4, .inl (cI, n, .inl ((fun _ => 0)))), (a_5, .inl (cI, n, .inl ((fun _ => 0)))), (a_6, .inl (cI, n, .inl ((fun _ => 0))))] ++ P) H := hP
    have hD : va_D A ([(x, .inr (3, [.ref na, .null, .null, .int 0, .int 0, .int 0, .int 0, .int 0, .int 0])), (na, .inl (cN, n, .inr (.inr (.inr (.inr g_7))))), (q_1, .inr (0, [.int (nI i), .ref a_2, .ref a_3, .ref a_4, .ref a_5, .ref a_6, .int 1, .int 0, .int 0, .int 0, .null])), (a_2, .inl (cI, n, .inl ((fun _ => 0)))), (a_3, .inl (cI, n, .inl ((fun _ => 0)))), (a_4, .inl (cI, n, .inl ((fun _ => 0)))), (a_5, .inl (cI, n, .inl ((fun _ => 0)))), (a_6, .inl (cI, n, .inl ((fun _ => 0))))] ++ P) := hD
    obtain ⟨x_8, ex_8⟩ : ∃ y : Int32, y = (nI i) + 1 := ⟨_, rfl⟩
    refine lv_iinc (v := x_8) (lv' := [(3, .int x_8), (0, .ref x), (1, .int p0), (2, .int (nI n))]) hx hb dX3_init_51 hl (k := 0) rfl (by rw [ex_8]; rfl) (by decide) rfl (fun ls hl => ?_)
    refine lv_goto (tgt := 31) hx hb dX3_init_54 (by decide) ?_
    have hx2 : x_8 = nI (i + 1) := by rw [ex_8]; exact nI_1 i
    rw [hx2] at hl
    have hP : va_P (dC, dI) vwCl (([(x, .inr (3, [.ref na, .null, .null, .int 0, .int 0, .int 0, .int 0, .int 0, .int 0])), (na, .inl (cN, n, .inr (.inr (.inr (.inr g_7)))))] ++ [(q_1, .inr (0, [.int (nI i), .ref a_2, .ref a_3, .ref a_4, .ref a_5, .ref a_6, .int 1, .int 0, .int 0, .int 0, .null])), (a_2, .inl (cI, n, .inl ((fun _ => 0)))), (a_3, .inl (cI, n, .inl ((fun _ => 0)))), (a_4, .inl (cI, n, .inl ((fun _ => 0)))), (a_5, .inl (cI, n, .inl ((fun _ => 0)))), (a_6, .inl (cI, n, .inl ((fun _ => 0))))]) ++ P) H := hP
    have hD : va_D A (([(x, .inr (3, [.ref na, .null, .null, .int 0, .int 0, .int 0, .int 0, .int 0, .int 0])), (na, .inl (cN, n, .inr (.inr (.inr (.inr g_7)))))] ++ [(q_1, .inr (0, [.int (nI i), .ref a_2, .ref a_3, .ref a_4, .ref a_5, .ref a_6, .int 1, .int 0, .int 0, .int 0, .null])), (a_2, .inl (cI, n, .inl ((fun _ => 0)))), (a_3, .inl (cI, n, .inl ((fun _ => 0)))), (a_4, .inl (cI, n, .inl ((fun _ => 0)))), (a_5, .inl (cI, n, .inl ((fun _ => 0)))), (a_6, .inl (cI, n, .inl ((fun _ => 0))))]) ++ P) := hD
    have hP := hP.swap
    have hD := hD.swap
    rw [List.append_assoc] at hP hD
    have hI2 := gNodes_push hI q_1 a_2 a_3 a_4 a_5 a_6
    rw [nI_clamp (by omega)] at eg_7
    rw [← eg_7] at hI2
    refine W.widen (k := (1 + 6 * (i + 1))) (n := (n + (11 + 5 * n) * (i + 1))) (by first | omega | (rw [Nat.mul_succ]; omega)) (by first | omega | (rw [Nat.mul_succ]; omega)) ?_
    exact ih (i + 1) (by omega) g_7 _ hI2 _ _ hP hD hS ls (lv_sub hl [0, 1, 2, 3] rfl)
set_option maxHeartbeats 4000000 in
set_option maxRecDepth 100000 in
/-- SharedShelf(p0) -/
theorem c_X3_init (l : Launch) (dC : Nat → ClassId) (dI : Nat → Nat → Nat) (cI cZ cN cO : ClassId) (x n : Nat) (p0 : Int32) (sz : Nat) (hnn : n = gN p0) (hn : n ≤ 31) : Met l yX3_init (.code yX3_init cX3_init 4 none :: gw) ({ frames := 2, cells := 9 + 6 * n, slots := n + (11 + 5 * n) * n + 10522 + 2000 * n, locals := 34 }) (va_Pc [.ref x, .int p0] (fun U => U.heap.size = sz ∧ va_P (dC, dI) vwCl [(x, .inr (3, [.null, .null, .null, .int 0, .int 0, .int 0, .int 0, .int 0, .int 0]))] U.heap ∧ va_K (dC, dI) vwCl (gTy cI cZ cN cO) U ∧ va_D (fun _ => True) [(x, .inr (3, [.null, .null, .null, .int 0, .int 0, .int 0, .int 0, .int 0, .int 0]))] ∧ va_AO RX0 U ∧ va_AO RX1 U)) (va_Qv (fun _ : Unit => True) (fun (_ : Unit) (t : State) => ∃ (na ro b1 b2 b3 b4 b5 b6 oa : Nat) (fn : Nat → Option Nat) (fs : Nat → Int32) (P : va_W), gNodes cI n n fn P ∧ (∀ j, j < 2000 → fs j = nI j) ∧ va_P (dC, dI) vwCl ([(x, .inr (3, [.ref na, .ref ro, .ref oa, .int 0, .int 0, .int 0, .int 0, .int 0, .int 0])), (na, .inl (cN, n, .inr (.inr (.inr (.inr fn))))), (ro, .inr (2, [.int (nI n), .ref b1, .ref b2, .ref b3, .ref b4, .ref b5, .ref b6, .int 0, .int 0, .int 0])), (b1, .inl (cI, 2000, .inl fs)), (b2, .inl (cI, 2000, .inl ((fun _ => 0)))), (b3, .inl (cI, 2000, .inl ((fun _ => 0)))), (b4, .inl (cI, 2000, .inl ((fun _ => 0)))), (b5, .inl (cI, 2000, .inl ((fun _ => 0)))), (b6, .inl (cI, 2000 * n, .inl ((fun _ => 0)))), (oa, .inl (cO, 512, .inr (.inr (.inr (.inr ((fun _ => none)))))))] ++ P) t.heap ∧ va_K (dC, dI) vwCl (gTy cI cZ cN cO) t ∧ va_D (va_A [(x, .inr (3, [.null, .null, .null, .int 0, .int 0, .int 0, .int 0, .int 0, .int 0]))] sz) ([(x, .inr (3, [.ref na, .ref ro, .ref oa, .int 0, .int 0, .int 0, .int 0, .int 0, .int 0])), (na, .inl (cN, n, .inr (.inr (.inr (.inr fn))))), (ro, .inr (2, [.int (nI n), .ref b1, .ref b2, .ref b3, .ref b4, .ref b5, .ref b6, .int 0, .int 0, .int 0])), (b1, .inl (cI, 2000, .inl fs)), (b2, .inl (cI, 2000, .inl ((fun _ => 0)))), (b3, .inl (cI, 2000, .inl ((fun _ => 0)))), (b4, .inl (cI, 2000, .inl ((fun _ => 0)))), (b5, .inl (cI, 2000, .inl ((fun _ => 0)))), (b6, .inl (cI, 2000 * n, .inl ((fun _ => 0)))), (oa, .inl (cO, 512, .inr (.inr (.inr (.inr ((fun _ => none)))))))] ++ P)) (va_A [(x, .inr (3, [.null, .null, .null, .int 0, .int 0, .int 0, .int 0, .int 0, .int 0]))] sz)) (9 + 6 * n) (n + (11 + 5 * n) * n + 10522 + 2000 * n) (va_A [(x, .inr (3, [.null, .null, .null, .int 0, .int 0, .int 0, .int 0, .int 0, .int 0]))] sz) := by
  refine Met.ofW (cc := cX3_init) (maxL := 4) (ret := none) (by decide) rfl ?_
  intro p e s m args below meth c s₁ B hml hv
  obtain ⟨rfl, hsz, hP, hK, hD0, hAOX0, hAOX1⟩ := hv
  have hx := B.exec
  have hb := B.bytes
  have hr := B.returns
  have hts := atoms_spec (ws := (.code yX3_init cX3_init 4 none :: gw)) B.pre
  have hg : ∀ w ∈ gw, w.before _ s = true := fun w h => hts w (List.mem_cons_of_mem _ h)
  have hown : s.vm.findClass RX3 = some m.cls := findClass_of_methodNamed B.named
  have hlocks := B.notSynchronized
  have hin : meth.name = "<init>" := (name_of_methodNamed B.named B.method).1
  subst hsz
  have hD := hD0.self (sz := s.heap.size)
  generalize hAe : va_A [(x, .inr (3, [.null, .null, .null, .int 0, .int 0, .int 0, .int 0, .int 0, .int 0]))] s.heap.size = A at hD ⊢
  have hA : ∀ q : Nat, s.heap.size ≤ q → A q := fun q h => by rw [← hAe]; exact Or.inr h
  have hS : va_S A s.heap s.heap [] := va_S.rf
  obtain ⟨H, eH⟩ : ∃ z, z = s.heap := ⟨_, rfl⟩
  obtain ⟨locs, elocs⟩ : ∃ z : List Loc, z = [] := ⟨_, rfl⟩
  have hP : va_P (dC, dI) vwCl [(x, .inr (3, [.null, .null, .null, .int 0, .int 0, .int 0, .int 0, .int 0, .int 0]))] H := by rw [eH]; exact hP
  have hS : va_S A s.heap H locs := by rw [eH, elocs]; exact hS
  have hl := lv_entry ([.ref x, .int p0]) (n := 4) (Nat.le_of_ble_eq_true rfl)
  rw [lg_entry_eq]
  generalize (lg_sl ([.ref x, .int p0]) ++ List.replicate (4 - (lg_sl ([.ref x, .int p0])).length) Slot.unset).toArray = ls at hl ⊢
  have hl : lv_has ls 4 [(0, .ref x), (1, .int p0)] := hl
  rw [← elocs]
  suffices hgoal : ∀ HH, H = HH → W p l e (headSpec (.code yX3_init cX3_init 4 none :: gw) ({ frames := 2, cells := 9 + 6 * n, slots := n + (11 + 5 * n) * n + 10522 + 2000 * n, locals := 34 })).room s m _ below meth c HH locs 0 0 _ (F0 m 0 ls []) from hgoal _ eH
  rintro _ rfl
  refine lv_aload_n hx hb dX3_init_0 rfl (lv_at hl 0 rfl) ?_
  refine W.objInit hx hb hown (hg _ kM_X3_1) (hg _ kI_objectInit) (hg _ kD_objectInit) rfl (by rw [hml]; exact hl.1) rfl dX3_init_1 (Nat.le_of_ble_eq_true rfl) (Nat.le_of_ble_eq_true rfl) ?_
  refine W.eq (g2 := F0 m 4 ls []) rfl ?_
  refine gCut (g2 := F0 m 20 ls [.int (nI n)]) ?_ (fun hrest => ?_)
  · refine lv_istore_n (lv' := [(2, .int (nI n)), (0, .ref x), (1, .int p0)]) hx hb dX3_init_20 rfl hl (by decide) rfl (fun ls hl => ?_)
    refine lv_aload_n hx hb dX3_init_21 rfl (lv_at hl 1 rfl) ?_
    refine lv_iload_n hx hb dX3_init_22 rfl (lv_at hl 0 rfl) ?_
    refine va_newq (C := RX0) (N' := n) hx hb hown (hg _ kC_X3_9) hAOX0 hK hP hD hS hA (nI_pos (by omega)) (nI_clamp (by omega)) (by omega) (by show 0 + 1 ≤ 9 + 6 * n; omega) (by show 0 + n ≤ n + (11 + 5 * n) * n + 10522 + 2000 * n; omega) dX3_init_23 (fun q_1 cA H hK hP hD hS => ?_)
    have hcA : cA = cN := gK_arr hK 2 rfl
    rw [hcA] at hP hD
    have hK : va_K (dC, dI) vwCl (gTy cI cZ cN cO) s := hK.sub [0, 1, 2, 3] rfl
    have hP : va_P (dC, dI) vwCl [(x, .inr (3, [.null, .null, .null, .int 0, .int 0, .int 0, .int 0, .int 0, .int 0])), (q_1, .inl (cN, n, .inr (.inr (.inr (.inr ((fun _ => none)))))))] H := hP
    have hD : va_D A [(x, .inr (3, [.null, .null, .null, .int 0, .int 0, .int 0, .int 0, .int 0, .int 0])), (q_1, .inl (cN, n, .inr (.inr (.inr (.inr ((fun _ => none)))))))] := hD
    refine va_putF (D := (dC, dI)) (ci := 3) (v := .ref q_1) (ty := .array (.object "SharedShelf$Node")) (C := RX3) (T := TX3) (N := 9) hx hb hg inX3 tyX3 tyX3_ok nmX3 hown hK hP hD hS 0 rfl rfl 0 (by decide) (hg _ kF_X3_11) (fun _ h9 => h9) rfl hin rfl (by decide +kernel) rfl rfl (Nat.le_of_ble_eq_true rfl) dX3_init_26 (fun H locs hP hD hS => ?_)
    have hP : va_P (dC, dI) vwCl [(x, .inr (3, [.ref q_1, .null, .null, .int 0, .int 0, .int 0, .int 0, .int 0, .int 0])), (q_1, .inl (cN, n, .inr (.inr (.inr (.inr ((fun _ => none)))))))] H := hP
    have hD : va_D A [(x, .inr (3, [.ref q_1, .null, .null, .int 0, .int 0, .int 0, .int 0, .int 0, .int 0])), (q_1, .inl (cN, n, .inr (.inr (.inr (.inr ((fun _ => none)))))))] := hD
    refine lv_iconst (v := 0) hx hb dX3_init_29 (by decide) ?_
    refine lv_istore_n (lv' := [(3, .int 0), (2, .int (nI n)), (0, .ref x), (1, .int p0)]) hx hb dX3_init_30 rfl hl (by decide) rfl (fun ls hl => ?_)
    refine W.widen (k := 1 + 6 * 0) (n := n + (11 + 5 * n) * 0) (by omega) (by omega) ?_
    refine lp_X3_init hx hb hml hown hg hK hA x q_1 n p0 hn (by show 1 + 6 * n ≤ 9 + 6 * n; omega) (by show n + (11 + 5 * n) * n ≤ n + (11 + 5 * n) * n + 10522 + 2000 * n; omega) (Nat.le_of_ble_eq_true rfl) (Nat.le_of_ble_eq_true rfl) ?_ n 0 (by omega) (fun _ => none) [] (gNodes_0 _ _ _) _ _ (by rw [List.append_nil]; exact hP) (by rw [List.append_nil]; exact hD) hS ls (lv_sub hl [0, 2, 3, 1] rfl)
    intro fn P hI H locs hP hD hS ls hl
    refine lv_aload_n hx hb dX3_init_57 rfl (lv_at hl 1 rfl) ?_
    refine va_new (ci := 2) (fs := [.int 0, .null, .null, .null, .null, .null, .null, .int 0, .int 0, .int 0]) (C := RX2) (T := TX2) (N := 10) hx hb hg inX2 tyX2 tyX2_ok hown (hg _ kC_X3_18) (hg _ kB_X2) (hg _ kN_X2) hK hP hD hS hA rfl (fun j hj => by have hj2 : j < 10 := hj; clear hj; revert j; decide) (by show 1 + 6 * n + 1 ≤ 9 + 6 * n; omega) (by show n + (11 + 5 * n) * n + 10 ≤ n + (11 + 5 * n) * n + 10522 + 2000 * n; omega) dX3_init_58 (fun q_2 H hP hD hS => ?_)
    have hP := hP.swap
    have hD := hD.swap
    have hP : va_P (dC, dI) vwCl ([(x, .inr (3, [.ref q_1, .null, .null, .int 0, .int 0, .int 0, .int 0, .int 0, .int 0])), (q_1, .inl (cN, n, .inr (.inr (.inr (.inr fn))))), (q_2, .inr (2, [.int 0, .null, .null, .null, .null, .null, .null, .int 0, .int 0, .int 0]))] ++ P) H := hP
    have hD : va_D A ([(x, .inr (3, [.ref q_1, .null, .null, .int 0, .int 0, .int 0, .int 0, .int 0, .int 0])), (q_1, .inl (cN, n, .inr (.inr (.inr (.inr fn))))), (q_2, .inr (2, [.int 0, .null, .null, .null, .null, .null, .null, .int 0, .int 0, .int 0]))] ++ P) := hD
    refine lv_dup hx hb dX3_init_61 rfl ?_
    refine lv_iload_n hx hb dX3_init_62 rfl (lv_at hl 3 rfl) ?_
    have hPc := hP.sub (ws' := [(q_2, .inr (2, [.int 0, .null, .null, .null, .null, .null, .null, .int 0, .int 0, .int 0]))]) [2] rfl
    have hDc := hD.sub (ws' := [(q_2, .inr (2, [.int 0, .null, .null, .null, .null, .null, .null, .int 0, .int 0, .int 0]))]) [2] (by decide) rfl
    have hFc := va_free (wc := [(q_2, .inr (2, [.int 0, .null, .null, .null, .null, .null, .null, .int 0, .int 0, .int 0]))]) hD hS hA [2] rfl
    refine va_callv (va_runI (As := [.int (nI n)]) (rest := [.ref q_2, .ref x]) ⟨hx, hb, hml, hown, hg⟩ (c_X2_init l dC dI cI cZ cN cO q_2 n H.size hn) (cwI 1 hg (gw_in kD_X2_init) rfl rfl rfl (hg _ kN_X2) (hg _ kM_X3_20) (hg _ kI_X2_init) rfl (by decide +kernel) ⟨Nat.le_of_ble_eq_true rfl, Nat.le_of_ble_eq_true rfl⟩) ⟨fun a U g mk q => by obtain ⟨q0, q1, qP, qK, qD⟩ := q; exact ⟨q0, q1, qP, va_K.moved (u := U) (U := U.calling g mk a) (Vm.Alike.refl U.vm) qK, qD⟩, fun U hU hW => ⟨rfl, by rw [hU], by rw [hU]; exact hPc, va_K.moved hW.alike hK, hDc.weaken (fun _ _ _ _ => trivial)⟩⟩ rfl rfl hl.1 rfl (lv_room (Nat.le_of_ble_eq_true rfl)) dX3_init_63 ⟨(by show 1 + 6 * n + 1 + 6 ≤ 9 + 6 * n; omega), (by show n + (11 + 5 * n) * n + 10 + (10000 + 2000 * n) ≤ n + (11 + 5 * n) * n + 10522 + 2000 * n; omega)⟩) hS (fun q _ h => hFc q h) hFc (fun u t H1 locs ht hvm hw hB hz1 hk1 hS => ?_)
    obtain ⟨b_3, b_4, b_5, b_6, b_7, b_8, f_9, hf_10, hP1, hK1, hD1⟩ := hB
    rw [ht] at hP1
    obtain ⟨hP, hD⟩ := va_joinQ (pl := P) (X := [(x, .inr (3, [.ref q_1, .null, .null, .int 0, .int 0, .int 0, .int 0, .int 0, .int 0])), (q_1, .inl (cN, n, .inr (.inr (.inr (.inr fn))))), (q_2, .inr (2, [.int 0, .null, .null, .null, .null, .null, .null, .int 0, .int 0, .int 0]))]) (cx := [(q_2, .inr (2, [.int 0, .null, .null, .null, .null, .null, .null, .int 0, .int 0, .int 0]))]) (wr := [(x, .inr (3, [.ref q_1, .null, .null, .int 0, .int 0, .int 0, .int 0, .int 0, .int 0])), (q_1, .inl (cN, n, .inr (.inr (.inr (.inr fn)))))]) (w1 := [(q_2, .inr (2, [.int (nI n), .ref b_3, .ref b_4, .ref b_5, .ref b_6, .ref b_7, .ref b_8, .int 0, .int 0, .int 0])), (b_3, .inl (cI, 2000, .inl f_9)), (b_4, .inl (cI, 2000, .inl ((fun _ => 0)))), (b_5, .inl (cI, 2000, .inl ((fun _ => 0)))), (b_6, .inl (cI, 2000, .inl ((fun _ => 0)))), (b_7, .inl (cI, 2000, .inl ((fun _ => 0)))), (b_8, .inl (cI, 2000 * n, .inl ((fun _ => 0))))]) hP hD [2] [0, 1] rfl rfl (by decide) (by decide) hk1 hFc hP1 hD1
    clear hPc hDc hFc hP1 hK1 hD1 hz1 hk1 ht
    generalize H1 = H at hP hS ⊢
    have hP : va_P (dC, dI) vwCl ([(x, .inr (3, [.ref q_1, .null, .null, .int 0, .int 0, .int 0, .int 0, .int 0, .int 0])), (q_1, .inl (cN, n, .inr (.inr (.inr (.inr fn))))), (q_2, .inr (2, [.int (nI n), .ref b_3, .ref b_4, .ref b_5, .ref b_6, .ref b_7, .ref b_8, .int 0, .int 0, .int 0])), (b_3, .inl (cI, 2000, .inl f_9)), (b_4, .inl (cI, 2000, .inl ((fun _ => 0)))), (b_5, .inl (cI, 2000, .inl ((fun _ => 0)))), (b_6, .inl (cI, 2000, .inl ((fun _ => 0)))), (b_7, .inl (cI, 2000, .inl ((fun _ => 0)))), (b_8, .inl (cI, 2000 * n, .inl ((fun _ => 0))))] ++ P) H := hP
    have hD : va_D A ([(x, .inr (3, [.ref q_1, .null, .null, .int 0, .int 0, .int 0, .int 0, .int 0, .int 0])), (q_1, .inl (cN, n, .inr (.inr (.inr (.inr fn))))), (q_2, .inr (2, [.int (nI n), .ref b_3, .ref b_4, .ref b_5, .ref b_6, .ref b_7, .ref b_8, .int 0, .int 0, .int 0])), (b_3, .inl (cI, 2000, .inl f_9)), (b_4, .inl (cI, 2000, .inl ((fun _ => 0)))), (b_5, .inl (cI, 2000, .inl ((fun _ => 0)))), (b_6, .inl (cI, 2000, .inl ((fun _ => 0)))), (b_7, .inl (cI, 2000, .inl ((fun _ => 0)))), (b_8, .inl (cI, 2000 * n, .inl ((fun _ => 0))))] ++ P) := hD
    refine va_putF (D := (dC, dI)) (ci := 3) (v := .ref q_2) (ty := .object "SharedShelf$Row") (C := RX3) (T := TX3) (N := 9) hx hb hg inX3 tyX3 tyX3_ok nmX3 hown hK hP hD hS 0 rfl rfl 1 (by decide) (hg _ kF_X3_23) (fun _ h9 => h9) rfl hin rfl (by decide +kernel) rfl rfl (Nat.le_of_ble_eq_true rfl) dX3_init_66 (fun H locs hP hD hS => ?_)
    have hP : va_P (dC, dI) vwCl ([(x, .inr (3, [.ref q_1, .ref q_2, .null, .int 0, .int 0, .int 0, .int 0, .int 0, .int 0])), (q_1, .inl (cN, n, .inr (.inr (.inr (.inr fn))))), (q_2, .inr (2, [.int (nI n), .ref b_3, .ref b_4, .ref b_5, .ref b_6, .ref b_7, .ref b_8, .int 0, .int 0, .int 0])), (b_3, .inl (cI, 2000, .inl f_9)), (b_4, .inl (cI, 2000, .inl ((fun _ => 0)))), (b_5, .inl (cI, 2000, .inl ((fun _ => 0)))), (b_6, .inl (cI, 2000, .inl ((fun _ => 0)))), (b_7, .inl (cI, 2000, .inl ((fun _ => 0)))), (b_8, .inl (cI, 2000 * n, .inl ((fun _ => 0))))] ++ P) H := hP
    have hD : va_D A ([(x, .inr (3, [.ref q_1, .ref q_2, .null, .int 0, .int 0, .int 0, .int 0, .int 0, .int 0])), (q_1, .inl (cN, n, .inr (.inr (.inr (.inr fn))))), (q_2, .inr (2, [.int (nI n), .ref b_3, .ref b_4, .ref b_5, .ref b_6, .ref b_7, .ref b_8, .int 0, .int 0, .int 0])), (b_3, .inl (cI, 2000, .inl f_9)), (b_4, .inl (cI, 2000, .inl ((fun _ => 0)))), (b_5, .inl (cI, 2000, .inl ((fun _ => 0)))), (b_6, .inl (cI, 2000, .inl ((fun _ => 0)))), (b_7, .inl (cI, 2000, .inl ((fun _ => 0)))), (b_8, .inl (cI, 2000 * n, .inl ((fun _ => 0))))] ++ P) := hD
    refine lv_aload_n hx hb dX3_init_69 rfl (lv_at hl 1 rfl) ?_
    refine lv_sipush (v := 512) hx hb dX3_init_70 (by decide) ?_
    refine va_newq (C := RX1) (N' := 512) hx hb hown (hg _ kC_X3_27) hAOX1 hK hP hD hS hA (by decide) (by decide) (by omega) (by show 1 + 6 * n + 1 + 6 + 1 ≤ 9 + 6 * n; omega) (by show n + (11 + 5 * n) * n + 10 + (10000 + 2000 * n) + 512 ≤ n + (11 + 5 * n) * n + 10522 + 2000 * n; omega) dX3_init_73 (fun q_11 cA H hK hP hD hS => ?_)
    have hcA : cA = cO := gK_arr hK 3 rfl
    rw [hcA] at hP hD
    have hK : va_K (dC, dI) vwCl (gTy cI cZ cN cO) s := hK.sub [0, 1, 2, 3] rfl
    have hP := hP.swap
    have hD := hD.swap
    have hP : va_P (dC, dI) vwCl ([(x, .inr (3, [.ref q_1, .ref q_2, .null, .int 0, .int 0, .int 0, .int 0, .int 0, .int 0])), (q_1, .inl (cN, n, .inr (.inr (.inr (.inr fn))))), (q_2, .inr (2, [.int (nI n), .ref b_3, .ref b_4, .ref b_5, .ref b_6, .ref b_7, .ref b_8, .int 0, .int 0, .int 0])), (b_3, .inl (cI, 2000, .inl f_9)), (b_4, .inl (cI, 2000, .inl ((fun _ => 0)))), (b_5, .inl (cI, 2000, .inl ((fun _ => 0)))), (b_6, .inl (cI, 2000, .inl ((fun _ => 0)))), (b_7, .inl (cI, 2000, .inl ((fun _ => 0)))), (b_8, .inl (cI, 2000 * n, .inl ((fun _ => 0)))), (q_11, .inl (cO, 512, .inr (.inr (.inr (.inr ((fun _ => none)))))))] ++ P) H := hP
    have hD : va_D A ([(x, .inr (3, [.ref q_1, .ref q_2, .null, .int 0, .int 0, .int 0, .int 0, .int 0, .int 0])), (q_1, .inl (cN, n, .inr (.inr (.inr (.inr fn))))), (q_2, .inr (2, [.int (nI n), .ref b_3, .ref b_4, .ref b_5, .ref b_6, .ref b_7, .ref b_8, .int 0, .int 0, .int 0])), (b_3, .inl (cI, 2000, .inl f_9)), (b_4, .inl (cI, 2000, .inl ((fun _ => 0)))), (b_5, .inl (cI, 2000, .inl ((fun _ => 0)))), (b_6, .inl (cI, 2000, .inl ((fun _ => 0)))), (b_7, .inl (cI, 2000, .inl ((fun _ => 0)))), (b_8, .inl (cI, 2000 * n, .inl ((fun _ => 0)))), (q_11, .inl (cO, 512, .inr (.inr (.inr (.inr ((fun _ => none)))))))] ++ P) := hD
    refine va_putF (D := (dC, dI)) (ci := 3) (v := .ref q_11) (ty := .array (.object "SharedShelf$Operation")) (C := RX3) (T := TX3) (N := 9) hx hb hg inX3 tyX3 tyX3_ok nmX3 hown hK hP hD hS 0 rfl rfl 2 (by decide) (hg _ kF_X3_29) (fun _ h9 => h9) rfl hin rfl (by decide +kernel) rfl rfl (Nat.le_of_ble_eq_true rfl) dX3_init_76 (fun H locs hP hD hS => ?_)
    have hP : va_P (dC, dI) vwCl ([(x, .inr (3, [.ref q_1, .ref q_2, .ref q_11, .int 0, .int 0, .int 0, .int 0, .int 0, .int 0])), (q_1, .inl (cN, n, .inr (.inr (.inr (.inr fn))))), (q_2, .inr (2, [.int (nI n), .ref b_3, .ref b_4, .ref b_5, .ref b_6, .ref b_7, .ref b_8, .int 0, .int 0, .int 0])), (b_3, .inl (cI, 2000, .inl f_9)), (b_4, .inl (cI, 2000, .inl ((fun _ => 0)))), (b_5, .inl (cI, 2000, .inl ((fun _ => 0)))), (b_6, .inl (cI, 2000, .inl ((fun _ => 0)))), (b_7, .inl (cI, 2000, .inl ((fun _ => 0)))), (b_8, .inl (cI, 2000 * n, .inl ((fun _ => 0)))), (q_11, .inl (cO, 512, .inr (.inr (.inr (.inr ((fun _ => none)))))))] ++ P) H := hP
    have hD : va_D A ([(x, .inr (3, [.ref q_1, .ref q_2, .ref q_11, .int 0, .int 0, .int 0, .int 0, .int 0, .int 0])), (q_1, .inl (cN, n, .inr (.inr (.inr (.inr fn))))), (q_2, .inr (2, [.int (nI n), .ref b_3, .ref b_4, .ref b_5, .ref b_6, .ref b_7, .ref b_8, .int 0, .int 0, .int 0])), (b_3, .inl (cI, 2000, .inl f_9)), (b_4, .inl (cI, 2000, .inl ((fun _ => 0)))), (b_5, .inl (cI, 2000, .inl ((fun _ => 0)))), (b_6, .inl (cI, 2000, .inl ((fun _ => 0)))), (b_7, .inl (cI, 2000, .inl ((fun _ => 0)))), (b_8, .inl (cI, 2000 * n, .inl ((fun _ => 0)))), (q_11, .inl (cO, 512, .inr (.inr (.inr (.inr ((fun _ => none)))))))] ++ P) := hD
    have hP9 : va_P (dC, dI) vwCl ([(x, .inr (3, [.ref q_1, .ref q_2, .ref q_11, .int 0, .int 0, .int 0, .int 0, .int 0, .int 0])), (q_1, .inl (cN, n, .inr (.inr (.inr (.inr fn))))), (q_2, .inr (2, [.int (nI n), .ref b_3, .ref b_4, .ref b_5, .ref b_6, .ref b_7, .ref b_8, .int 0, .int 0, .int 0])), (b_3, .inl (cI, 2000, .inl f_9)), (b_4, .inl (cI, 2000, .inl ((fun _ => 0)))), (b_5, .inl (cI, 2000, .inl ((fun _ => 0)))), (b_6, .inl (cI, 2000, .inl ((fun _ => 0)))), (b_7, .inl (cI, 2000, .inl ((fun _ => 0)))), (b_8, .inl (cI, 2000 * n, .inl ((fun _ => 0)))), (q_11, .inl (cO, 512, .inr (.inr (.inr (.inr ((fun _ => none)))))))] ++ P) H := hP.part [0, 1, 2, 3, 4, 5, 6, 7, 8, 9] rfl
    have hD9 : va_D A ([(x, .inr (3, [.ref q_1, .ref q_2, .ref q_11, .int 0, .int 0, .int 0, .int 0, .int 0, .int 0])), (q_1, .inl (cN, n, .inr (.inr (.inr (.inr fn))))), (q_2, .inr (2, [.int (nI n), .ref b_3, .ref b_4, .ref b_5, .ref b_6, .ref b_7, .ref b_8, .int 0, .int 0, .int 0])), (b_3, .inl (cI, 2000, .inl f_9)), (b_4, .inl (cI, 2000, .inl ((fun _ => 0)))), (b_5, .inl (cI, 2000, .inl ((fun _ => 0)))), (b_6, .inl (cI, 2000, .inl ((fun _ => 0)))), (b_7, .inl (cI, 2000, .inl ((fun _ => 0)))), (b_8, .inl (cI, 2000 * n, .inl ((fun _ => 0)))), (q_11, .inl (cO, 512, .inr (.inr (.inr (.inr ((fun _ => none)))))))] ++ P) := hD.part [0, 1, 2, 3, 4, 5, 6, 7, 8, 9] (by decide) rfl
    refine W.widen (k := 9 + 6 * n) (n := n + (11 + 5 * n) * n + 10522 + 2000 * n) (by omega) (by omega) ?_
    exact W.vret hx hb hr (fun t ht hW => ⟨⟨(), rfl, trivial, q_1, q_2, b_3, b_4, b_5, b_6, b_7, b_8, q_11, fn, f_9, P, hI, hf_10, by rw [ht]; exact hP9, va_K.moved hW.alike hK, hD9⟩, hS.F ht⟩) hS.2.2 dX3_init_79
  · refine lv_iload_n hx hb dX3_init_4 rfl (lv_at hl 1 rfl) ?_
    refine lv_iconst (v := 3) hx hb dX3_init_5 (by decide) ?_
    refine lv_icmp_lt (tgt := 15) hx hb dX3_init_6 (by decide) (fun c_6 => ?_) (fun c_6 => ?_)
    · refine lv_iconst (v := 3) hx hb dX3_init_15 (by decide) ?_
      refine lv_goto (tgt := 20) hx hb dX3_init_16 (by decide) ?_
      first | (rw [show (3 : Int32) = nI n from by rw [hnn]; exact (gN_a (by assumption)).symm]; exact hrest) | (rw [show (3 : Int32) = nI n from by rw [hnn]; exact (gN_b (by assumption)).symm]; exact hrest) | exact W.eq (by rw [show nI n = p0 from by rw [hnn]; exact gN_c (by assumption) (by assumption)]) hrest
    · refine lv_iload_n hx hb dX3_init_9 rfl (lv_at hl 1 rfl) ?_
      refine lv_bipush (v := 31) hx hb dX3_init_10 (by decide) ?_
      refine lv_icmp_le (tgt := 19) hx hb dX3_init_12 (by decide) (fun c_12 => ?_) (fun c_12 => ?_)
      · refine lv_iload_n hx hb dX3_init_19 rfl (lv_at hl 1 rfl) ?_
        first | (rw [show (3 : Int32) = nI n from by rw [hnn]; exact (gN_a (by assumption)).symm]; exact hrest) | (rw [show (3 : Int32) = nI n from by rw [hnn]; exact (gN_b (by assumption)).symm]; exact hrest) | exact W.eq (by rw [show nI n = p0 from by rw [hnn]; exact gN_c (by assumption) (by assumption)]) hrest
      · refine lv_iconst (v := 3) hx hb dX3_init_15 (by decide) ?_
        refine lv_goto (tgt := 20) hx hb dX3_init_16 (by decide) ?_
        first | (rw [show (3 : Int32) = nI n from by rw [hnn]; exact (gN_a (by assumption)).symm]; exact hrest) | (rw [show (3 : Int32) = nI n from by rw [hnn]; exact (gN_b (by assumption)).symm]; exact hrest) | exact W.eq (by rw [show nI n = p0 from by rw [hnn]; exact gN_c (by assumption) (by assumption)]) hrest
