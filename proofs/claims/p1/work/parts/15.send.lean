set_option maxHeartbeats 4000000 in
set_option maxRecDepth 100000 in
/-- enter(p1) -/
theorem c_X0_enter (l : Launch) (dC : Nat → ClassId) (dI : Nat → Nat → Nat) (cI cZ cN cO : ClassId) (nd a1 a2 a3 a4 a5 : Nat) (ix up ph rd hq : Int32) (tk : Option Nat) (p1 : Int32) (sz : Nat)  : Met l yX0_enter (.code yX0_enter cX0_enter 2 none :: gw) ({ frames := 0, cells := 0, slots := 0, locals := 0 }) (va_Pc [.ref nd, .int p1] (fun U => U.heap.size = sz ∧ va_P (dC, dI) vwCl [(nd, .inr (0, [.int ix, .ref a1, .ref a2, .ref a3, .ref a4, .ref a5, .int up, .int ph, .int rd, .int hq, va_rf tk]))] U.heap ∧ va_K (dC, dI) vwCl (gTy cI cZ cN cO) U ∧ va_D (fun _ => True) [(nd, .inr (0, [.int ix, .ref a1, .ref a2, .ref a3, .ref a4, .ref a5, .int up, .int ph, .int rd, .int hq, va_rf tk]))])) (va_Qv (fun _ : Unit => True) (fun (_ : Unit) (t : State) => va_P (dC, dI) vwCl [(nd, .inr (0, [.int ix, .ref a1, .ref a2, .ref a3, .ref a4, .ref a5, .int up, .int p1, .int ((rd + 1)), .int 0, va_rf tk]))] t.heap ∧ va_K (dC, dI) vwCl (gTy cI cZ cN cO) t ∧ va_D (va_A [(nd, .inr (0, [.int ix, .ref a1, .ref a2, .ref a3, .ref a4, .ref a5, .int up, .int ph, .int rd, .int hq, va_rf tk]))] sz) [(nd, .inr (0, [.int ix, .ref a1, .ref a2, .ref a3, .ref a4, .ref a5, .int up, .int p1, .int ((rd + 1)), .int 0, va_rf tk]))]) (va_A [(nd, .inr (0, [.int ix, .ref a1, .ref a2, .ref a3, .ref a4, .ref a5, .int up, .int ph, .int rd, .int hq, va_rf tk]))] sz)) (0) (0) (va_A [(nd, .inr (0, [.int ix, .ref a1, .ref a2, .ref a3, .ref a4, .ref a5, .int up, .int ph, .int rd, .int hq, va_rf tk]))] sz) := by
  refine Met.ofW (cc := cX0_enter) (maxL := 2) (ret := none) (by decide) rfl ?_
  intro p e s m args below meth c s₁ B hml hv
  obtain ⟨rfl, hsz, hP, hK, hD0⟩ := hv
  have hx := B.exec
  have hb := B.bytes
  have hr := B.returns
  have hts := atoms_spec (ws := (.code yX0_enter cX0_enter 2 none :: gw)) B.pre
  have hg : ∀ w ∈ gw, w.before _ s = true := fun w h => hts w (List.mem_cons_of_mem _ h)
  have hown : s.vm.findClass RX0 = some m.cls := findClass_of_methodNamed B.named
  have hlocks := B.notSynchronized
  subst hsz
  have hD := hD0.self (sz := s.heap.size)
  generalize hAe : va_A [(nd, .inr (0, [.int ix, .ref a1, .ref a2, .ref a3, .ref a4, .ref a5, .int up, .int ph, .int rd, .int hq, va_rf tk]))] s.heap.size = A at hD ⊢
  have hA : ∀ q : Nat, s.heap.size ≤ q → A q := fun q h => by rw [← hAe]; exact Or.inr h
  have hS : va_S A s.heap s.heap [] := va_S.rf
  obtain ⟨H, eH⟩ : ∃ z, z = s.heap := ⟨_, rfl⟩
  obtain ⟨locs, elocs⟩ : ∃ z : List Loc, z = [] := ⟨_, rfl⟩
  have hP : va_P (dC, dI) vwCl [(nd, .inr (0, [.int ix, .ref a1, .ref a2, .ref a3, .ref a4, .ref a5, .int up, .int ph, .int rd, .int hq, va_rf tk]))] H := by rw [eH]; exact hP
  have hS : va_S A s.heap H locs := by rw [eH, elocs]; exact hS
  have hl := lv_entry ([.ref nd, .int p1]) (n := 2) (Nat.le_of_ble_eq_true rfl)
  rw [lg_entry_eq]
  generalize (lg_sl ([.ref nd, .int p1]) ++ List.replicate (2 - (lg_sl ([.ref nd, .int p1])).length) Slot.unset).toArray = ls at hl ⊢
  have hl : lv_has ls 2 [(0, .ref nd), (1, .int p1)] := hl
  rw [← elocs]
  suffices hgoal : ∀ HH, H = HH → W p l e (headSpec (.code yX0_enter cX0_enter 2 none :: gw) ({ frames := 0, cells := 0, slots := 0, locals := 0 })).room s m _ below meth c HH locs 0 0 _ (F0 m 0 ls []) from hgoal _ eH
  rintro _ rfl
  refine lv_aload_n hx hb dX0_enter_0 rfl (lv_at hl 0 rfl) ?_
  refine lv_iload_n hx hb dX0_enter_1 rfl (lv_at hl 1 rfl) ?_
  refine va_put (D := (dC, dI)) (ci := 0) (v := .int p1) (ty := .int) (C := RX0) (T := TX0) (N := 11) hx hb hg inX0 tyX0 tyX0_ok nmX0 hown hK hP hD hS 0 rfl rfl 7 (by decide) (hg _ kF_X0_15) (fun _ h9 => h9) rfl (by decide +kernel) rfl rfl (Nat.le_of_ble_eq_true rfl) dX0_enter_2 (fun H locs hP hD hS => ?_)
  have hP : va_P (dC, dI) vwCl [(nd, .inr (0, [.int ix, .ref a1, .ref a2, .ref a3, .ref a4, .ref a5, .int up, .int p1, .int rd, .int hq, va_rf tk]))] H := hP
  have hD : va_D A [(nd, .inr (0, [.int ix, .ref a1, .ref a2, .ref a3, .ref a4, .ref a5, .int up, .int p1, .int rd, .int hq, va_rf tk]))] := hD
  refine lv_aload_n hx hb dX0_enter_5 rfl (lv_at hl 0 rfl) ?_
  refine lv_dup hx hb dX0_enter_6 rfl ?_
  refine va_get (D := (dC, dI)) (ci := 0) (v := .int rd) (C := RX0) (T := TX0) (N := 11) hx hb hg inX0 hown hK hP 0 rfl rfl 8 (by decide) (hg _ kF_X0_42) (fun _ h9 => h9) rfl dX0_enter_7 ?_
  refine lv_iconst (v := 1) hx hb dX0_enter_10 (by decide) ?_
  refine lv_iadd hx hb dX0_enter_11 ?_
  refine va_put (D := (dC, dI)) (ci := 0) (v := .int ((rd + 1))) (ty := .int) (C := RX0) (T := TX0) (N := 11) hx hb hg inX0 tyX0 tyX0_ok nmX0 hown hK hP hD hS 0 rfl rfl 8 (by decide) (hg _ kF_X0_42) (fun _ h9 => h9) rfl (by decide +kernel) rfl rfl (Nat.le_of_ble_eq_true rfl) dX0_enter_12 (fun H locs hP hD hS => ?_)
  have hP : va_P (dC, dI) vwCl [(nd, .inr (0, [.int ix, .ref a1, .ref a2, .ref a3, .ref a4, .ref a5, .int up, .int p1, .int ((rd + 1)), .int hq, va_rf tk]))] H := hP
  have hD : va_D A [(nd, .inr (0, [.int ix, .ref a1, .ref a2, .ref a3, .ref a4, .ref a5, .int up, .int p1, .int ((rd + 1)), .int hq, va_rf tk]))] := hD
  refine lv_aload_n hx hb dX0_enter_15 rfl (lv_at hl 0 rfl) ?_
  refine lv_iconst (v := 0) hx hb dX0_enter_16 (by decide) ?_
  refine va_put (D := (dC, dI)) (ci := 0) (v := .int 0) (ty := .int) (C := RX0) (T := TX0) (N := 11) hx hb hg inX0 tyX0 tyX0_ok nmX0 hown hK hP hD hS 0 rfl rfl 9 (by decide) (hg _ kF_X0_45) (fun _ h9 => h9) rfl (by decide +kernel) rfl rfl (Nat.le_of_ble_eq_true rfl) dX0_enter_17 (fun H locs hP hD hS => ?_)
  have hP : va_P (dC, dI) vwCl [(nd, .inr (0, [.int ix, .ref a1, .ref a2, .ref a3, .ref a4, .ref a5, .int up, .int p1, .int ((rd + 1)), .int 0, va_rf tk]))] H := hP
  have hD : va_D A [(nd, .inr (0, [.int ix, .ref a1, .ref a2, .ref a3, .ref a4, .ref a5, .int up, .int p1, .int ((rd + 1)), .int 0, va_rf tk]))] := hD
  have hP9 := hP.sub (ws' := [(nd, .inr (0, [.int ix, .ref a1, .ref a2, .ref a3, .ref a4, .ref a5, .int up, .int p1, .int ((rd + 1)), .int 0, va_rf tk]))]) [0] rfl
  have hD9 := hD.sub (ws' := [(nd, .inr (0, [.int ix, .ref a1, .ref a2, .ref a3, .ref a4, .ref a5, .int up, .int p1, .int ((rd + 1)), .int 0, va_rf tk]))]) [0] (by decide) rfl
  refine W.widen (k := 0) (n := 0) (by omega) (by omega) ?_
  exact W.vret hx hb hr (fun t ht hW => ⟨⟨(), rfl, trivial, by rw [ht]; exact hP9, va_K.moved hW.alike hK, hD9⟩, hS.F ht⟩) hS.2.2 dX0_enter_20
set_option maxHeartbeats 4000000 in
set_option maxRecDepth 100000 in
theorem lp_X0_takeUp {p : Program} {l : Launch} {e : Env} {R : Room} {s : State} {m : MethodId} {args : Array Value} {below : List Frame} {meth : Method} {c : Code} {cells slots : Nat} {Q : State → Prop} {A : Nat → Prop} {H0 : Heap} {dC : Nat → ClassId} {dI : Nat → Nat → Nat} {cI cZ cN cO : ClassId} (hx : p.tables.exec = Jvm.exec) (hb : c.code = cX0_takeUp) (hml : c.maxLocals = 3) (hown : s.vm.findClass RX0 = some m.cls) (hg : ∀ w ∈ gw, w.before args s = true) (hK : va_K (dC, dI) vwCl (gTy cI cZ cN cO) s) (nd a1 a2 a3 a4 a5 : Nat) (ix up ph rd hq : Int32) (tk n : Nat) (hn : n < 2 ^ 31) (kk : ∀ (f : Nat → Int32), (∀ j, j < n → f j = 0) → ∀ (H : Heap) (locs : List Loc), va_P (dC, dI) vwCl [(nd, .inr (0, [.int ix, .ref a1, .ref a2, .ref a3, .ref a4, .ref a5, .int up, .int ph, .int rd, .int hq, .ref tk])), (a4, .inl (cI, n, .inl f))] H → va_D A [(nd, .inr (0, [.int ix, .ref a1, .ref a2, .ref a3, .ref a4, .ref a5, .int up, .int ph, .int rd, .int hq, .ref tk])), (a4, .inl (cI, n, .inl f))] → va_S A H0 H locs → ∀ ls : Array Slot, lv_has ls 3 [(2, .int (nI n)), (0, .ref nd), (1, .ref tk)] → W p l e R s m args below meth c H locs cells slots Q (F0 m 29 ls [])) : ∀ (k i : Nat), i + k = n → ∀ (f : Nat → Int32), (∀ j, j < i → f j = 0) → ∀ (H : Heap) (locs : List Loc), va_P (dC, dI) vwCl [(nd, .inr (0, [.int ix, .ref a1, .ref a2, .ref a3, .ref a4, .ref a5, .int up, .int ph, .int rd, .int hq, .ref tk])), (a4, .inl (cI, n, .inl f))] H → va_D A [(nd, .inr (0, [.int ix, .ref a1, .ref a2, .ref a3, .ref a4, .ref a5, .int up, .int ph, .int rd, .int hq, .ref tk])), (a4, .inl (cI, n, .inl f))] → va_S A H0 H locs → ∀ ls : Array Slot, lv_has ls 3 [(2, .int (nI i)), (0, .ref nd), (1, .ref tk)] → W p l e R s m args below meth c H locs cells slots Q (F0 m 7 ls []) := by
  intro k
  induction k with
  | zero =>
    intro i hik
    intro f hI H locs hP hD hS ls hl
    have hi : n = i := by omega
    subst hi
    refine lv_iload_n hx hb dX0_takeUp_7 rfl (lv_at hl 0 rfl) ?_
    refine lv_aload_n hx hb dX0_takeUp_8 rfl (lv_at hl 1 rfl) ?_
    refine va_get (D := (dC, dI)) (ci := 0) (v := .ref a4) (C := RX0) (T := TX0) (N := 11) hx hb hg inX0 hown hK hP 0 rfl rfl 4 (by decide) (hg _ kF_X0_32) (fun _ h9 => h9) rfl dX0_takeUp_9 ?_
    refine va_alen (v := nI n) hx hb hK hP 1 0 rfl rfl (by rfl) dX0_takeUp_12 ?_
    refine lv_icmp_ge (tgt := 29) hx hb dX0_takeUp_13 (by decide) (fun c_13 => ?_) (fun c_13 => absurd (Int32.le_refl _) c_13)
    exact kk f hI _ _ hP hD hS ls (lv_sub hl [0, 1, 2] rfl)
  | succ k ih =>
    intro i hik
    intro f hI H locs hP hD hS ls hl
    have hi : i < n := by omega
    refine lv_iload_n hx hb dX0_takeUp_7 rfl (lv_at hl 0 rfl) ?_
    refine lv_aload_n hx hb dX0_takeUp_8 rfl (lv_at hl 1 rfl) ?_
    refine va_get (D := (dC, dI)) (ci := 0) (v := .ref a4) (C := RX0) (T := TX0) (N := 11) hx hb hg inX0 hown hK hP 0 rfl rfl 4 (by decide) (hg _ kF_X0_32) (fun _ h9 => h9) rfl dX0_takeUp_9 ?_
    refine va_alen (v := nI n) hx hb hK hP 1 0 rfl rfl (by rfl) dX0_takeUp_12 ?_
    refine lv_icmp_ge (tgt := 29) hx hb dX0_takeUp_13 (by decide) (fun c_13 => absurd c_13 (nI_ge hi (by omega))) (fun c_13 => ?_)
    refine lv_aload_n hx hb dX0_takeUp_16 rfl (lv_at hl 1 rfl) ?_
    refine va_get (D := (dC, dI)) (ci := 0) (v := .ref a4) (C := RX0) (T := TX0) (N := 11) hx hb hg inX0 hown hK hP 0 rfl rfl 4 (by decide) (hg _ kF_X0_32) (fun _ h9 => h9) rfl dX0_takeUp_17 ?_
    refine lv_iload_n hx hb dX0_takeUp_20 rfl (lv_at hl 0 rfl) ?_
    refine lv_iconst (v := 0) hx hb dX0_takeUp_21 (by decide) ?_
    refine va_iast hx hb hK hP hD hS 1 0 rfl rfl (vp_in_nI hi (by omega)) dX0_takeUp_22 (fun H locs hP hD hS => ?_)
    have hP : va_P (dC, dI) vwCl [(nd, .inr (0, [.int ix, .ref a1, .ref a2, .ref a3, .ref a4, .ref a5, .int up, .int ph, .int rd, .int hq, .ref tk])), (a4, .inl (cI, n, .inl (upd f (nI i).toNatClampNeg 0)))] H := hP
    have hD : va_D A [(nd, .inr (0, [.int ix, .ref a1, .ref a2, .ref a3, .ref a4, .ref a5, .int up, .int ph, .int rd, .int hq, .ref tk])), (a4, .inl (cI, n, .inl (upd f (nI i).toNatClampNeg 0)))] := hD
    obtain ⟨g_1, eg_1⟩ : ∃ y : Nat → Int32, y = upd f (nI i).toNatClampNeg 0 := ⟨_, rfl⟩
    rw [← eg_1] at hP hD
    have hP : va_P (dC, dI) vwCl [(nd, .inr (0, [.int ix, .ref a1, .ref a2, .ref a3, .ref a4, .ref a5, .int up, .int ph, .int rd, .int hq, .ref tk])), (a4, .inl (cI, n, .inl g_1))] H := hP
    have hD : va_D A [(nd, .inr (0, [.int ix, .ref a1, .ref a2, .ref a3, .ref a4, .ref a5, .int up, .int ph, .int rd, .int hq, .ref tk])), (a4, .inl (cI, n, .inl g_1))] := hD
    obtain ⟨x_2, ex_2⟩ : ∃ y : Int32, y = (nI i) + 1 := ⟨_, rfl⟩
    refine lv_iinc (v := x_2) (lv' := [(2, .int x_2), (0, .ref nd), (1, .ref tk)]) hx hb dX0_takeUp_23 hl (k := 0) rfl (by rw [ex_2]; rfl) (by decide) rfl (fun ls hl => ?_)
    refine lv_goto (tgt := 7) hx hb dX0_takeUp_26 (by decide) ?_
    have hx2 : x_2 = nI (i + 1) := by rw [ex_2]; exact nI_1 i
    rw [hx2] at hl
    have hI2 : ∀ j, j < i + 1 → g_1 j = 0 := by
      intro j hj
      rw [eg_1, nI_clamp (by omega)]
      by_cases hji : j = i
      · subst hji; exact upd_self _ _ _
      · rw [upd_ne _ hji]; exact hI j (by omega)
    exact ih (i + 1) (by omega) g_1 hI2 _ _ hP hD hS ls (lv_sub hl [0, 1, 2] rfl)
set_option maxHeartbeats 4000000 in
set_option maxRecDepth 100000 in
/-- takeUp(tk) -/
theorem c_X0_takeUp (l : Launch) (dC : Nat → ClassId) (dI : Nat → Nat → Nat) (cI cZ cN cO : ClassId) (nd a1 a2 a3 a4 a5 : Nat) (ix up ph rd hq : Int32) (tk n : Nat) (t0 : Option Nat) (f0 : Nat → Int32) (sz : Nat) (hn : n < 2 ^ 31) : Met l yX0_takeUp (.code yX0_takeUp cX0_takeUp 3 none :: gw) ({ frames := 0, cells := 0, slots := 0, locals := 0 }) (va_Pc [.ref nd, .ref tk] (fun U => U.heap.size = sz ∧ va_P (dC, dI) vwCl [(nd, .inr (0, [.int ix, .ref a1, .ref a2, .ref a3, .ref a4, .ref a5, .int up, .int ph, .int rd, .int hq, va_rf t0])), (a4, .inl (cI, n, .inl f0))] U.heap ∧ va_K (dC, dI) vwCl (gTy cI cZ cN cO) U ∧ va_D (fun _ => True) [(nd, .inr (0, [.int ix, .ref a1, .ref a2, .ref a3, .ref a4, .ref a5, .int up, .int ph, .int rd, .int hq, va_rf t0])), (a4, .inl (cI, n, .inl f0))])) (va_Qv (fun _ : Unit => True) (fun (_ : Unit) (t : State) => ∃ f : Nat → Int32, (∀ j, j < n → f j = 0) ∧ va_P (dC, dI) vwCl [(nd, .inr (0, [.int ix, .ref a1, .ref a2, .ref a3, .ref a4, .ref a5, .int up, .int ph, .int rd, .int hq, .ref tk])), (a4, .inl (cI, n, .inl f))] t.heap ∧ va_K (dC, dI) vwCl (gTy cI cZ cN cO) t ∧ va_D (va_A [(nd, .inr (0, [.int ix, .ref a1, .ref a2, .ref a3, .ref a4, .ref a5, .int up, .int ph, .int rd, .int hq, va_rf t0])), (a4, .inl (cI, n, .inl f0))] sz) [(nd, .inr (0, [.int ix, .ref a1, .ref a2, .ref a3, .ref a4, .ref a5, .int up, .int ph, .int rd, .int hq, .ref tk])), (a4, .inl (cI, n, .inl f))]) (va_A [(nd, .inr (0, [.int ix, .ref a1, .ref a2, .ref a3, .ref a4, .ref a5, .int up, .int ph, .int rd, .int hq, va_rf t0])), (a4, .inl (cI, n, .inl f0))] sz)) (0) (0) (va_A [(nd, .inr (0, [.int ix, .ref a1, .ref a2, .ref a3, .ref a4, .ref a5, .int up, .int ph, .int rd, .int hq, va_rf t0])), (a4, .inl (cI, n, .inl f0))] sz) := by
  refine Met.ofW (cc := cX0_takeUp) (maxL := 3) (ret := none) (by decide) rfl ?_
  intro p e s m args below meth c s₁ B hml hv
  obtain ⟨rfl, hsz, hP, hK, hD0⟩ := hv
  have hx := B.exec
  have hb := B.bytes
  have hr := B.returns
  have hts := atoms_spec (ws := (.code yX0_takeUp cX0_takeUp 3 none :: gw)) B.pre
  have hg : ∀ w ∈ gw, w.before _ s = true := fun w h => hts w (List.mem_cons_of_mem _ h)
  have hown : s.vm.findClass RX0 = some m.cls := findClass_of_methodNamed B.named
  have hlocks := B.notSynchronized
  subst hsz
  have hD := hD0.self (sz := s.heap.size)
  generalize hAe : va_A [(nd, .inr (0, [.int ix, .ref a1, .ref a2, .ref a3, .ref a4, .ref a5, .int up, .int ph, .int rd, .int hq, va_rf t0])), (a4, .inl (cI, n, .inl f0))] s.heap.size = A at hD ⊢
  have hA : ∀ q : Nat, s.heap.size ≤ q → A q := fun q h => by rw [← hAe]; exact Or.inr h
  have hS : va_S A s.heap s.heap [] := va_S.rf
  obtain ⟨H, eH⟩ : ∃ z, z = s.heap := ⟨_, rfl⟩
  obtain ⟨locs, elocs⟩ : ∃ z : List Loc, z = [] := ⟨_, rfl⟩
  have hP : va_P (dC, dI) vwCl [(nd, .inr (0, [.int ix, .ref a1, .ref a2, .ref a3, .ref a4, .ref a5, .int up, .int ph, .int rd, .int hq, va_rf t0])), (a4, .inl (cI, n, .inl f0))] H := by rw [eH]; exact hP
  have hS : va_S A s.heap H locs := by rw [eH, elocs]; exact hS
  have hl := lv_entry ([.ref nd, .ref tk]) (n := 3) (Nat.le_of_ble_eq_true rfl)
  rw [lg_entry_eq]
  generalize (lg_sl ([.ref nd, .ref tk]) ++ List.replicate (3 - (lg_sl ([.ref nd, .ref tk])).length) Slot.unset).toArray = ls at hl ⊢
  have hl : lv_has ls 3 [(0, .ref nd), (1, .ref tk)] := hl
  rw [← elocs]
  suffices hgoal : ∀ HH, H = HH → W p l e (headSpec (.code yX0_takeUp cX0_takeUp 3 none :: gw) ({ frames := 0, cells := 0, slots := 0, locals := 0 })).room s m _ below meth c HH locs 0 0 _ (F0 m 0 ls []) from hgoal _ eH
  rintro _ rfl
  refine lv_aload_n hx hb dX0_takeUp_0 rfl (lv_at hl 0 rfl) ?_
  refine lv_aload_n hx hb dX0_takeUp_1 rfl (lv_at hl 1 rfl) ?_
  refine va_put (D := (dC, dI)) (ci := 0) (v := .ref tk) (ty := .object "SharedShelf$Operation") (C := RX0) (T := TX0) (N := 11) hx hb hg inX0 tyX0 tyX0_ok nmX0 hown hK hP hD hS 0 rfl rfl 10 (by decide) (hg _ kF_X0_38) (fun _ h9 => h9) rfl (by decide +kernel) rfl rfl (Nat.le_of_ble_eq_true rfl) dX0_takeUp_2 (fun H locs hP hD hS => ?_)
  have hP : va_P (dC, dI) vwCl [(nd, .inr (0, [.int ix, .ref a1, .ref a2, .ref a3, .ref a4, .ref a5, .int up, .int ph, .int rd, .int hq, .ref tk])), (a4, .inl (cI, n, .inl f0))] H := hP
  have hD : va_D A [(nd, .inr (0, [.int ix, .ref a1, .ref a2, .ref a3, .ref a4, .ref a5, .int up, .int ph, .int rd, .int hq, .ref tk])), (a4, .inl (cI, n, .inl f0))] := hD
  refine lv_iconst (v := 0) hx hb dX0_takeUp_5 (by decide) ?_
  refine lv_istore_n (lv' := [(2, .int 0), (0, .ref nd), (1, .ref tk)]) hx hb dX0_takeUp_6 rfl hl (by decide) rfl (fun ls hl => ?_)
  rw [← nI_0] at hl
  refine lp_X0_takeUp hx hb hml hown hg hK nd a1 a2 a3 a4 a5 ix up ph rd hq tk n hn ?_ n 0 (by omega) f0 (fun j hj => absurd hj (Nat.not_lt_zero j)) _ _ hP hD hS ls (lv_sub hl [0, 1, 2] rfl)
  intro f hI H locs hP hD hS ls hl
  have hP9 := hP.sub (ws' := [(nd, .inr (0, [.int ix, .ref a1, .ref a2, .ref a3, .ref a4, .ref a5, .int up, .int ph, .int rd, .int hq, .ref tk])), (a4, .inl (cI, n, .inl f))]) [0, 1] rfl
  have hD9 := hD.sub (ws' := [(nd, .inr (0, [.int ix, .ref a1, .ref a2, .ref a3, .ref a4, .ref a5, .int up, .int ph, .int rd, .int hq, .ref tk])), (a4, .inl (cI, n, .inl f))]) [0, 1] (by decide) rfl
  refine W.widen (k := 0) (n := 0) (by omega) (by omega) ?_
  exact W.vret hx hb hr (fun t ht hW => ⟨⟨(), rfl, trivial, f, hI, by rw [ht]; exact hP9, va_K.moved hW.alike hK, hD9⟩, hS.F ht⟩) hS.2.2 dX0_takeUp_29
set_option maxHeartbeats 4000000 in
set_option maxRecDepth 100000 in
theorem lp_X0_clearCurrent {p : Program} {l : Launch} {e : Env} {R : Room} {s : State} {m : MethodId} {args : Array Value} {below : List Frame} {meth : Method} {c : Code} {cells slots : Nat} {Q : State → Prop} {A : Nat → Prop} {H0 : Heap} {dC : Nat → ClassId} {dI : Nat → Nat → Nat} {cI cZ cN cO : ClassId} (hx : p.tables.exec = Jvm.exec) (hb : c.code = cX0_clearCurrent) (hml : c.maxLocals = 2) (hown : s.vm.findClass RX0 = some m.cls) (hg : ∀ w ∈ gw, w.before args s = true) (hK : va_K (dC, dI) vwCl (gTy cI cZ cN cO) s) (nd a1 a2 a3 a4 a5 : Nat) (ix up ph rd hq : Int32) (tk n : Nat) (hn : n < 2 ^ 31) (kk : ∀ (f : Nat → Int32), (∀ j, j < n → f j = 0) → ∀ (H : Heap) (locs : List Loc), va_P (dC, dI) vwCl [(nd, .inr (0, [.int ix, .ref a1, .ref a2, .ref a3, .ref a4, .ref a5, .int up, .int ph, .int rd, .int hq, .ref tk])), (a2, .inl (cI, n, .inl f))] H → va_D A [(nd, .inr (0, [.int ix, .ref a1, .ref a2, .ref a3, .ref a4, .ref a5, .int up, .int ph, .int rd, .int hq, .ref tk])), (a2, .inl (cI, n, .inl f))] → va_S A H0 H locs → ∀ ls : Array Slot, lv_has ls 2 [(1, .int (nI n)), (0, .ref nd)] → W p l e R s m args below meth c H locs cells slots Q (F0 m 24 ls [])) : ∀ (k i : Nat), i + k = n → ∀ (f : Nat → Int32), (∀ j, j < i → f j = 0) → ∀ (H : Heap) (locs : List Loc), va_P (dC, dI) vwCl [(nd, .inr (0, [.int ix, .ref a1, .ref a2, .ref a3, .ref a4, .ref a5, .int up, .int ph, .int rd, .int hq, .ref tk])), (a2, .inl (cI, n, .inl f))] H → va_D A [(nd, .inr (0, [.int ix, .ref a1, .ref a2, .ref a3, .ref a4, .ref a5, .int up, .int ph, .int rd, .int hq, .ref tk])), (a2, .inl (cI, n, .inl f))] → va_S A H0 H locs → ∀ ls : Array Slot, lv_has ls 2 [(1, .int (nI i)), (0, .ref nd)] → W p l e R s m args below meth c H locs cells slots Q (F0 m 2 ls []) := by
  intro k
  induction k with
  | zero =>
    intro i hik
    intro f hI H locs hP hD hS ls hl
    have hi : n = i := by omega
    subst hi
    refine lv_iload_n hx hb dX0_clearCurrent_2 rfl (lv_at hl 0 rfl) ?_
    refine lv_aload_n hx hb dX0_clearCurrent_3 rfl (lv_at hl 1 rfl) ?_
    refine va_get (D := (dC, dI)) (ci := 0) (v := .ref a2) (C := RX0) (T := TX0) (N := 11) hx hb hg inX0 hown hK hP 0 rfl rfl 2 (by decide) (hg _ kF_X0_26) (fun _ h9 => h9) rfl dX0_clearCurrent_4 ?_
    refine va_alen (v := nI n) hx hb hK hP 1 0 rfl rfl (by rfl) dX0_clearCurrent_7 ?_
    refine lv_icmp_ge (tgt := 24) hx hb dX0_clearCurrent_8 (by decide) (fun c_8 => ?_) (fun c_8 => absurd (Int32.le_refl _) c_8)
    exact kk f hI _ _ hP hD hS ls (lv_sub hl [0, 1] rfl)
  | succ k ih =>
    intro i hik
    intro f hI H locs hP hD hS ls hl
    have hi : i < n := by omega
    refine lv_iload_n hx hb dX0_clearCurrent_2 rfl (lv_at hl 0 rfl) ?_
    refine lv_aload_n hx hb dX0_clearCurrent_3 rfl (lv_at hl 1 rfl) ?_
    refine va_get (D := (dC, dI)) (ci := 0) (v := .ref a2) (C := RX0) (T := TX0) (N := 11) hx hb hg inX0 hown hK hP 0 rfl rfl 2 (by decide) (hg _ kF_X0_26) (fun _ h9 => h9) rfl dX0_clearCurrent_4 ?_
    refine va_alen (v := nI n) hx hb hK hP 1 0 rfl rfl (by rfl) dX0_clearCurrent_7 ?_
    refine lv_icmp_ge (tgt := 24) hx hb dX0_clearCurrent_8 (by decide) (fun c_8 => absurd c_8 (nI_ge hi (by omega))) (fun c_8 => ?_)
    refine lv_aload_n hx hb dX0_clearCurrent_11 rfl (lv_at hl 1 rfl) ?_
    refine va_get (D := (dC, dI)) (ci := 0) (v := .ref a2) (C := RX0) (T := TX0) (N := 11) hx hb hg inX0 hown hK hP 0 rfl rfl 2 (by decide) (hg _ kF_X0_26) (fun _ h9 => h9) rfl dX0_clearCurrent_12 ?_
    refine lv_iload_n hx hb dX0_clearCurrent_15 rfl (lv_at hl 0 rfl) ?_
    refine lv_iconst (v := 0) hx hb dX0_clearCurrent_16 (by decide) ?_
    refine va_iast hx hb hK hP hD hS 1 0 rfl rfl (vp_in_nI hi (by omega)) dX0_clearCurrent_17 (fun H locs hP hD hS => ?_)
    have hP : va_P (dC, dI) vwCl [(nd, .inr (0, [.int ix, .ref a1, .ref a2, .ref a3, .ref a4, .ref a5, .int up, .int ph, .int rd, .int hq, .ref tk])), (a2, .inl (cI, n, .inl (upd f (nI i).toNatClampNeg 0)))] H := hP
    have hD : va_D A [(nd, .inr (0, [.int ix, .ref a1, .ref a2, .ref a3, .ref a4, .ref a5, .int up, .int ph, .int rd, .int hq, .ref tk])), (a2, .inl (cI, n, .inl (upd f (nI i).toNatClampNeg 0)))] := hD
    obtain ⟨g_1, eg_1⟩ : ∃ y : Nat → Int32, y = upd f (nI i).toNatClampNeg 0 := ⟨_, rfl⟩
    rw [← eg_1] at hP hD
    have hP : va_P (dC, dI) vwCl [(nd, .inr (0, [.int ix, .ref a1, .ref a2, .ref a3, .ref a4, .ref a5, .int up, .int ph, .int rd, .int hq, .ref tk])), (a2, .inl (cI, n, .inl g_1))] H := hP
    have hD : va_D A [(nd, .inr (0, [.int ix, .ref a1, .ref a2, .ref a3, .ref a4, .ref a5, .int up, .int ph, .int rd, .int hq, .ref tk])), (a2, .inl (cI, n, .inl g_1))] := hD
    obtain ⟨x_2, ex_2⟩ : ∃ y : Int32, y = (nI i) + 1 := ⟨_, rfl⟩
    refine lv_iinc (v := x_2) (lv' := [(1, .int x_2), (0, .ref nd)]) hx hb dX0_clearCurrent_18 hl (k := 0) rfl (by rw [ex_2]; rfl) (by decide) rfl (fun ls hl => ?_)
    refine lv_goto (tgt := 2) hx hb dX0_clearCurrent_21 (by decide) ?_
    have hx2 : x_2 = nI (i + 1) := by rw [ex_2]; exact nI_1 i
    rw [hx2] at hl
    have hI2 : ∀ j, j < i + 1 → g_1 j = 0 := by
      intro j hj
      rw [eg_1, nI_clamp (by omega)]
      by_cases hji : j = i
      · subst hji; exact upd_self _ _ _
      · rw [upd_ne _ hji]; exact hI j (by omega)
    exact ih (i + 1) (by omega) g_1 hI2 _ _ hP hD hS ls (lv_sub hl [0, 1] rfl)
set_option maxHeartbeats 4000000 in
set_option maxRecDepth 100000 in
/-- clearCurrent() -/
theorem c_X0_clearCurrent (l : Launch) (dC : Nat → ClassId) (dI : Nat → Nat → Nat) (cI cZ cN cO : ClassId) (nd a1 a2 a3 a4 a5 : Nat) (ix up ph rd hq : Int32) (tk n : Nat) (f0 : Nat → Int32) (sz : Nat) (hn : n < 2 ^ 31) : Met l yX0_clearCurrent (.code yX0_clearCurrent cX0_clearCurrent 2 none :: gw) ({ frames := 0, cells := 0, slots := 0, locals := 0 }) (va_Pc [.ref nd] (fun U => U.heap.size = sz ∧ va_P (dC, dI) vwCl [(nd, .inr (0, [.int ix, .ref a1, .ref a2, .ref a3, .ref a4, .ref a5, .int up, .int ph, .int rd, .int hq, .ref tk])), (a2, .inl (cI, n, .inl f0))] U.heap ∧ va_K (dC, dI) vwCl (gTy cI cZ cN cO) U ∧ va_D (fun _ => True) [(nd, .inr (0, [.int ix, .ref a1, .ref a2, .ref a3, .ref a4, .ref a5, .int up, .int ph, .int rd, .int hq, .ref tk])), (a2, .inl (cI, n, .inl f0))])) (va_Qv (fun _ : Unit => True) (fun (_ : Unit) (t : State) => ∃ f : Nat → Int32, (∀ j, j < n → f j = 0) ∧ va_P (dC, dI) vwCl [(nd, .inr (0, [.int ix, .ref a1, .ref a2, .ref a3, .ref a4, .ref a5, .int up, .int ph, .int rd, .int hq, .ref tk])), (a2, .inl (cI, n, .inl f))] t.heap ∧ va_K (dC, dI) vwCl (gTy cI cZ cN cO) t ∧ va_D (va_A [(nd, .inr (0, [.int ix, .ref a1, .ref a2, .ref a3, .ref a4, .ref a5, .int up, .int ph, .int rd, .int hq, .ref tk])), (a2, .inl (cI, n, .inl f0))] sz) [(nd, .inr (0, [.int ix, .ref a1, .ref a2, .ref a3, .ref a4, .ref a5, .int up, .int ph, .int rd, .int hq, .ref tk])), (a2, .inl (cI, n, .inl f))]) (va_A [(nd, .inr (0, [.int ix, .ref a1, .ref a2, .ref a3, .ref a4, .ref a5, .int up, .int ph, .int rd, .int hq, .ref tk])), (a2, .inl (cI, n, .inl f0))] sz)) (0) (0) (va_A [(nd, .inr (0, [.int ix, .ref a1, .ref a2, .ref a3, .ref a4, .ref a5, .int up, .int ph, .int rd, .int hq, .ref tk])), (a2, .inl (cI, n, .inl f0))] sz) := by
  refine Met.ofW (cc := cX0_clearCurrent) (maxL := 2) (ret := none) (by decide) rfl ?_
  intro p e s m args below meth c s₁ B hml hv
  obtain ⟨rfl, hsz, hP, hK, hD0⟩ := hv
  have hx := B.exec
  have hb := B.bytes
  have hr := B.returns
  have hts := atoms_spec (ws := (.code yX0_clearCurrent cX0_clearCurrent 2 none :: gw)) B.pre
  have hg : ∀ w ∈ gw, w.before _ s = true := fun w h => hts w (List.mem_cons_of_mem _ h)
  have hown : s.vm.findClass RX0 = some m.cls := findClass_of_methodNamed B.named
  have hlocks := B.notSynchronized
  subst hsz
  have hD := hD0.self (sz := s.heap.size)
  generalize hAe : va_A [(nd, .inr (0, [.int ix, .ref a1, .ref a2, .ref a3, .ref a4, .ref a5, .int up, .int ph, .int rd, .int hq, .ref tk])), (a2, .inl (cI, n, .inl f0))] s.heap.size = A at hD ⊢
  have hA : ∀ q : Nat, s.heap.size ≤ q → A q := fun q h => by rw [← hAe]; exact Or.inr h
  have hS : va_S A s.heap s.heap [] := va_S.rf
  obtain ⟨H, eH⟩ : ∃ z, z = s.heap := ⟨_, rfl⟩
  obtain ⟨locs, elocs⟩ : ∃ z : List Loc, z = [] := ⟨_, rfl⟩
  have hP : va_P (dC, dI) vwCl [(nd, .inr (0, [.int ix, .ref a1, .ref a2, .ref a3, .ref a4, .ref a5, .int up, .int ph, .int rd, .int hq, .ref tk])), (a2, .inl (cI, n, .inl f0))] H := by rw [eH]; exact hP
  have hS : va_S A s.heap H locs := by rw [eH, elocs]; exact hS
  have hl := lv_entry ([.ref nd]) (n := 2) (Nat.le_of_ble_eq_true rfl)
  rw [lg_entry_eq]
  generalize (lg_sl ([.ref nd]) ++ List.replicate (2 - (lg_sl ([.ref nd])).length) Slot.unset).toArray = ls at hl ⊢
  have hl : lv_has ls 2 [(0, .ref nd)] := hl
  rw [← elocs]
  suffices hgoal : ∀ HH, H = HH → W p l e (headSpec (.code yX0_clearCurrent cX0_clearCurrent 2 none :: gw) ({ frames := 0, cells := 0, slots := 0, locals := 0 })).room s m _ below meth c HH locs 0 0 _ (F0 m 0 ls []) from hgoal _ eH
  rintro _ rfl
  refine lv_iconst (v := 0) hx hb dX0_clearCurrent_0 (by decide) ?_
  refine lv_istore_n (lv' := [(1, .int 0), (0, .ref nd)]) hx hb dX0_clearCurrent_1 rfl hl (by decide) rfl (fun ls hl => ?_)
  rw [← nI_0] at hl
  refine lp_X0_clearCurrent hx hb hml hown hg hK nd a1 a2 a3 a4 a5 ix up ph rd hq tk n hn ?_ n 0 (by omega) f0 (fun j hj => absurd hj (Nat.not_lt_zero j)) _ _ hP hD hS ls (lv_sub hl [0, 1] rfl)
  intro f hI H locs hP hD hS ls hl
  have hP9 := hP.sub (ws' := [(nd, .inr (0, [.int ix, .ref a1, .ref a2, .ref a3, .ref a4, .ref a5, .int up, .int ph, .int rd, .int hq, .ref tk])), (a2, .inl (cI, n, .inl f))]) [0, 1] rfl
  have hD9 := hD.sub (ws' := [(nd, .inr (0, [.int ix, .ref a1, .ref a2, .ref a3, .ref a4, .ref a5, .int up, .int ph, .int rd, .int hq, .ref tk])), (a2, .inl (cI, n, .inl f))]) [0, 1] (by decide) rfl
  refine W.widen (k := 0) (n := 0) (by omega) (by omega) ?_
  exact W.vret hx hb hr (fun t ht hW => ⟨⟨(), rfl, trivial, f, hI, by rw [ht]; exact hP9, va_K.moved hW.alike hK, hD9⟩, hS.F ht⟩) hS.2.2 dX0_clearCurrent_24
set_option maxHeartbeats 4000000 in
set_option maxRecDepth 100000 in
/-- Operation(..) -/
theorem c_X1_init (l : Launch) (dC : Nat → ClassId) (dI : Nat → Nat → Nat) (cI cZ cN cO : ClassId) (op n : Nat) (p1 p2 p3 p4 p5 p6 : Int32) (sz : Nat) (hn : n ≤ 31) : Met l yX1_init (.code yX1_init cX1_init 8 none :: gw) ({ frames := 1, cells := 1, slots := n, locals := 12 }) (va_Pc [.ref op, .int p1, .int p2, .int p3, .int p4, .int p5, .int p6, .int (nI n)] (fun U => U.heap.size = sz ∧ va_P (dC, dI) vwCl [(op, .inr (1, [.int 0, .int 0, .int 0, .int 0, .int 0, .int 0, .null, .int 0, .int 0, .int 0, .int 0, .int 0]))] U.heap ∧ va_K (dC, dI) vwCl (gTy cI cZ cN cO) U ∧ va_D (fun _ => True) [(op, .inr (1, [.int 0, .int 0, .int 0, .int 0, .int 0, .int 0, .null, .int 0, .int 0, .int 0, .int 0, .int 0]))])) (va_Qv (fun _ : Unit => True) (fun (_ : Unit) (t : State) => ∃ sa : Nat, va_P (dC, dI) vwCl [(op, .inr (1, [.int p1, .int p2, .int p3, .int p4, .int p5, .int p6, .ref sa, .int 0, .int ((-1)), .int 0, .int ((-1)), .int 0])), (sa, .inl (cI, n, .inl ((fun _ => 0))))] t.heap ∧ va_K (dC, dI) vwCl (gTy cI cZ cN cO) t ∧ va_D (va_A [(op, .inr (1, [.int 0, .int 0, .int 0, .int 0, .int 0, .int 0, .null, .int 0, .int 0, .int 0, .int 0, .int 0]))] sz) [(op, .inr (1, [.int p1, .int p2, .int p3, .int p4, .int p5, .int p6, .ref sa, .int 0, .int ((-1)), .int 0, .int ((-1)), .int 0])), (sa, .inl (cI, n, .inl ((fun _ => 0))))]) (va_A [(op, .inr (1, [.int 0, .int 0, .int 0, .int 0, .int 0, .int 0, .null, .int 0, .int 0, .int 0, .int 0, .int 0]))] sz)) (1) (n) (va_A [(op, .inr (1, [.int 0, .int 0, .int 0, .int 0, .int 0, .int 0, .null, .int 0, .int 0, .int 0, .int 0, .int 0]))] sz) := by
  refine Met.ofW (cc := cX1_init) (maxL := 8) (ret := none) (by decide) rfl ?_
  intro p e s m args below meth c s₁ B hml hv
  obtain ⟨rfl, hsz, hP, hK, hD0⟩ := hv
  have hx := B.exec
  have hb := B.bytes
  have hr := B.returns
  have hts := atoms_spec (ws := (.code yX1_init cX1_init 8 none :: gw)) B.pre
  have hg : ∀ w ∈ gw, w.before _ s = true := fun w h => hts w (List.mem_cons_of_mem _ h)
  have hown : s.vm.findClass RX1 = some m.cls := findClass_of_methodNamed B.named
  have hlocks := B.notSynchronized
  have hin : meth.name = "<init>" := (name_of_methodNamed B.named B.method).1
  subst hsz
  have hD := hD0.self (sz := s.heap.size)
  generalize hAe : va_A [(op, .inr (1, [.int 0, .int 0, .int 0, .int 0, .int 0, .int 0, .null, .int 0, .int 0, .int 0, .int 0, .int 0]))] s.heap.size = A at hD ⊢
  have hA : ∀ q : Nat, s.heap.size ≤ q → A q := fun q h => by rw [← hAe]; exact Or.inr h
  have hS : va_S A s.heap s.heap [] := va_S.rf
  obtain ⟨H, eH⟩ : ∃ z, z = s.heap := ⟨_, rfl⟩
  obtain ⟨locs, elocs⟩ : ∃ z : List Loc, z = [] := ⟨_, rfl⟩
  have hP : va_P (dC, dI) vwCl [(op, .inr (1, [.int 0, .int 0, .int 0, .int 0, .int 0, .int 0, .null, .int 0, .int 0, .int 0, .int 0, .int 0]))] H := by rw [eH]; exact hP
  have hS : va_S A s.heap H locs := by rw [eH, elocs]; exact hS
  have hl := lv_entry ([.ref op, .int p1, .int p2, .int p3, .int p4, .int p5, .int p6, .int (nI n)]) (n := 8) (Nat.le_of_ble_eq_true rfl)
  rw [lg_entry_eq]
  generalize (lg_sl ([.ref op, .int p1, .int p2, .int p3, .int p4, .int p5, .int p6, .int (nI n)]) ++ List.replicate (8 - (lg_sl ([.ref op, .int p1, .int p2, .int p3, .int p4, .int p5, .int p6, .int (nI n)])).length) Slot.unset).toArray = ls at hl ⊢
  have hl : lv_has ls 8 [(0, .ref op), (1, .int p1), (2, .int p2), (3, .int p3), (4, .int p4), (5, .int p5), (6, .int p6), (7, .int (nI n))] := hl
  rw [← elocs]
  suffices hgoal : ∀ HH, H = HH → W p l e (headSpec (.code yX1_init cX1_init 8 none :: gw) ({ frames := 1, cells := 1, slots := n, locals := 12 })).room s m _ below meth c HH locs 0 0 _ (F0 m 0 ls []) from hgoal _ eH
  rintro _ rfl
  refine lv_aload_n hx hb dX1_init_0 rfl (lv_at hl 0 rfl) ?_
  refine W.objInit hx hb hown (hg _ kM_X1_3) (hg _ kI_objectInit) (hg _ kD_objectInit) rfl (by rw [hml]; exact hl.1) rfl dX1_init_1 (Nat.le_of_ble_eq_true rfl) (Nat.le_of_ble_eq_true rfl) ?_
  refine W.eq (g2 := F0 m 4 ls []) rfl ?_
  refine lv_aload_n hx hb dX1_init_4 rfl (lv_at hl 0 rfl) ?_
  refine lv_iconst (v := (-1)) hx hb dX1_init_5 (by decide) ?_
  refine va_put (D := (dC, dI)) (ci := 1) (v := .int ((-1))) (ty := .int) (C := RX1) (T := TX1) (N := 12) hx hb hg inX1 tyX1 tyX1_ok nmX1 hown hK hP hD hS 0 rfl rfl 8 (by decide) (hg _ kF_X1_9) (fun _ h9 => h9) rfl (by decide +kernel) rfl rfl (Nat.le_of_ble_eq_true rfl) dX1_init_6 (fun H locs hP hD hS => ?_)
  have hP : va_P (dC, dI) vwCl [(op, .inr (1, [.int 0, .int 0, .int 0, .int 0, .int 0, .int 0, .null, .int 0, .int ((-1)), .int 0, .int 0, .int 0]))] H := hP
  have hD : va_D A [(op, .inr (1, [.int 0, .int 0, .int 0, .int 0, .int 0, .int 0, .null, .int 0, .int ((-1)), .int 0, .int 0, .int 0]))] := hD
  refine lv_aload_n hx hb dX1_init_9 rfl (lv_at hl 0 rfl) ?_
  refine lv_iconst (v := (-1)) hx hb dX1_init_10 (by decide) ?_
  refine va_put (D := (dC, dI)) (ci := 1) (v := .int ((-1))) (ty := .int) (C := RX1) (T := TX1) (N := 12) hx hb hg inX1 tyX1 tyX1_ok nmX1 hown hK hP hD hS 0 rfl rfl 10 (by decide) (hg _ kF_X1_15) (fun _ h9 => h9) rfl (by decide +kernel) rfl rfl (Nat.le_of_ble_eq_true rfl) dX1_init_11 (fun H locs hP hD hS => ?_)
  have hP : va_P (dC, dI) vwCl [(op, .inr (1, [.int 0, .int 0, .int 0, .int 0, .int 0, .int 0, .null, .int 0, .int ((-1)), .int 0, .int ((-1)), .int 0]))] H := hP
  have hD : va_D A [(op, .inr (1, [.int 0, .int 0, .int 0, .int 0, .int 0, .int 0, .null, .int 0, .int ((-1)), .int 0, .int ((-1)), .int 0]))] := hD
  refine lv_aload_n hx hb dX1_init_14 rfl (lv_at hl 0 rfl) ?_
  refine lv_iload_n hx hb dX1_init_15 rfl (lv_at hl 1 rfl) ?_
  refine va_putF (D := (dC, dI)) (ci := 1) (v := .int p1) (ty := .int) (C := RX1) (T := TX1) (N := 12) hx hb hg inX1 tyX1 tyX1_ok nmX1 hown hK hP hD hS 0 rfl rfl 0 (by decide) (hg _ kF_X1_18) (fun _ h9 => h9) rfl hin rfl (by decide +kernel) rfl rfl (Nat.le_of_ble_eq_true rfl) dX1_init_16 (fun H locs hP hD hS => ?_)
  have hP : va_P (dC, dI) vwCl [(op, .inr (1, [.int p1, .int 0, .int 0, .int 0, .int 0, .int 0, .null, .int 0, .int ((-1)), .int 0, .int ((-1)), .int 0]))] H := hP
  have hD : va_D A [(op, .inr (1, [.int p1, .int 0, .int 0, .int 0, .int 0, .int 0, .null, .int 0, .int ((-1)), .int 0, .int ((-1)), .int 0]))] := hD
  refine lv_aload_n hx hb dX1_init_19 rfl (lv_at hl 0 rfl) ?_
  refine lv_iload_n hx hb dX1_init_20 rfl (lv_at hl 2 rfl) ?_
  refine va_putF (D := (dC, dI)) (ci := 1) (v := .int p2) (ty := .int) (C := RX1) (T := TX1) (N := 12) hx hb hg inX1 tyX1 tyX1_ok nmX1 hown hK hP hD hS 0 rfl rfl 1 (by decide) (hg _ kF_X1_21) (fun _ h9 => h9) rfl hin rfl (by decide +kernel) rfl rfl (Nat.le_of_ble_eq_true rfl) dX1_init_21 (fun H locs hP hD hS => ?_)
  have hP : va_P (dC, dI) vwCl [(op, .inr (1, [.int p1, .int p2, .int 0, .int 0, .int 0, .int 0, .null, .int 0, .int ((-1)), .int 0, .int ((-1)), .int 0]))] H := hP
  have hD : va_D A [(op, .inr (1, [.int p1, .int p2, .int 0, .int 0, .int 0, .int 0, .null, .int 0, .int ((-1)), .int 0, .int ((-1)), .int 0]))] := hD
  refine lv_aload_n hx hb dX1_init_24 rfl (lv_at hl 0 rfl) ?_
  refine lv_iload_n hx hb dX1_init_25 rfl (lv_at hl 3 rfl) ?_
  refine va_putF (D := (dC, dI)) (ci := 1) (v := .int p3) (ty := .int) (C := RX1) (T := TX1) (N := 12) hx hb hg inX1 tyX1 tyX1_ok nmX1 hown hK hP hD hS 0 rfl rfl 2 (by decide) (hg _ kF_X1_24) (fun _ h9 => h9) rfl hin rfl (by decide +kernel) rfl rfl (Nat.le_of_ble_eq_true rfl) dX1_init_26 (fun H locs hP hD hS => ?_)
  have hP : va_P (dC, dI) vwCl [(op, .inr (1, [.int p1, .int p2, .int p3, .int 0, .int 0, .int 0, .null, .int 0, .int ((-1)), .int 0, .int ((-1)), .int 0]))] H := hP
  have hD : va_D A [(op, .inr (1, [.int p1, .int p2, .int p3, .int 0, .int 0, .int 0, .null, .int 0, .int ((-1)), .int 0, .int ((-1)), .int 0]))] := hD
  refine lv_aload_n hx hb dX1_init_29 rfl (lv_at hl 0 rfl) ?_
  refine lv_iload hx hb dX1_init_30 (lv_at hl 4 rfl) ?_
  refine va_putF (D := (dC, dI)) (ci := 1) (v := .int p4) (ty := .int) (C := RX1) (T := TX1) (N := 12) hx hb hg inX1 tyX1 tyX1_ok nmX1 hown hK hP hD hS 0 rfl rfl 3 (by decide) (hg _ kF_X1_27) (fun _ h9 => h9) rfl hin rfl (by decide +kernel) rfl rfl (Nat.le_of_ble_eq_true rfl) dX1_init_32 (fun H locs hP hD hS => ?_)
  have hP : va_P (dC, dI) vwCl [(op, .inr (1, [.int p1, .int p2, .int p3, .int p4, .int 0, .int 0, .null, .int 0, .int ((-1)), .int 0, .int ((-1)), .int 0]))] H := hP
  have hD : va_D A [(op, .inr (1, [.int p1, .int p2, .int p3, .int p4, .int 0, .int 0, .null, .int 0, .int ((-1)), .int 0, .int ((-1)), .int 0]))] := hD
  refine lv_aload_n hx hb dX1_init_35 rfl (lv_at hl 0 rfl) ?_
  refine lv_iload hx hb dX1_init_36 (lv_at hl 5 rfl) ?_
  refine va_putF (D := (dC, dI)) (ci := 1) (v := .int p5) (ty := .int) (C := RX1) (T := TX1) (N := 12) hx hb hg inX1 tyX1 tyX1_ok nmX1 hown hK hP hD hS 0 rfl rfl 4 (by decide) (hg _ kF_X1_30) (fun _ h9 => h9) rfl hin rfl (by decide +kernel) rfl rfl (Nat.le_of_ble_eq_true rfl) dX1_init_38 (fun H locs hP hD hS => ?_)
  have hP : va_P (dC, dI) vwCl [(op, .inr (1, [.int p1, .int p2, .int p3, .int p4, .int p5, .int 0, .null, .int 0, .int ((-1)), .int 0, .int ((-1)), .int 0]))] H := hP
  have hD : va_D A [(op, .inr (1, [.int p1, .int p2, .int p3, .int p4, .int p5, .int 0, .null, .int 0, .int ((-1)), .int 0, .int ((-1)), .int 0]))] := hD
  refine lv_aload_n hx hb dX1_init_41 rfl (lv_at hl 0 rfl) ?_
  refine lv_iload hx hb dX1_init_42 (lv_at hl 6 rfl) ?_
  refine va_putF (D := (dC, dI)) (ci := 1) (v := .int p6) (ty := .int) (C := RX1) (T := TX1) (N := 12) hx hb hg inX1 tyX1 tyX1_ok nmX1 hown hK hP hD hS 0 rfl rfl 5 (by decide) (hg _ kF_X1_33) (fun _ h9 => h9) rfl hin rfl (by decide +kernel) rfl rfl (Nat.le_of_ble_eq_true rfl) dX1_init_44 (fun H locs hP hD hS => ?_)
  have hP : va_P (dC, dI) vwCl [(op, .inr (1, [.int p1, .int p2, .int p3, .int p4, .int p5, .int p6, .null, .int 0, .int ((-1)), .int 0, .int ((-1)), .int 0]))] H := hP
  have hD : va_D A [(op, .inr (1, [.int p1, .int p2, .int p3, .int p4, .int p5, .int p6, .null, .int 0, .int ((-1)), .int 0, .int ((-1)), .int 0]))] := hD
  refine lv_aload_n hx hb dX1_init_47 rfl (lv_at hl 0 rfl) ?_
  refine lv_iload hx hb dX1_init_48 (lv_at hl 7 rfl) ?_
  refine va_newa (atype := .int) (ty := .int) (N' := n) (a0 := (n, .inl (fun _ => 0))) hx hb (hg _ kZ_arrayClass_int) rfl hK hP hD hS hA (fun cA => rfl) (nI_pos (by omega)) (nI_clamp (by omega)) (by show n * 4 ≤ 536870912; omega) (Nat.le_of_ble_eq_true rfl) (by show 0 + n ≤ n; omega) dX1_init_50 (fun q_1 cA H hK hP hD hS => ?_)
  have hcA : cA = cI := gK_arr hK 0 rfl
  rw [hcA] at hP hD
  have hK : va_K (dC, dI) vwCl (gTy cI cZ cN cO) s := hK.sub [0, 1, 2, 3] rfl
  have hP : va_P (dC, dI) vwCl [(op, .inr (1, [.int p1, .int p2, .int p3, .int p4, .int p5, .int p6, .null, .int 0, .int ((-1)), .int 0, .int ((-1)), .int 0])), (q_1, .inl (cI, n, .inl ((fun _ => 0))))] H := hP
  have hD : va_D A [(op, .inr (1, [.int p1, .int p2, .int p3, .int p4, .int p5, .int p6, .null, .int 0, .int ((-1)), .int 0, .int ((-1)), .int 0])), (q_1, .inl (cI, n, .inl ((fun _ => 0))))] := hD
  refine va_putF (D := (dC, dI)) (ci := 1) (v := .ref q_1) (ty := .array .int) (C := RX1) (T := TX1) (N := 12) hx hb hg inX1 tyX1 tyX1_ok nmX1 hown hK hP hD hS 0 rfl rfl 6 (by decide) (hg _ kF_X1_36) (fun _ h9 => h9) rfl hin rfl (by decide +kernel) rfl rfl (Nat.le_of_ble_eq_true rfl) dX1_init_52 (fun H locs hP hD hS => ?_)
  have hP : va_P (dC, dI) vwCl [(op, .inr (1, [.int p1, .int p2, .int p3, .int p4, .int p5, .int p6, .ref q_1, .int 0, .int ((-1)), .int 0, .int ((-1)), .int 0])), (q_1, .inl (cI, n, .inl ((fun _ => 0))))] H := hP
  have hD : va_D A [(op, .inr (1, [.int p1, .int p2, .int p3, .int p4, .int p5, .int p6, .ref q_1, .int 0, .int ((-1)), .int 0, .int ((-1)), .int 0])), (q_1, .inl (cI, n, .inl ((fun _ => 0))))] := hD
  have hP9 := hP.sub (ws' := [(op, .inr (1, [.int p1, .int p2, .int p3, .int p4, .int p5, .int p6, .ref q_1, .int 0, .int ((-1)), .int 0, .int ((-1)), .int 0])), (q_1, .inl (cI, n, .inl ((fun _ => 0))))]) [0, 1] rfl
  have hD9 := hD.sub (ws' := [(op, .inr (1, [.int p1, .int p2, .int p3, .int p4, .int p5, .int p6, .ref q_1, .int 0, .int ((-1)), .int 0, .int ((-1)), .int 0])), (q_1, .inl (cI, n, .inl ((fun _ => 0))))]) [0, 1] (by decide) rfl
  refine W.widen (k := 1) (n := n) (by omega) (by omega) ?_
  exact W.vret hx hb hr (fun t ht hW => ⟨⟨(), rfl, trivial, q_1, by rw [ht]; exact hP9, va_K.moved hW.alike hK, hD9⟩, hS.F ht⟩) hS.2.2 dX1_init_55
set_option maxHeartbeats 4000000 in
set_option maxRecDepth 100000 in
/-- send(.., null) -/
theorem c_X2_send (l : Launch) (dC : Nat → ClassId) (dI : Nat → Nat → Nat) (cI cZ cN cO : ClassId) (ro b1 b2 b3 b4 b5 b6 : Nat) (wd hd ln sn p1 p2 p3 p4 sl : Int32) (fs f2 f3 f4 f5 : Nat → Int32) (sz : Nat) (hin : vp_in (hd + ln - (hd + ln) / 2000 * 2000) 2000) (hsl : fs (hd + ln - (hd + ln) / 2000 * 2000).toNatClampNeg = sl) (hs2 : vp_in sl 2000) : Met l yX2_send (.code yX2_send cX2_send 7 none :: gw) ({ frames := 0, cells := 0, slots := 0, locals := 0 }) (va_Pc [.ref ro, .int p1, .int p2, .int p3, .int p4, .null] (fun U => U.heap.size = sz ∧ va_P (dC, dI) vwCl [(ro, .inr (2, [.int wd, .ref b1, .ref b2, .ref b3, .ref b4, .ref b5, .ref b6, .int hd, .int ln, .int sn])), (b1, .inl (cI, 2000, .inl fs)), (b2, .inl (cI, 2000, .inl f2)), (b3, .inl (cI, 2000, .inl f3)), (b4, .inl (cI, 2000, .inl f4)), (b5, .inl (cI, 2000, .inl f5))] U.heap ∧ va_K (dC, dI) vwCl (gTy cI cZ cN cO) U ∧ va_D (fun _ => True) [(ro, .inr (2, [.int wd, .ref b1, .ref b2, .ref b3, .ref b4, .ref b5, .ref b6, .int hd, .int ln, .int sn])), (b1, .inl (cI, 2000, .inl fs)), (b2, .inl (cI, 2000, .inl f2)), (b3, .inl (cI, 2000, .inl f3)), (b4, .inl (cI, 2000, .inl f4)), (b5, .inl (cI, 2000, .inl f5))])) (va_Qv (fun _ : Unit => True) (fun (_ : Unit) (t : State) => ∃ g2 g3 g4 g5 : Nat → Int32, g2 = upd f2 sl.toNatClampNeg p1 ∧ g3 = upd f3 sl.toNatClampNeg p2 ∧ g4 = upd f4 sl.toNatClampNeg p3 ∧ g5 = upd f5 sl.toNatClampNeg p4 ∧ va_P (dC, dI) vwCl [(ro, .inr (2, [.int wd, .ref b1, .ref b2, .ref b3, .ref b4, .ref b5, .ref b6, .int hd, .int ((ln + 1)), .int ((sn + 1))])), (b1, .inl (cI, 2000, .inl fs)), (b2, .inl (cI, 2000, .inl g2)), (b3, .inl (cI, 2000, .inl g3)), (b4, .inl (cI, 2000, .inl g4)), (b5, .inl (cI, 2000, .inl g5))] t.heap ∧ va_K (dC, dI) vwCl (gTy cI cZ cN cO) t ∧ va_D (va_A [(ro, .inr (2, [.int wd, .ref b1, .ref b2, .ref b3, .ref b4, .ref b5, .ref b6, .int hd, .int ln, .int sn])), (b1, .inl (cI, 2000, .inl fs)), (b2, .inl (cI, 2000, .inl f2)), (b3, .inl (cI, 2000, .inl f3)), (b4, .inl (cI, 2000, .inl f4)), (b5, .inl (cI, 2000, .inl f5))] sz) [(ro, .inr (2, [.int wd, .ref b1, .ref b2, .ref b3, .ref b4, .ref b5, .ref b6, .int hd, .int ((ln + 1)), .int ((sn + 1))])), (b1, .inl (cI, 2000, .inl fs)), (b2, .inl (cI, 2000, .inl g2)), (b3, .inl (cI, 2000, .inl g3)), (b4, .inl (cI, 2000, .inl g4)), (b5, .inl (cI, 2000, .inl g5))]) (va_A [(ro, .inr (2, [.int wd, .ref b1, .ref b2, .ref b3, .ref b4, .ref b5, .ref b6, .int hd, .int ln, .int sn])), (b1, .inl (cI, 2000, .inl fs)), (b2, .inl (cI, 2000, .inl f2)), (b3, .inl (cI, 2000, .inl f3)), (b4, .inl (cI, 2000, .inl f4)), (b5, .inl (cI, 2000, .inl f5))] sz)) (0) (0) (va_A [(ro, .inr (2, [.int wd, .ref b1, .ref b2, .ref b3, .ref b4, .ref b5, .ref b6, .int hd, .int ln, .int sn])), (b1, .inl (cI, 2000, .inl fs)), (b2, .inl (cI, 2000, .inl f2)), (b3, .inl (cI, 2000, .inl f3)), (b4, .inl (cI, 2000, .inl f4)), (b5, .inl (cI, 2000, .inl f5))] sz) := by
  refine Met.ofW (cc := cX2_send) (maxL := 7) (ret := none) (by decide) rfl ?_
  intro p e s m args below meth c s₁ B hml hv
  obtain ⟨rfl, hsz, hP, hK, hD0⟩ := hv
  have hx := B.exec
  have hb := B.bytes
  have hr := B.returns
  have hts := atoms_spec (ws := (.code yX2_send cX2_send 7 none :: gw)) B.pre
  have hg : ∀ w ∈ gw, w.before _ s = true := fun w h => hts w (List.mem_cons_of_mem _ h)
  have hown : s.vm.findClass RX2 = some m.cls := findClass_of_methodNamed B.named
  have hlocks := B.notSynchronized
  subst hsz
  have hD := hD0.self (sz := s.heap.size)
  generalize hAe : va_A [(ro, .inr (2, [.int wd, .ref b1, .ref b2, .ref b3, .ref b4, .ref b5, .ref b6, .int hd, .int ln, .int sn])), (b1, .inl (cI, 2000, .inl fs)), (b2, .inl (cI, 2000, .inl f2)), (b3, .inl (cI, 2000, .inl f3)), (b4, .inl (cI, 2000, .inl f4)), (b5, .inl (cI, 2000, .inl f5))] s.heap.size = A at hD ⊢
  have hA : ∀ q : Nat, s.heap.size ≤ q → A q := fun q h => by rw [← hAe]; exact Or.inr h
  have hS : va_S A s.heap s.heap [] := va_S.rf
  obtain ⟨H, eH⟩ : ∃ z, z = s.heap := ⟨_, rfl⟩
  obtain ⟨locs, elocs⟩ : ∃ z : List Loc, z = [] := ⟨_, rfl⟩
  have hP : va_P (dC, dI) vwCl [(ro, .inr (2, [.int wd, .ref b1, .ref b2, .ref b3, .ref b4, .ref b5, .ref b6, .int hd, .int ln, .int sn])), (b1, .inl (cI, 2000, .inl fs)), (b2, .inl (cI, 2000, .inl f2)), (b3, .inl (cI, 2000, .inl f3)), (b4, .inl (cI, 2000, .inl f4)), (b5, .inl (cI, 2000, .inl f5))] H := by rw [eH]; exact hP
  have hS : va_S A s.heap H locs := by rw [eH, elocs]; exact hS
  have hl := lv_entry ([.ref ro, .int p1, .int p2, .int p3, .int p4, .null]) (n := 7) (Nat.le_of_ble_eq_true rfl)
  rw [lg_entry_eq]
  generalize (lg_sl ([.ref ro, .int p1, .int p2, .int p3, .int p4, .null]) ++ List.replicate (7 - (lg_sl ([.ref ro, .int p1, .int p2, .int p3, .int p4, .null])).length) Slot.unset).toArray = ls at hl ⊢
  have hl : lv_has ls 7 [(0, .ref ro), (1, .int p1), (2, .int p2), (3, .int p3), (4, .int p4), (5, .null)] := hl
  rw [← elocs]
  suffices hgoal : ∀ HH, H = HH → W p l e (headSpec (.code yX2_send cX2_send 7 none :: gw) ({ frames := 0, cells := 0, slots := 0, locals := 0 })).room s m _ below meth c HH locs 0 0 _ (F0 m 0 ls []) from hgoal _ eH
  rintro _ rfl
  refine lv_aload_n hx hb dX2_send_0 rfl (lv_at hl 0 rfl) ?_
  refine va_get (D := (dC, dI)) (ci := 2) (v := .ref b1) (C := RX2) (T := TX2) (N := 10) hx hb hg inX2 hown hK hP 0 rfl rfl 1 (by decide) (hg _ kF_X2_9) (fun _ h9 => h9) rfl dX2_send_1 ?_
  refine lv_aload_n hx hb dX2_send_4 rfl (lv_at hl 0 rfl) ?_
  refine va_get (D := (dC, dI)) (ci := 2) (v := .int hd) (C := RX2) (T := TX2) (N := 10) hx hb hg inX2 hown hK hP 0 rfl rfl 7 (by decide) (hg _ kF_X2_37) (fun _ h9 => h9) rfl dX2_send_5 ?_
  refine lv_aload_n hx hb dX2_send_8 rfl (lv_at hl 0 rfl) ?_
  refine va_get (D := (dC, dI)) (ci := 2) (v := .int ln) (C := RX2) (T := TX2) (N := 10) hx hb hg inX2 hown hK hP 0 rfl rfl 8 (by decide) (hg _ kF_X2_34) (fun _ h9 => h9) rfl dX2_send_9 ?_
  refine lv_iadd hx hb dX2_send_12 ?_
  refine lv_topi (fun t_1 et_1 => ?_)
  refine lv_sipush (v := 2000) hx hb dX2_send_13 (by decide) ?_
  refine lv_irem hx hb dX2_send_16 (by decide) ?_
  refine lv_topi (fun t_2 et_2 => ?_)
  refine va_iald hx hb hK hP 1 0 rfl rfl (by rw [et_2, et_1]; exact hin) dX2_send_17 ?_
  rw [show fs t_2.toNatClampNeg = sl from by rw [et_2, et_1]; exact hsl]
  refine lv_istore (lv' := [(6, .int sl), (0, .ref ro), (1, .int p1), (2, .int p2), (3, .int p3), (4, .int p4), (5, .null)]) hx hb dX2_send_18 hl (by decide) rfl (fun ls hl => ?_)
  refine lv_aload_n hx hb dX2_send_20 rfl (lv_at hl 1 rfl) ?_
  refine va_get (D := (dC, dI)) (ci := 2) (v := .ref b2) (C := RX2) (T := TX2) (N := 10) hx hb hg inX2 hown hK hP 0 rfl rfl 2 (by decide) (hg _ kF_X2_15) (fun _ h9 => h9) rfl dX2_send_21 ?_
  refine lv_iload hx hb dX2_send_24 (lv_at hl 0 rfl) ?_
  refine lv_iload_n hx hb dX2_send_26 rfl (lv_at hl 2 rfl) ?_
  refine va_iast hx hb hK hP hD hS 2 0 rfl rfl hs2 dX2_send_27 (fun H locs hP hD hS => ?_)
  have hP : va_P (dC, dI) vwCl [(ro, .inr (2, [.int wd, .ref b1, .ref b2, .ref b3, .ref b4, .ref b5, .ref b6, .int hd, .int ln, .int sn])), (b1, .inl (cI, 2000, .inl fs)), (b2, .inl (cI, 2000, .inl (upd f2 sl.toNatClampNeg p1))), (b3, .inl (cI, 2000, .inl f3)), (b4, .inl (cI, 2000, .inl f4)), (b5, .inl (cI, 2000, .inl f5))] H := hP
  have hD : va_D A [(ro, .inr (2, [.int wd, .ref b1, .ref b2, .ref b3, .ref b4, .ref b5, .ref b6, .int hd, .int ln, .int sn])), (b1, .inl (cI, 2000, .inl fs)), (b2, .inl (cI, 2000, .inl (upd f2 sl.toNatClampNeg p1))), (b3, .inl (cI, 2000, .inl f3)), (b4, .inl (cI, 2000, .inl f4)), (b5, .inl (cI, 2000, .inl f5))] := hD
  obtain ⟨g_3, eg_3⟩ : ∃ y : Nat → Int32, y = upd f2 sl.toNatClampNeg p1 := ⟨_, rfl⟩
  rw [← eg_3] at hP hD
  have hP : va_P (dC, dI) vwCl [(ro, .inr (2, [.int wd, .ref b1, .ref b2, .ref b3, .ref b4, .ref b5, .ref b6, .int hd, .int ln, .int sn])), (b1, .inl (cI, 2000, .inl fs)), (b2, .inl (cI, 2000, .inl g_3)), (b3, .inl (cI, 2000, .inl f3)), (b4, .inl (cI, 2000, .inl f4)), (b5, .inl (cI, 2000, .inl f5))] H := hP
  have hD : va_D A [(ro, .inr (2, [.int wd, .ref b1, .ref b2, .ref b3, .ref b4, .ref b5, .ref b6, .int hd, .int ln, .int sn])), (b1, .inl (cI, 2000, .inl fs)), (b2, .inl (cI, 2000, .inl g_3)), (b3, .inl (cI, 2000, .inl f3)), (b4, .inl (cI, 2000, .inl f4)), (b5, .inl (cI, 2000, .inl f5))] := hD
  refine lv_aload_n hx hb dX2_send_28 rfl (lv_at hl 1 rfl) ?_
  refine va_get (D := (dC, dI)) (ci := 2) (v := .ref b3) (C := RX2) (T := TX2) (N := 10) hx hb hg inX2 hown hK hP 0 rfl rfl 3 (by decide) (hg _ kF_X2_18) (fun _ h9 => h9) rfl dX2_send_29 ?_
  refine lv_iload hx hb dX2_send_32 (lv_at hl 0 rfl) ?_
  refine lv_iload_n hx hb dX2_send_34 rfl (lv_at hl 3 rfl) ?_
  refine va_iast hx hb hK hP hD hS 3 0 rfl rfl hs2 dX2_send_35 (fun H locs hP hD hS => ?_)
  have hP : va_P (dC, dI) vwCl [(ro, .inr (2, [.int wd, .ref b1, .ref b2, .ref b3, .ref b4, .ref b5, .ref b6, .int hd, .int ln, .int sn])), (b1, .inl (cI, 2000, .inl fs)), (b2, .inl (cI, 2000, .inl g_3)), (b3, .inl (cI, 2000, .inl (upd f3 sl.toNatClampNeg p2))), (b4, .inl (cI, 2000, .inl f4)), (b5, .inl (cI, 2000, .inl f5))] H := hP
  have hD : va_D A [(ro, .inr (2, [.int wd, .ref b1, .ref b2, .ref b3, .ref b4, .ref b5, .ref b6, .int hd, .int ln, .int sn])), (b1, .inl (cI, 2000, .inl fs)), (b2, .inl (cI, 2000, .inl g_3)), (b3, .inl (cI, 2000, .inl (upd f3 sl.toNatClampNeg p2))), (b4, .inl (cI, 2000, .inl f4)), (b5, .inl (cI, 2000, .inl f5))] := hD
  obtain ⟨g_4, eg_4⟩ : ∃ y : Nat → Int32, y = upd f3 sl.toNatClampNeg p2 := ⟨_, rfl⟩
  rw [← eg_4] at hP hD
  have hP : va_P (dC, dI) vwCl [(ro, .inr (2, [.int wd, .ref b1, .ref b2, .ref b3, .ref b4, .ref b5, .ref b6, .int hd, .int ln, .int sn])), (b1, .inl (cI, 2000, .inl fs)), (b2, .inl (cI, 2000, .inl g_3)), (b3, .inl (cI, 2000, .inl g_4)), (b4, .inl (cI, 2000, .inl f4)), (b5, .inl (cI, 2000, .inl f5))] H := hP
  have hD : va_D A [(ro, .inr (2, [.int wd, .ref b1, .ref b2, .ref b3, .ref b4, .ref b5, .ref b6, .int hd, .int ln, .int sn])), (b1, .inl (cI, 2000, .inl fs)), (b2, .inl (cI, 2000, .inl g_3)), (b3, .inl (cI, 2000, .inl g_4)), (b4, .inl (cI, 2000, .inl f4)), (b5, .inl (cI, 2000, .inl f5))] := hD
  refine lv_aload_n hx hb dX2_send_36 rfl (lv_at hl 1 rfl) ?_
  refine va_get (D := (dC, dI)) (ci := 2) (v := .ref b4) (C := RX2) (T := TX2) (N := 10) hx hb hg inX2 hown hK hP 0 rfl rfl 4 (by decide) (hg _ kF_X2_21) (fun _ h9 => h9) rfl dX2_send_37 ?_
  refine lv_iload hx hb dX2_send_40 (lv_at hl 0 rfl) ?_
  refine lv_iload_n hx hb dX2_send_42 rfl (lv_at hl 4 rfl) ?_
  refine va_iast hx hb hK hP hD hS 4 0 rfl rfl hs2 dX2_send_43 (fun H locs hP hD hS => ?_)
  have hP : va_P (dC, dI) vwCl [(ro, .inr (2, [.int wd, .ref b1, .ref b2, .ref b3, .ref b4, .ref b5, .ref b6, .int hd, .int ln, .int sn])), (b1, .inl (cI, 2000, .inl fs)), (b2, .inl (cI, 2000, .inl g_3)), (b3, .inl (cI, 2000, .inl g_4)), (b4, .inl (cI, 2000, .inl (upd f4 sl.toNatClampNeg p3))), (b5, .inl (cI, 2000, .inl f5))] H := hP
  have hD : va_D A [(ro, .inr (2, [.int wd, .ref b1, .ref b2, .ref b3, .ref b4, .ref b5, .ref b6, .int hd, .int ln, .int sn])), (b1, .inl (cI, 2000, .inl fs)), (b2, .inl (cI, 2000, .inl g_3)), (b3, .inl (cI, 2000, .inl g_4)), (b4, .inl (cI, 2000, .inl (upd f4 sl.toNatClampNeg p3))), (b5, .inl (cI, 2000, .inl f5))] := hD
  obtain ⟨g_5, eg_5⟩ : ∃ y : Nat → Int32, y = upd f4 sl.toNatClampNeg p3 := ⟨_, rfl⟩
  rw [← eg_5] at hP hD
  have hP : va_P (dC, dI) vwCl [(ro, .inr (2, [.int wd, .ref b1, .ref b2, .ref b3, .ref b4, .ref b5, .ref b6, .int hd, .int ln, .int sn])), (b1, .inl (cI, 2000, .inl fs)), (b2, .inl (cI, 2000, .inl g_3)), (b3, .inl (cI, 2000, .inl g_4)), (b4, .inl (cI, 2000, .inl g_5)), (b5, .inl (cI, 2000, .inl f5))] H := hP
  have hD : va_D A [(ro, .inr (2, [.int wd, .ref b1, .ref b2, .ref b3, .ref b4, .ref b5, .ref b6, .int hd, .int ln, .int sn])), (b1, .inl (cI, 2000, .inl fs)), (b2, .inl (cI, 2000, .inl g_3)), (b3, .inl (cI, 2000, .inl g_4)), (b4, .inl (cI, 2000, .inl g_5)), (b5, .inl (cI, 2000, .inl f5))] := hD
  refine lv_aload_n hx hb dX2_send_44 rfl (lv_at hl 1 rfl) ?_
  refine va_get (D := (dC, dI)) (ci := 2) (v := .ref b5) (C := RX2) (T := TX2) (N := 10) hx hb hg inX2 hown hK hP 0 rfl rfl 5 (by decide) (hg _ kF_X2_24) (fun _ h9 => h9) rfl dX2_send_45 ?_
  refine lv_iload hx hb dX2_send_48 (lv_at hl 0 rfl) ?_
  refine lv_iload hx hb dX2_send_50 (lv_at hl 5 rfl) ?_
  refine va_iast hx hb hK hP hD hS 5 0 rfl rfl hs2 dX2_send_52 (fun H locs hP hD hS => ?_)
  have hP : va_P (dC, dI) vwCl [(ro, .inr (2, [.int wd, .ref b1, .ref b2, .ref b3, .ref b4, .ref b5, .ref b6, .int hd, .int ln, .int sn])), (b1, .inl (cI, 2000, .inl fs)), (b2, .inl (cI, 2000, .inl g_3)), (b3, .inl (cI, 2000, .inl g_4)), (b4, .inl (cI, 2000, .inl g_5)), (b5, .inl (cI, 2000, .inl (upd f5 sl.toNatClampNeg p4)))] H := hP
  have hD : va_D A [(ro, .inr (2, [.int wd, .ref b1, .ref b2, .ref b3, .ref b4, .ref b5, .ref b6, .int hd, .int ln, .int sn])), (b1, .inl (cI, 2000, .inl fs)), (b2, .inl (cI, 2000, .inl g_3)), (b3, .inl (cI, 2000, .inl g_4)), (b4, .inl (cI, 2000, .inl g_5)), (b5, .inl (cI, 2000, .inl (upd f5 sl.toNatClampNeg p4)))] := hD
  obtain ⟨g_6, eg_6⟩ : ∃ y : Nat → Int32, y = upd f5 sl.toNatClampNeg p4 := ⟨_, rfl⟩
  rw [← eg_6] at hP hD
  have hP : va_P (dC, dI) vwCl [(ro, .inr (2, [.int wd, .ref b1, .ref b2, .ref b3, .ref b4, .ref b5, .ref b6, .int hd, .int ln, .int sn])), (b1, .inl (cI, 2000, .inl fs)), (b2, .inl (cI, 2000, .inl g_3)), (b3, .inl (cI, 2000, .inl g_4)), (b4, .inl (cI, 2000, .inl g_5)), (b5, .inl (cI, 2000, .inl g_6))] H := hP
  have hD : va_D A [(ro, .inr (2, [.int wd, .ref b1, .ref b2, .ref b3, .ref b4, .ref b5, .ref b6, .int hd, .int ln, .int sn])), (b1, .inl (cI, 2000, .inl fs)), (b2, .inl (cI, 2000, .inl g_3)), (b3, .inl (cI, 2000, .inl g_4)), (b4, .inl (cI, 2000, .inl g_5)), (b5, .inl (cI, 2000, .inl g_6))] := hD
  refine lv_aloadN hx hb dX2_send_53 (lv_at hl 6 rfl) ?_
  refine lv_ifnullN (tgt := 79) hx hb dX2_send_55 (by decide) ?_
  refine lv_aload_n hx hb dX2_send_79 rfl (lv_at hl 1 rfl) ?_
  refine lv_dup hx hb dX2_send_80 rfl ?_
  refine va_get (D := (dC, dI)) (ci := 2) (v := .int ln) (C := RX2) (T := TX2) (N := 10) hx hb hg inX2 hown hK hP 0 rfl rfl 8 (by decide) (hg _ kF_X2_34) (fun _ h9 => h9) rfl dX2_send_81 ?_
  refine lv_iconst (v := 1) hx hb dX2_send_84 (by decide) ?_
  refine lv_iadd hx hb dX2_send_85 ?_
  refine va_put (D := (dC, dI)) (ci := 2) (v := .int ((ln + 1))) (ty := .int) (C := RX2) (T := TX2) (N := 10) hx hb hg inX2 tyX2 tyX2_ok nmX2 hown hK hP hD hS 0 rfl rfl 8 (by decide) (hg _ kF_X2_34) (fun _ h9 => h9) rfl (by decide +kernel) rfl rfl (Nat.le_of_ble_eq_true rfl) dX2_send_86 (fun H locs hP hD hS => ?_)
  have hP : va_P (dC, dI) vwCl [(ro, .inr (2, [.int wd, .ref b1, .ref b2, .ref b3, .ref b4, .ref b5, .ref b6, .int hd, .int ((ln + 1)), .int sn])), (b1, .inl (cI, 2000, .inl fs)), (b2, .inl (cI, 2000, .inl g_3)), (b3, .inl (cI, 2000, .inl g_4)), (b4, .inl (cI, 2000, .inl g_5)), (b5, .inl (cI, 2000, .inl g_6))] H := hP
  have hD : va_D A [(ro, .inr (2, [.int wd, .ref b1, .ref b2, .ref b3, .ref b4, .ref b5, .ref b6, .int hd, .int ((ln + 1)), .int sn])), (b1, .inl (cI, 2000, .inl fs)), (b2, .inl (cI, 2000, .inl g_3)), (b3, .inl (cI, 2000, .inl g_4)), (b4, .inl (cI, 2000, .inl g_5)), (b5, .inl (cI, 2000, .inl g_6))] := hD
  refine lv_aload_n hx hb dX2_send_89 rfl (lv_at hl 1 rfl) ?_
  refine lv_dup hx hb dX2_send_90 rfl ?_
  refine va_get (D := (dC, dI)) (ci := 2) (v := .int sn) (C := RX2) (T := TX2) (N := 10) hx hb hg inX2 hown hK hP 0 rfl rfl 9 (by decide) (hg _ kF_X2_46) (fun _ h9 => h9) rfl dX2_send_91 ?_
  refine lv_iconst (v := 1) hx hb dX2_send_94 (by decide) ?_
  refine lv_iadd hx hb dX2_send_95 ?_
  refine va_put (D := (dC, dI)) (ci := 2) (v := .int ((sn + 1))) (ty := .int) (C := RX2) (T := TX2) (N := 10) hx hb hg inX2 tyX2 tyX2_ok nmX2 hown hK hP hD hS 0 rfl rfl 9 (by decide) (hg _ kF_X2_46) (fun _ h9 => h9) rfl (by decide +kernel) rfl rfl (Nat.le_of_ble_eq_true rfl) dX2_send_96 (fun H locs hP hD hS => ?_)
  have hP : va_P (dC, dI) vwCl [(ro, .inr (2, [.int wd, .ref b1, .ref b2, .ref b3, .ref b4, .ref b5, .ref b6, .int hd, .int ((ln + 1)), .int ((sn + 1))])), (b1, .inl (cI, 2000, .inl fs)), (b2, .inl (cI, 2000, .inl g_3)), (b3, .inl (cI, 2000, .inl g_4)), (b4, .inl (cI, 2000, .inl g_5)), (b5, .inl (cI, 2000, .inl g_6))] H := hP
  have hD : va_D A [(ro, .inr (2, [.int wd, .ref b1, .ref b2, .ref b3, .ref b4, .ref b5, .ref b6, .int hd, .int ((ln + 1)), .int ((sn + 1))])), (b1, .inl (cI, 2000, .inl fs)), (b2, .inl (cI, 2000, .inl g_3)), (b3, .inl (cI, 2000, .inl g_4)), (b4, .inl (cI, 2000, .inl g_5)), (b5, .inl (cI, 2000, .inl g_6))] := hD
  have hP9 := hP.sub (ws' := [(ro, .inr (2, [.int wd, .ref b1, .ref b2, .ref b3, .ref b4, .ref b5, .ref b6, .int hd, .int ((ln + 1)), .int ((sn + 1))])), (b1, .inl (cI, 2000, .inl fs)), (b2, .inl (cI, 2000, .inl g_3)), (b3, .inl (cI, 2000, .inl g_4)), (b4, .inl (cI, 2000, .inl g_5)), (b5, .inl (cI, 2000, .inl g_6))]) [0, 1, 2, 3, 4, 5] rfl
  have hD9 := hD.sub (ws' := [(ro, .inr (2, [.int wd, .ref b1, .ref b2, .ref b3, .ref b4, .ref b5, .ref b6, .int hd, .int ((ln + 1)), .int ((sn + 1))])), (b1, .inl (cI, 2000, .inl fs)), (b2, .inl (cI, 2000, .inl g_3)), (b3, .inl (cI, 2000, .inl g_4)), (b4, .inl (cI, 2000, .inl g_5)), (b5, .inl (cI, 2000, .inl g_6))]) [0, 1, 2, 3, 4, 5] (by decide) rfl
  refine W.widen (k := 0) (n := 0) (by omega) (by omega) ?_
  exact W.vret hx hb hr (fun t ht hW => ⟨⟨(), rfl, trivial, g_3, g_4, g_5, g_6, eg_3, eg_4, eg_5, eg_6, by rw [ht]; exact hP9, va_K.moved hW.alike hK, hD9⟩, hS.F ht⟩) hS.2.2 dX2_send_99
set_option maxHeartbeats 4000000 in
set_option maxRecDepth 100000 in
theorem lp_X3_sendToAll {p : Program} {l : Launch} {e : Env} {R : Room} {s : State} {m : MethodId} {args : Array Value} {below : List Frame} {meth : Method} {c : Code} {cells slots : Nat} {Q : State → Prop} {A : Nat → Prop} {H0 : Heap} {dC : Nat → ClassId} {dI : Nat → Nat → Nat} {cI cZ cN cO : ClassId} (hx : p.tables.exec = Jvm.exec) (hb : c.code = cX3_sendToAll) (hml : c.maxLocals = 6) (hown : s.vm.findClass RX3 = some m.cls) (hg : ∀ w ∈ gw, w.before args s = true) (hK : va_K (dC, dI) vwCl (gTy cI cZ cN cO) s) (hA : ∀ q : Nat, H0.size ≤ q → A q) (x na ro oa n : Nat) (bg en mo ca bo mc : Int32) (fn : Nat → Option Nat) (nd a1 a2 a3 a4 a5 : Nat) (ix up ph rd hq : Int32) (tk : Nat) (b1 b2 b3 b4 b5 b6 : Nat) (wd : Int32) (p2 p3 : Int32) (fs : Nat → Int32) (hn : n ≤ 31) (hfs : ∀ j, j < 2000 → fs j = nI j) (hRc : cells + 0 ≤ R.cells) (hRs : slots + 0 ≤ R.slots) (hRf : 1 ≤ R.frames) (hRl : 26 ≤ R.locals) (kk : ∀ (f2 : Nat → Int32) (f3 : Nat → Int32) (f4 : Nat → Int32) (f5 : Nat → Int32), ∀ (H : Heap) (locs : List Loc), va_P (dC, dI) vwCl [(x, .inr (3, [.ref na, .ref ro, .ref oa, .int bg, .int en, .int mo, .int ca, .int bo, .int mc])), (na, .inl (cN, n, .inr (.inr (.inr (.inr fn))))), (nd, .inr (0, [.int ix, .ref a1, .ref a2, .ref a3, .ref a4, .ref a5, .int up, .int p3, .int ((rd + 1)), .int 0, .ref tk])), (ro, .inr (2, [.int wd, .ref b1, .ref b2, .ref b3, .ref b4, .ref b5, .ref b6, .int 0, .int ((nI n)), .int ((nI n))])), (b1, .inl (cI, 2000, .inl fs)), (b2, .inl (cI, 2000, .inl f2)), (b3, .inl (cI, 2000, .inl f3)), (b4, .inl (cI, 2000, .inl f4)), (b5, .inl (cI, 2000, .inl f5))] H → va_D A [(x, .inr (3, [.ref na, .ref ro, .ref oa, .int bg, .int en, .int mo, .int ca, .int bo, .int mc])), (na, .inl (cN, n, .inr (.inr (.inr (.inr fn))))), (nd, .inr (0, [.int ix, .ref a1, .ref a2, .ref a3, .ref a4, .ref a5, .int up, .int p3, .int ((rd + 1)), .int 0, .ref tk])), (ro, .inr (2, [.int wd, .ref b1, .ref b2, .ref b3, .ref b4, .ref b5, .ref b6, .int 0, .int ((nI n)), .int ((nI n))])), (b1, .inl (cI, 2000, .inl fs)), (b2, .inl (cI, 2000, .inl f2)), (b3, .inl (cI, 2000, .inl f3)), (b4, .inl (cI, 2000, .inl f4)), (b5, .inl (cI, 2000, .inl f5))] → va_S A H0 H locs → ∀ ls : Array Slot, lv_has ls 6 [(5, .int (nI n)), (0, .ref x), (1, .ref nd), (2, .int p2), (3, .int p3), (4, .null)] → W p l e R s m args below meth c H locs cells slots Q (F0 m 44 ls [])) : ∀ (k i : Nat), i + k = n → ∀ (f2 : Nat → Int32) (f3 : Nat → Int32) (f4 : Nat → Int32) (f5 : Nat → Int32), ∀ (H : Heap) (locs : List Loc), va_P (dC, dI) vwCl [(x, .inr (3, [.ref na, .ref ro, .ref oa, .int bg, .int en, .int mo, .int ca, .int bo, .int mc])), (na, .inl (cN, n, .inr (.inr (.inr (.inr fn))))), (nd, .inr (0, [.int ix, .ref a1, .ref a2, .ref a3, .ref a4, .ref a5, .int up, .int p3, .int ((rd + 1)), .int 0, .ref tk])), (ro, .inr (2, [.int wd, .ref b1, .ref b2, .ref b3, .ref b4, .ref b5, .ref b6, .int 0, .int ((nI i)), .int ((nI i))])), (b1, .inl (cI, 2000, .inl fs)), (b2, .inl (cI, 2000, .inl f2)), (b3, .inl (cI, 2000, .inl f3)), (b4, .inl (cI, 2000, .inl f4)), (b5, .inl (cI, 2000, .inl f5))] H → va_D A [(x, .inr (3, [.ref na, .ref ro, .ref oa, .int bg, .int en, .int mo, .int ca, .int bo, .int mc])), (na, .inl (cN, n, .inr (.inr (.inr (.inr fn))))), (nd, .inr (0, [.int ix, .ref a1, .ref a2, .ref a3, .ref a4, .ref a5, .int up, .int p3, .int ((rd + 1)), .int 0, .ref tk])), (ro, .inr (2, [.int wd, .ref b1, .ref b2, .ref b3, .ref b4, .ref b5, .ref b6, .int 0, .int ((nI i)), .int ((nI i))])), (b1, .inl (cI, 2000, .inl fs)), (b2, .inl (cI, 2000, .inl f2)), (b3, .inl (cI, 2000, .inl f3)), (b4, .inl (cI, 2000, .inl f4)), (b5, .inl (cI, 2000, .inl f5))] → va_S A H0 H locs → ∀ ls : Array Slot, lv_has ls 6 [(5, .int (nI i)), (0, .ref x), (1, .ref nd), (2, .int p2), (3, .int p3), (4, .null)] → W p l e R s m args below meth c H locs cells slots Q (F0 m 8 ls []) := by
  intro k
  induction k with
  | zero =>
    intro i hik
    intro f2 f3 f4 f5 H locs hP hD hS ls hl
    have hi : n = i := by omega
    subst hi
    refine lv_iload hx hb dX3_sendToAll_8 (lv_at hl 0 rfl) ?_
    refine lv_aload_n hx hb dX3_sendToAll_10 rfl (lv_at hl 1 rfl) ?_
    refine va_get (D := (dC, dI)) (ci := 3) (v := .ref na) (C := RX3) (T := TX3) (N := 9) hx hb hg inX3 hown hK hP 0 rfl rfl 0 (by decide) (hg _ kF_X3_11) (fun _ h9 => h9) rfl dX3_sendToAll_11 ?_
    refine va_alen (v := nI n) hx hb hK hP 1 2 rfl rfl (by rfl) dX3_sendToAll_14 ?_
    refine lv_icmp_ge (tgt := 44) hx hb dX3_sendToAll_15 (by decide) (fun c_15 => ?_) (fun c_15 => absurd (Int32.le_refl _) c_15)
    exact kk f2 f3 f4 f5 _ _ hP hD hS ls (lv_sub hl [0, 1, 2, 3, 4, 5] rfl)
  | succ k ih =>
    intro i hik
    intro f2 f3 f4 f5 H locs hP hD hS ls hl
    have hi : i < n := by omega
    refine lv_iload hx hb dX3_sendToAll_8 (lv_at hl 0 rfl) ?_
    refine lv_aload_n hx hb dX3_sendToAll_10 rfl (lv_at hl 1 rfl) ?_
    refine va_get (D := (dC, dI)) (ci := 3) (v := .ref na) (C := RX3) (T := TX3) (N := 9) hx hb hg inX3 hown hK hP 0 rfl rfl 0 (by decide) (hg _ kF_X3_11) (fun _ h9 => h9) rfl dX3_sendToAll_11 ?_
    refine va_alen (v := nI n) hx hb hK hP 1 2 rfl rfl (by rfl) dX3_sendToAll_14 ?_
    refine lv_icmp_ge (tgt := 44) hx hb dX3_sendToAll_15 (by decide) (fun c_15 => absurd c_15 (nI_ge hi (by omega))) (fun c_15 => ?_)
    refine lv_aload_n hx hb dX3_sendToAll_18 rfl (lv_at hl 1 rfl) ?_
    refine va_get (D := (dC, dI)) (ci := 3) (v := .ref ro) (C := RX3) (T := TX3) (N := 9) hx hb hg inX3 hown hK hP 0 rfl rfl 1 (by decide) (hg _ kF_X3_23) (fun _ h9 => h9) rfl dX3_sendToAll_19 ?_
    refine lv_iload_n hx hb dX3_sendToAll_22 rfl (lv_at hl 3 rfl) ?_
    refine lv_aload_n hx hb dX3_sendToAll_23 rfl (lv_at hl 2 rfl) ?_
    refine va_get (D := (dC, dI)) (ci := 0) (v := .int ix) (C := RX0) (T := TX0) (N := 11) hx hb hg inX0 hown hK hP 2 rfl rfl 0 (by decide) (hg _ kF_X3_173) (fun _ h9 => h9) rfl dX3_sendToAll_24 ?_
    refine lv_iload hx hb dX3_sendToAll_27 (lv_at hl 0 rfl) ?_
    refine lv_aload_n hx hb dX3_sendToAll_29 rfl (lv_at hl 2 rfl) ?_
    refine va_get (D := (dC, dI)) (ci := 0) (v := .int ((rd + 1))) (C := RX0) (T := TX0) (N := 11) hx hb hg inX0 hown hK hP 2 rfl rfl 8 (by decide) (hg _ kF_X3_284) (fun _ h9 => h9) rfl dX3_sendToAll_30 ?_
    refine lv_aloadN hx hb dX3_sendToAll_33 (lv_at hl 5 rfl) ?_
    have hPc := hP.sub (ws' := [(ro, .inr (2, [.int wd, .ref b1, .ref b2, .ref b3, .ref b4, .ref b5, .ref b6, .int 0, .int ((nI i)), .int ((nI i))])), (b1, .inl (cI, 2000, .inl fs)), (b2, .inl (cI, 2000, .inl f2)), (b3, .inl (cI, 2000, .inl f3)), (b4, .inl (cI, 2000, .inl f4)), (b5, .inl (cI, 2000, .inl f5))]) [3, 4, 5, 6, 7, 8] rfl
    have hDc := hD.sub (ws' := [(ro, .inr (2, [.int wd, .ref b1, .ref b2, .ref b3, .ref b4, .ref b5, .ref b6, .int 0, .int ((nI i)), .int ((nI i))])), (b1, .inl (cI, 2000, .inl fs)), (b2, .inl (cI, 2000, .inl f2)), (b3, .inl (cI, 2000, .inl f3)), (b4, .inl (cI, 2000, .inl f4)), (b5, .inl (cI, 2000, .inl f5))]) [3, 4, 5, 6, 7, 8] (by decide) rfl
    have hFc := va_free (wc := [(ro, .inr (2, [.int wd, .ref b1, .ref b2, .ref b3, .ref b4, .ref b5, .ref b6, .int 0, .int ((nI i)), .int ((nI i))])), (b1, .inl (cI, 2000, .inl fs)), (b2, .inl (cI, 2000, .inl f2)), (b3, .inl (cI, 2000, .inl f3)), (b4, .inl (cI, 2000, .inl f4)), (b5, .inl (cI, 2000, .inl f5))]) hD hS hA [3, 4, 5, 6, 7, 8] rfl
    refine va_callv (va_runV (As := [.int p2, .int ix, .int (nI i), .int ((rd + 1)), .null]) (rest := []) ⟨hx, hb, hml, hown, hg⟩ (c_X2_send l dC dI cI cZ cN cO ro b1 b2 b3 b4 b5 b6 wd 0 (nI i) (nI i) p2 ix (nI i) (rd + 1) (nI i) fs f2 f3 f4 f5 H.size (by rw [gMod (by omega)]; exact vp_in_nI (by omega) (by omega)) (by rw [gMod (by omega), nI_clamp (by omega)]; exact hfs i (by omega)) (vp_in_nI (by omega) (by omega))) (cwV 5 hg (gw_V kM_X3_182 kI_X2_send kS_X2_send kN_X2 kD_X2_send) rfl rfl rfl (by decide +kernel) ⟨(by show 0 + 1 ≤ R.frames; omega), (by show 8 + (7 + 11) + 0 ≤ R.locals; omega)⟩) ⟨fun a U g mk q => by obtain ⟨q0, q1, qP, qK, qD⟩ := q; exact ⟨q0, q1, qP, va_K.moved (u := U) (U := U.calling g mk a) (Vm.Alike.refl U.vm) qK, qD⟩, va_recv hK hP (ci := 2) (q0 := 3) rfl rfl, fun U hU hW => ⟨rfl, by rw [hU], by rw [hU]; exact hPc, va_K.moved hW.alike hK, hDc.weaken (fun _ _ _ _ => trivial)⟩⟩ rfl rfl hl.1 rfl (lv_room (Nat.le_of_ble_eq_true rfl)) dX3_sendToAll_35 ⟨hRc, hRs⟩) hS (fun q _ h => hFc q h) hFc (fun u t H1 locs ht hvm hw hB hz1 hk1 hS => ?_)
    obtain ⟨g_1, g_2, g_3, g_4, h_5, h_6, h_7, h_8, hP1, hK1, hD1⟩ := hB
    rw [ht] at hP1
    obtain ⟨hP, hD⟩ := va_join (wr := [(x, .inr (3, [.ref na, .ref ro, .ref oa, .int bg, .int en, .int mo, .int ca, .int bo, .int mc])), (na, .inl (cN, n, .inr (.inr (.inr (.inr fn))))), (nd, .inr (0, [.int ix, .ref a1, .ref a2, .ref a3, .ref a4, .ref a5, .int up, .int p3, .int ((rd + 1)), .int 0, .ref tk]))]) (w1 := [(ro, .inr (2, [.int wd, .ref b1, .ref b2, .ref b3, .ref b4, .ref b5, .ref b6, .int 0, .int ((nI i + 1)), .int ((nI i + 1))])), (b1, .inl (cI, 2000, .inl fs)), (b2, .inl (cI, 2000, .inl g_1)), (b3, .inl (cI, 2000, .inl g_2)), (b4, .inl (cI, 2000, .inl g_3)), (b5, .inl (cI, 2000, .inl g_4))]) hP hD [3, 4, 5, 6, 7, 8] [0, 1, 2] rfl rfl (by decide) (by decide) hk1 hFc hP1 hD1
    clear hPc hDc hFc hP1 hK1 hD1 hz1 hk1 ht
    generalize H1 = H at hP hS ⊢
    have hP : va_P (dC, dI) vwCl [(x, .inr (3, [.ref na, .ref ro, .ref oa, .int bg, .int en, .int mo, .int ca, .int bo, .int mc])), (na, .inl (cN, n, .inr (.inr (.inr (.inr fn))))), (nd, .inr (0, [.int ix, .ref a1, .ref a2, .ref a3, .ref a4, .ref a5, .int up, .int p3, .int ((rd + 1)), .int 0, .ref tk])), (ro, .inr (2, [.int wd, .ref b1, .ref b2, .ref b3, .ref b4, .ref b5, .ref b6, .int 0, .int ((nI i + 1)), .int ((nI i + 1))])), (b1, .inl (cI, 2000, .inl fs)), (b2, .inl (cI, 2000, .inl g_1)), (b3, .inl (cI, 2000, .inl g_2)), (b4, .inl (cI, 2000, .inl g_3)), (b5, .inl (cI, 2000, .inl g_4))] H := hP
    have hD : va_D A [(x, .inr (3, [.ref na, .ref ro, .ref oa, .int bg, .int en, .int mo, .int ca, .int bo, .int mc])), (na, .inl (cN, n, .inr (.inr (.inr (.inr fn))))), (nd, .inr (0, [.int ix, .ref a1, .ref a2, .ref a3, .ref a4, .ref a5, .int up, .int p3, .int ((rd + 1)), .int 0, .ref tk])), (ro, .inr (2, [.int wd, .ref b1, .ref b2, .ref b3, .ref b4, .ref b5, .ref b6, .int 0, .int ((nI i + 1)), .int ((nI i + 1))])), (b1, .inl (cI, 2000, .inl fs)), (b2, .inl (cI, 2000, .inl g_1)), (b3, .inl (cI, 2000, .inl g_2)), (b4, .inl (cI, 2000, .inl g_3)), (b5, .inl (cI, 2000, .inl g_4))] := hD
    obtain ⟨x_9, ex_9⟩ : ∃ y : Int32, y = (nI i) + 1 := ⟨_, rfl⟩
    refine lv_iinc (v := x_9) (lv' := [(5, .int x_9), (0, .ref x), (1, .ref nd), (2, .int p2), (3, .int p3), (4, .null)]) hx hb dX3_sendToAll_38 hl (k := 0) rfl (by rw [ex_9]; rfl) (by decide) rfl (fun ls hl => ?_)
    refine lv_goto (tgt := 8) hx hb dX3_sendToAll_41 (by decide) ?_
    have hx2 : x_9 = nI (i + 1) := by rw [ex_9]; exact nI_1 i
    rw [hx2] at hl
    rw [nI_1 i] at hP hD
    exact ih (i + 1) (by omega) g_1 g_2 g_3 g_4 _ _ hP hD hS ls (lv_sub hl [0, 1, 2, 3, 4, 5] rfl)
set_option maxHeartbeats 4000000 in
set_option maxRecDepth 100000 in
/-- sendToAll(nd, p2, p3, null) with an empty row -/
theorem c_X3_sendToAll (l : Launch) (dC : Nat → ClassId) (dI : Nat → Nat → Nat) (cI cZ cN cO : ClassId) (x na ro oa n : Nat) (bg en mo ca bo mc : Int32) (fn : Nat → Option Nat) (nd a1 a2 a3 a4 a5 : Nat) (ix up ph rd hq : Int32) (tk : Nat) (b1 b2 b3 b4 b5 b6 : Nat) (wd : Int32) (p2 p3 : Int32) (fs f2 f3 f4 f5 : Nat → Int32) (sz : Nat) (hn : n ≤ 31) (hfs : ∀ j, j < 2000 → fs j = nI j) : Met l yX3_sendToAll (.code yX3_sendToAll cX3_sendToAll 6 none :: gw) ({ frames := 1, cells := 0, slots := 0, locals := 26 }) (va_Pc [.ref x, .ref nd, .int p2, .int p3, .null] (fun U => U.heap.size = sz ∧ va_P (dC, dI) vwCl [(x, .inr (3, [.ref na, .ref ro, .ref oa, .int bg, .int en, .int mo, .int ca, .int bo, .int mc])), (na, .inl (cN, n, .inr (.inr (.inr (.inr fn))))), (nd, .inr (0, [.int ix, .ref a1, .ref a2, .ref a3, .ref a4, .ref a5, .int up, .int ph, .int rd, .int hq, .ref tk])), (ro, .inr (2, [.int wd, .ref b1, .ref b2, .ref b3, .ref b4, .ref b5, .ref b6, .int 0, .int 0, .int 0])), (b1, .inl (cI, 2000, .inl fs)), (b2, .inl (cI, 2000, .inl f2)), (b3, .inl (cI, 2000, .inl f3)), (b4, .inl (cI, 2000, .inl f4)), (b5, .inl (cI, 2000, .inl f5))] U.heap ∧ va_K (dC, dI) vwCl (gTy cI cZ cN cO) U ∧ va_D (fun _ => True) [(x, .inr (3, [.ref na, .ref ro, .ref oa, .int bg, .int en, .int mo, .int ca, .int bo, .int mc])), (na, .inl (cN, n, .inr (.inr (.inr (.inr fn))))), (nd, .inr (0, [.int ix, .ref a1, .ref a2, .ref a3, .ref a4, .ref a5, .int up, .int ph, .int rd, .int hq, .ref tk])), (ro, .inr (2, [.int wd, .ref b1, .ref b2, .ref b3, .ref b4, .ref b5, .ref b6, .int 0, .int 0, .int 0])), (b1, .inl (cI, 2000, .inl fs)), (b2, .inl (cI, 2000, .inl f2)), (b3, .inl (cI, 2000, .inl f3)), (b4, .inl (cI, 2000, .inl f4)), (b5, .inl (cI, 2000, .inl f5))])) (va_Qv (fun _ : Unit => True) (fun (_ : Unit) (t : State) => ∃ g2 g3 g4 g5 : Nat → Int32, va_P (dC, dI) vwCl [(x, .inr (3, [.ref na, .ref ro, .ref oa, .int bg, .int en, .int mo, .int ca, .int bo, .int mc])), (na, .inl (cN, n, .inr (.inr (.inr (.inr fn))))), (nd, .inr (0, [.int ix, .ref a1, .ref a2, .ref a3, .ref a4, .ref a5, .int up, .int p3, .int ((rd + 1)), .int 0, .ref tk])), (ro, .inr (2, [.int wd, .ref b1, .ref b2, .ref b3, .ref b4, .ref b5, .ref b6, .int 0, .int ((nI n)), .int ((nI n))])), (b1, .inl (cI, 2000, .inl fs)), (b2, .inl (cI, 2000, .inl g2)), (b3, .inl (cI, 2000, .inl g3)), (b4, .inl (cI, 2000, .inl g4)), (b5, .inl (cI, 2000, .inl g5))] t.heap ∧ va_K (dC, dI) vwCl (gTy cI cZ cN cO) t ∧ va_D (va_A [(x, .inr (3, [.ref na, .ref ro, .ref oa, .int bg, .int en, .int mo, .int ca, .int bo, .int mc])), (na, .inl (cN, n, .inr (.inr (.inr (.inr fn))))), (nd, .inr (0, [.int ix, .ref a1, .ref a2, .ref a3, .ref a4, .ref a5, .int up, .int ph, .int rd, .int hq, .ref tk])), (ro, .inr (2, [.int wd, .ref b1, .ref b2, .ref b3, .ref b4, .ref b5, .ref b6, .int 0, .int 0, .int 0])), (b1, .inl (cI, 2000, .inl fs)), (b2, .inl (cI, 2000, .inl f2)), (b3, .inl (cI, 2000, .inl f3)), (b4, .inl (cI, 2000, .inl f4)), (b5, .inl (cI, 2000, .inl f5))] sz) [(x, .inr (3, [.ref na, .ref ro, .ref oa, .int bg, .int en, .int mo, .int ca, .int bo, .int mc])), (na, .inl (cN, n, .inr (.inr (.inr (.inr fn))))), (nd, .inr (0, [.int ix, .ref a1, .ref a2, .ref a3, .ref a4, .ref a5, .int up, .int p3, .int ((rd + 1)), .int 0, .ref tk])), (ro, .inr (2, [.int wd, .ref b1, .ref b2, .ref b3, .ref b4, .ref b5, .ref b6, .int 0, .int ((nI n)), .int ((nI n))])), (b1, .inl (cI, 2000, .inl fs)), (b2, .inl (cI, 2000, .inl g2)), (b3, .inl (cI, 2000, .inl g3)), (b4, .inl (cI, 2000, .inl g4)), (b5, .inl (cI, 2000, .inl g5))]) (va_A [(x, .inr (3, [.ref na, .ref ro, .ref oa, .int bg, .int en, .int mo, .int ca, .int bo, .int mc])), (na, .inl (cN, n, .inr (.inr (.inr (.inr fn))))), (nd, .inr (0, [.int ix, .ref a1, .ref a2, .ref a3, .ref a4, .ref a5, .int up, .int ph, .int rd, .int hq, .ref tk])), (ro, .inr (2, [.int wd, .ref b1, .ref b2, .ref b3, .ref b4, .ref b5, .ref b6, .int 0, .int 0, .int 0])), (b1, .inl (cI, 2000, .inl fs)), (b2, .inl (cI, 2000, .inl f2)), (b3, .inl (cI, 2000, .inl f3)), (b4, .inl (cI, 2000, .inl f4)), (b5, .inl (cI, 2000, .inl f5))] sz)) (0) (0) (va_A [(x, .inr (3, [.ref na, .ref ro, .ref oa, .int bg, .int en, .int mo, .int ca, .int bo, .int mc])), (na, .inl (cN, n, .inr (.inr (.inr (.inr fn))))), (nd, .inr (0, [.int ix, .ref a1, .ref a2, .ref a3, .ref a4, .ref a5, .int up, .int ph, .int rd, .int hq, .ref tk])), (ro, .inr (2, [.int wd, .ref b1, .ref b2, .ref b3, .ref b4, .ref b5, .ref b6, .int 0, .int 0, .int 0])), (b1, .inl (cI, 2000, .inl fs)), (b2, .inl (cI, 2000, .inl f2)), (b3, .inl (cI, 2000, .inl f3)), (b4, .inl (cI, 2000, .inl f4)), (b5, .inl (cI, 2000, .inl f5))] sz) := by
  refine Met.ofW (cc := cX3_sendToAll) (maxL := 6) (ret := none) (by decide) rfl ?_
  intro p e s m args below meth c s₁ B hml hv
  obtain ⟨rfl, hsz, hP, hK, hD0⟩ := hv
  have hx := B.exec
  have hb := B.bytes
  have hr := B.returns
  have hts := atoms_spec (ws := (.code yX3_sendToAll cX3_sendToAll 6 none :: gw)) B.pre
  have hg : ∀ w ∈ gw, w.before _ s = true := fun w h => hts w (List.mem_cons_of_mem _ h)
  have hown : s.vm.findClass RX3 = some m.cls := findClass_of_methodNamed B.named
  have hlocks := B.notSynchronized
  subst hsz
  have hD := hD0.self (sz := s.heap.size)
  generalize hAe : va_A [(x, .inr (3, [.ref na, .ref ro, .ref oa, .int bg, .int en, .int mo, .int ca, .int bo, .int mc])), (na, .inl (cN, n, .inr (.inr (.inr (.inr fn))))), (nd, .inr (0, [.int ix, .ref a1, .ref a2, .ref a3, .ref a4, .ref a5, .int up, .int ph, .int rd, .int hq, .ref tk])), (ro, .inr (2, [.int wd, .ref b1, .ref b2, .ref b3, .ref b4, .ref b5, .ref b6, .int 0, .int 0, .int 0])), (b1, .inl (cI, 2000, .inl fs)), (b2, .inl (cI, 2000, .inl f2)), (b3, .inl (cI, 2000, .inl f3)), (b4, .inl (cI, 2000, .inl f4)), (b5, .inl (cI, 2000, .inl f5))] s.heap.size = A at hD ⊢
  have hA : ∀ q : Nat, s.heap.size ≤ q → A q := fun q h => by rw [← hAe]; exact Or.inr h
  have hS : va_S A s.heap s.heap [] := va_S.rf
  obtain ⟨H, eH⟩ : ∃ z, z = s.heap := ⟨_, rfl⟩
  obtain ⟨locs, elocs⟩ : ∃ z : List Loc, z = [] := ⟨_, rfl⟩
  have hP : va_P (dC, dI) vwCl [(x, .inr (3, [.ref na, .ref ro, .ref oa, .int bg, .int en, .int mo, .int ca, .int bo, .int mc])), (na, .inl (cN, n, .inr (.inr (.inr (.inr fn))))), (nd, .inr (0, [.int ix, .ref a1, .ref a2, .ref a3, .ref a4, .ref a5, .int up, .int ph, .int rd, .int hq, .ref tk])), (ro, .inr (2, [.int wd, .ref b1, .ref b2, .ref b3, .ref b4, .ref b5, .ref b6, .int 0, .int 0, .int 0])), (b1, .inl (cI, 2000, .inl fs)), (b2, .inl (cI, 2000, .inl f2)), (b3, .inl (cI, 2000, .inl f3)), (b4, .inl (cI, 2000, .inl f4)), (b5, .inl (cI, 2000, .inl f5))] H := by rw [eH]; exact hP
  have hS : va_S A s.heap H locs := by rw [eH, elocs]; exact hS
  have hl := lv_entry ([.ref x, .ref nd, .int p2, .int p3, .null]) (n := 6) (Nat.le_of_ble_eq_true rfl)
  rw [lg_entry_eq]
  generalize (lg_sl ([.ref x, .ref nd, .int p2, .int p3, .null]) ++ List.replicate (6 - (lg_sl ([.ref x, .ref nd, .int p2, .int p3, .null])).length) Slot.unset).toArray = ls at hl ⊢
  have hl : lv_has ls 6 [(0, .ref x), (1, .ref nd), (2, .int p2), (3, .int p3), (4, .null)] := hl
  rw [← elocs]
  suffices hgoal : ∀ HH, H = HH → W p l e (headSpec (.code yX3_sendToAll cX3_sendToAll 6 none :: gw) ({ frames := 1, cells := 0, slots := 0, locals := 26 })).room s m _ below meth c HH locs 0 0 _ (F0 m 0 ls []) from hgoal _ eH
  rintro _ rfl
  refine lv_aload_n hx hb dX3_sendToAll_0 rfl (lv_at hl 1 rfl) ?_
  refine lv_iload_n hx hb dX3_sendToAll_1 rfl (lv_at hl 3 rfl) ?_
  have hPc := hP.sub (ws' := [(nd, .inr (0, [.int ix, .ref a1, .ref a2, .ref a3, .ref a4, .ref a5, .int up, .int ph, .int rd, .int hq, .ref tk]))]) [2] rfl
  have hDc := hD.sub (ws' := [(nd, .inr (0, [.int ix, .ref a1, .ref a2, .ref a3, .ref a4, .ref a5, .int up, .int ph, .int rd, .int hq, .ref tk]))]) [2] (by decide) rfl
  have hFc := va_free (wc := [(nd, .inr (0, [.int ix, .ref a1, .ref a2, .ref a3, .ref a4, .ref a5, .int up, .int ph, .int rd, .int hq, .ref tk]))]) hD hS hA [2] rfl
  refine va_callv (va_runV (As := [.int p3]) (rest := []) ⟨hx, hb, hml, hown, hg⟩ (c_X0_enter l dC dI cI cZ cN cO nd a1 a2 a3 a4 a5 ix up ph rd hq (some tk) p3 H.size ) (cwV 1 hg (gw_V kM_X3_281 kI_X0_enter kS_X0_enter kN_X0 kD_X0_enter) rfl rfl rfl (by decide +kernel) ⟨Nat.le_of_ble_eq_true rfl, Nat.le_of_ble_eq_true rfl⟩) ⟨fun a U g mk q => by obtain ⟨q0, q1, qP, qK, qD⟩ := q; exact ⟨q0, q1, qP, va_K.moved (u := U) (U := U.calling g mk a) (Vm.Alike.refl U.vm) qK, qD⟩, va_recv hK hP (ci := 0) (q0 := 2) rfl rfl, fun U hU hW => ⟨rfl, by rw [hU], by rw [hU]; exact hPc, va_K.moved hW.alike hK, hDc.weaken (fun _ _ _ _ => trivial)⟩⟩ rfl rfl hl.1 rfl (lv_room (Nat.le_of_ble_eq_true rfl)) dX3_sendToAll_2 ⟨Nat.le_of_ble_eq_true rfl, Nat.le_of_ble_eq_true rfl⟩) hS (fun q _ h => hFc q h) hFc (fun u t H1 locs ht hvm hw hB hz1 hk1 hS => ?_)
  obtain ⟨hP1, hK1, hD1⟩ := hB
  rw [ht] at hP1
  obtain ⟨hP, hD⟩ := va_join (wr := [(x, .inr (3, [.ref na, .ref ro, .ref oa, .int bg, .int en, .int mo, .int ca, .int bo, .int mc])), (na, .inl (cN, n, .inr (.inr (.inr (.inr fn))))), (ro, .inr (2, [.int wd, .ref b1, .ref b2, .ref b3, .ref b4, .ref b5, .ref b6, .int 0, .int 0, .int 0])), (b1, .inl (cI, 2000, .inl fs)), (b2, .inl (cI, 2000, .inl f2)), (b3, .inl (cI, 2000, .inl f3)), (b4, .inl (cI, 2000, .inl f4)), (b5, .inl (cI, 2000, .inl f5))]) (w1 := [(nd, .inr (0, [.int ix, .ref a1, .ref a2, .ref a3, .ref a4, .ref a5, .int up, .int p3, .int ((rd + 1)), .int 0, .ref tk]))]) hP hD [2] [0, 1, 3, 4, 5, 6, 7, 8] rfl rfl (by decide) (by decide) hk1 hFc hP1 hD1
  clear hPc hDc hFc hP1 hK1 hD1 hz1 hk1 ht
  generalize H1 = H at hP hS ⊢
  have hP : va_P (dC, dI) vwCl [(x, .inr (3, [.ref na, .ref ro, .ref oa, .int bg, .int en, .int mo, .int ca, .int bo, .int mc])), (na, .inl (cN, n, .inr (.inr (.inr (.inr fn))))), (ro, .inr (2, [.int wd, .ref b1, .ref b2, .ref b3, .ref b4, .ref b5, .ref b6, .int 0, .int 0, .int 0])), (b1, .inl (cI, 2000, .inl fs)), (b2, .inl (cI, 2000, .inl f2)), (b3, .inl (cI, 2000, .inl f3)), (b4, .inl (cI, 2000, .inl f4)), (b5, .inl (cI, 2000, .inl f5)), (nd, .inr (0, [.int ix, .ref a1, .ref a2, .ref a3, .ref a4, .ref a5, .int up, .int p3, .int ((rd + 1)), .int 0, .ref tk]))] H := hP
  have hD : va_D A [(x, .inr (3, [.ref na, .ref ro, .ref oa, .int bg, .int en, .int mo, .int ca, .int bo, .int mc])), (na, .inl (cN, n, .inr (.inr (.inr (.inr fn))))), (ro, .inr (2, [.int wd, .ref b1, .ref b2, .ref b3, .ref b4, .ref b5, .ref b6, .int 0, .int 0, .int 0])), (b1, .inl (cI, 2000, .inl fs)), (b2, .inl (cI, 2000, .inl f2)), (b3, .inl (cI, 2000, .inl f3)), (b4, .inl (cI, 2000, .inl f4)), (b5, .inl (cI, 2000, .inl f5)), (nd, .inr (0, [.int ix, .ref a1, .ref a2, .ref a3, .ref a4, .ref a5, .int up, .int p3, .int ((rd + 1)), .int 0, .ref tk]))] := hD
  refine lv_iconst (v := 0) hx hb dX3_sendToAll_5 (by decide) ?_
  refine lv_istore (lv' := [(5, .int 0), (0, .ref x), (1, .ref nd), (2, .int p2), (3, .int p3), (4, .null)]) hx hb dX3_sendToAll_6 hl (by decide) rfl (fun ls hl => ?_)
  rw [← nI_0] at hl
  have hP := hP.sub [0, 1, 8, 2, 3, 4, 5, 6, 7] rfl
  have hD := hD.sub (ws' := [(x, .inr (3, [.ref na, .ref ro, .ref oa, .int bg, .int en, .int mo, .int ca, .int bo, .int mc])), (na, .inl (cN, n, .inr (.inr (.inr (.inr fn))))), (nd, .inr (0, [.int ix, .ref a1, .ref a2, .ref a3, .ref a4, .ref a5, .int up, .int p3, .int ((rd + 1)), .int 0, .ref tk])), (ro, .inr (2, [.int wd, .ref b1, .ref b2, .ref b3, .ref b4, .ref b5, .ref b6, .int 0, .int 0, .int 0])), (b1, .inl (cI, 2000, .inl fs)), (b2, .inl (cI, 2000, .inl f2)), (b3, .inl (cI, 2000, .inl f3)), (b4, .inl (cI, 2000, .inl f4)), (b5, .inl (cI, 2000, .inl f5))]) [0, 1, 8, 2, 3, 4, 5, 6, 7] (by decide) rfl
  refine lp_X3_sendToAll hx hb hml hown hg hK hA x na ro oa n bg en mo ca bo mc fn nd a1 a2 a3 a4 a5 ix up ph rd hq tk b1 b2 b3 b4 b5 b6 wd p2 p3 fs hn hfs (Nat.zero_le _) (Nat.zero_le _) (Nat.le_of_ble_eq_true rfl) (Nat.le_of_ble_eq_true rfl) ?_ n 0 (by omega) f2 f3 f4 f5 _ _ hP hD hS ls (lv_sub hl [0, 1, 2, 3, 4, 5] rfl)
  clear hP hD hS
  intro f2 f3 f4 f5 H locs hP hD hS ls hl
  have hP9 := hP.sub (ws' := [(x, .inr (3, [.ref na, .ref ro, .ref oa, .int bg, .int en, .int mo, .int ca, .int bo, .int mc])), (na, .inl (cN, n, .inr (.inr (.inr (.inr fn))))), (nd, .inr (0, [.int ix, .ref a1, .ref a2, .ref a3, .ref a4, .ref a5, .int up, .int p3, .int ((rd + 1)), .int 0, .ref tk])), (ro, .inr (2, [.int wd, .ref b1, .ref b2, .ref b3, .ref b4, .ref b5, .ref b6, .int 0, .int ((nI n)), .int ((nI n))])), (b1, .inl (cI, 2000, .inl fs)), (b2, .inl (cI, 2000, .inl f2)), (b3, .inl (cI, 2000, .inl f3)), (b4, .inl (cI, 2000, .inl f4)), (b5, .inl (cI, 2000, .inl f5))]) [0, 1, 2, 3, 4, 5, 6, 7, 8] rfl
  have hD9 := hD.sub (ws' := [(x, .inr (3, [.ref na, .ref ro, .ref oa, .int bg, .int en, .int mo, .int ca, .int bo, .int mc])), (na, .inl (cN, n, .inr (.inr (.inr (.inr fn))))), (nd, .inr (0, [.int ix, .ref a1, .ref a2, .ref a3, .ref a4, .ref a5, .int up, .int p3, .int ((rd + 1)), .int 0, .ref tk])), (ro, .inr (2, [.int wd, .ref b1, .ref b2, .ref b3, .ref b4, .ref b5, .ref b6, .int 0, .int ((nI n)), .int ((nI n))])), (b1, .inl (cI, 2000, .inl fs)), (b2, .inl (cI, 2000, .inl f2)), (b3, .inl (cI, 2000, .inl f3)), (b4, .inl (cI, 2000, .inl f4)), (b5, .inl (cI, 2000, .inl f5))]) [0, 1, 2, 3, 4, 5, 6, 7, 8] (by decide) rfl
  refine W.widen (k := 0) (n := 0) (by omega) (by omega) ?_
  exact W.vret hx hb hr (fun t ht hW => ⟨⟨(), rfl, trivial, f2, f3, f4, f5, by rw [ht]; exact hP9, va_K.moved hW.alike hK, hD9⟩, hS.F ht⟩) hS.2.2 dX3_sendToAll_44
set_option maxHeartbeats 4000000 in
set_option maxRecDepth 100000 in
/-- beginCollect(nd) with an empty row -/
theorem c_X3_beginCollect (l : Launch) (dC : Nat → ClassId) (dI : Nat → Nat → Nat) (cI cZ cN cO : ClassId) (x na ro oa n : Nat) (bg en mo ca bo mc : Int32) (fn : Nat → Option Nat) (nd a1 a2 a3 a4 a5 : Nat) (ix up ph rd hq : Int32) (tk : Nat) (b1 b2 b3 b4 b5 b6 : Nat) (wd : Int32) (fs f0 f2 f3 f4 f5 : Nat → Int32) (sz : Nat) (hn : n ≤ 31) (hfs : ∀ j, j < 2000 → fs j = nI j) : Met l yX3_beginCollect (.code yX3_beginCollect cX3_beginCollect 2 none :: gw) ({ frames := 2, cells := 0, slots := 0, locals := 51 }) (va_Pc [.ref x, .ref nd] (fun U => U.heap.size = sz ∧ va_P (dC, dI) vwCl [(x, .inr (3, [.ref na, .ref ro, .ref oa, .int bg, .int en, .int mo, .int ca, .int bo, .int mc])), (na, .inl (cN, n, .inr (.inr (.inr (.inr fn))))), (nd, .inr (0, [.int ix, .ref a1, .ref a2, .ref a3, .ref a4, .ref a5, .int up, .int ph, .int rd, .int hq, .ref tk])), (a2, .inl (cI, n, .inl f0)), (ro, .inr (2, [.int wd, .ref b1, .ref b2, .ref b3, .ref b4, .ref b5, .ref b6, .int 0, .int 0, .int 0])), (b1, .inl (cI, 2000, .inl fs)), (b2, .inl (cI, 2000, .inl f2)), (b3, .inl (cI, 2000, .inl f3)), (b4, .inl (cI, 2000, .inl f4)), (b5, .inl (cI, 2000, .inl f5))] U.heap ∧ va_K (dC, dI) vwCl (gTy cI cZ cN cO) U ∧ va_D (fun _ => True) [(x, .inr (3, [.ref na, .ref ro, .ref oa, .int bg, .int en, .int mo, .int ca, .int bo, .int mc])), (na, .inl (cN, n, .inr (.inr (.inr (.inr fn))))), (nd, .inr (0, [.int ix, .ref a1, .ref a2, .ref a3, .ref a4, .ref a5, .int up, .int ph, .int rd, .int hq, .ref tk])), (a2, .inl (cI, n, .inl f0)), (ro, .inr (2, [.int wd, .ref b1, .ref b2, .ref b3, .ref b4, .ref b5, .ref b6, .int 0, .int 0, .int 0])), (b1, .inl (cI, 2000, .inl fs)), (b2, .inl (cI, 2000, .inl f2)), (b3, .inl (cI, 2000, .inl f3)), (b4, .inl (cI, 2000, .inl f4)), (b5, .inl (cI, 2000, .inl f5))])) (va_Qv (fun _ : Unit => True) (fun (_ : Unit) (t : State) => ∃ g0 g2 g3 g4 g5 : Nat → Int32, va_P (dC, dI) vwCl [(x, .inr (3, [.ref na, .ref ro, .ref oa, .int bg, .int en, .int mo, .int ca, .int bo, .int mc])), (na, .inl (cN, n, .inr (.inr (.inr (.inr fn))))), (nd, .inr (0, [.int ix, .ref a1, .ref a2, .ref a3, .ref a4, .ref a5, .int up, .int 1, .int ((rd + 1)), .int 0, .ref tk])), (a2, .inl (cI, n, .inl g0)), (ro, .inr (2, [.int wd, .ref b1, .ref b2, .ref b3, .ref b4, .ref b5, .ref b6, .int 0, .int ((nI n)), .int ((nI n))])), (b1, .inl (cI, 2000, .inl fs)), (b2, .inl (cI, 2000, .inl g2)), (b3, .inl (cI, 2000, .inl g3)), (b4, .inl (cI, 2000, .inl g4)), (b5, .inl (cI, 2000, .inl g5))] t.heap ∧ va_K (dC, dI) vwCl (gTy cI cZ cN cO) t ∧ va_D (va_A [(x, .inr (3, [.ref na, .ref ro, .ref oa, .int bg, .int en, .int mo, .int ca, .int bo, .int mc])), (na, .inl (cN, n, .inr (.inr (.inr (.inr fn))))), (nd, .inr (0, [.int ix, .ref a1, .ref a2, .ref a3, .ref a4, .ref a5, .int up, .int ph, .int rd, .int hq, .ref tk])), (a2, .inl (cI, n, .inl f0)), (ro, .inr (2, [.int wd, .ref b1, .ref b2, .ref b3, .ref b4, .ref b5, .ref b6, .int 0, .int 0, .int 0])), (b1, .inl (cI, 2000, .inl fs)), (b2, .inl (cI, 2000, .inl f2)), (b3, .inl (cI, 2000, .inl f3)), (b4, .inl (cI, 2000, .inl f4)), (b5, .inl (cI, 2000, .inl f5))] sz) [(x, .inr (3, [.ref na, .ref ro, .ref oa, .int bg, .int en, .int mo, .int ca, .int bo, .int mc])), (na, .inl (cN, n, .inr (.inr (.inr (.inr fn))))), (nd, .inr (0, [.int ix, .ref a1, .ref a2, .ref a3, .ref a4, .ref a5, .int up, .int 1, .int ((rd + 1)), .int 0, .ref tk])), (a2, .inl (cI, n, .inl g0)), (ro, .inr (2, [.int wd, .ref b1, .ref b2, .ref b3, .ref b4, .ref b5, .ref b6, .int 0, .int ((nI n)), .int ((nI n))])), (b1, .inl (cI, 2000, .inl fs)), (b2, .inl (cI, 2000, .inl g2)), (b3, .inl (cI, 2000, .inl g3)), (b4, .inl (cI, 2000, .inl g4)), (b5, .inl (cI, 2000, .inl g5))]) (va_A [(x, .inr (3, [.ref na, .ref ro, .ref oa, .int bg, .int en, .int mo, .int ca, .int bo, .int mc])), (na, .inl (cN, n, .inr (.inr (.inr (.inr fn))))), (nd, .inr (0, [.int ix, .ref a1, .ref a2, .ref a3, .ref a4, .ref a5, .int up, .int ph, .int rd, .int hq, .ref tk])), (a2, .inl (cI, n, .inl f0)), (ro, .inr (2, [.int wd, .ref b1, .ref b2, .ref b3, .ref b4, .ref b5, .ref b6, .int 0, .int 0, .int 0])), (b1, .inl (cI, 2000, .inl fs)), (b2, .inl (cI, 2000, .inl f2)), (b3, .inl (cI, 2000, .inl f3)), (b4, .inl (cI, 2000, .inl f4)), (b5, .inl (cI, 2000, .inl f5))] sz)) (0) (0) (va_A [(x, .inr (3, [.ref na, .ref ro, .ref oa, .int bg, .int en, .int mo, .int ca, .int bo, .int mc])), (na, .inl (cN, n, .inr (.inr (.inr (.inr fn))))), (nd, .inr (0, [.int ix, .ref a1, .ref a2, .ref a3, .ref a4, .ref a5, .int up, .int ph, .int rd, .int hq, .ref tk])), (a2, .inl (cI, n, .inl f0)), (ro, .inr (2, [.int wd, .ref b1, .ref b2, .ref b3, .ref b4, .ref b5, .ref b6, .int 0, .int 0, .int 0])), (b1, .inl (cI, 2000, .inl fs)), (b2, .inl (cI, 2000, .inl f2)), (b3, .inl (cI, 2000, .inl f3)), (b4, .inl (cI, 2000, .inl f4)), (b5, .inl (cI, 2000, .inl f5))] sz) := by
  refine Met.ofW (cc := cX3_beginCollect) (maxL := 2) (ret := none) (by decide) rfl ?_
  intro p e s m args below meth c s₁ B hml hv
  obtain ⟨rfl, hsz, hP, hK, hD0⟩ := hv
  have hx := B.exec
  have hb := B.bytes
  have hr := B.returns
  have hts := atoms_spec (ws := (.code yX3_beginCollect cX3_beginCollect 2 none :: gw)) B.pre
  have hg : ∀ w ∈ gw, w.before _ s = true := fun w h => hts w (List.mem_cons_of_mem _ h)
  have hown : s.vm.findClass RX3 = some m.cls := findClass_of_methodNamed B.named
  have hlocks := B.notSynchronized
  subst hsz
  have hD := hD0.self (sz := s.heap.size)
  generalize hAe : va_A [(x, .inr (3, [.ref na, .ref ro, .ref oa, .int bg, .int en, .int mo, .int ca, .int bo, .int mc])), (na, .inl (cN, n, .inr (.inr (.inr (.inr fn))))), (nd, .inr (0, [.int ix, .ref a1, .ref a2, .ref a3, .ref a4, .ref a5, .int up, .int ph, .int rd, .int hq, .ref tk])), (a2, .inl (cI, n, .inl f0)), (ro, .inr (2, [.int wd, .ref b1, .ref b2, .ref b3, .ref b4, .ref b5, .ref b6, .int 0, .int 0, .int 0])), (b1, .inl (cI, 2000, .inl fs)), (b2, .inl (cI, 2000, .inl f2)), (b3, .inl (cI, 2000, .inl f3)), (b4, .inl (cI, 2000, .inl f4)), (b5, .inl (cI, 2000, .inl f5))] s.heap.size = A at hD ⊢
  have hA : ∀ q : Nat, s.heap.size ≤ q → A q := fun q h => by rw [← hAe]; exact Or.inr h
  have hS : va_S A s.heap s.heap [] := va_S.rf
  obtain ⟨H, eH⟩ : ∃ z, z = s.heap := ⟨_, rfl⟩
  obtain ⟨locs, elocs⟩ : ∃ z : List Loc, z = [] := ⟨_, rfl⟩
  have hP : va_P (dC, dI) vwCl [(x, .inr (3, [.ref na, .ref ro, .ref oa, .int bg, .int en, .int mo, .int ca, .int bo, .int mc])), (na, .inl (cN, n, .inr (.inr (.inr (.inr fn))))), (nd, .inr (0, [.int ix, .ref a1, .ref a2, .ref a3, .ref a4, .ref a5, .int up, .int ph, .int rd, .int hq, .ref tk])), (a2, .inl (cI, n, .inl f0)), (ro, .inr (2, [.int wd, .ref b1, .ref b2, .ref b3, .ref b4, .ref b5, .ref b6, .int 0, .int 0, .int 0])), (b1, .inl (cI, 2000, .inl fs)), (b2, .inl (cI, 2000, .inl f2)), (b3, .inl (cI, 2000, .inl f3)), (b4, .inl (cI, 2000, .inl f4)), (b5, .inl (cI, 2000, .inl f5))] H := by rw [eH]; exact hP
  have hS : va_S A s.heap H locs := by rw [eH, elocs]; exact hS
  have hl := lv_entry ([.ref x, .ref nd]) (n := 2) (Nat.le_of_ble_eq_true rfl)
  rw [lg_entry_eq]
  generalize (lg_sl ([.ref x, .ref nd]) ++ List.replicate (2 - (lg_sl ([.ref x, .ref nd])).length) Slot.unset).toArray = ls at hl ⊢
  have hl : lv_has ls 2 [(0, .ref x), (1, .ref nd)] := hl
  rw [← elocs]
  suffices hgoal : ∀ HH, H = HH → W p l e (headSpec (.code yX3_beginCollect cX3_beginCollect 2 none :: gw) ({ frames := 2, cells := 0, slots := 0, locals := 51 })).room s m _ below meth c HH locs 0 0 _ (F0 m 0 ls []) from hgoal _ eH
  rintro _ rfl
  refine lv_aload_n hx hb dX3_beginCollect_0 rfl (lv_at hl 1 rfl) ?_
  have hPc := hP.sub (ws' := [(nd, .inr (0, [.int ix, .ref a1, .ref a2, .ref a3, .ref a4, .ref a5, .int up, .int ph, .int rd, .int hq, .ref tk])), (a2, .inl (cI, n, .inl f0))]) [2, 3] rfl
  have hDc := hD.sub (ws' := [(nd, .inr (0, [.int ix, .ref a1, .ref a2, .ref a3, .ref a4, .ref a5, .int up, .int ph, .int rd, .int hq, .ref tk])), (a2, .inl (cI, n, .inl f0))]) [2, 3] (by decide) rfl
  have hFc := va_free (wc := [(nd, .inr (0, [.int ix, .ref a1, .ref a2, .ref a3, .ref a4, .ref a5, .int up, .int ph, .int rd, .int hq, .ref tk])), (a2, .inl (cI, n, .inl f0))]) hD hS hA [2, 3] rfl
  refine va_callv (va_runV (As := []) (rest := []) ⟨hx, hb, hml, hown, hg⟩ (c_X0_clearCurrent l dC dI cI cZ cN cO nd a1 a2 a3 a4 a5 ix up ph rd hq tk n f0 H.size (by omega)) (cwV 0 hg (gw_V kM_X3_238 kI_X0_clearCurrent kS_X0_clearCurrent kN_X0 kD_X0_clearCurrent) rfl rfl rfl (by decide +kernel) ⟨Nat.le_of_ble_eq_true rfl, Nat.le_of_ble_eq_true rfl⟩) ⟨fun a U g mk q => by obtain ⟨q0, q1, qP, qK, qD⟩ := q; exact ⟨q0, q1, qP, va_K.moved (u := U) (U := U.calling g mk a) (Vm.Alike.refl U.vm) qK, qD⟩, va_recv hK hP (ci := 0) (q0 := 2) rfl rfl, fun U hU hW => ⟨rfl, by rw [hU], by rw [hU]; exact hPc, va_K.moved hW.alike hK, hDc.weaken (fun _ _ _ _ => trivial)⟩⟩ rfl rfl hl.1 rfl (lv_room (Nat.le_of_ble_eq_true rfl)) dX3_beginCollect_1 ⟨Nat.le_of_ble_eq_true rfl, Nat.le_of_ble_eq_true rfl⟩) hS (fun q _ h => hFc q h) hFc (fun u t H1 locs ht hvm hw hB hz1 hk1 hS => ?_)
  obtain ⟨f_1, h_2, hP1, hK1, hD1⟩ := hB
  rw [ht] at hP1
  obtain ⟨hP, hD⟩ := va_join (wr := [(x, .inr (3, [.ref na, .ref ro, .ref oa, .int bg, .int en, .int mo, .int ca, .int bo, .int mc])), (na, .inl (cN, n, .inr (.inr (.inr (.inr fn))))), (ro, .inr (2, [.int wd, .ref b1, .ref b2, .ref b3, .ref b4, .ref b5, .ref b6, .int 0, .int 0, .int 0])), (b1, .inl (cI, 2000, .inl fs)), (b2, .inl (cI, 2000, .inl f2)), (b3, .inl (cI, 2000, .inl f3)), (b4, .inl (cI, 2000, .inl f4)), (b5, .inl (cI, 2000, .inl f5))]) (w1 := [(nd, .inr (0, [.int ix, .ref a1, .ref a2, .ref a3, .ref a4, .ref a5, .int up, .int ph, .int rd, .int hq, .ref tk])), (a2, .inl (cI, n, .inl f_1))]) hP hD [2, 3] [0, 1, 4, 5, 6, 7, 8, 9] rfl rfl (by decide) (by decide) hk1 hFc hP1 hD1
  clear hPc hDc hFc hP1 hK1 hD1 hz1 hk1 ht
  generalize H1 = H at hP hS ⊢
  have hP : va_P (dC, dI) vwCl [(x, .inr (3, [.ref na, .ref ro, .ref oa, .int bg, .int en, .int mo, .int ca, .int bo, .int mc])), (na, .inl (cN, n, .inr (.inr (.inr (.inr fn))))), (ro, .inr (2, [.int wd, .ref b1, .ref b2, .ref b3, .ref b4, .ref b5, .ref b6, .int 0, .int 0, .int 0])), (b1, .inl (cI, 2000, .inl fs)), (b2, .inl (cI, 2000, .inl f2)), (b3, .inl (cI, 2000, .inl f3)), (b4, .inl (cI, 2000, .inl f4)), (b5, .inl (cI, 2000, .inl f5)), (nd, .inr (0, [.int ix, .ref a1, .ref a2, .ref a3, .ref a4, .ref a5, .int up, .int ph, .int rd, .int hq, .ref tk])), (a2, .inl (cI, n, .inl f_1))] H := hP
  have hD : va_D A [(x, .inr (3, [.ref na, .ref ro, .ref oa, .int bg, .int en, .int mo, .int ca, .int bo, .int mc])), (na, .inl (cN, n, .inr (.inr (.inr (.inr fn))))), (ro, .inr (2, [.int wd, .ref b1, .ref b2, .ref b3, .ref b4, .ref b5, .ref b6, .int 0, .int 0, .int 0])), (b1, .inl (cI, 2000, .inl fs)), (b2, .inl (cI, 2000, .inl f2)), (b3, .inl (cI, 2000, .inl f3)), (b4, .inl (cI, 2000, .inl f4)), (b5, .inl (cI, 2000, .inl f5)), (nd, .inr (0, [.int ix, .ref a1, .ref a2, .ref a3, .ref a4, .ref a5, .int up, .int ph, .int rd, .int hq, .ref tk])), (a2, .inl (cI, n, .inl f_1))] := hD
  refine lv_aload_n hx hb dX3_beginCollect_4 rfl (lv_at hl 0 rfl) ?_
  refine lv_aload_n hx hb dX3_beginCollect_5 rfl (lv_at hl 1 rfl) ?_
  refine lv_iconst (v := 0) hx hb dX3_beginCollect_6 (by decide) ?_
  refine lv_iconst (v := 1) hx hb dX3_beginCollect_7 (by decide) ?_
  refine lv_null hx hb dX3_beginCollect_8 ?_
  have hPc := hP.sub (ws' := [(x, .inr (3, [.ref na, .ref ro, .ref oa, .int bg, .int en, .int mo, .int ca, .int bo, .int mc])), (na, .inl (cN, n, .inr (.inr (.inr (.inr fn))))), (nd, .inr (0, [.int ix, .ref a1, .ref a2, .ref a3, .ref a4, .ref a5, .int up, .int ph, .int rd, .int hq, .ref tk])), (ro, .inr (2, [.int wd, .ref b1, .ref b2, .ref b3, .ref b4, .ref b5, .ref b6, .int 0, .int 0, .int 0])), (b1, .inl (cI, 2000, .inl fs)), (b2, .inl (cI, 2000, .inl f2)), (b3, .inl (cI, 2000, .inl f3)), (b4, .inl (cI, 2000, .inl f4)), (b5, .inl (cI, 2000, .inl f5))]) [0, 1, 8, 2, 3, 4, 5, 6, 7] rfl
  have hDc := hD.sub (ws' := [(x, .inr (3, [.ref na, .ref ro, .ref oa, .int bg, .int en, .int mo, .int ca, .int bo, .int mc])), (na, .inl (cN, n, .inr (.inr (.inr (.inr fn))))), (nd, .inr (0, [.int ix, .ref a1, .ref a2, .ref a3, .ref a4, .ref a5, .int up, .int ph, .int rd, .int hq, .ref tk])), (ro, .inr (2, [.int wd, .ref b1, .ref b2, .ref b3, .ref b4, .ref b5, .ref b6, .int 0, .int 0, .int 0])), (b1, .inl (cI, 2000, .inl fs)), (b2, .inl (cI, 2000, .inl f2)), (b3, .inl (cI, 2000, .inl f3)), (b4, .inl (cI, 2000, .inl f4)), (b5, .inl (cI, 2000, .inl f5))]) [0, 1, 8, 2, 3, 4, 5, 6, 7] (by decide) rfl
  have hFc := va_free (wc := [(x, .inr (3, [.ref na, .ref ro, .ref oa, .int bg, .int en, .int mo, .int ca, .int bo, .int mc])), (na, .inl (cN, n, .inr (.inr (.inr (.inr fn))))), (nd, .inr (0, [.int ix, .ref a1, .ref a2, .ref a3, .ref a4, .ref a5, .int up, .int ph, .int rd, .int hq, .ref tk])), (ro, .inr (2, [.int wd, .ref b1, .ref b2, .ref b3, .ref b4, .ref b5, .ref b6, .int 0, .int 0, .int 0])), (b1, .inl (cI, 2000, .inl fs)), (b2, .inl (cI, 2000, .inl f2)), (b3, .inl (cI, 2000, .inl f3)), (b4, .inl (cI, 2000, .inl f4)), (b5, .inl (cI, 2000, .inl f5))]) hD hS hA [0, 1, 8, 2, 3, 4, 5, 6, 7] rfl
  refine va_callv (va_runV (As := [.ref nd, .int 0, .int 1, .null]) (rest := []) ⟨hx, hb, hml, hown, hg⟩ (c_X3_sendToAll l dC dI cI cZ cN cO x na ro oa n bg en mo ca bo mc fn nd a1 a2 a3 a4 a5 ix up ph rd hq tk b1 b2 b3 b4 b5 b6 wd 0 1 fs f2 f3 f4 f5 H.size hn hfs) (cwV 4 hg (gw_V kM_X3_227 kI_X3_sendToAll kS_X3_sendToAll kN_X3 kD_X3_sendToAll) rfl rfl rfl (by decide +kernel) ⟨Nat.le_of_ble_eq_true rfl, Nat.le_of_ble_eq_true rfl⟩) ⟨fun a U g mk q => by obtain ⟨q0, q1, qP, qK, qD⟩ := q; exact ⟨q0, q1, qP, va_K.moved (u := U) (U := U.calling g mk a) (Vm.Alike.refl U.vm) qK, qD⟩, va_recv hK hP (ci := 3) (q0 := 0) rfl rfl, fun U hU hW => ⟨rfl, by rw [hU], by rw [hU]; exact hPc, va_K.moved hW.alike hK, hDc.weaken (fun _ _ _ _ => trivial)⟩⟩ rfl rfl hl.1 rfl (lv_room (Nat.le_of_ble_eq_true rfl)) dX3_beginCollect_9 ⟨Nat.le_of_ble_eq_true rfl, Nat.le_of_ble_eq_true rfl⟩) hS (fun q _ h => hFc q h) hFc (fun u t H1 locs ht hvm hw hB hz1 hk1 hS => ?_)
  obtain ⟨f_3, f_4, f_5, f_6, hP1, hK1, hD1⟩ := hB
  rw [ht] at hP1
  obtain ⟨hP, hD⟩ := va_join (wr := [(a2, .inl (cI, n, .inl f_1))]) (w1 := [(x, .inr (3, [.ref na, .ref ro, .ref oa, .int bg, .int en, .int mo, .int ca, .int bo, .int mc])), (na, .inl (cN, n, .inr (.inr (.inr (.inr fn))))), (nd, .inr (0, [.int ix, .ref a1, .ref a2, .ref a3, .ref a4, .ref a5, .int up, .int 1, .int ((rd + 1)), .int 0, .ref tk])), (ro, .inr (2, [.int wd, .ref b1, .ref b2, .ref b3, .ref b4, .ref b5, .ref b6, .int 0, .int ((nI n)), .int ((nI n))])), (b1, .inl (cI, 2000, .inl fs)), (b2, .inl (cI, 2000, .inl f_3)), (b3, .inl (cI, 2000, .inl f_4)), (b4, .inl (cI, 2000, .inl f_5)), (b5, .inl (cI, 2000, .inl f_6))]) hP hD [0, 1, 8, 2, 3, 4, 5, 6, 7] [9] rfl rfl (by decide) (by decide) hk1 hFc hP1 hD1
  clear hPc hDc hFc hP1 hK1 hD1 hz1 hk1 ht
  generalize H1 = H at hP hS ⊢
  have hP : va_P (dC, dI) vwCl [(a2, .inl (cI, n, .inl f_1)), (x, .inr (3, [.ref na, .ref ro, .ref oa, .int bg, .int en, .int mo, .int ca, .int bo, .int mc])), (na, .inl (cN, n, .inr (.inr (.inr (.inr fn))))), (nd, .inr (0, [.int ix, .ref a1, .ref a2, .ref a3, .ref a4, .ref a5, .int up, .int 1, .int ((rd + 1)), .int 0, .ref tk])), (ro, .inr (2, [.int wd, .ref b1, .ref b2, .ref b3, .ref b4, .ref b5, .ref b6, .int 0, .int ((nI n)), .int ((nI n))])), (b1, .inl (cI, 2000, .inl fs)), (b2, .inl (cI, 2000, .inl f_3)), (b3, .inl (cI, 2000, .inl f_4)), (b4, .inl (cI, 2000, .inl f_5)), (b5, .inl (cI, 2000, .inl f_6))] H := hP
  have hD : va_D A [(a2, .inl (cI, n, .inl f_1)), (x, .inr (3, [.ref na, .ref ro, .ref oa, .int bg, .int en, .int mo, .int ca, .int bo, .int mc])), (na, .inl (cN, n, .inr (.inr (.inr (.inr fn))))), (nd, .inr (0, [.int ix, .ref a1, .ref a2, .ref a3, .ref a4, .ref a5, .int up, .int 1, .int ((rd + 1)), .int 0, .ref tk])), (ro, .inr (2, [.int wd, .ref b1, .ref b2, .ref b3, .ref b4, .ref b5, .ref b6, .int 0, .int ((nI n)), .int ((nI n))])), (b1, .inl (cI, 2000, .inl fs)), (b2, .inl (cI, 2000, .inl f_3)), (b3, .inl (cI, 2000, .inl f_4)), (b4, .inl (cI, 2000, .inl f_5)), (b5, .inl (cI, 2000, .inl f_6))] := hD
  have hP9 := hP.sub (ws' := [(x, .inr (3, [.ref na, .ref ro, .ref oa, .int bg, .int en, .int mo, .int ca, .int bo, .int mc])), (na, .inl (cN, n, .inr (.inr (.inr (.inr fn))))), (nd, .inr (0, [.int ix, .ref a1, .ref a2, .ref a3, .ref a4, .ref a5, .int up, .int 1, .int ((rd + 1)), .int 0, .ref tk])), (a2, .inl (cI, n, .inl f_1)), (ro, .inr (2, [.int wd, .ref b1, .ref b2, .ref b3, .ref b4, .ref b5, .ref b6, .int 0, .int ((nI n)), .int ((nI n))])), (b1, .inl (cI, 2000, .inl fs)), (b2, .inl (cI, 2000, .inl f_3)), (b3, .inl (cI, 2000, .inl f_4)), (b4, .inl (cI, 2000, .inl f_5)), (b5, .inl (cI, 2000, .inl f_6))]) [1, 2, 3, 0, 4, 5, 6, 7, 8, 9] rfl
  have hD9 := hD.sub (ws' := [(x, .inr (3, [.ref na, .ref ro, .ref oa, .int bg, .int en, .int mo, .int ca, .int bo, .int mc])), (na, .inl (cN, n, .inr (.inr (.inr (.inr fn))))), (nd, .inr (0, [.int ix, .ref a1, .ref a2, .ref a3, .ref a4, .ref a5, .int up, .int 1, .int ((rd + 1)), .int 0, .ref tk])), (a2, .inl (cI, n, .inl f_1)), (ro, .inr (2, [.int wd, .ref b1, .ref b2, .ref b3, .ref b4, .ref b5, .ref b6, .int 0, .int ((nI n)), .int ((nI n))])), (b1, .inl (cI, 2000, .inl fs)), (b2, .inl (cI, 2000, .inl f_3)), (b3, .inl (cI, 2000, .inl f_4)), (b4, .inl (cI, 2000, .inl f_5)), (b5, .inl (cI, 2000, .inl f_6))]) [1, 2, 3, 0, 4, 5, 6, 7, 8, 9] (by decide) rfl
  refine W.widen (k := 0) (n := 0) (by omega) (by omega) ?_
  exact W.vret hx hb hr (fun t ht hW => ⟨⟨(), rfl, trivial, f_1, f_3, f_4, f_5, f_6, by rw [ht]; exact hP9, va_K.moved hW.alike hK, hD9⟩, hS.F ht⟩) hS.2.2 dX3_beginCollect_12
set_option maxHeartbeats 4000000 in
set_option maxRecDepth 100000 in
/-- begin on a fresh object: it is OPERATION 1 -/
theorem c_X3_begin (l : Launch) (dC : Nat → ClassId) (dI : Nat → Nat → Nat) (cI cZ cN cO : ClassId) (x na ro oa n : Nat) (fn : Nat → Option Nat) (nd a1 a2 a3 a4 a5 b1 b2 b3 b4 b5 b6 : Nat) (ix p0 p1 p2 p3 : Int32) (fs : Nat → Int32) (sz : Nat) (hn : n ≤ 31) (hfs : ∀ j, j < 2000 → fs j = nI j) (hy : isN n p0) (hnd : fn p0.toNatClampNeg = some nd) : Met l yX3_begin (.code yX3_begin cX3_begin 7 (some .int) :: gw) ({ frames := 3, cells := 2, slots := 12 + n, locals := 72 }) (va_Pc [.ref x, .int p0, .int p1, .int p2, .int p3] (fun U => U.heap.size = sz ∧ va_P (dC, dI) vwCl [(x, .inr (3, [.ref na, .ref ro, .ref oa, .int 0, .int 0, .int 0, .int 0, .int 0, .int 0])), (na, .inl (cN, n, .inr (.inr (.inr (.inr fn))))), (nd, .inr (0, [.int ix, .ref a1, .ref a2, .ref a3, .ref a4, .ref a5, .int 1, .int 0, .int 0, .int 0, .null])), (a2, .inl (cI, n, .inl ((fun _ => 0)))), (a4, .inl (cI, n, .inl ((fun _ => 0)))), (ro, .inr (2, [.int (nI n), .ref b1, .ref b2, .ref b3, .ref b4, .ref b5, .ref b6, .int 0, .int 0, .int 0])), (b1, .inl (cI, 2000, .inl fs)), (b2, .inl (cI, 2000, .inl ((fun _ => 0)))), (b3, .inl (cI, 2000, .inl ((fun _ => 0)))), (b4, .inl (cI, 2000, .inl ((fun _ => 0)))), (b5, .inl (cI, 2000, .inl ((fun _ => 0)))), (oa, .inl (cO, 512, .inr (.inr (.inr (.inr ((fun _ => none)))))))] U.heap ∧ va_K (dC, dI) vwCl (gTy cI cZ cN cO) U ∧ va_D (fun _ => True) [(x, .inr (3, [.ref na, .ref ro, .ref oa, .int 0, .int 0, .int 0, .int 0, .int 0, .int 0])), (na, .inl (cN, n, .inr (.inr (.inr (.inr fn))))), (nd, .inr (0, [.int ix, .ref a1, .ref a2, .ref a3, .ref a4, .ref a5, .int 1, .int 0, .int 0, .int 0, .null])), (a2, .inl (cI, n, .inl ((fun _ => 0)))), (a4, .inl (cI, n, .inl ((fun _ => 0)))), (ro, .inr (2, [.int (nI n), .ref b1, .ref b2, .ref b3, .ref b4, .ref b5, .ref b6, .int 0, .int 0, .int 0])), (b1, .inl (cI, 2000, .inl fs)), (b2, .inl (cI, 2000, .inl ((fun _ => 0)))), (b3, .inl (cI, 2000, .inl ((fun _ => 0)))), (b4, .inl (cI, 2000, .inl ((fun _ => 0)))), (b5, .inl (cI, 2000, .inl ((fun _ => 0)))), (oa, .inl (cO, 512, .inr (.inr (.inr (.inr ((fun _ => none)))))))])) (va_Qi (fun (r : Int32) (_ : Unit) => r = 1) (fun (_ : Unit) (t : State) => va_P (dC, dI) vwCl [] t.heap ∧ va_K (dC, dI) vwCl (gTy cI cZ cN cO) t ∧ va_D (va_A [(x, .inr (3, [.ref na, .ref ro, .ref oa, .int 0, .int 0, .int 0, .int 0, .int 0, .int 0])), (na, .inl (cN, n, .inr (.inr (.inr (.inr fn))))), (nd, .inr (0, [.int ix, .ref a1, .ref a2, .ref a3, .ref a4, .ref a5, .int 1, .int 0, .int 0, .int 0, .null])), (a2, .inl (cI, n, .inl ((fun _ => 0)))), (a4, .inl (cI, n, .inl ((fun _ => 0)))), (ro, .inr (2, [.int (nI n), .ref b1, .ref b2, .ref b3, .ref b4, .ref b5, .ref b6, .int 0, .int 0, .int 0])), (b1, .inl (cI, 2000, .inl fs)), (b2, .inl (cI, 2000, .inl ((fun _ => 0)))), (b3, .inl (cI, 2000, .inl ((fun _ => 0)))), (b4, .inl (cI, 2000, .inl ((fun _ => 0)))), (b5, .inl (cI, 2000, .inl ((fun _ => 0)))), (oa, .inl (cO, 512, .inr (.inr (.inr (.inr ((fun _ => none)))))))] sz) []) (va_A [(x, .inr (3, [.ref na, .ref ro, .ref oa, .int 0, .int 0, .int 0, .int 0, .int 0, .int 0])), (na, .inl (cN, n, .inr (.inr (.inr (.inr fn))))), (nd, .inr (0, [.int ix, .ref a1, .ref a2, .ref a3, .ref a4, .ref a5, .int 1, .int 0, .int 0, .int 0, .null])), (a2, .inl (cI, n, .inl ((fun _ => 0)))), (a4, .inl (cI, n, .inl ((fun _ => 0)))), (ro, .inr (2, [.int (nI n), .ref b1, .ref b2, .ref b3, .ref b4, .ref b5, .ref b6, .int 0, .int 0, .int 0])), (b1, .inl (cI, 2000, .inl fs)), (b2, .inl (cI, 2000, .inl ((fun _ => 0)))), (b3, .inl (cI, 2000, .inl ((fun _ => 0)))), (b4, .inl (cI, 2000, .inl ((fun _ => 0)))), (b5, .inl (cI, 2000, .inl ((fun _ => 0)))), (oa, .inl (cO, 512, .inr (.inr (.inr (.inr ((fun _ => none)))))))] sz)) (2) (12 + n) (va_A [(x, .inr (3, [.ref na, .ref ro, .ref oa, .int 0, .int 0, .int 0, .int 0, .int 0, .int 0])), (na, .inl (cN, n, .inr (.inr (.inr (.inr fn))))), (nd, .inr (0, [.int ix, .ref a1, .ref a2, .ref a3, .ref a4, .ref a5, .int 1, .int 0, .int 0, .int 0, .null])), (a2, .inl (cI, n, .inl ((fun _ => 0)))), (a4, .inl (cI, n, .inl ((fun _ => 0)))), (ro, .inr (2, [.int (nI n), .ref b1, .ref b2, .ref b3, .ref b4, .ref b5, .ref b6, .int 0, .int 0, .int 0])), (b1, .inl (cI, 2000, .inl fs)), (b2, .inl (cI, 2000, .inl ((fun _ => 0)))), (b3, .inl (cI, 2000, .inl ((fun _ => 0)))), (b4, .inl (cI, 2000, .inl ((fun _ => 0)))), (b5, .inl (cI, 2000, .inl ((fun _ => 0)))), (oa, .inl (cO, 512, .inr (.inr (.inr (.inr ((fun _ => none)))))))] sz) := by
  refine Met.ofW (cc := cX3_begin) (maxL := 7) (ret := (some .int)) (by decide) rfl ?_
  intro p e s m args below meth c s₁ B hml hv
  obtain ⟨rfl, hsz, hP, hK, hD0⟩ := hv
  have hx := B.exec
  have hb := B.bytes
  have hr := B.returns
  have hts := atoms_spec (ws := (.code yX3_begin cX3_begin 7 (some .int) :: gw)) B.pre
  have hg : ∀ w ∈ gw, w.before _ s = true := fun w h => hts w (List.mem_cons_of_mem _ h)
  have hown : s.vm.findClass RX3 = some m.cls := findClass_of_methodNamed B.named
  have hlocks := B.notSynchronized
  subst hsz
  have hD := hD0.self (sz := s.heap.size)
  generalize hAe : va_A [(x, .inr (3, [.ref na, .ref ro, .ref oa, .int 0, .int 0, .int 0, .int 0, .int 0, .int 0])), (na, .inl (cN, n, .inr (.inr (.inr (.inr fn))))), (nd, .inr (0, [.int ix, .ref a1, .ref a2, .ref a3, .ref a4, .ref a5, .int 1, .int 0, .int 0, .int 0, .null])), (a2, .inl (cI, n, .inl ((fun _ => 0)))), (a4, .inl (cI, n, .inl ((fun _ => 0)))), (ro, .inr (2, [.int (nI n), .ref b1, .ref b2, .ref b3, .ref b4, .ref b5, .ref b6, .int 0, .int 0, .int 0])), (b1, .inl (cI, 2000, .inl fs)), (b2, .inl (cI, 2000, .inl ((fun _ => 0)))), (b3, .inl (cI, 2000, .inl ((fun _ => 0)))), (b4, .inl (cI, 2000, .inl ((fun _ => 0)))), (b5, .inl (cI, 2000, .inl ((fun _ => 0)))), (oa, .inl (cO, 512, .inr (.inr (.inr (.inr ((fun _ => none)))))))] s.heap.size = A at hD ⊢
  have hA : ∀ q : Nat, s.heap.size ≤ q → A q := fun q h => by rw [← hAe]; exact Or.inr h
  have hS : va_S A s.heap s.heap [] := va_S.rf
  obtain ⟨H, eH⟩ : ∃ z, z = s.heap := ⟨_, rfl⟩
  obtain ⟨locs, elocs⟩ : ∃ z : List Loc, z = [] := ⟨_, rfl⟩
  have hP : va_P (dC, dI) vwCl [(x, .inr (3, [.ref na, .ref ro, .ref oa, .int 0, .int 0, .int 0, .int 0, .int 0, .int 0])), (na, .inl (cN, n, .inr (.inr (.inr (.inr fn))))), (nd, .inr (0, [.int ix, .ref a1, .ref a2, .ref a3, .ref a4, .ref a5, .int 1, .int 0, .int 0, .int 0, .null])), (a2, .inl (cI, n, .inl ((fun _ => 0)))), (a4, .inl (cI, n, .inl ((fun _ => 0)))), (ro, .inr (2, [.int (nI n), .ref b1, .ref b2, .ref b3, .ref b4, .ref b5, .ref b6, .int 0, .int 0, .int 0])), (b1, .inl (cI, 2000, .inl fs)), (b2, .inl (cI, 2000, .inl ((fun _ => 0)))), (b3, .inl (cI, 2000, .inl ((fun _ => 0)))), (b4, .inl (cI, 2000, .inl ((fun _ => 0)))), (b5, .inl (cI, 2000, .inl ((fun _ => 0)))), (oa, .inl (cO, 512, .inr (.inr (.inr (.inr ((fun _ => none)))))))] H := by rw [eH]; exact hP
  have hS : va_S A s.heap H locs := by rw [eH, elocs]; exact hS
  have hl := lv_entry ([.ref x, .int p0, .int p1, .int p2, .int p3]) (n := 7) (Nat.le_of_ble_eq_true rfl)
  rw [lg_entry_eq]
  generalize (lg_sl ([.ref x, .int p0, .int p1, .int p2, .int p3]) ++ List.replicate (7 - (lg_sl ([.ref x, .int p0, .int p1, .int p2, .int p3])).length) Slot.unset).toArray = ls at hl ⊢
  have hl : lv_has ls 7 [(0, .ref x), (1, .int p0), (2, .int p1), (3, .int p2), (4, .int p3)] := hl
  rw [← elocs]
  suffices hgoal : ∀ HH, H = HH → W p l e (headSpec (.code yX3_begin cX3_begin 7 (some .int) :: gw) ({ frames := 3, cells := 2, slots := 12 + n, locals := 72 })).room s m _ below meth c HH locs 0 0 _ (F0 m 0 ls []) from hgoal _ eH
  rintro _ rfl
  refine lv_aload_n hx hb dX3_begin_0 rfl (lv_at hl 0 rfl) ?_
  refine va_get (D := (dC, dI)) (ci := 3) (v := .ref na) (C := RX3) (T := TX3) (N := 9) hx hb hg inX3 hown hK hP 0 rfl rfl 0 (by decide) (hg _ kF_X3_11) (fun _ h9 => h9) rfl dX3_begin_1 ?_
  refine lv_iload_n hx hb dX3_begin_4 rfl (lv_at hl 1 rfl) ?_
  refine va_aldq hx hb hK hP 1 2 rfl rfl (isN_in (by omega) hy) dX3_begin_5 ?_
  rw [show fn p0.toNatClampNeg = some nd from hnd]
  dsimp only [va_rf]
  refine lv_astore (lv' := [(5, .ref nd), (0, .ref x), (1, .int p0), (2, .int p1), (3, .int p2), (4, .int p3)]) hx hb dX3_begin_6 hl (by decide) rfl (fun ls hl => ?_)
  refine lv_aload hx hb dX3_begin_8 (lv_at hl 0 rfl) ?_
  refine va_get (D := (dC, dI)) (ci := 0) (v := .int 1) (C := RX0) (T := TX0) (N := 11) hx hb hg inX0 hown hK hP 2 rfl rfl 6 (by decide) (hg _ kF_X3_66) (fun _ h9 => h9) rfl dX3_begin_10 ?_
  refine lv_if_eq (tgt := 49) hx hb dX3_begin_13 (by decide) (fun c_13 => absurd c_13 (by decide)) (fun c_13 => ?_)
  refine lv_aload hx hb dX3_begin_16 (lv_at hl 0 rfl) ?_
  refine va_get (D := (dC, dI)) (ci := 0) (v := .null) (C := RX0) (T := TX0) (N := 11) hx hb hg inX0 hown hK hP 2 rfl rfl 10 (by decide) (hg _ kF_X3_139) (fun _ h9 => h9) rfl dX3_begin_18 ?_
  refine lv_ifnonnullN hx hb dX3_begin_21 ?_
  refine lv_aload_n hx hb dX3_begin_24 rfl (lv_at hl 1 rfl) ?_
  refine va_get (D := (dC, dI)) (ci := 3) (v := .int 0) (C := RX3) (T := TX3) (N := 9) hx hb hg inX3 hown hK hP 0 rfl rfl 3 (by decide) (hg _ kF_X3_119) (fun _ h9 => h9) rfl dX3_begin_25 ?_
  refine lv_sipush (v := 511) hx hb dX3_begin_28 (by decide) ?_
  refine lv_icmp_ge (tgt := 49) hx hb dX3_begin_31 (by decide) (fun c_31 => absurd c_31 (by decide)) (fun c_31 => ?_)
  refine lv_aload_n hx hb dX3_begin_34 rfl (lv_at hl 1 rfl) ?_
  refine va_get (D := (dC, dI)) (ci := 3) (v := .ref ro) (C := RX3) (T := TX3) (N := 9) hx hb hg inX3 hown hK hP 0 rfl rfl 1 (by decide) (hg _ kF_X3_23) (fun _ h9 => h9) rfl dX3_begin_35 ?_
  refine lv_aload_n hx hb dX3_begin_38 rfl (lv_at hl 1 rfl) ?_
  refine va_get (D := (dC, dI)) (ci := 3) (v := .ref na) (C := RX3) (T := TX3) (N := 9) hx hb hg inX3 hown hK hP 0 rfl rfl 0 (by decide) (hg _ kF_X3_11) (fun _ h9 => h9) rfl dX3_begin_39 ?_
  refine va_alen (v := nI n) hx hb hK hP 1 2 rfl rfl (by rfl) dX3_begin_42 ?_
  have hPc := hP.sub (ws' := [(ro, .inr (2, [.int (nI n), .ref b1, .ref b2, .ref b3, .ref b4, .ref b5, .ref b6, .int 0, .int 0, .int 0]))]) [5] rfl
  refine vp_callSi (W.runV (As := [.int (nI n)]) (rest := []) ⟨hx, hb, hml, hown, hg⟩ (c_X2_hasRoom l dC dI cI cZ cN cO ro b1 b2 b3 b4 b5 b6 (nI n) 0 0 0 (nI n)) (cwV 1 hg (gw_V kM_X3_143 kI_X2_hasRoom kS_X2_hasRoom kN_X2 kD_X2_hasRoom) rfl rfl rfl (by decide +kernel) ⟨Nat.le_of_ble_eq_true rfl, Nat.le_of_ble_eq_true rfl⟩) ⟨fun a U g mk q => by obtain ⟨q0, qP, qK⟩ := q; exact ⟨q0, qP, va_K.moved (u := U) (U := U.calling g mk a) (Vm.Alike.refl U.vm) qK⟩, va_recv hK hP (ci := 2) (q0 := 5) rfl rfl, fun U hU hW => ⟨rfl, by rw [hU]; exact hPc, va_K.moved hW.alike hK⟩⟩ rfl rfl hl.1 rfl (lv_room (Nat.le_of_ble_eq_true rfl)) dX3_begin_43 ⟨Nat.zero_le _, Nat.zero_le _⟩) (fun r_1 hr_1 => ?_)
  refine lv_if_ne (tgt := 51) hx hb dX3_begin_46 (by decide) (fun c_46 => ?_) (fun c_46 => absurd (show (¬ (2000 : Int32) < 0 + nI n) from by rw [← nI_2000, ← nI_0, nI_add, Nat.zero_add]; exact nI_nlt (by omega) (by omega)) (ite_eq0 hr_1 c_46))
  refine lv_aload_n hx hb dX3_begin_51 rfl (lv_at hl 1 rfl) ?_
  refine lv_dup hx hb dX3_begin_52 rfl ?_
  refine va_get (D := (dC, dI)) (ci := 3) (v := .int 0) (C := RX3) (T := TX3) (N := 9) hx hb hg inX3 hown hK hP 0 rfl rfl 5 (by decide) (hg _ kF_X3_70) (fun _ h9 => h9) rfl dX3_begin_53 ?_
  refine lv_iconst (v := 1) hx hb dX3_begin_56 (by decide) ?_
  refine lv_iadd hx hb dX3_begin_57 ?_
  rw [show (0 : Int32) + 1 = 1 from by decide]
  refine va_put (D := (dC, dI)) (ci := 3) (v := .int 1) (ty := .int) (C := RX3) (T := TX3) (N := 9) hx hb hg inX3 tyX3 tyX3_ok nmX3 hown hK hP hD hS 0 rfl rfl 5 (by decide) (hg _ kF_X3_70) (fun _ h9 => h9) rfl (by decide +kernel) rfl rfl (Nat.le_of_ble_eq_true rfl) dX3_begin_58 (fun H locs hP hD hS => ?_)
  have hP : va_P (dC, dI) vwCl [(x, .inr (3, [.ref na, .ref ro, .ref oa, .int 0, .int 0, .int 1, .int 0, .int 0, .int 0])), (na, .inl (cN, n, .inr (.inr (.inr (.inr fn))))), (nd, .inr (0, [.int ix, .ref a1, .ref a2, .ref a3, .ref a4, .ref a5, .int 1, .int 0, .int 0, .int 0, .null])), (a2, .inl (cI, n, .inl ((fun _ => 0)))), (a4, .inl (cI, n, .inl ((fun _ => 0)))), (ro, .inr (2, [.int (nI n), .ref b1, .ref b2, .ref b3, .ref b4, .ref b5, .ref b6, .int 0, .int 0, .int 0])), (b1, .inl (cI, 2000, .inl fs)), (b2, .inl (cI, 2000, .inl ((fun _ => 0)))), (b3, .inl (cI, 2000, .inl ((fun _ => 0)))), (b4, .inl (cI, 2000, .inl ((fun _ => 0)))), (b5, .inl (cI, 2000, .inl ((fun _ => 0)))), (oa, .inl (cO, 512, .inr (.inr (.inr (.inr ((fun _ => none)))))))] H := hP
  have hD : va_D A [(x, .inr (3, [.ref na, .ref ro, .ref oa, .int 0, .int 0, .int 1, .int 0, .int 0, .int 0])), (na, .inl (cN, n, .inr (.inr (.inr (.inr fn))))), (nd, .inr (0, [.int ix, .ref a1, .ref a2, .ref a3, .ref a4, .ref a5, .int 1, .int 0, .int 0, .int 0, .null])), (a2, .inl (cI, n, .inl ((fun _ => 0)))), (a4, .inl (cI, n, .inl ((fun _ => 0)))), (ro, .inr (2, [.int (nI n), .ref b1, .ref b2, .ref b3, .ref b4, .ref b5, .ref b6, .int 0, .int 0, .int 0])), (b1, .inl (cI, 2000, .inl fs)), (b2, .inl (cI, 2000, .inl ((fun _ => 0)))), (b3, .inl (cI, 2000, .inl ((fun _ => 0)))), (b4, .inl (cI, 2000, .inl ((fun _ => 0)))), (b5, .inl (cI, 2000, .inl ((fun _ => 0)))), (oa, .inl (cO, 512, .inr (.inr (.inr (.inr ((fun _ => none)))))))] := hD
  refine lv_aload_n hx hb dX3_begin_61 rfl (lv_at hl 1 rfl) ?_
  refine lv_dup hx hb dX3_begin_62 rfl ?_
  refine va_get (D := (dC, dI)) (ci := 3) (v := .int 0) (C := RX3) (T := TX3) (N := 9) hx hb hg inX3 hown hK hP 0 rfl rfl 3 (by decide) (hg _ kF_X3_119) (fun _ h9 => h9) rfl dX3_begin_63 ?_
  refine lv_iconst (v := 1) hx hb dX3_begin_66 (by decide) ?_
  refine lv_iadd hx hb dX3_begin_67 ?_
  rw [show (0 : Int32) + 1 = 1 from by decide]
  refine va_put (D := (dC, dI)) (ci := 3) (v := .int 1) (ty := .int) (C := RX3) (T := TX3) (N := 9) hx hb hg inX3 tyX3 tyX3_ok nmX3 hown hK hP hD hS 0 rfl rfl 3 (by decide) (hg _ kF_X3_119) (fun _ h9 => h9) rfl (by decide +kernel) rfl rfl (Nat.le_of_ble_eq_true rfl) dX3_begin_68 (fun H locs hP hD hS => ?_)
  have hP : va_P (dC, dI) vwCl [(x, .inr (3, [.ref na, .ref ro, .ref oa, .int 1, .int 0, .int 1, .int 0, .int 0, .int 0])), (na, .inl (cN, n, .inr (.inr (.inr (.inr fn))))), (nd, .inr (0, [.int ix, .ref a1, .ref a2, .ref a3, .ref a4, .ref a5, .int 1, .int 0, .int 0, .int 0, .null])), (a2, .inl (cI, n, .inl ((fun _ => 0)))), (a4, .inl (cI, n, .inl ((fun _ => 0)))), (ro, .inr (2, [.int (nI n), .ref b1, .ref b2, .ref b3, .ref b4, .ref b5, .ref b6, .int 0, .int 0, .int 0])), (b1, .inl (cI, 2000, .inl fs)), (b2, .inl (cI, 2000, .inl ((fun _ => 0)))), (b3, .inl (cI, 2000, .inl ((fun _ => 0)))), (b4, .inl (cI, 2000, .inl ((fun _ => 0)))), (b5, .inl (cI, 2000, .inl ((fun _ => 0)))), (oa, .inl (cO, 512, .inr (.inr (.inr (.inr ((fun _ => none)))))))] H := hP
  have hD : va_D A [(x, .inr (3, [.ref na, .ref ro, .ref oa, .int 1, .int 0, .int 1, .int 0, .int 0, .int 0])), (na, .inl (cN, n, .inr (.inr (.inr (.inr fn))))), (nd, .inr (0, [.int ix, .ref a1, .ref a2, .ref a3, .ref a4, .ref a5, .int 1, .int 0, .int 0, .int 0, .null])), (a2, .inl (cI, n, .inl ((fun _ => 0)))), (a4, .inl (cI, n, .inl ((fun _ => 0)))), (ro, .inr (2, [.int (nI n), .ref b1, .ref b2, .ref b3, .ref b4, .ref b5, .ref b6, .int 0, .int 0, .int 0])), (b1, .inl (cI, 2000, .inl fs)), (b2, .inl (cI, 2000, .inl ((fun _ => 0)))), (b3, .inl (cI, 2000, .inl ((fun _ => 0)))), (b4, .inl (cI, 2000, .inl ((fun _ => 0)))), (b5, .inl (cI, 2000, .inl ((fun _ => 0)))), (oa, .inl (cO, 512, .inr (.inr (.inr (.inr ((fun _ => none)))))))] := hD
  refine va_new (ci := 1) (fs := [.int 0, .int 0, .int 0, .int 0, .int 0, .int 0, .null, .int 0, .int 0, .int 0, .int 0, .int 0]) (C := RX1) (T := TX1) (N := 12) hx hb hg inX1 tyX1 tyX1_ok hown (hg _ kC_X3_27) (hg _ kB_X1) (hg _ kN_X1) hK hP hD hS hA rfl (fun j hj => by have hj2 : j < 12 := hj; clear hj; revert j; decide) (by show 0 + 1 ≤ 2; omega) (by show 0 + 12 ≤ 12 + n; omega) dX3_begin_71 (fun q_2 H hP hD hS => ?_)
  have hP : va_P (dC, dI) vwCl [(x, .inr (3, [.ref na, .ref ro, .ref oa, .int 1, .int 0, .int 1, .int 0, .int 0, .int 0])), (na, .inl (cN, n, .inr (.inr (.inr (.inr fn))))), (nd, .inr (0, [.int ix, .ref a1, .ref a2, .ref a3, .ref a4, .ref a5, .int 1, .int 0, .int 0, .int 0, .null])), (a2, .inl (cI, n, .inl ((fun _ => 0)))), (a4, .inl (cI, n, .inl ((fun _ => 0)))), (ro, .inr (2, [.int (nI n), .ref b1, .ref b2, .ref b3, .ref b4, .ref b5, .ref b6, .int 0, .int 0, .int 0])), (b1, .inl (cI, 2000, .inl fs)), (b2, .inl (cI, 2000, .inl ((fun _ => 0)))), (b3, .inl (cI, 2000, .inl ((fun _ => 0)))), (b4, .inl (cI, 2000, .inl ((fun _ => 0)))), (b5, .inl (cI, 2000, .inl ((fun _ => 0)))), (oa, .inl (cO, 512, .inr (.inr (.inr (.inr ((fun _ => none))))))), (q_2, .inr (1, [.int 0, .int 0, .int 0, .int 0, .int 0, .int 0, .null, .int 0, .int 0, .int 0, .int 0, .int 0]))] H := hP
  have hD : va_D A [(x, .inr (3, [.ref na, .ref ro, .ref oa, .int 1, .int 0, .int 1, .int 0, .int 0, .int 0])), (na, .inl (cN, n, .inr (.inr (.inr (.inr fn))))), (nd, .inr (0, [.int ix, .ref a1, .ref a2, .ref a3, .ref a4, .ref a5, .int 1, .int 0, .int 0, .int 0, .null])), (a2, .inl (cI, n, .inl ((fun _ => 0)))), (a4, .inl (cI, n, .inl ((fun _ => 0)))), (ro, .inr (2, [.int (nI n), .ref b1, .ref b2, .ref b3, .ref b4, .ref b5, .ref b6, .int 0, .int 0, .int 0])), (b1, .inl (cI, 2000, .inl fs)), (b2, .inl (cI, 2000, .inl ((fun _ => 0)))), (b3, .inl (cI, 2000, .inl ((fun _ => 0)))), (b4, .inl (cI, 2000, .inl ((fun _ => 0)))), (b5, .inl (cI, 2000, .inl ((fun _ => 0)))), (oa, .inl (cO, 512, .inr (.inr (.inr (.inr ((fun _ => none))))))), (q_2, .inr (1, [.int 0, .int 0, .int 0, .int 0, .int 0, .int 0, .null, .int 0, .int 0, .int 0, .int 0, .int 0]))] := hD
  refine lv_dup hx hb dX3_begin_74 rfl ?_
  refine lv_aload_n hx hb dX3_begin_75 rfl (lv_at hl 1 rfl) ?_
  refine va_get (D := (dC, dI)) (ci := 3) (v := .int 1) (C := RX3) (T := TX3) (N := 9) hx hb hg inX3 hown hK hP 0 rfl rfl 3 (by decide) (hg _ kF_X3_119) (fun _ h9 => h9) rfl dX3_begin_76 ?_
  refine lv_iload_n hx hb dX3_begin_79 rfl (lv_at hl 2 rfl) ?_
  refine lv_iload_n hx hb dX3_begin_80 rfl (lv_at hl 3 rfl) ?_
  refine lv_iload_n hx hb dX3_begin_81 rfl (lv_at hl 4 rfl) ?_
  refine lv_iload hx hb dX3_begin_82 (lv_at hl 5 rfl) ?_
  refine lv_aload_n hx hb dX3_begin_84 rfl (lv_at hl 1 rfl) ?_
  refine va_get (D := (dC, dI)) (ci := 3) (v := .int 1) (C := RX3) (T := TX3) (N := 9) hx hb hg inX3 hown hK hP 0 rfl rfl 5 (by decide) (hg _ kF_X3_70) (fun _ h9 => h9) rfl dX3_begin_85 ?_
  refine lv_aload_n hx hb dX3_begin_88 rfl (lv_at hl 1 rfl) ?_
  refine va_get (D := (dC, dI)) (ci := 3) (v := .ref na) (C := RX3) (T := TX3) (N := 9) hx hb hg inX3 hown hK hP 0 rfl rfl 0 (by decide) (hg _ kF_X3_11) (fun _ h9 => h9) rfl dX3_begin_89 ?_
  refine va_alen (v := nI n) hx hb hK hP 1 2 rfl rfl (by rfl) dX3_begin_92 ?_
  have hPc := hP.sub (ws' := [(q_2, .inr (1, [.int 0, .int 0, .int 0, .int 0, .int 0, .int 0, .null, .int 0, .int 0, .int 0, .int 0, .int 0]))]) [12] rfl
  have hDc := hD.sub (ws' := [(q_2, .inr (1, [.int 0, .int 0, .int 0, .int 0, .int 0, .int 0, .null, .int 0, .int 0, .int 0, .int 0, .int 0]))]) [12] (by decide) rfl
  have hFc := va_free (wc := [(q_2, .inr (1, [.int 0, .int 0, .int 0, .int 0, .int 0, .int 0, .null, .int 0, .int 0, .int 0, .int 0, .int 0]))]) hD hS hA [12] rfl
  refine va_callv (va_runI (As := [.int 1, .int p0, .int p1, .int p2, .int p3, .int 1, .int (nI n)]) (rest := [.ref q_2]) ⟨hx, hb, hml, hown, hg⟩ (c_X1_init l dC dI cI cZ cN cO q_2 n 1 p0 p1 p2 p3 1 H.size hn) (cwI 7 hg (gw_in kD_X1_init) rfl rfl rfl (hg _ kN_X1) (hg _ kM_X3_146) (hg _ kI_X1_init) rfl (by decide +kernel) ⟨Nat.le_of_ble_eq_true rfl, Nat.le_of_ble_eq_true rfl⟩) ⟨fun a U g mk q => by obtain ⟨q0, q1, qP, qK, qD⟩ := q; exact ⟨q0, q1, qP, va_K.moved (u := U) (U := U.calling g mk a) (Vm.Alike.refl U.vm) qK, qD⟩, fun U hU hW => ⟨rfl, by rw [hU], by rw [hU]; exact hPc, va_K.moved hW.alike hK, hDc.weaken (fun _ _ _ _ => trivial)⟩⟩ rfl rfl hl.1 rfl (lv_room (Nat.le_of_ble_eq_true rfl)) dX3_begin_93 ⟨(by show 0 + 1 + 1 ≤ 2; omega), (by show 0 + 12 + n ≤ 12 + n; omega)⟩) hS (fun q _ h => hFc q h) hFc (fun u t H1 locs ht hvm hw hB hz1 hk1 hS => ?_)
  obtain ⟨sa_3, hP1, hK1, hD1⟩ := hB
  rw [ht] at hP1
  obtain ⟨hP, hD⟩ := va_join (wr := [(x, .inr (3, [.ref na, .ref ro, .ref oa, .int 1, .int 0, .int 1, .int 0, .int 0, .int 0])), (na, .inl (cN, n, .inr (.inr (.inr (.inr fn))))), (nd, .inr (0, [.int ix, .ref a1, .ref a2, .ref a3, .ref a4, .ref a5, .int 1, .int 0, .int 0, .int 0, .null])), (a2, .inl (cI, n, .inl ((fun _ => 0)))), (a4, .inl (cI, n, .inl ((fun _ => 0)))), (ro, .inr (2, [.int (nI n), .ref b1, .ref b2, .ref b3, .ref b4, .ref b5, .ref b6, .int 0, .int 0, .int 0])), (b1, .inl (cI, 2000, .inl fs)), (b2, .inl (cI, 2000, .inl ((fun _ => 0)))), (b3, .inl (cI, 2000, .inl ((fun _ => 0)))), (b4, .inl (cI, 2000, .inl ((fun _ => 0)))), (b5, .inl (cI, 2000, .inl ((fun _ => 0)))), (oa, .inl (cO, 512, .inr (.inr (.inr (.inr ((fun _ => none)))))))]) (w1 := [(q_2, .inr (1, [.int 1, .int p0, .int p1, .int p2, .int p3, .int 1, .ref sa_3, .int 0, .int ((-1)), .int 0, .int ((-1)), .int 0])), (sa_3, .inl (cI, n, .inl ((fun _ => 0))))]) hP hD [12] [0, 1, 2, 3, 4, 5, 6, 7, 8, 9, 10, 11] rfl rfl (by decide) (by decide) hk1 hFc hP1 hD1
  clear hPc hDc hFc hP1 hK1 hD1 hz1 hk1 ht
  generalize H1 = H at hP hS ⊢
  have hP : va_P (dC, dI) vwCl [(x, .inr (3, [.ref na, .ref ro, .ref oa, .int 1, .int 0, .int 1, .int 0, .int 0, .int 0])), (na, .inl (cN, n, .inr (.inr (.inr (.inr fn))))), (nd, .inr (0, [.int ix, .ref a1, .ref a2, .ref a3, .ref a4, .ref a5, .int 1, .int 0, .int 0, .int 0, .null])), (a2, .inl (cI, n, .inl ((fun _ => 0)))), (a4, .inl (cI, n, .inl ((fun _ => 0)))), (ro, .inr (2, [.int (nI n), .ref b1, .ref b2, .ref b3, .ref b4, .ref b5, .ref b6, .int 0, .int 0, .int 0])), (b1, .inl (cI, 2000, .inl fs)), (b2, .inl (cI, 2000, .inl ((fun _ => 0)))), (b3, .inl (cI, 2000, .inl ((fun _ => 0)))), (b4, .inl (cI, 2000, .inl ((fun _ => 0)))), (b5, .inl (cI, 2000, .inl ((fun _ => 0)))), (oa, .inl (cO, 512, .inr (.inr (.inr (.inr ((fun _ => none))))))), (q_2, .inr (1, [.int 1, .int p0, .int p1, .int p2, .int p3, .int 1, .ref sa_3, .int 0, .int ((-1)), .int 0, .int ((-1)), .int 0])), (sa_3, .inl (cI, n, .inl ((fun _ => 0))))] H := hP
  have hD : va_D A [(x, .inr (3, [.ref na, .ref ro, .ref oa, .int 1, .int 0, .int 1, .int 0, .int 0, .int 0])), (na, .inl (cN, n, .inr (.inr (.inr (.inr fn))))), (nd, .inr (0, [.int ix, .ref a1, .ref a2, .ref a3, .ref a4, .ref a5, .int 1, .int 0, .int 0, .int 0, .null])), (a2, .inl (cI, n, .inl ((fun _ => 0)))), (a4, .inl (cI, n, .inl ((fun _ => 0)))), (ro, .inr (2, [.int (nI n), .ref b1, .ref b2, .ref b3, .ref b4, .ref b5, .ref b6, .int 0, .int 0, .int 0])), (b1, .inl (cI, 2000, .inl fs)), (b2, .inl (cI, 2000, .inl ((fun _ => 0)))), (b3, .inl (cI, 2000, .inl ((fun _ => 0)))), (b4, .inl (cI, 2000, .inl ((fun _ => 0)))), (b5, .inl (cI, 2000, .inl ((fun _ => 0)))), (oa, .inl (cO, 512, .inr (.inr (.inr (.inr ((fun _ => none))))))), (q_2, .inr (1, [.int 1, .int p0, .int p1, .int p2, .int p3, .int 1, .ref sa_3, .int 0, .int ((-1)), .int 0, .int ((-1)), .int 0])), (sa_3, .inl (cI, n, .inl ((fun _ => 0))))] := hD
  refine lv_astore (lv' := [(6, .ref q_2), (5, .ref nd), (0, .ref x), (1, .int p0), (2, .int p1), (3, .int p2), (4, .int p3)]) hx hb dX3_begin_96 hl (by decide) rfl (fun ls hl => ?_)
  refine lv_aload_n hx hb dX3_begin_98 rfl (lv_at hl 2 rfl) ?_
  refine va_get (D := (dC, dI)) (ci := 3) (v := .ref oa) (C := RX3) (T := TX3) (N := 9) hx hb hg inX3 hown hK hP 0 rfl rfl 2 (by decide) (hg _ kF_X3_29) (fun _ h9 => h9) rfl dX3_begin_99 ?_
  refine lv_aload_n hx hb dX3_begin_102 rfl (lv_at hl 2 rfl) ?_
  refine va_get (D := (dC, dI)) (ci := 3) (v := .int 1) (C := RX3) (T := TX3) (N := 9) hx hb hg inX3 hown hK hP 0 rfl rfl 3 (by decide) (hg _ kF_X3_119) (fun _ h9 => h9) rfl dX3_begin_103 ?_
  refine lv_aload hx hb dX3_begin_106 (lv_at hl 0 rfl) ?_
  refine va_astq (r := (RX1, TX1, 12)) hx hb hK hP hD hS 11 3 12 1 rfl rfl rfl rfl (by unfold vp_in; decide +kernel) dX3_begin_108 (fun H locs hP hD hS => ?_)
  have hP : va_P (dC, dI) vwCl [(x, .inr (3, [.ref na, .ref ro, .ref oa, .int 1, .int 0, .int 1, .int 0, .int 0, .int 0])), (na, .inl (cN, n, .inr (.inr (.inr (.inr fn))))), (nd, .inr (0, [.int ix, .ref a1, .ref a2, .ref a3, .ref a4, .ref a5, .int 1, .int 0, .int 0, .int 0, .null])), (a2, .inl (cI, n, .inl ((fun _ => 0)))), (a4, .inl (cI, n, .inl ((fun _ => 0)))), (ro, .inr (2, [.int (nI n), .ref b1, .ref b2, .ref b3, .ref b4, .ref b5, .ref b6, .int 0, .int 0, .int 0])), (b1, .inl (cI, 2000, .inl fs)), (b2, .inl (cI, 2000, .inl ((fun _ => 0)))), (b3, .inl (cI, 2000, .inl ((fun _ => 0)))), (b4, .inl (cI, 2000, .inl ((fun _ => 0)))), (b5, .inl (cI, 2000, .inl ((fun _ => 0)))), (oa, .inl (cO, 512, .inr (.inr (.inr (.inr (va_up ((fun _ => none)) (1 : Int32).toNatClampNeg (some q_2))))))), (q_2, .inr (1, [.int 1, .int p0, .int p1, .int p2, .int p3, .int 1, .ref sa_3, .int 0, .int ((-1)), .int 0, .int ((-1)), .int 0])), (sa_3, .inl (cI, n, .inl ((fun _ => 0))))] H := hP
  have hD : va_D A [(x, .inr (3, [.ref na, .ref ro, .ref oa, .int 1, .int 0, .int 1, .int 0, .int 0, .int 0])), (na, .inl (cN, n, .inr (.inr (.inr (.inr fn))))), (nd, .inr (0, [.int ix, .ref a1, .ref a2, .ref a3, .ref a4, .ref a5, .int 1, .int 0, .int 0, .int 0, .null])), (a2, .inl (cI, n, .inl ((fun _ => 0)))), (a4, .inl (cI, n, .inl ((fun _ => 0)))), (ro, .inr (2, [.int (nI n), .ref b1, .ref b2, .ref b3, .ref b4, .ref b5, .ref b6, .int 0, .int 0, .int 0])), (b1, .inl (cI, 2000, .inl fs)), (b2, .inl (cI, 2000, .inl ((fun _ => 0)))), (b3, .inl (cI, 2000, .inl ((fun _ => 0)))), (b4, .inl (cI, 2000, .inl ((fun _ => 0)))), (b5, .inl (cI, 2000, .inl ((fun _ => 0)))), (oa, .inl (cO, 512, .inr (.inr (.inr (.inr (va_up ((fun _ => none)) (1 : Int32).toNatClampNeg (some q_2))))))), (q_2, .inr (1, [.int 1, .int p0, .int p1, .int p2, .int p3, .int 1, .ref sa_3, .int 0, .int ((-1)), .int 0, .int ((-1)), .int 0])), (sa_3, .inl (cI, n, .inl ((fun _ => 0))))] := hD
  obtain ⟨g_4, eg_4⟩ : ∃ y : Nat → Option Nat, y = va_up ((fun _ => none)) (1 : Int32).toNatClampNeg (some q_2) := ⟨_, rfl⟩
  rw [← eg_4] at hP hD
  have hP : va_P (dC, dI) vwCl [(x, .inr (3, [.ref na, .ref ro, .ref oa, .int 1, .int 0, .int 1, .int 0, .int 0, .int 0])), (na, .inl (cN, n, .inr (.inr (.inr (.inr fn))))), (nd, .inr (0, [.int ix, .ref a1, .ref a2, .ref a3, .ref a4, .ref a5, .int 1, .int 0, .int 0, .int 0, .null])), (a2, .inl (cI, n, .inl ((fun _ => 0)))), (a4, .inl (cI, n, .inl ((fun _ => 0)))), (ro, .inr (2, [.int (nI n), .ref b1, .ref b2, .ref b3, .ref b4, .ref b5, .ref b6, .int 0, .int 0, .int 0])), (b1, .inl (cI, 2000, .inl fs)), (b2, .inl (cI, 2000, .inl ((fun _ => 0)))), (b3, .inl (cI, 2000, .inl ((fun _ => 0)))), (b4, .inl (cI, 2000, .inl ((fun _ => 0)))), (b5, .inl (cI, 2000, .inl ((fun _ => 0)))), (oa, .inl (cO, 512, .inr (.inr (.inr (.inr g_4))))), (q_2, .inr (1, [.int 1, .int p0, .int p1, .int p2, .int p3, .int 1, .ref sa_3, .int 0, .int ((-1)), .int 0, .int ((-1)), .int 0])), (sa_3, .inl (cI, n, .inl ((fun _ => 0))))] H := hP
  have hD : va_D A [(x, .inr (3, [.ref na, .ref ro, .ref oa, .int 1, .int 0, .int 1, .int 0, .int 0, .int 0])), (na, .inl (cN, n, .inr (.inr (.inr (.inr fn))))), (nd, .inr (0, [.int ix, .ref a1, .ref a2, .ref a3, .ref a4, .ref a5, .int 1, .int 0, .int 0, .int 0, .null])), (a2, .inl (cI, n, .inl ((fun _ => 0)))), (a4, .inl (cI, n, .inl ((fun _ => 0)))), (ro, .inr (2, [.int (nI n), .ref b1, .ref b2, .ref b3, .ref b4, .ref b5, .ref b6, .int 0, .int 0, .int 0])), (b1, .inl (cI, 2000, .inl fs)), (b2, .inl (cI, 2000, .inl ((fun _ => 0)))), (b3, .inl (cI, 2000, .inl ((fun _ => 0)))), (b4, .inl (cI, 2000, .inl ((fun _ => 0)))), (b5, .inl (cI, 2000, .inl ((fun _ => 0)))), (oa, .inl (cO, 512, .inr (.inr (.inr (.inr g_4))))), (q_2, .inr (1, [.int 1, .int p0, .int p1, .int p2, .int p3, .int 1, .ref sa_3, .int 0, .int ((-1)), .int 0, .int ((-1)), .int 0])), (sa_3, .inl (cI, n, .inl ((fun _ => 0))))] := hD
  refine lv_aload hx hb dX3_begin_109 (lv_at hl 1 rfl) ?_
  refine lv_aload hx hb dX3_begin_111 (lv_at hl 0 rfl) ?_
  have hPc := hP.sub (ws' := [(nd, .inr (0, [.int ix, .ref a1, .ref a2, .ref a3, .ref a4, .ref a5, .int 1, .int 0, .int 0, .int 0, .null])), (a4, .inl (cI, n, .inl ((fun _ => 0))))]) [2, 4] rfl
  have hDc := hD.sub (ws' := [(nd, .inr (0, [.int ix, .ref a1, .ref a2, .ref a3, .ref a4, .ref a5, .int 1, .int 0, .int 0, .int 0, .null])), (a4, .inl (cI, n, .inl ((fun _ => 0))))]) [2, 4] (by decide) rfl
  have hFc := va_free (wc := [(nd, .inr (0, [.int ix, .ref a1, .ref a2, .ref a3, .ref a4, .ref a5, .int 1, .int 0, .int 0, .int 0, .null])), (a4, .inl (cI, n, .inl ((fun _ => 0))))]) hD hS hA [2, 4] rfl
  refine va_callv (va_runV (As := [.ref q_2]) (rest := []) ⟨hx, hb, hml, hown, hg⟩ (c_X0_takeUp l dC dI cI cZ cN cO nd a1 a2 a3 a4 a5 ix 1 0 0 0 q_2 n none (fun _ => 0) H.size (by omega)) (cwV 1 hg (gw_V kM_X3_149 kI_X0_takeUp kS_X0_takeUp kN_X0 kD_X0_takeUp) rfl rfl rfl (by decide +kernel) ⟨Nat.le_of_ble_eq_true rfl, Nat.le_of_ble_eq_true rfl⟩) ⟨fun a U g mk q => by obtain ⟨q0, q1, qP, qK, qD⟩ := q; exact ⟨q0, q1, qP, va_K.moved (u := U) (U := U.calling g mk a) (Vm.Alike.refl U.vm) qK, qD⟩, va_recv hK hP (ci := 0) (q0 := 2) rfl rfl, fun U hU hW => ⟨rfl, by rw [hU], by rw [hU]; exact hPc, va_K.moved hW.alike hK, hDc.weaken (fun _ _ _ _ => trivial)⟩⟩ rfl rfl hl.1 rfl (lv_room (Nat.le_of_ble_eq_true rfl)) dX3_begin_113 ⟨(by show 0 + 1 + 1 + 0 ≤ 2; omega), (by show 0 + 12 + n + 0 ≤ 12 + n; omega)⟩) hS (fun q _ h => hFc q h) hFc (fun u t H1 locs ht hvm hw hB hz1 hk1 hS => ?_)
  obtain ⟨f_5, h_6, hP1, hK1, hD1⟩ := hB
  rw [ht] at hP1
  obtain ⟨hP, hD⟩ := va_join (wr := [(x, .inr (3, [.ref na, .ref ro, .ref oa, .int 1, .int 0, .int 1, .int 0, .int 0, .int 0])), (na, .inl (cN, n, .inr (.inr (.inr (.inr fn))))), (a2, .inl (cI, n, .inl ((fun _ => 0)))), (ro, .inr (2, [.int (nI n), .ref b1, .ref b2, .ref b3, .ref b4, .ref b5, .ref b6, .int 0, .int 0, .int 0])), (b1, .inl (cI, 2000, .inl fs)), (b2, .inl (cI, 2000, .inl ((fun _ => 0)))), (b3, .inl (cI, 2000, .inl ((fun _ => 0)))), (b4, .inl (cI, 2000, .inl ((fun _ => 0)))), (b5, .inl (cI, 2000, .inl ((fun _ => 0)))), (oa, .inl (cO, 512, .inr (.inr (.inr (.inr g_4))))), (q_2, .inr (1, [.int 1, .int p0, .int p1, .int p2, .int p3, .int 1, .ref sa_3, .int 0, .int ((-1)), .int 0, .int ((-1)), .int 0])), (sa_3, .inl (cI, n, .inl ((fun _ => 0))))]) (w1 := [(nd, .inr (0, [.int ix, .ref a1, .ref a2, .ref a3, .ref a4, .ref a5, .int 1, .int 0, .int 0, .int 0, .ref q_2])), (a4, .inl (cI, n, .inl f_5))]) hP hD [2, 4] [0, 1, 3, 5, 6, 7, 8, 9, 10, 11, 12, 13] rfl rfl (by decide) (by decide) hk1 hFc hP1 hD1
  clear hPc hDc hFc hP1 hK1 hD1 hz1 hk1 ht
  generalize H1 = H at hP hS ⊢
  have hP : va_P (dC, dI) vwCl [(x, .inr (3, [.ref na, .ref ro, .ref oa, .int 1, .int 0, .int 1, .int 0, .int 0, .int 0])), (na, .inl (cN, n, .inr (.inr (.inr (.inr fn))))), (a2, .inl (cI, n, .inl ((fun _ => 0)))), (ro, .inr (2, [.int (nI n), .ref b1, .ref b2, .ref b3, .ref b4, .ref b5, .ref b6, .int 0, .int 0, .int 0])), (b1, .inl (cI, 2000, .inl fs)), (b2, .inl (cI, 2000, .inl ((fun _ => 0)))), (b3, .inl (cI, 2000, .inl ((fun _ => 0)))), (b4, .inl (cI, 2000, .inl ((fun _ => 0)))), (b5, .inl (cI, 2000, .inl ((fun _ => 0)))), (oa, .inl (cO, 512, .inr (.inr (.inr (.inr g_4))))), (q_2, .inr (1, [.int 1, .int p0, .int p1, .int p2, .int p3, .int 1, .ref sa_3, .int 0, .int ((-1)), .int 0, .int ((-1)), .int 0])), (sa_3, .inl (cI, n, .inl ((fun _ => 0)))), (nd, .inr (0, [.int ix, .ref a1, .ref a2, .ref a3, .ref a4, .ref a5, .int 1, .int 0, .int 0, .int 0, .ref q_2])), (a4, .inl (cI, n, .inl f_5))] H := hP
  have hD : va_D A [(x, .inr (3, [.ref na, .ref ro, .ref oa, .int 1, .int 0, .int 1, .int 0, .int 0, .int 0])), (na, .inl (cN, n, .inr (.inr (.inr (.inr fn))))), (a2, .inl (cI, n, .inl ((fun _ => 0)))), (ro, .inr (2, [.int (nI n), .ref b1, .ref b2, .ref b3, .ref b4, .ref b5, .ref b6, .int 0, .int 0, .int 0])), (b1, .inl (cI, 2000, .inl fs)), (b2, .inl (cI, 2000, .inl ((fun _ => 0)))), (b3, .inl (cI, 2000, .inl ((fun _ => 0)))), (b4, .inl (cI, 2000, .inl ((fun _ => 0)))), (b5, .inl (cI, 2000, .inl ((fun _ => 0)))), (oa, .inl (cO, 512, .inr (.inr (.inr (.inr g_4))))), (q_2, .inr (1, [.int 1, .int p0, .int p1, .int p2, .int p3, .int 1, .ref sa_3, .int 0, .int ((-1)), .int 0, .int ((-1)), .int 0])), (sa_3, .inl (cI, n, .inl ((fun _ => 0)))), (nd, .inr (0, [.int ix, .ref a1, .ref a2, .ref a3, .ref a4, .ref a5, .int 1, .int 0, .int 0, .int 0, .ref q_2])), (a4, .inl (cI, n, .inl f_5))] := hD
  refine lv_aload_n hx hb dX3_begin_116 rfl (lv_at hl 2 rfl) ?_
  refine lv_aload hx hb dX3_begin_117 (lv_at hl 1 rfl) ?_
  have hPc := hP.sub (ws' := [(x, .inr (3, [.ref na, .ref ro, .ref oa, .int 1, .int 0, .int 1, .int 0, .int 0, .int 0])), (na, .inl (cN, n, .inr (.inr (.inr (.inr fn))))), (nd, .inr (0, [.int ix, .ref a1, .ref a2, .ref a3, .ref a4, .ref a5, .int 1, .int 0, .int 0, .int 0, .ref q_2])), (a2, .inl (cI, n, .inl ((fun _ => 0)))), (ro, .inr (2, [.int (nI n), .ref b1, .ref b2, .ref b3, .ref b4, .ref b5, .ref b6, .int 0, .int 0, .int 0])), (b1, .inl (cI, 2000, .inl fs)), (b2, .inl (cI, 2000, .inl ((fun _ => 0)))), (b3, .inl (cI, 2000, .inl ((fun _ => 0)))), (b4, .inl (cI, 2000, .inl ((fun _ => 0)))), (b5, .inl (cI, 2000, .inl ((fun _ => 0))))]) [0, 1, 12, 2, 3, 4, 5, 6, 7, 8] rfl
  have hDc := hD.sub (ws' := [(x, .inr (3, [.ref na, .ref ro, .ref oa, .int 1, .int 0, .int 1, .int 0, .int 0, .int 0])), (na, .inl (cN, n, .inr (.inr (.inr (.inr fn))))), (nd, .inr (0, [.int ix, .ref a1, .ref a2, .ref a3, .ref a4, .ref a5, .int 1, .int 0, .int 0, .int 0, .ref q_2])), (a2, .inl (cI, n, .inl ((fun _ => 0)))), (ro, .inr (2, [.int (nI n), .ref b1, .ref b2, .ref b3, .ref b4, .ref b5, .ref b6, .int 0, .int 0, .int 0])), (b1, .inl (cI, 2000, .inl fs)), (b2, .inl (cI, 2000, .inl ((fun _ => 0)))), (b3, .inl (cI, 2000, .inl ((fun _ => 0)))), (b4, .inl (cI, 2000, .inl ((fun _ => 0)))), (b5, .inl (cI, 2000, .inl ((fun _ => 0))))]) [0, 1, 12, 2, 3, 4, 5, 6, 7, 8] (by decide) rfl
  have hFc := va_free (wc := [(x, .inr (3, [.ref na, .ref ro, .ref oa, .int 1, .int 0, .int 1, .int 0, .int 0, .int 0])), (na, .inl (cN, n, .inr (.inr (.inr (.inr fn))))), (nd, .inr (0, [.int ix, .ref a1, .ref a2, .ref a3, .ref a4, .ref a5, .int 1, .int 0, .int 0, .int 0, .ref q_2])), (a2, .inl (cI, n, .inl ((fun _ => 0)))), (ro, .inr (2, [.int (nI n), .ref b1, .ref b2, .ref b3, .ref b4, .ref b5, .ref b6, .int 0, .int 0, .int 0])), (b1, .inl (cI, 2000, .inl fs)), (b2, .inl (cI, 2000, .inl ((fun _ => 0)))), (b3, .inl (cI, 2000, .inl ((fun _ => 0)))), (b4, .inl (cI, 2000, .inl ((fun _ => 0)))), (b5, .inl (cI, 2000, .inl ((fun _ => 0))))]) hD hS hA [0, 1, 12, 2, 3, 4, 5, 6, 7, 8] rfl
  refine va_callv (va_runV (As := [.ref nd]) (rest := []) ⟨hx, hb, hml, hown, hg⟩ (c_X3_beginCollect l dC dI cI cZ cN cO x na ro oa n 1 0 1 0 0 0 fn nd a1 a2 a3 a4 a5 ix 1 0 0 0 q_2 b1 b2 b3 b4 b5 b6 (nI n) fs (fun _ => 0) (fun _ => 0) (fun _ => 0) (fun _ => 0) (fun _ => 0) H.size hn hfs) (cwV 1 hg (gw_V kM_X3_153 kI_X3_beginCollect kS_X3_beginCollect kN_X3 kD_X3_beginCollect) rfl rfl rfl (by decide +kernel) ⟨Nat.le_of_ble_eq_true rfl, Nat.le_of_ble_eq_true rfl⟩) ⟨fun a U g mk q => by obtain ⟨q0, q1, qP, qK, qD⟩ := q; exact ⟨q0, q1, qP, va_K.moved (u := U) (U := U.calling g mk a) (Vm.Alike.refl U.vm) qK, qD⟩, va_recv hK hP (ci := 3) (q0 := 0) rfl rfl, fun U hU hW => ⟨rfl, by rw [hU], by rw [hU]; exact hPc, va_K.moved hW.alike hK, hDc.weaken (fun _ _ _ _ => trivial)⟩⟩ rfl rfl hl.1 rfl (lv_room (Nat.le_of_ble_eq_true rfl)) dX3_begin_119 ⟨(by show 0 + 1 + 1 + 0 + 0 ≤ 2; omega), (by show 0 + 12 + n + 0 + 0 ≤ 12 + n; omega)⟩) hS (fun q _ h => hFc q h) hFc (fun u t H1 locs ht hvm hw hB hz1 hk1 hS => ?_)
  obtain ⟨f_7, f_8, f_9, f_10, f_11, hP1, hK1, hD1⟩ := hB
  rw [ht] at hP1
  obtain ⟨hP, hD⟩ := va_join (wr := [(oa, .inl (cO, 512, .inr (.inr (.inr (.inr g_4))))), (q_2, .inr (1, [.int 1, .int p0, .int p1, .int p2, .int p3, .int 1, .ref sa_3, .int 0, .int ((-1)), .int 0, .int ((-1)), .int 0])), (sa_3, .inl (cI, n, .inl ((fun _ => 0)))), (a4, .inl (cI, n, .inl f_5))]) (w1 := [(x, .inr (3, [.ref na, .ref ro, .ref oa, .int 1, .int 0, .int 1, .int 0, .int 0, .int 0])), (na, .inl (cN, n, .inr (.inr (.inr (.inr fn))))), (nd, .inr (0, [.int ix, .ref a1, .ref a2, .ref a3, .ref a4, .ref a5, .int 1, .int 1, .int (((0 : Int32) + 1)), .int 0, .ref q_2])), (a2, .inl (cI, n, .inl f_7)), (ro, .inr (2, [.int (nI n), .ref b1, .ref b2, .ref b3, .ref b4, .ref b5, .ref b6, .int 0, .int (nI n), .int (nI n)])), (b1, .inl (cI, 2000, .inl fs)), (b2, .inl (cI, 2000, .inl f_8)), (b3, .inl (cI, 2000, .inl f_9)), (b4, .inl (cI, 2000, .inl f_10)), (b5, .inl (cI, 2000, .inl f_11))]) hP hD [0, 1, 12, 2, 3, 4, 5, 6, 7, 8] [9, 10, 11, 13] rfl rfl (by decide) (by decide) hk1 hFc hP1 hD1
  clear hPc hDc hFc hP1 hK1 hD1 hz1 hk1 ht
  generalize H1 = H at hP hS ⊢
  have hP : va_P (dC, dI) vwCl [(oa, .inl (cO, 512, .inr (.inr (.inr (.inr g_4))))), (q_2, .inr (1, [.int 1, .int p0, .int p1, .int p2, .int p3, .int 1, .ref sa_3, .int 0, .int ((-1)), .int 0, .int ((-1)), .int 0])), (sa_3, .inl (cI, n, .inl ((fun _ => 0)))), (a4, .inl (cI, n, .inl f_5)), (x, .inr (3, [.ref na, .ref ro, .ref oa, .int 1, .int 0, .int 1, .int 0, .int 0, .int 0])), (na, .inl (cN, n, .inr (.inr (.inr (.inr fn))))), (nd, .inr (0, [.int ix, .ref a1, .ref a2, .ref a3, .ref a4, .ref a5, .int 1, .int 1, .int (((0 : Int32) + 1)), .int 0, .ref q_2])), (a2, .inl (cI, n, .inl f_7)), (ro, .inr (2, [.int (nI n), .ref b1, .ref b2, .ref b3, .ref b4, .ref b5, .ref b6, .int 0, .int (nI n), .int (nI n)])), (b1, .inl (cI, 2000, .inl fs)), (b2, .inl (cI, 2000, .inl f_8)), (b3, .inl (cI, 2000, .inl f_9)), (b4, .inl (cI, 2000, .inl f_10)), (b5, .inl (cI, 2000, .inl f_11))] H := hP
  have hD : va_D A [(oa, .inl (cO, 512, .inr (.inr (.inr (.inr g_4))))), (q_2, .inr (1, [.int 1, .int p0, .int p1, .int p2, .int p3, .int 1, .ref sa_3, .int 0, .int ((-1)), .int 0, .int ((-1)), .int 0])), (sa_3, .inl (cI, n, .inl ((fun _ => 0)))), (a4, .inl (cI, n, .inl f_5)), (x, .inr (3, [.ref na, .ref ro, .ref oa, .int 1, .int 0, .int 1, .int 0, .int 0, .int 0])), (na, .inl (cN, n, .inr (.inr (.inr (.inr fn))))), (nd, .inr (0, [.int ix, .ref a1, .ref a2, .ref a3, .ref a4, .ref a5, .int 1, .int 1, .int (((0 : Int32) + 1)), .int 0, .ref q_2])), (a2, .inl (cI, n, .inl f_7)), (ro, .inr (2, [.int (nI n), .ref b1, .ref b2, .ref b3, .ref b4, .ref b5, .ref b6, .int 0, .int (nI n), .int (nI n)])), (b1, .inl (cI, 2000, .inl fs)), (b2, .inl (cI, 2000, .inl f_8)), (b3, .inl (cI, 2000, .inl f_9)), (b4, .inl (cI, 2000, .inl f_10)), (b5, .inl (cI, 2000, .inl f_11))] := hD
  refine lv_aload_n hx hb dX3_begin_122 rfl (lv_at hl 2 rfl) ?_
  refine va_get (D := (dC, dI)) (ci := 3) (v := .int 1) (C := RX3) (T := TX3) (N := 9) hx hb hg inX3 hown hK hP 4 rfl rfl 3 (by decide) (hg _ kF_X3_119) (fun _ h9 => h9) rfl dX3_begin_123 ?_
  have hP9 := hP.sub (ws' := []) [] rfl
  have hD9 := hD.sub (ws' := []) [] (by decide) rfl
  refine W.widen (k := 2) (n := 12 + n) (by omega) (by omega) ?_
  exact W.iret (v := 1) hx hb hr (fun t ht hW => ⟨⟨_, (), rfl, rfl, by rw [ht]; exact hP9, va_K.moved hW.alike hK, hD9⟩, hS.F ht⟩) hS.2.2 dX3_begin_126
