/-- an OPERATION more: its addresses, its numbers -/
def cE (E : CE) (o q a : Nat) : CE := (E.1, E.2.1, E.2.2.1, E.2.2.2.1, fun j => if j = o then q else E.2.2.2.2.1 j, fun j => if j = o then a else E.2.2.2.2.2 j)
def nopF (p1 p2 p3 p4 p5 p6 : Int32) : Nat → Int32 := fun z => match z with
  | 0 => p1
  | 1 => p2
  | 2 => p3
  | 3 => p4
  | 4 => p5
  | 5 => p6
  | 8 => -1
  | 10 => -1
  | _ => 0
def cNew (o : Nat) (p1 p2 p3 p4 p5 p6 : Int32) (σ : CS) : CS := (fun x y z => if x = 3 ∧ y = o then nopF p1 p2 p3 p4 p5 p6 z else σ.1 x y z, fun x y z => if x = 3 ∧ y = o then (fun _ => 0) else σ.2.1 x y z, σ.2.2)
theorem cOp_grow {cI : ClassId} {E : CE} {n bg : Nat} {σ : CS} {q a : Nat} {p1 p2 p3 p4 p5 p6 : Int32} {j : Nat} (hj : j < bg) : cOp cI (cE E (bg + 1) q a) n (cNew (bg + 1) p1 p2 p3 p4 p5 p6 σ) j = cOp cI E n σ j := by
  have e1 : ∀ z, (cNew (bg + 1) p1 p2 p3 p4 p5 p6 σ).1 3 (j + 1) z = σ.1 3 (j + 1) z := fun z => if_neg (fun h => by omega)
  have e2 : ∀ z, (cNew (bg + 1) p1 p2 p3 p4 p5 p6 σ).2.1 3 (j + 1) z = σ.2.1 3 (j + 1) z := fun z => if_neg (fun h => by omega)
  have e3 : (cE E (bg + 1) q a).2.2.2.2.1 (j + 1) = E.2.2.2.2.1 (j + 1) := if_neg (by omega)
  have e4 : (cE E (bg + 1) q a).2.2.2.2.2 (j + 1) = E.2.2.2.2.2 (j + 1) := if_neg (by omega)
  unfold cOp
  simp only [e1, e2, e3, e4]
theorem cOp_new {cI : ClassId} {E : CE} {n bg : Nat} {σ : CS} {q a : Nat} {p1 p2 p3 p4 p5 p6 : Int32} : cOp cI (cE E (bg + 1) q a) n (cNew (bg + 1) p1 p2 p3 p4 p5 p6 σ) bg = [(q, .inr (1, [.int p1, .int p2, .int p3, .int p4, .int p5, .int p6, .ref a, .int 0, .int (-1), .int 0, .int (-1), .int 0])), (a, .inl (cI, n, .inl (fun _ => 0)))] := by
  have e1 : ∀ z, (cNew (bg + 1) p1 p2 p3 p4 p5 p6 σ).1 3 (bg + 1) z = nopF p1 p2 p3 p4 p5 p6 z := fun z => if_pos ⟨rfl, rfl⟩
  have e2 : ∀ z, (cNew (bg + 1) p1 p2 p3 p4 p5 p6 σ).2.1 3 (bg + 1) z = fun _ => 0 := fun z => if_pos ⟨rfl, rfl⟩
  have e3 : (cE E (bg + 1) q a).2.2.2.2.1 (bg + 1) = q := if_pos rfl
  have e4 : (cE E (bg + 1) q a).2.2.2.2.2 (bg + 1) = a := if_pos rfl
  unfold cOp
  simp only [e1, e2, e3, e4, nopF]
theorem cNd_grow {cI : ClassId} {E : CE} {n bg : Nat} {σ : CS} {q a : Nat} {p1 p2 p3 p4 p5 p6 : Int32} {k : Nat} (hk : σ.2.2 k ≤ bg) : cNd cI (cE E (bg + 1) q a) n (cNew (bg + 1) p1 p2 p3 p4 p5 p6 σ) k = cNd cI E n σ k := by
  have e1 : ∀ z, (cNew (bg + 1) p1 p2 p3 p4 p5 p6 σ).1 2 k z = σ.1 2 k z := fun z => rfl
  have e2 : ∀ z, (cNew (bg + 1) p1 p2 p3 p4 p5 p6 σ).2.1 2 k z = σ.2.1 2 k z := fun z => rfl
  have e3 : cTk (cE E (bg + 1) q a) ((cNew (bg + 1) p1 p2 p3 p4 p5 p6 σ).2.2 k) = cTk E (σ.2.2 k) := by
    show (if σ.2.2 k = 0 then none else some (if σ.2.2 k = bg + 1 then q else E.2.2.2.2.1 (σ.2.2 k))) = _
    rw [if_neg (show ¬ σ.2.2 k = bg + 1 by omega)]; rfl
  unfold cNd
  simp only [e1, e2, e3]
  rfl
theorem cW_grow {cI cN cO : ClassId} {E : CE} {n bg : Nat} {σ : CS} {q a : Nat} {p1 p2 p3 p4 p5 p6 : Int32} (htk : ∀ k, σ.2.2 k ≤ bg) : (cW cI cN cO E n bg σ).set 3 (E.1 3, .inl (cO, 512, .inr (.inr (.inr (.inr (va_up (fun j => if 1 ≤ j ∧ j ≤ bg then some (E.2.2.2.2.1 j) else none) (bg + 1) (some q))))))) ++ [(q, .inr (1, [.int p1, .int p2, .int p3, .int p4, .int p5, .int p6, .ref a, .int 0, .int (-1), .int 0, .int (-1), .int 0])), (a, .inl (cI, n, .inl (fun _ => 0)))] = cW cI cN cO (cE E (bg + 1) q a) n (bg + 1) (cNew (bg + 1) p1 p2 p3 p4 p5 p6 σ) := by
  have h10 : (cFix cI cN cO E n bg σ).length = 10 := rfl
  have hb : blk (cOp cI (cE E (bg + 1) q a) n (cNew (bg + 1) p1 p2 p3 p4 p5 p6 σ)) (bg + 1) = blk (cOp cI E n σ) bg ++ [(q, .inr (1, [.int p1, .int p2, .int p3, .int p4, .int p5, .int p6, .ref a, .int 0, .int (-1), .int 0, .int (-1), .int 0])), (a, .inl (cI, n, .inl (fun _ => 0)))] := by
    show blk _ bg ++ _ = _
    rw [cOp_new, blk_congr bg (fun j hj => cOp_grow hj)]
  have hn : blk (cNd cI (cE E (bg + 1) q a) n (cNew (bg + 1) p1 p2 p3 p4 p5 p6 σ)) n = blk (cNd cI E n σ) n := blk_congr n (fun j _ => cNd_grow (htk j))
  have hf : (cFix cI cN cO E n bg σ).set 3 (E.1 3, .inl (cO, 512, .inr (.inr (.inr (.inr (va_up (fun j => if 1 ≤ j ∧ j ≤ bg then some (E.2.2.2.2.1 j) else none) (bg + 1) (some q))))))) = cFix cI cN cO (cE E (bg + 1) q a) n (bg + 1) (cNew (bg + 1) p1 p2 p3 p4 p5 p6 σ) := by
    have hfn : va_up (fun j => if 1 ≤ j ∧ j ≤ bg then some (E.2.2.2.2.1 j) else none) (bg + 1) (some q) = fun j => if 1 ≤ j ∧ j ≤ bg + 1 then some ((cE E (bg + 1) q a).2.2.2.2.1 j) else none := by
      funext j
      show (if j = bg + 1 then some q else if 1 ≤ j ∧ j ≤ bg then some (E.2.2.2.2.1 j) else none) = if 1 ≤ j ∧ j ≤ bg + 1 then some (if j = bg + 1 then q else E.2.2.2.2.1 j) else none
      by_cases h : j = bg + 1
      · rw [if_pos h, if_pos (show 1 ≤ j ∧ j ≤ bg + 1 by omega), if_pos h]
      · rw [if_neg h]
        by_cases h2 : 1 ≤ j ∧ j ≤ bg
        · rw [if_pos h2, if_pos (show 1 ≤ j ∧ j ≤ bg + 1 by omega), if_neg h]
        · rw [if_neg h2, if_neg (show ¬ (1 ≤ j ∧ j ≤ bg + 1) by omega)]
    rw [hfn]; rfl
  unfold cW
  rw [List.set_append_left _ _ (by rw [List.length_append, h10]; omega), List.set_append_left _ _ (by rw [h10]; decide), hf, hn, hb, List.append_assoc (cFix cI cN cO (cE E (bg + 1) q a) n (bg + 1) (cNew (bg + 1) p1 p2 p3 p4 p5 p6 σ) ++ blk (cNd cI E n σ) n)]
theorem cOK.grow {n bg : Nat} {σ : CS} (ok : cOK n bg σ) (hbg : bg < 511) {k p3 p4 p5 p6 : Int32} (hk : vp_in k n) : cOK n (bg + 1) (cNew (bg + 1) (nI (bg + 1)) k p3 p4 p5 p6 (cI_ σ 0 0 3 (nI (bg + 1)))) := by
  obtain ⟨h1, h2, h3, h4, h5, h6, h7, h8, h9, h10, h11, h12, h13⟩ := ok
  refine ⟨h1, h2, by omega, rfl, h5, h6, h7, h8, h9, h10, h11, fun o ho1 ho2 => ?_, fun j => Nat.le_succ_of_le (h13 j)⟩
  by_cases h : o = bg + 1
  · subst h
    show vp_in (if 3 = 3 ∧ bg + 1 = bg + 1 then nopF (nI (bg + 1)) k p3 p4 p5 p6 1 else _) n ∧ (if 3 = 3 ∧ bg + 1 = bg + 1 then nopF (nI (bg + 1)) k p3 p4 p5 p6 0 else _) = _
    rw [if_pos ⟨rfl, rfl⟩, if_pos ⟨rfl, rfl⟩]
    exact ⟨hk, rfl⟩
  · show vp_in (if 3 = 3 ∧ o = bg + 1 then _ else σ.1 3 o 1) n ∧ (if 3 = 3 ∧ o = bg + 1 then _ else σ.1 3 o 0) = _
    rw [if_neg (fun z => h z.2), if_neg (fun z => h z.2)]
    exact h12 o ho1 (by omega)
section CG
variable {p : Program} {l : Launch} {e : Env} {R : Room} {s : State} {m : MethodId} {args : Array Value} {below : List Frame} {meth : Method} {c : Code} {H : Heap} {locs : List Loc} {cells slots : Nat} {Q : State → Prop} {cc : ByteArray} {pc idx nL : Nat} {own : String} {ls : Array Slot} {rest : List Value} {D : va_G} {cI cZ cN cO : ClassId} {A : Nat → Prop} {H0 : Heap} {E : CE} {n bg : Nat} {σ : CS}
theorem cWd.pre {x : va_W} (hP : va_P D vwCl (x ++ cW cI cN cO E n bg σ) H) (hD : va_D A (x ++ cW cI cN cO E n bg σ)) (hS : va_S A H0 H locs) : cWd D cI cN cO A H0 E n bg σ H locs :=
  ⟨hP.by (fun k => x.length + k) (fun k q hk => by rw [List.getElem?_append_right (by omega), Nat.add_sub_cancel_left]; exact hk), hD.by (fun k => x.length + k) (fun k q hk => by rw [List.getElem?_append_right (by omega), Nat.add_sub_cancel_left]; exact hk) (fun i j _ _ h => by omega), hS⟩
theorem c_newop (C : Cx p c cc s m args own D (gTy cI cZ cN cO)) (w : cWd D cI cN cO A H0 E n bg σ H locs) (hA : ∀ q, H0.size ≤ q → A q) (hcl : Cond.classLink own idx RX1 ∈ gw) (hc : cells + 1 ≤ R.cells) (hs : slots + 12 ≤ R.slots) (hdg : decode cc pc = .ok (.new idx, 3))
    (kk : ∀ (q : Nat) (H1 : Heap), va_P D vwCl ([(q, .inr (1, [.int 0, .int 0, .int 0, .int 0, .int 0, .int 0, .null, .int 0, .int 0, .int 0, .int 0, .int 0]))] ++ cW cI cN cO E n bg σ) H1 → va_D A ([(q, .inr (1, [.int 0, .int 0, .int 0, .int 0, .int 0, .int 0, .null, .int 0, .int 0, .int 0, .int 0, .int 0]))] ++ cW cI cN cO E n bg σ) → va_S A H0 H1 locs → W p l e R s m args below meth c H1 locs (cells + 1) (slots + 12) Q (F0 m (pc + 3) ls (.ref q :: rest))) : W p l e R s m args below meth c H locs cells slots Q (F0 m pc ls rest) :=
  va_new (ci := 1) (fs := [.int 0, .int 0, .int 0, .int 0, .int 0, .int 0, .null, .int 0, .int 0, .int 0, .int 0, .int 0]) (C := RX1) (T := TX1) (N := 12) C.1 C.2.1 C.2.2.2.1 inX1 tyX1 tyX1_ok C.2.2.1 (C.2.2.2.1 _ hcl) (C.2.2.2.1 _ kB_X1) (C.2.2.2.1 _ kN_X1) C.2.2.2.2 w.1 w.2.1 w.2.2 hA rfl (fun j hj => by have hj2 : j < 12 := hj; clear hj; revert j; decide) hc hs hdg (fun q H1 hP hD hS => kk q H1 (va_P.swap (a := []) hP) (va_D.swap (a := []) hD) hS)
theorem c_initop (C : Cx p c cc s m args own D (gTy cI cZ cN cO)) {q : Nat} (hP : va_P D vwCl ([(q, .inr (1, [.int 0, .int 0, .int 0, .int 0, .int 0, .int 0, .null, .int 0, .int 0, .int 0, .int 0, .int 0]))] ++ cW cI cN cO E n bg σ) H) (hD : va_D A ([(q, .inr (1, [.int 0, .int 0, .int 0, .int 0, .int 0, .int 0, .null, .int 0, .int 0, .int 0, .int 0, .int 0]))] ++ cW cI cN cO E n bg σ)) (hS : va_S A H0 H locs) (hA : ∀ q, H0.size ≤ q → A q) (hn : n ≤ 31) (hml : c.maxLocals = nL) (hls : ls.size = nL) (hlk : Cond.methodLink own idx yX1_init ∈ gw) {p1 p2 p3 p4 p5 p6 : Int32} (hR : 2 ≤ R.frames ∧ 39 ≤ R.locals) (hcat : 2 * (F0 m pc ls (.int (nI n) :: .int p6 :: .int p5 :: .int p4 :: .int p3 :: .int p2 :: .int p1 :: .ref q :: rest)).monitorRoom + (rest.map fun v => v.category).sum ≤ 8) (hdg : decode cc pc = .ok (.invokespecial idx, 3)) (hf : cells + 1 ≤ R.cells ∧ slots + n ≤ R.slots)
    (kk : ∀ (a : Nat) (H1 : Heap) (locs1 : List Loc), va_P D vwCl ([(q, .inr (1, [.int p1, .int p2, .int p3, .int p4, .int p5, .int p6, .ref a, .int 0, .int (-1), .int 0, .int (-1), .int 0])), (a, .inl (cI, n, .inl (fun _ => 0)))] ++ cW cI cN cO E n bg σ) H1 → va_D A ([(q, .inr (1, [.int p1, .int p2, .int p3, .int p4, .int p5, .int p6, .ref a, .int 0, .int (-1), .int 0, .int (-1), .int 0])), (a, .inl (cI, n, .inl (fun _ => 0)))] ++ cW cI cN cO E n bg σ) → va_S A H0 H1 locs1 → W p l e R s m args below meth c H1 locs1 (cells + 1) (slots + n) Q (F0 m (pc + 3) ls rest)) : W p l e R s m args below meth c H locs cells slots Q (F0 m pc ls (.int (nI n) :: .int p6 :: .int p5 :: .int p4 :: .int p3 :: .int p2 :: .int p1 :: .ref q :: rest)) := by
  have hPc : va_P D vwCl [(q, .inr (1, [.int 0, .int 0, .int 0, .int 0, .int 0, .int 0, .null, .int 0, .int 0, .int 0, .int 0, .int 0]))] H := hP.sub [0] rfl
  have hDc : va_D A [(q, .inr (1, [.int 0, .int 0, .int 0, .int 0, .int 0, .int 0, .null, .int 0, .int 0, .int 0, .int 0, .int 0]))] := hD.sub [0] (by decide) rfl
  have hFc := va_free (wc := [(q, .inr (1, [.int 0, .int 0, .int 0, .int 0, .int 0, .int 0, .null, .int 0, .int 0, .int 0, .int 0, .int 0]))]) hD hS hA [0] rfl
  refine va_callv (va_runI (As := [.int p1, .int p2, .int p3, .int p4, .int p5, .int p6, .int (nI n)]) (rest := rest) ⟨C.1, C.2.1, hml, C.2.2.1, C.2.2.2.1⟩ (c_X1_init l D.1 D.2 cI cZ cN cO q n p1 p2 p3 p4 p5 p6 H.size hn) (cwI 7 C.2.2.2.1 (gw_in kD_X1_init) rfl rfl rfl (C.2.2.2.1 _ kN_X1) (C.2.2.2.1 _ hlk) (C.2.2.2.1 _ kI_X1_init) rfl (by decide +kernel) ⟨hR.1, hR.2⟩) ⟨fun a U g mk q => by obtain ⟨q0, q1, qP, qK, qD⟩ := q; exact ⟨q0, q1, qP, va_K.moved (u := U) (U := U.calling g mk a) (Vm.Alike.refl U.vm) qK, qD⟩, fun U hU hW => ⟨rfl, by rw [hU], by rw [hU]; exact hPc, va_K.moved hW.alike C.2.2.2.2, hDc.weaken (fun _ _ _ _ => trivial)⟩⟩ rfl rfl hls rfl hcat hdg hf) hS (fun q _ h => hFc q h) hFc (fun u t H1 locs1 ht hvm hw hB hz1 hk1 hS1 => ?_)
  obtain ⟨a, hP1, hK1, hD1⟩ := hB
  rw [ht] at hP1
  obtain ⟨hP2, hD2⟩ := va_joinQ (pl := cW cI cN cO E n bg σ) (X := [(q, .inr (1, [.int 0, .int 0, .int 0, .int 0, .int 0, .int 0, .null, .int 0, .int 0, .int 0, .int 0, .int 0]))]) (cx := [(q, .inr (1, [.int 0, .int 0, .int 0, .int 0, .int 0, .int 0, .null, .int 0, .int 0, .int 0, .int 0, .int 0]))]) (wr := []) (w1 := [(q, .inr (1, [.int p1, .int p2, .int p3, .int p4, .int p5, .int p6, .ref a, .int 0, .int (-1), .int 0, .int (-1), .int 0])), (a, .inl (cI, n, .inl (fun _ => 0)))]) hP hD [0] [] rfl rfl (by decide) (by decide) hk1 hFc hP1 hD1
  exact kk a H1 locs1 hP2 hD2 hS1
theorem c_stop (C : Cx p c cc s m args own D (gTy cI cZ cN cO)) {q a : Nat} {p1 p2 p3 p4 p5 p6 : Int32} (hP : va_P D vwCl ([(q, .inr (1, [.int p1, .int p2, .int p3, .int p4, .int p5, .int p6, .ref a, .int 0, .int (-1), .int 0, .int (-1), .int 0])), (a, .inl (cI, n, .inl (fun _ => 0)))] ++ cW cI cN cO E n bg σ) H) (hD : va_D A ([(q, .inr (1, [.int p1, .int p2, .int p3, .int p4, .int p5, .int p6, .ref a, .int 0, .int (-1), .int 0, .int (-1), .int 0])), (a, .inl (cI, n, .inl (fun _ => 0)))] ++ cW cI cN cO E n bg σ)) (hS : va_S A H0 H locs) (htk : ∀ k, σ.2.2 k ≤ bg) (hbg : bg < 511) (hdg : decode cc pc = .ok (.aastore, 1))
    (kk : ∀ (E' : CE) (H1 : Heap) (locs1 : List Loc), E'.1 = E.1 → E'.2.2.1 = E.2.2.1 → E'.2.2.2.2.1 (bg + 1) = q → cWd D cI cN cO A H0 E' n (bg + 1) (cNew (bg + 1) p1 p2 p3 p4 p5 p6 σ) H1 locs1 → W p l e R s m args below meth c H1 locs1 cells slots Q (F0 m (pc + 1) ls rest)) : W p l e R s m args below meth c H locs cells slots Q (F0 m pc ls (.ref q :: .int (nI (bg + 1)) :: .ref (E.1 3) :: rest)) := by
  refine va_astq (r := (RX1, TX1, 12)) C.1 C.2.1 C.2.2.2.2 hP hD hS (2 + 3) 3 0 1 (a := E.1 3) (cA := cO) (n := 512) (f := fun j => if 1 ≤ j ∧ j ≤ bg then some (E.2.2.2.2.1 j) else none) ?_ rfl rfl rfl (vp_in_nI (by omega) (by decide)) hdg (fun H1 locs1 hP1 hD1 hS1 => ?_)
  · show (cW cI cN cO E n bg σ)[3]? = _
    exact (cW_fix (by decide)).trans rfl
  · rw [nI_clamp (by omega)] at hP1 hD1
    have e := cW_grow (cI := cI) (cN := cN) (cO := cO) (E := E) (n := n) (q := q) (a := a) (p1 := p1) (p2 := p2) (p3 := p3) (p4 := p4) (p5 := p5) (p6 := p6) htk
    have hP3 : va_P D vwCl ([(q, .inr (1, [.int p1, .int p2, .int p3, .int p4, .int p5, .int p6, .ref a, .int 0, .int (-1), .int 0, .int (-1), .int 0])), (a, .inl (cI, n, .inl (fun _ => 0)))] ++ (cW cI cN cO E n bg σ).set 3 (E.1 3, .inl (cO, 512, .inr (.inr (.inr (.inr (va_up (fun j => if 1 ≤ j ∧ j ≤ bg then some (E.2.2.2.2.1 j) else none) (bg + 1) (some q)))))))) H1 := hP1
    have hD3 : va_D A ([(q, .inr (1, [.int p1, .int p2, .int p3, .int p4, .int p5, .int p6, .ref a, .int 0, .int (-1), .int 0, .int (-1), .int 0])), (a, .inl (cI, n, .inl (fun _ => 0)))] ++ (cW cI cN cO E n bg σ).set 3 (E.1 3, .inl (cO, 512, .inr (.inr (.inr (.inr (va_up (fun j => if 1 ≤ j ∧ j ≤ bg then some (E.2.2.2.2.1 j) else none) (bg + 1) (some q)))))))) := hD1
    have hP2 := va_P.swap (a := []) hP3
    have hD2 := va_D.swap (a := []) hD3
    rw [List.nil_append, e] at hP2 hD2
    exact kk (cE E (bg + 1) q a) H1 locs1 rfl rfl (if_pos rfl) ⟨hP2, hD2, hS1⟩
end CG
def cBg1 (bg : Nat) (σ : CS) : CS := cI_ (cI_ σ 0 0 5 (σ.1 0 0 5 + 1)) 0 0 3 (nI (bg + 1))
def cBeg (n bg k : Nat) (kd a b : Int32) (σ : CS) : CS := cBegC n k (cZero n k 4 (cT_ (cNew (bg + 1) (nI (bg + 1)) (nI k) kd a b ((cBg1 bg σ).1 0 0 5) (cBg1 bg σ)) k (bg + 1)))
abbrev cGo (n bg k : Nat) (σ : CS) : Prop := ¬ σ.1 2 k 6 = 0 ∧ σ.2.2 k = 0 ∧ bg < 511 ∧ ¬ 2000 < σ.1 1 0 8 + nI n
theorem nI_511 : nI 511 = 511 := by decide +kernel
set_option maxHeartbeats 4000000 in
set_option maxRecDepth 100000 in
theorem k_begin_no (l : Launch) (D : va_G) (cI cZ cN cO : ClassId) (A : Nat → Prop) (E : CE) (n bg : Nat) (σ : CS) (k : Nat) (kd a b : Int32) (ok : cOK n bg σ) (hk : k < n) (hno : ¬ cGo n bg k σ) : Met l yX3_begin (.code yX3_begin cX3_begin 7 (some .int) :: gw) ({ frames := 3, cells := 0, slots := 0, locals := 72 }) (va_Pc (.ref (E.1 0) :: [.int (nI k), .int kd, .int a, .int b]) (cH D cI cZ cN cO A E n bg σ)) (va_Qi (fun (r : Int32) (_ : Unit) => r = -1) (fun _ t => cH D cI cZ cN cO A E n bg (σ) t ∧ cOK n bg (σ)) A) 0 0 A := by
  refine Met.ofW (cc := cX3_begin) (maxL := 7) (ret := (some .int)) (by decide) rfl ?_
  intro p e s m args below meth c s₁ B hml hv
  obtain ⟨rfl, hP, hK, hD⟩ := hv
  have hx := B.exec
  have hb := B.bytes
  have hr := B.returns
  have hts := atoms_spec (ws := (.code yX3_begin cX3_begin 7 (some .int) :: gw)) B.pre
  have hg : ∀ w ∈ gw, w.before _ s = true := fun w h => hts w (List.mem_cons_of_mem _ h)
  have hown : s.vm.findClass RX3 = some m.cls := findClass_of_methodNamed B.named
  have hlocks := B.notSynchronized
  have C : Cx p c cX3_begin s m _ RX3 D (gTy cI cZ cN cO) := ⟨hx, hb, hown, hg, hK⟩
  have w : cWd D cI cN cO A s.heap E n bg σ s.heap [] := ⟨hP, hD, va_S.rf⟩
  have hl := lv_entry ([.ref ((E.1 0)), .int (nI k), .int kd, .int a, .int b]) (n := 7) (Nat.le_of_ble_eq_true rfl)
  rw [lg_entry_eq]
  generalize (lg_sl ([.ref ((E.1 0)), .int (nI k), .int kd, .int a, .int b]) ++ List.replicate (7 - (lg_sl ([.ref ((E.1 0)), .int (nI k), .int kd, .int a, .int b])).length) Slot.unset).toArray = ls at hl ⊢
  have hl : lv_has ls 7 [(0, .ref ((E.1 0))), (1, .int (nI k)), (2, .int kd), (3, .int a), (4, .int b)] := hl
  refine lv_aload_n hx hb dX3_begin_0 rfl (lv_at hl 0 rfl) ?_
  refine c_gX3_0 C w kF_X3_11 dX3_begin_1 ?_
  refine lv_iload_n hx hb dX3_begin_4 rfl (lv_at hl 1 rfl) ?_
  refine c_lNA (k := k) C w hk ok.n dX3_begin_5 ?_
  refine lv_astore (lv' := [(5, _), (0, _), (1, _), (2, _), (3, _), (4, _)]) C.1 C.2.1 dX3_begin_6 hl (by decide) rfl (fun ls hl => ?_)
  refine lv_aload hx hb dX3_begin_8 (lv_at hl 0 rfl) ?_
  refine c_gX0_6 C w hk kF_X3_66 dX3_begin_10 ?_
  refine lv_if_eq (tgt := 49) hx hb dX3_begin_13 (by decide) (fun c_13 => ?_) (fun c_13 => ?_)
  · refine lv_iconst (v := (-1)) hx hb dX3_begin_49 (by decide) ?_
    exact W.iret hx hb hr (fun t ht hW => ⟨⟨_, (), rfl, rfl, ⟨by rw [ht]; exact w.1, va_K.moved hW.alike hK, w.2.1⟩, ok⟩, w.2.2.F ht⟩) w.2.2.2.2 dX3_begin_50
  · refine lv_aload hx hb dX3_begin_16 (lv_at hl 0 rfl) ?_
    rcases Nat.eq_zero_or_pos (σ.2.2 k) with htk | htk
    · refine c_gT0 C w hk htk kF_X3_139 dX3_begin_18 ?_
      refine lv_ifnonnullN hx hb dX3_begin_21 ?_
      refine lv_aload_n hx hb dX3_begin_24 rfl (lv_at hl 1 rfl) ?_
      refine c_gX3_3 C w kF_X3_119 dX3_begin_25 ?_
      rw [ok.bg]
      refine lv_sipush (v := 511) hx hb dX3_begin_28 (by decide) ?_
      refine lv_icmp_ge (tgt := 49) hx hb dX3_begin_31 (by decide) (fun c_31 => ?_) (fun c_31 => ?_)
      · refine lv_iconst (v := (-1)) hx hb dX3_begin_49 (by decide) ?_
        exact W.iret hx hb hr (fun t ht hW => ⟨⟨_, (), rfl, rfl, ⟨by rw [ht]; exact w.1, va_K.moved hW.alike hK, w.2.1⟩, ok⟩, w.2.2.F ht⟩) w.2.2.2.2 dX3_begin_50
      · refine lv_aload_n hx hb dX3_begin_34 rfl (lv_at hl 1 rfl) ?_
        refine c_gX3_1 C w kF_X3_23 dX3_begin_35 ?_
        refine lv_aload_n hx hb dX3_begin_38 rfl (lv_at hl 1 rfl) ?_
        refine c_gX3_0 C w kF_X3_11 dX3_begin_39 ?_
        refine c_nNA C w dX3_begin_42 ?_
        refine c_callp (As := [.int (nI n)]) (rest := []) C (c_preX2 C w) hml hl.1 (k_X2_hasRoom l D cI cZ cN cO A E n bg _ _ ok ) kM_X3_143 kI_X2_hasRoom kS_X2_hasRoom kN_X2 kD_X2_hasRoom (show yX2_hasRoom.cls = RX2 ∧ yX2_hasRoom.cls ≠ "java/lang/invoke/MethodHandle" ∧ yX2_hasRoom.cls ≠ "java/lang/invoke/VarHandle" ∧ (parseMethodDescriptor yX2_hasRoom.desc).map (fun d => d.parameters.length) = some 1 from by decide +kernel) rfl rfl ⟨Nat.le_of_ble_eq_true rfl, Nat.le_of_ble_eq_true rfl⟩ rfl (lv_room (Nat.le_of_ble_eq_true rfl)) dX3_begin_43 ⟨Nat.zero_le _, Nat.zero_le _⟩ (fun r_1 hr_1 => ?_)
        refine lv_if_ne (tgt := 51) hx hb dX3_begin_46 (by decide) (fun c_46 => absurd ⟨c_13, htk, (show bg < 511 from by have h := c_31; rw [← nI_511, nI_leI (by decide) (by have := ok.2.2.1; omega)] at h; omega), (fun z => by rw [if_pos z] at hr_1; exact c_46 hr_1)⟩ hno) (fun c_46 => ?_)
        refine lv_iconst (v := (-1)) hx hb dX3_begin_49 (by decide) ?_
        exact W.iret hx hb hr (fun t ht hW => ⟨⟨_, (), rfl, rfl, ⟨by rw [ht]; exact w.1, va_K.moved hW.alike hK, w.2.1⟩, ok⟩, w.2.2.F ht⟩) w.2.2.2.2 dX3_begin_50
    · refine c_gT1 (t := σ.2.2 k) C w hk rfl htk kF_X3_139 dX3_begin_18 ?_
      refine lv_ifnonnull (tgt := 49) hx hb dX3_begin_21 (by decide) ?_
      refine lv_iconst (v := (-1)) hx hb dX3_begin_49 (by decide) ?_
      exact W.iret hx hb hr (fun t ht hW => ⟨⟨_, (), rfl, rfl, ⟨by rw [ht]; exact w.1, va_K.moved hW.alike hK, w.2.1⟩, ok⟩, w.2.2.F ht⟩) w.2.2.2.2 dX3_begin_50
set_option maxHeartbeats 4000000 in
set_option maxRecDepth 100000 in
theorem k_begin_go (l : Launch) (D : va_G) (cI cZ cN cO : ClassId) (A : Nat → Prop) (E : CE) (n bg : Nat) (σ : CS) (k : Nat) (kd a b : Int32) (ok : cOK n bg σ) (hk : k < n) (hgo : cGo n bg k σ) (hrm : lnN σ + n ≤ 2000) : Met l yX3_begin (.code yX3_begin cX3_begin 7 (some .int) :: gw) ({ frames := 3, cells := 2, slots := 12 + n, locals := 72 }) (va_Pc (.ref (E.1 0) :: [.int (nI k), .int kd, .int a, .int b]) (fun U => cH D cI cZ cN cO A E n bg σ U ∧ ∀ q, U.heap.size ≤ q → A q)) (va_Qi (fun (r : Int32) (_ : Unit) => r = nI (bg + 1)) (fun _ t => ∃ E1 : CE, E1.1 = E.1 ∧ cH D cI cZ cN cO A E1 n (bg + 1) (cBeg n bg k kd a b σ) t ∧ cOK n (bg + 1) (cBeg n bg k kd a b σ)) A) 2 (12 + n) A := by
  refine Met.ofW (cc := cX3_begin) (maxL := 7) (ret := (some .int)) (by decide) rfl ?_
  intro p e s m args below meth c s₁ B hml hv
  obtain ⟨rfl, ⟨hP, hK, hD⟩, hA⟩ := hv
  have hx := B.exec
  have hb := B.bytes
  have hr := B.returns
  have hts := atoms_spec (ws := (.code yX3_begin cX3_begin 7 (some .int) :: gw)) B.pre
  have hg : ∀ w ∈ gw, w.before _ s = true := fun w h => hts w (List.mem_cons_of_mem _ h)
  have hown : s.vm.findClass RX3 = some m.cls := findClass_of_methodNamed B.named
  have hlocks := B.notSynchronized
  have C : Cx p c cX3_begin s m _ RX3 D (gTy cI cZ cN cO) := ⟨hx, hb, hown, hg, hK⟩
  have w : cWd D cI cN cO A s.heap E n bg σ s.heap [] := ⟨hP, hD, va_S.rf⟩
  have hl := lv_entry ([.ref ((E.1 0)), .int (nI k), .int kd, .int a, .int b]) (n := 7) (Nat.le_of_ble_eq_true rfl)
  rw [lg_entry_eq]
  generalize (lg_sl ([.ref ((E.1 0)), .int (nI k), .int kd, .int a, .int b]) ++ List.replicate (7 - (lg_sl ([.ref ((E.1 0)), .int (nI k), .int kd, .int a, .int b])).length) Slot.unset).toArray = ls at hl ⊢
  have hl : lv_has ls 7 [(0, .ref ((E.1 0))), (1, .int (nI k)), (2, .int kd), (3, .int a), (4, .int b)] := hl
  obtain ⟨hup, htk0, hbg, hro⟩ := hgo
  refine lv_aload_n hx hb dX3_begin_0 rfl (lv_at hl 0 rfl) ?_
  refine c_gX3_0 C w kF_X3_11 dX3_begin_1 ?_
  refine lv_iload_n hx hb dX3_begin_4 rfl (lv_at hl 1 rfl) ?_
  refine c_lNA (k := k) C w hk ok.n dX3_begin_5 ?_
  refine lv_astore (lv' := [(5, _), (0, _), (1, _), (2, _), (3, _), (4, _)]) C.1 C.2.1 dX3_begin_6 hl (by decide) rfl (fun ls hl => ?_)
  refine lv_aload hx hb dX3_begin_8 (lv_at hl 0 rfl) ?_
  refine c_gX0_6 C w hk kF_X3_66 dX3_begin_10 ?_
  refine lv_if_eq (tgt := 49) hx hb dX3_begin_13 (by decide) (fun c_13 => absurd c_13 hup) (fun c_13 => ?_)
  refine lv_aload hx hb dX3_begin_16 (lv_at hl 0 rfl) ?_
  refine c_gT0 C w hk htk0 kF_X3_139 dX3_begin_18 ?_
  refine lv_ifnonnullN hx hb dX3_begin_21 ?_
  refine lv_aload_n hx hb dX3_begin_24 rfl (lv_at hl 1 rfl) ?_
  refine c_gX3_3 C w kF_X3_119 dX3_begin_25 ?_
  rw [ok.bg]
  refine lv_sipush (v := 511) hx hb dX3_begin_28 (by decide) ?_
  refine lv_icmp_ge (tgt := 49) hx hb dX3_begin_31 (by decide) (fun c_31 => absurd c_31 (by rw [← nI_511]; exact nI_ge hbg (by decide))) (fun c_31 => ?_)
  refine lv_aload_n hx hb dX3_begin_34 rfl (lv_at hl 1 rfl) ?_
  refine c_gX3_1 C w kF_X3_23 dX3_begin_35 ?_
  refine lv_aload_n hx hb dX3_begin_38 rfl (lv_at hl 1 rfl) ?_
  refine c_gX3_0 C w kF_X3_11 dX3_begin_39 ?_
  refine c_nNA C w dX3_begin_42 ?_
  refine c_callp (As := [.int (nI n)]) (rest := []) C (c_preX2 C w) hml hl.1 (k_X2_hasRoom l D cI cZ cN cO A E n bg _ _ ok ) kM_X3_143 kI_X2_hasRoom kS_X2_hasRoom kN_X2 kD_X2_hasRoom (show yX2_hasRoom.cls = RX2 ∧ yX2_hasRoom.cls ≠ "java/lang/invoke/MethodHandle" ∧ yX2_hasRoom.cls ≠ "java/lang/invoke/VarHandle" ∧ (parseMethodDescriptor yX2_hasRoom.desc).map (fun d => d.parameters.length) = some 1 from by decide +kernel) rfl rfl ⟨Nat.le_of_ble_eq_true rfl, Nat.le_of_ble_eq_true rfl⟩ rfl (lv_room (Nat.le_of_ble_eq_true rfl)) dX3_begin_43 ⟨Nat.zero_le _, Nat.zero_le _⟩ (fun r_1 hr_1 => ?_)
  rw [if_neg hro] at hr_1
  subst hr_1
  refine lv_if_ne (tgt := 51) hx hb dX3_begin_46 (by decide) (fun c_46 => ?_) (fun c_46 => absurd c_46 (by decide))
  refine lv_aload_n hx hb dX3_begin_51 rfl (lv_at hl 1 rfl) ?_
  refine lv_dup hx hb dX3_begin_52 rfl ?_
  refine c_gX3_5 C w kF_X3_70 dX3_begin_53 ?_
  refine lv_topi (fun t_2 et_2 => ?_)
  refine lv_iconst (v := 1) hx hb dX3_begin_56 (by decide) ?_
  refine lv_iadd hx hb dX3_begin_57 ?_
  refine lv_topi (fun t_3 et_3 => ?_)
  refine c_pX3_5 (v := t_3) C w kF_X3_70 dX3_begin_58 (fun H locs w => ?_)
  have ok : cOK n bg _ := cOK.put ok (kd := 0) (ix := 0) (f := 5) (v := t_3) rfl
  refine lv_aload_n hx hb dX3_begin_61 rfl (lv_at hl 1 rfl) ?_
  refine lv_dup hx hb dX3_begin_62 rfl ?_
  refine c_gX3_3 C w kF_X3_119 dX3_begin_63 ?_
  rw [ok.bg]
  refine lv_iconst (v := 1) hx hb dX3_begin_66 (by decide) ?_
  refine lv_iadd hx hb dX3_begin_67 ?_
  rw [nI_1]
  subst et_3 et_2
  refine c_pX3_3 (v := nI (bg + 1)) C w kF_X3_119 dX3_begin_68 (fun H locs w => ?_)
  have w : cWd D cI cN cO A s.heap E n bg (cBg1 bg σ) H locs := w
  refine c_newop C w hA kC_X3_27 (by show 0 + 1 ≤ 2; omega) (by show 0 + 12 ≤ 12 + n; omega) dX3_begin_71 (fun q H hP hD hS => ?_)
  have w := cWd.pre hP hD hS
  refine lv_dup hx hb dX3_begin_74 rfl ?_
  refine lv_aload_n hx hb dX3_begin_75 rfl (lv_at hl 1 rfl) ?_
  refine c_gX3_3 C w kF_X3_119 dX3_begin_76 ?_
  rw [show (cBg1 bg σ).1 0 0 3 = nI (bg + 1) from rfl]
  refine lv_iload_n hx hb dX3_begin_79 rfl (lv_at hl 2 rfl) ?_
  refine lv_iload_n hx hb dX3_begin_80 rfl (lv_at hl 3 rfl) ?_
  refine lv_iload_n hx hb dX3_begin_81 rfl (lv_at hl 4 rfl) ?_
  refine lv_iload hx hb dX3_begin_82 (lv_at hl 5 rfl) ?_
  refine lv_aload_n hx hb dX3_begin_84 rfl (lv_at hl 1 rfl) ?_
  refine c_gX3_5 C w kF_X3_70 dX3_begin_85 ?_
  refine lv_aload_n hx hb dX3_begin_88 rfl (lv_at hl 1 rfl) ?_
  refine c_gX3_0 C w kF_X3_11 dX3_begin_89 ?_
  refine c_nNA C w dX3_begin_92 ?_
  refine c_initop C hP hD hS hA ok.2.1 hml hl.1 kM_X3_146 (rest := [.ref q]) ⟨Nat.le_of_ble_eq_true rfl, Nat.le_of_ble_eq_true rfl⟩ (lv_room (Nat.le_of_ble_eq_true rfl)) dX3_begin_93 ⟨(by show 0 + 1 + 1 ≤ 2; omega), (by show 0 + 12 + n ≤ 12 + n; omega)⟩ (fun sa H locs hP hD hS => ?_)
  have w := cWd.pre hP hD hS
  refine lv_astore (lv' := [(6, _), (5, _), (0, _), (1, _), (2, _), (3, _), (4, _)]) C.1 C.2.1 dX3_begin_96 hl (by decide) rfl (fun ls hl => ?_)
  refine lv_aload_n hx hb dX3_begin_98 rfl (lv_at hl 2 rfl) ?_
  refine c_gX3_2 C w kF_X3_29 dX3_begin_99 ?_
  refine lv_aload_n hx hb dX3_begin_102 rfl (lv_at hl 2 rfl) ?_
  refine c_gX3_3 C w kF_X3_119 dX3_begin_103 ?_
  rw [show (cBg1 bg σ).1 0 0 3 = nI (bg + 1) from rfl]
  refine lv_aload hx hb dX3_begin_106 (lv_at hl 0 rfl) ?_
  refine c_stop C hP hD hS ok.tk hbg dX3_begin_108 (fun E' H locs e0 e2 e4 w => ?_)
  clear hP hD
  have ok : cOK n (bg + 1) _ := cOK.grow (σ := cI_ σ 0 0 5 (σ.1 0 0 5 + 1)) (ok.put rfl) hbg (k := nI k) (p3 := kd) (p4 := a) (p5 := b) (p6 := (cBg1 bg σ).1 0 0 5) (vp_in_nI hk ok.n)
  subst e4
  rw [← e0, ← e2] at hl
  have hl : lv_has ls 7 [(6, (.ref (E'.2.2.2.2.1 (bg + 1)))), (5, .ref ((E'.2.2.1 k))), (0, .ref ((E'.1 0))), (1, .int (nI k)), (2, .int kd), (3, .int a), (4, .int b)] := hl
  refine lv_aload hx hb dX3_begin_109 (lv_at hl 1 rfl) ?_
  refine lv_aload hx hb dX3_begin_111 (lv_at hl 0 rfl) ?_
  refine c_callv (As := [.ref ((E'.2.2.2.2.1 (bg + 1)))]) (rest := []) C (c_preX0 C w hk) w.2.2 hml hl.1 (k_X0_takeUp l D cI cZ cN cO A E' n (bg + 1) _ k (bg + 1) ok hk (by omega) (Nat.le_refl _)) kM_X3_149 kI_X0_takeUp kS_X0_takeUp kN_X0 kD_X0_takeUp (show yX0_takeUp.cls = RX0 ∧ yX0_takeUp.cls ≠ "java/lang/invoke/MethodHandle" ∧ yX0_takeUp.cls ≠ "java/lang/invoke/VarHandle" ∧ (parseMethodDescriptor yX0_takeUp.desc).map (fun d => d.parameters.length) = some 1 from by decide +kernel) rfl rfl ⟨Nat.le_of_ble_eq_true rfl, Nat.le_of_ble_eq_true rfl⟩ rfl (lv_room (Nat.le_of_ble_eq_true rfl)) dX3_begin_113 ⟨(by show 0 + 1 + 1 + 0 ≤ 2; omega), (by show 0 + 12 + n + 0 ≤ 12 + n; omega)⟩ (fun H locs w ok => ?_)
  refine lv_aload_n hx hb dX3_begin_116 rfl (lv_at hl 2 rfl) ?_
  refine lv_aload hx hb dX3_begin_117 (lv_at hl 1 rfl) ?_
  refine c_callv (As := [.ref ((E'.2.2.1 k))]) (rest := []) C (c_preX3 C w) w.2.2 hml hl.1 (k_X3_beginCollect l D cI cZ cN cO A E' n (bg + 1) _ k ok hk hrm) kM_X3_153 kI_X3_beginCollect kS_X3_beginCollect kN_X3 kD_X3_beginCollect (show yX3_beginCollect.cls = RX3 ∧ yX3_beginCollect.cls ≠ "java/lang/invoke/MethodHandle" ∧ yX3_beginCollect.cls ≠ "java/lang/invoke/VarHandle" ∧ (parseMethodDescriptor yX3_beginCollect.desc).map (fun d => d.parameters.length) = some 1 from by decide +kernel) rfl rfl ⟨Nat.le_of_ble_eq_true rfl, Nat.le_of_ble_eq_true rfl⟩ rfl (lv_room (Nat.le_of_ble_eq_true rfl)) dX3_begin_119 ⟨(by show 0 + 1 + 1 + 0 ≤ 2; omega), (by show 0 + 12 + n + 0 ≤ 12 + n; omega)⟩ (fun H locs w ok => ?_)
  refine lv_aload_n hx hb dX3_begin_122 rfl (lv_at hl 2 rfl) ?_
  refine c_gX3_3 C w kF_X3_119 dX3_begin_123 ?_
  rw [ok.bg]
  refine W.widen (k := 2) (n := 12 + n) (by omega) (by omega) ?_
  exact W.iret hx hb hr (fun t ht hW => ⟨⟨_, (), rfl, rfl, E', e0, ⟨by rw [ht]; exact w.1, va_K.moved hW.alike hK, w.2.1⟩, ok⟩, w.2.2.F ht⟩) w.2.2.2.2 dX3_begin_126
