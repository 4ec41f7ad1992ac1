/-- send into the free slot j -/
def rSend (σ : RS) (j : Nat) (q1 q2 q3 q4 : Int32) : RS := rI (rI (rA (rA (rA (rA (rA (rA σ 7 (nI j).toNatClampNeg 1) 2 (nI j).toNatClampNeg q1) 3 (nI j).toNatClampNeg q2) 4 (nI j).toNatClampNeg q3) 5 (nI j).toNatClampNeg q4) 8 (σ.1 9).toNatClampNeg (nI j)) 9 (σ.1 9 + 1)) 10 (σ.1 10 + 1)
/-- how many of the first i slots are used; the first free one -/
def cn (u : Nat → Int32) : Nat → Nat
  | 0 => 0
  | i + 1 => cn u i + (if u i = 0 then 0 else 1)
def frN (u : Nat → Int32) : Nat → Nat → Nat
  | 0, i => i
  | f + 1, i => if u i = 0 then i else frN u f (i + 1)
def fr (u : Nat → Int32) : Nat := frN u 2001 0
theorem frN_spec (u : Nat → Int32) : ∀ (f i : Nat), i ≤ frN u f i ∧ frN u f i ≤ i + f ∧ (∀ j, i ≤ j → j < frN u f i → ¬ u j = 0) ∧ (frN u f i < i + f → u (frN u f i) = 0) := by
  intro f
  induction f with
  | zero => intro i; exact ⟨Nat.le_refl _, Nat.le_refl _, fun j h1 h2 => absurd h2 (Nat.not_lt.mpr h1), fun h => absurd h (Nat.lt_irrefl _)⟩
  | succ f ih =>
    intro i
    unfold frN
    by_cases h : u i = 0
    · rw [if_pos h]; exact ⟨Nat.le_refl _, by omega, fun j h1 h2 => absurd h2 (Nat.not_lt.mpr h1), fun _ => h⟩
    · rw [if_neg h]
      obtain ⟨h1, h2, h3, h4⟩ := ih (i + 1)
      refine ⟨by omega, by omega, fun j h5 h6 => ?_, fun h5 => h4 (by omega)⟩
      by_cases hj : j = i
      · subst hj; exact h
      · exact h3 j (by omega) h6
theorem cn_le (u : Nat → Int32) : ∀ i, cn u i ≤ i := by
  intro i
  induction i with
  | zero => exact Nat.le_refl _
  | succ i ih => unfold cn; split <;> omega
theorem cn_full (u : Nat → Int32) : ∀ i, (∀ j, j < i → ¬ u j = 0) → cn u i = i := by
  intro i
  induction i with
  | zero => intro _; rfl
  | succ i ih => intro h; unfold cn; rw [ih (fun j hj => h j (by omega)), if_neg (h i (by omega))]
theorem fr_spec {u : Nat → Int32} (h : cn u 2001 < 2001) : fr u < 2001 ∧ u (fr u) = 0 ∧ ∀ j, j < fr u → ¬ u j = 0 := by
  obtain ⟨-, h2, h3, h4⟩ := frN_spec u 2001 0
  have hlt : fr u < 2001 := by
    rcases Nat.lt_or_ge (fr u) 2001 with q | q
    · exact q
    · have : cn u 2001 = 2001 := cn_full u 2001 (fun j hj => h3 j (Nat.zero_le _) (Nat.lt_of_lt_of_le hj q))
      omega
  exact ⟨hlt, h4 (by have : fr u < 0 + 2001 := by omega
                     exact this), fun j hj => h3 j (Nat.zero_le _) hj⟩
theorem cn_set {u : Nat → Int32} {k : Nat} {v : Int32} (hu : u k = 0) (hv : ¬ v = 0) : ∀ i, cn (upd u k v) i = cn u i + (if k < i then 1 else 0) := by
  intro i
  induction i with
  | zero => simp [cn]
  | succ i ih =>
    unfold cn
    rw [ih]
    by_cases h : i = k
    · subst h; rw [upd_self, if_neg hv, hu, if_pos rfl, if_neg (by omega), if_pos (by omega)]
    · rw [upd_ne _ h]
      by_cases h2 : k < i
      · rw [if_pos h2, if_pos (show k < i + 1 by omega)]; omega
      · rw [if_neg h2, if_neg (show ¬ k < i + 1 by omega)]; omega
set_option maxHeartbeats 4000000 in
set_option maxRecDepth 100000 in
theorem ql_send {p : Program} {l : Launch} {e : Env} {R : Room} {s : State} {m : MethodId} {args : Array Value} {below : List Frame} {meth : Method} {c : Code} {cells slots : Nat} {Q : State → Prop} {D : va_G} {cI cZ cN cO : ClassId} {A : Nat → Prop} {H0 : Heap} {mm : Nat} {d : Nat → Nat} {n : Nat} {H : Heap} {locs : List Loc} (C : Cx p c cX4_send s m args RX4 D (gTy cI cZ cN cO)) (hml : c.maxLocals = 6) {σ : RS} {q1 q2 q3 q4 : Int32} (j : Nat) (w : rWd D cI cZ A H0 mm d σ H locs) (ok : rOK n σ) (hj : j < 2001) (hfree : σ.2 7 j = 0) (hbusy : ∀ i, i < j → ¬ σ.2 7 i = 0) (kk : ∀ ls : Array Slot, lv_has ls 6 [(5, .int (nI j)), (0, .ref mm), (1, .int q1), (2, .int q2), (3, .int q3), (4, .int q4)] → W p l e R s m args below meth c H locs cells slots Q (F0 m 19 ls [])) : ∀ (fu i : Nat), i + fu = j → ∀ ls : Array Slot, lv_has ls 6 [(5, .int (nI i)), (0, .ref mm), (1, .int q1), (2, .int q2), (3, .int q3), (4, .int q4)] → W p l e R s m args below meth c H locs cells slots Q (F0 m 3 ls []) := by
  intro fu
  induction fu with
  | zero =>
    intro i hik
    intro ls hl
    have hx := C.1
    have hb := C.2.1
    have hi : j = i := by omega
    subst hi
    refine lv_aload_n hx hb dX4_send_3 rfl (lv_at hl 1 rfl) ?_
    refine r_get_7 C w dX4_send_4 ?_
    refine lv_iload hx hb dX4_send_7 (lv_at hl 0 rfl) ?_
    refine r_ld_7 C w (vp_in_nI (by omega) (by omega)) dX4_send_9 ?_
    refine lv_topi (fun t_1 et_1 => ?_)
    refine lv_if_eq (tgt := 19) hx hb dX4_send_10 (by decide) (fun c_10 => ?_) (fun c_10 => absurd (by rw [et_1, nI_clamp (by omega)]; exact hfree) c_10)
    exact kk ls (lv_sub hl [0, 1, 2, 3, 4, 5] rfl)
  | succ fu ih =>
    intro i hik
    intro ls hl
    have hx := C.1
    have hb := C.2.1
    have hi : i < j := by omega
    refine lv_aload_n hx hb dX4_send_3 rfl (lv_at hl 1 rfl) ?_
    refine r_get_7 C w dX4_send_4 ?_
    refine lv_iload hx hb dX4_send_7 (lv_at hl 0 rfl) ?_
    refine r_ld_7 C w (vp_in_nI (by omega) (by omega)) dX4_send_9 ?_
    refine lv_topi (fun t_1 et_1 => ?_)
    refine lv_if_eq (tgt := 19) hx hb dX4_send_10 (by decide) (fun c_10 => absurd c_10 (by rw [et_1, nI_clamp (by omega)]; exact hbusy i hi)) (fun c_10 => ?_)
    obtain ⟨x_2, ex_2⟩ : ∃ y : Int32, y = (nI i) + 1 := ⟨_, rfl⟩
    refine lv_iinc (v := x_2) (lv' := [(5, _), (0, _), (1, _), (2, _), (3, _), (4, _)]) C.1 C.2.1 dX4_send_13 hl (k := 0) rfl (by rw [ex_2]; rfl) (by decide) rfl (fun ls hl => ?_)
    refine lv_goto (tgt := 3) hx hb dX4_send_16 (by decide) ?_
    have hx2 : x_2 = nI (i + 1) := by rw [ex_2]; exact nI_1 i
    rw [hx2] at hl
    exact ih (i + 1) (by omega) ls (lv_sub hl [0, 1, 2, 3, 4, 5] rfl)
set_option maxHeartbeats 4000000 in
set_option maxRecDepth 100000 in
/-- send(..) -/
theorem q_send (l : Launch) (D : va_G) (cI cZ cN cO : ClassId) (A : Nat → Prop) (mm : Nat) (d : Nat → Nat) (n : Nat) (σ : RS) (j : Nat) (q1 q2 q3 q4 : Int32) (ok : rOK n σ) (hj : j < 2001) (hfree : σ.2 7 j = 0) (hbusy : ∀ i, i < j → ¬ σ.2 7 i = 0) (h2 : vp_in q2 n) (h3 : vp_in q3 n) (hmn : vp_in (σ.1 9 + 1) 2001) : Met l yX4_send (.code yX4_send cX4_send 6 (some .int) :: gw) ({ frames := 0, cells := 0, slots := 0, locals := 0 }) (va_Pc (.ref mm :: [.int q1, .int q2, .int q3, .int q4]) (rH D cI cZ cN cO A mm d σ)) (va_Qi (fun (r : Int32) (_ : Unit) => r = nI j) (fun _ t => rH D cI cZ cN cO A mm d (rSend σ j q1 q2 q3 q4) t ∧ rOK n (rSend σ j q1 q2 q3 q4)) A) 0 0 A := by
  refine Met.ofW (cc := cX4_send) (maxL := 6) (ret := (some .int)) (by decide) rfl ?_
  intro p e s m args below meth c s₁ B hml hv
  obtain ⟨rfl, hP, hK, hD⟩ := hv
  have hx := B.exec
  have hb := B.bytes
  have hr := B.returns
  have hts := atoms_spec (ws := (.code yX4_send cX4_send 6 (some .int) :: gw)) B.pre
  have hg : ∀ w ∈ gw, w.before _ s = true := fun w h => hts w (List.mem_cons_of_mem _ h)
  have hown : s.vm.findClass RX4 = some m.cls := findClass_of_methodNamed B.named
  have hlocks := B.notSynchronized
  have C : Cx p c cX4_send s m _ RX4 D (gTy cI cZ cN cO) := ⟨hx, hb, hown, hg, hK⟩
  have w : rWd D cI cZ A s.heap mm d σ s.heap [] := ⟨hP, hD, va_S.rf⟩
  have hl := lv_entry ([.ref mm, .int q1, .int q2, .int q3, .int q4]) (n := 6) (Nat.le_of_ble_eq_true rfl)
  rw [lg_entry_eq]
  generalize (lg_sl ([.ref mm, .int q1, .int q2, .int q3, .int q4]) ++ List.replicate (6 - (lg_sl ([.ref mm, .int q1, .int q2, .int q3, .int q4])).length) Slot.unset).toArray = ls at hl ⊢
  have hl : lv_has ls 6 [(0, .ref mm), (1, .int q1), (2, .int q2), (3, .int q3), (4, .int q4)] := hl
  refine lv_iconst (v := 0) hx hb dX4_send_0 (by decide) ?_
  refine lv_istore (lv' := [(5, _), (0, _), (1, _), (2, _), (3, _), (4, _)]) C.1 C.2.1 dX4_send_1 hl (by decide) rfl (fun ls hl => ?_)
  rw [← nI_0] at hl
  refine ql_send C hml j w ok hj hfree hbusy ?_ j 0 (by omega) ls (lv_sub hl [0, 1, 2, 3, 4, 5] rfl)
  intro ls hl
  refine lv_aload_n hx hb dX4_send_19 rfl (lv_at hl 1 rfl) ?_
  refine r_get_7 C w dX4_send_20 ?_
  refine lv_iload hx hb dX4_send_23 (lv_at hl 0 rfl) ?_
  refine lv_iconst (v := 1) hx hb dX4_send_25 (by decide) ?_
  refine r_st_7 (v := 1) C w rfl (vp_in_nI hj (by omega)) dX4_send_26 (fun H locs w => ?_)
  have ok : rOK n _ := rOK.st ok (k := 7) (i := (nI j).toNatClampNeg) (v := 1) (fun b hb => by cases hb)
  refine lv_aload_n hx hb dX4_send_27 rfl (lv_at hl 1 rfl) ?_
  refine r_get_2 C w dX4_send_28 ?_
  refine lv_iload hx hb dX4_send_31 (lv_at hl 0 rfl) ?_
  refine lv_iload_n hx hb dX4_send_33 rfl (lv_at hl 2 rfl) ?_
  refine r_st_2 C w (vp_in_nI hj (by omega)) dX4_send_34 (fun H locs w => ?_)
  have ok : rOK n _ := rOK.st ok (k := 2) (i := (nI j).toNatClampNeg) (v := q1) (fun b hb => by cases hb)
  refine lv_aload_n hx hb dX4_send_35 rfl (lv_at hl 1 rfl) ?_
  refine r_get_3 C w dX4_send_36 ?_
  refine lv_iload hx hb dX4_send_39 (lv_at hl 0 rfl) ?_
  refine lv_iload_n hx hb dX4_send_41 rfl (lv_at hl 3 rfl) ?_
  refine r_st_3 C w (vp_in_nI hj (by omega)) dX4_send_42 (fun H locs w => ?_)
  have ok : rOK n _ := rOK.st ok (k := 3) (i := (nI j).toNatClampNeg) (v := q2) (fun b hb => by cases hb; exact h2)
  refine lv_aload_n hx hb dX4_send_43 rfl (lv_at hl 1 rfl) ?_
  refine r_get_4 C w dX4_send_44 ?_
  refine lv_iload hx hb dX4_send_47 (lv_at hl 0 rfl) ?_
  refine lv_iload_n hx hb dX4_send_49 rfl (lv_at hl 4 rfl) ?_
  refine r_st_4 C w (vp_in_nI hj (by omega)) dX4_send_50 (fun H locs w => ?_)
  have ok : rOK n _ := rOK.st ok (k := 4) (i := (nI j).toNatClampNeg) (v := q3) (fun b hb => by cases hb; exact h3)
  refine lv_aload_n hx hb dX4_send_51 rfl (lv_at hl 1 rfl) ?_
  refine r_get_5 C w dX4_send_52 ?_
  refine lv_iload hx hb dX4_send_55 (lv_at hl 0 rfl) ?_
  refine lv_iload hx hb dX4_send_57 (lv_at hl 5 rfl) ?_
  refine r_st_5 C w (vp_in_nI hj (by omega)) dX4_send_59 (fun H locs w => ?_)
  have ok : rOK n _ := rOK.st ok (k := 5) (i := (nI j).toNatClampNeg) (v := q4) (fun b hb => by cases hb)
  refine lv_aload_n hx hb dX4_send_60 rfl (lv_at hl 1 rfl) ?_
  refine r_get_8 C w dX4_send_61 ?_
  refine lv_aload_n hx hb dX4_send_64 rfl (lv_at hl 1 rfl) ?_
  refine r_get_9 C w dX4_send_65 ?_
  refine lv_topi (fun t_1 et_1 => ?_)
  refine lv_iload hx hb dX4_send_68 (lv_at hl 0 rfl) ?_
  refine r_st_8 C w (by rw [et_1]; exact ok.2.2.2.1) dX4_send_70 (fun H locs w => ?_)
  have ok : rOK n _ := rOK.st ok (k := 8) (i := t_1.toNatClampNeg) (v := nI j) (fun b hb => by cases hb; exact (vp_in_nI hj (by omega)))
  refine lv_aload_n hx hb dX4_send_71 rfl (lv_at hl 1 rfl) ?_
  refine lv_dup hx hb dX4_send_72 rfl ?_
  refine r_get_9 C w dX4_send_73 ?_
  refine lv_topi (fun t_2 et_2 => ?_)
  refine lv_iconst (v := 1) hx hb dX4_send_76 (by decide) ?_
  refine lv_iadd hx hb dX4_send_77 ?_
  refine lv_topi (fun t_3 et_3 => ?_)
  refine r_put_9 C w dX4_send_78 (fun H locs w => ?_)
  have ok : rOK n _ := rOK.put ok (k := 9) (v := t_3) (by decide) (fun _ => (by rw [et_3, et_2]; exact hmn)) (fun h => absurd h (by decide))
  refine lv_aload_n hx hb dX4_send_81 rfl (lv_at hl 1 rfl) ?_
  refine lv_dup hx hb dX4_send_82 rfl ?_
  refine r_get_10 C w dX4_send_83 ?_
  refine lv_topi (fun t_4 et_4 => ?_)
  refine lv_iconst (v := 1) hx hb dX4_send_86 (by decide) ?_
  refine lv_iadd hx hb dX4_send_87 ?_
  refine lv_topi (fun t_5 et_5 => ?_)
  refine r_put_10 C w dX4_send_88 (fun H locs w => ?_)
  have ok : rOK n _ := rOK.put ok (k := 10) (v := t_5) (by decide) (fun h => absurd h (by decide)) (fun h => absurd h (by decide))
  refine lv_iload hx hb dX4_send_91 (lv_at hl 0 rfl) ?_
  subst et_5 et_4 et_3 et_2 et_1
  exact W.iret hx hb hr (fun t ht hW => ⟨⟨_, (), rfl, rfl, ⟨by rw [ht]; exact w.1, va_K.moved hW.alike hK, w.2.1⟩, ok⟩, w.2.2.F ht⟩) w.2.2.2.2 dX4_send_93
