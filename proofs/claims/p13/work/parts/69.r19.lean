/-- which UPDATES a QUERY asks for -/
noncomputable def aWh (wh : Int32) : Int32 := cif (wh = 10) 0 (cif (wh = 11) 1 (cif (14 ≤ wh) 3 2))
noncomputable def aAns (σ : RS) (wh x : Int32) (cq : Nat) : Int64 := cif (wh = 13 ∨ wh = 15) (aDif σ cq).toInt64 (cif (wh = 10) (aSum σ cq) (cif (wh = 12) (cif (aIs σ x cq = 0) 0 1) (aMst σ wh x cq)))
theorem aIs_01 {σ : RS} {x : Int32} {i : Nat} : aIs σ x i = 0 ∨ aIs σ x i = 1 := by
  cases i with
  | zero => exact Or.inl rfl
  | succ i => unfold aIs cif; split; exact Or.inr rfl; exact Or.inl rfl
theorem lcmp_le {a b : Int64} {t : Int32} (h : t = lg_cmp a b) (c : t ≤ 0) : ¬ b < a := by
  intro q
  rw [h] at c
  simp only [lg_cmp, if_pos q] at c
  exact absurd c (by decide)
theorem lcmp_gt {a b : Int64} {t : Int32} (h : t = lg_cmp a b) (c : ¬ t ≤ 0) : b < a := by
  by_cases q : b < a
  · exact q
  · rw [h] at c
    simp only [lg_cmp, if_neg q] at c
    exact absurd (by split <;> decide) c
set_option maxHeartbeats 4000000 in
set_option maxRecDepth 100000 in
theorem ql_ans {p : Program} {l : Launch} {e : Env} {R : Room} {s : State} {m : MethodId} {args : Array Value} {below : List Frame} {meth : Method} {c : Code} {cells slots : Nat} {Q : State → Prop} {D : va_G} {cI cZ cN cO : ClassId} {A : Nat → Prop} {H0 : Heap} {mm : Nat} {d : Nat → Nat} {n : Nat} {H : Heap} {locs : List Loc} (C : Cx p c cX4_answer s m args RX4 D (gTy cI cZ cN cO)) (hml : c.maxLocals = 13) {σ : RS} {wh x : Int32} (cq : Nat) (w : rWd D cI cZ A H0 mm d σ H locs) (ok : rOK n σ) (hc : σ.1 40 = nI cq) (hcq : cq ≤ 511) (h1 : vp_in x 512) (kk : ∀ (su : Int64), ∀ (mo : Int64), ∀ (is : Int32), (su = aSum σ cq ∧ is = aIs σ (σ.2 28 x.toNatClampNeg) cq ∧ mo = aMst σ wh (σ.2 28 x.toNatClampNeg) cq) → ∀ ls : Array Slot, lv_has ls 13 [(8, .int (nI cq)), (7, .int is), (5, .long mo), (3, .long su), (2, .int wh), (1, .int x), (0, .ref mm)] → W p l e R s m args below meth c H locs cells slots Q (F0 m 237 ls [])) : ∀ (fu i : Nat), i + fu = cq → ∀ (su : Int64), ∀ (mo : Int64), ∀ (is : Int32), (su = aSum σ i ∧ is = aIs σ (σ.2 28 x.toNatClampNeg) i ∧ mo = aMst σ wh (σ.2 28 x.toNatClampNeg) i) → ∀ ls : Array Slot, lv_has ls 13 [(8, .int (nI i)), (7, .int is), (5, .long mo), (3, .long su), (2, .int wh), (1, .int x), (0, .ref mm)] → W p l e R s m args below meth c H locs cells slots Q (F0 m 107 ls []) := by
  intro fu
  induction fu with
  | zero =>
    intro i hik
    intro su mo is hI ls hl
    have hx := C.1
    have hb := C.2.1
    have hn9 := ok.2.1
    have hi : cq = i := by omega
    subst hi
    refine lv_iload hx hb dX4_answer_107 (lv_at hl 0 rfl) ?_
    refine lv_aload_n hx hb dX4_answer_109 rfl (lv_at hl 6 rfl) ?_
    refine r_get_40 C w dX4_answer_110 ?_
    rw [hc]
    refine lv_icmp_ge (tgt := 237) hx hb dX4_answer_113 (by decide) (fun c_113 => ?_) (fun c_113 => absurd (Int32.le_refl _) c_113)
    exact kk su mo is hI ls (lv_sub hl [0, 1, 2, 3, 4, 5, 6] rfl)
  | succ fu ih =>
    intro i hik
    intro su mo is hI ls hl
    have hx := C.1
    have hb := C.2.1
    have hn9 := ok.2.1
    have hi : i < cq := by omega
    refine lv_iload hx hb dX4_answer_107 (lv_at hl 0 rfl) ?_
    refine lv_aload_n hx hb dX4_answer_109 rfl (lv_at hl 6 rfl) ?_
    refine r_get_40 C w dX4_answer_110 ?_
    rw [hc]
    refine lv_icmp_ge (tgt := 237) hx hb dX4_answer_113 (by decide) (fun c_113 => absurd c_113 (nI_ge hi (by omega))) (fun c_113 => ?_)
    refine lv_aload_n hx hb dX4_answer_116 rfl (lv_at hl 6 rfl) ?_
    refine r_get_39 C w dX4_answer_117 ?_
    refine lv_iload hx hb dX4_answer_120 (lv_at hl 0 rfl) ?_
    refine r_ld_39 C w (vp_in_nI (show i < 512 by omega) (by omega)) dX4_answer_122 ?_
    rw [nI_clamp (show i < 2 ^ 31 by omega)]
    refine lv_topi (fun u eu => ?_)
    have hu : vp_in u 512 := by rw [eu]; exact ok.at 39 rfl _
    refine lv_istore (lv' := [(9, _), (8, _), (7, _), (5, _), (3, _), (2, _), (1, _), (0, _)]) C.1 C.2.1 dX4_answer_123 hl (by decide) rfl (fun ls hl => ?_)
    refine gJoin (fun v => (v = 1 ∧ (σ.2 28 u.toNatClampNeg) = (σ.2 28 x.toNatClampNeg)) ∨ (v = 0 ∧ ¬ (σ.2 28 u.toNatClampNeg) = (σ.2 28 x.toNatClampNeg))) (fun v => F0 m 146 ls [.int v]) (fun v_125 hv_125 => ?_) (fun J_125 => ?_)
    · refine lv_istore (lv' := [(10, _), (9, _), (8, _), (7, _), (5, _), (3, _), (2, _), (1, _), (0, _)]) C.1 C.2.1 dX4_answer_146 hl (by decide) rfl (fun ls hl => ?_)
      refine lv_lload_n hx hb dX4_answer_148 rfl (lv_at hl 5 rfl) ?_
      refine lv_aload_n hx hb dX4_answer_149 rfl (lv_at hl 8 rfl) ?_
      refine r_get_28 C w dX4_answer_150 ?_
      refine lv_iload hx hb dX4_answer_153 (lv_at hl 1 rfl) ?_
      refine r_ld_28 C w hu dX4_answer_155 ?_
      refine lv_i2l (v := ((σ.2 28 u.toNatClampNeg)).toInt64) hx hb dX4_answer_156 rfl ?_
      refine lv_ladd hx hb dX4_answer_157 ?_
      refine lv_topl (fun su1 esu => ?_)
      refine lv_lstore_n (lv' := [(3, _), (10, _), (9, _), (8, _), (7, _), (5, _), (2, _), (1, _), (0, _)]) C.1 C.2.1 dX4_answer_158 rfl hl (by decide) rfl (fun ls hl => ?_)
      refine gJoin (fun v => (v = 1 ∧ (¬ is = 0 ∨ ¬ v_125 = 0)) ∨ (v = 0 ∧ ¬ (¬ is = 0 ∨ ¬ v_125 = 0))) (fun v => F0 m 174 ls [.int v]) (fun v_159 hv_159 => ?_) (fun J_159 => ?_)
      · refine lv_istore (lv' := [(7, _), (3, _), (10, _), (9, _), (8, _), (5, _), (2, _), (1, _), (0, _)]) C.1 C.2.1 dX4_answer_174 hl (by decide) rfl (fun ls hl => ?_)
        refine gJoinL (fun v => v = cif (wh = 11) (σ.2 28 u.toNatClampNeg).toInt64 (σ.2 29 u.toNatClampNeg).toInt64) (fun v => F0 m 201 ls [.long v]) (fun v_176 hv_176 => ?_) (fun J_176 => ?_)
        · refine lv_lstore (lv' := [(11, _), (7, _), (3, _), (10, _), (9, _), (8, _), (5, _), (2, _), (1, _), (0, _)]) C.1 C.2.1 dX4_answer_201 hl (by decide) rfl (fun ls hl => ?_)
          refine gJoinL (fun v => v = cif ((wh = 11 ∨ ¬ v_125 = 0) ∧ mo < v_176) v_176 mo) (fun v => F0 m 229 ls [.long v]) (fun v_203 hv_203 => ?_) (fun J_203 => ?_)
          · refine lv_lstore (lv' := [(5, _), (11, _), (7, _), (3, _), (10, _), (9, _), (8, _), (2, _), (1, _), (0, _)]) C.1 C.2.1 dX4_answer_229 hl (by decide) rfl (fun ls hl => ?_)
            obtain ⟨x_1, ex_1⟩ : ∃ y : Int32, y = (nI i) + 1 := ⟨_, rfl⟩
            refine lv_iinc (v := x_1) (lv' := [(8, _), (5, _), (11, _), (7, _), (3, _), (10, _), (9, _), (2, _), (1, _), (0, _)]) C.1 C.2.1 dX4_answer_231 hl (k := 6) rfl (by rw [ex_1]; rfl) (by decide) rfl (fun ls hl => ?_)
            refine lv_goto (tgt := 107) hx hb dX4_answer_234 (by decide) ?_
            have hx2 : x_1 = nI (i + 1) := by rw [ex_1]; exact nI_1 i
            rw [hx2] at hl
            subst eu
            have hs : ¬ v_125 = 0 ↔ σ.2 28 (σ.2 39 i).toNatClampNeg = σ.2 28 x.toNatClampNeg := by
              rcases hv_125 with q | q
              · exact ⟨fun _ => q.2, fun _ => by rw [q.1]; decide⟩
              · exact ⟨fun z => absurd q.1 z, fun z => absurd z q.2⟩
            have h3 : su1 = aSum σ (i + 1) := by rw [esu, hI.1]; rfl
            have h7 : v_159 = aIs σ (σ.2 28 x.toNatClampNeg) (i + 1) := by
              show _ = cif (¬ aIs σ (σ.2 28 x.toNatClampNeg) i = 0 ∨ σ.2 28 (σ.2 39 i).toNatClampNeg = σ.2 28 x.toNatClampNeg) 1 0
              rw [← hI.2.1, ← hs]
              rcases hv_159 with q | q
              · rw [cif_pos q.2]; exact q.1
              · rw [cif_neg q.2]; exact q.1
            have h5 : v_203 = aMst σ wh (σ.2 28 x.toNatClampNeg) (i + 1) := by
              rw [hv_203, hv_176]
              show _ = cif ((wh = 11 ∨ σ.2 28 (σ.2 39 i).toNatClampNeg = σ.2 28 x.toNatClampNeg) ∧ aMst σ wh (σ.2 28 x.toNatClampNeg) i < aX σ wh i) (aX σ wh i) (aMst σ wh (σ.2 28 x.toNatClampNeg) i)
              rw [← hI.2.2, ← hs]; rfl
            exact ih (i + 1) (by omega) su1 v_203 v_159 ⟨h3, h7, h5⟩ ls (lv_sub hl [0, 3, 1, 4, 7, 8, 9] rfl)
          · refine lv_iload_n hx hb dX4_answer_203 rfl (lv_at hl 7 rfl) ?_
            refine lv_bipush (v := 11) hx hb dX4_answer_204 (by decide) ?_
            refine lv_icmp_eq (tgt := 214) hx hb dX4_answer_206 (by decide) (fun c_206 => ?_) (fun c_206 => ?_)
            · refine lv_lload hx hb dX4_answer_214 (lv_at hl 0 rfl) ?_
              refine lv_lload hx hb dX4_answer_216 (lv_at hl 6 rfl) ?_
              refine W.lcmp hx hb dX4_answer_218 ?_
              refine lv_topi (fun tc etc => ?_)
              refine lv_if_le (tgt := 227) hx hb dX4_answer_219 (by decide) (fun c_219 => ?_) (fun c_219 => ?_)
              · refine lv_lload hx hb dX4_answer_227 (lv_at hl 6 rfl) ?_
                exact J_203 _ (cif_neg (fun z => lcmp_le etc c_219 z.2)).symm
              · refine lv_lload hx hb dX4_answer_222 (lv_at hl 0 rfl) ?_
                refine lv_goto (tgt := 229) hx hb dX4_answer_224 (by decide) ?_
                exact J_203 _ (cif_pos ⟨(Or.inl c_206), lcmp_gt etc c_219⟩).symm
            · refine lv_iload hx hb dX4_answer_209 (lv_at hl 3 rfl) ?_
              refine lv_if_eq (tgt := 227) hx hb dX4_answer_211 (by decide) (fun c_211 => ?_) (fun c_211 => ?_)
              · refine lv_lload hx hb dX4_answer_227 (lv_at hl 6 rfl) ?_
                exact J_203 _ (cif_neg (fun z => z.1.elim c_206 (fun z => z c_211))).symm
              · refine lv_lload hx hb dX4_answer_214 (lv_at hl 0 rfl) ?_
                refine lv_lload hx hb dX4_answer_216 (lv_at hl 6 rfl) ?_
                refine W.lcmp hx hb dX4_answer_218 ?_
                refine lv_topi (fun tc etc => ?_)
                refine lv_if_le (tgt := 227) hx hb dX4_answer_219 (by decide) (fun c_219 => ?_) (fun c_219 => ?_)
                · refine lv_lload hx hb dX4_answer_227 (lv_at hl 6 rfl) ?_
                  exact J_203 _ (cif_neg (fun z => lcmp_le etc c_219 z.2)).symm
                · refine lv_lload hx hb dX4_answer_222 (lv_at hl 0 rfl) ?_
                  refine lv_goto (tgt := 229) hx hb dX4_answer_224 (by decide) ?_
                  exact J_203 _ (cif_pos ⟨(Or.inr c_211), lcmp_gt etc c_219⟩).symm
        · refine lv_iload_n hx hb dX4_answer_176 rfl (lv_at hl 6 rfl) ?_
          refine lv_bipush (v := 11) hx hb dX4_answer_177 (by decide) ?_
          refine lv_icmp_ne (tgt := 193) hx hb dX4_answer_179 (by decide) (fun c_179 => ?_) (fun c_179 => ?_)
          · refine lv_aload_n hx hb dX4_answer_193 rfl (lv_at hl 8 rfl) ?_
            refine r_get_29 C w dX4_answer_194 ?_
            refine lv_iload hx hb dX4_answer_197 (lv_at hl 3 rfl) ?_
            refine r_ld_29 C w hu dX4_answer_199 ?_
            refine lv_i2l (v := ((σ.2 29 u.toNatClampNeg)).toInt64) hx hb dX4_answer_200 rfl ?_
            exact J_176 _ (cif_neg c_179).symm
          · refine lv_aload_n hx hb dX4_answer_182 rfl (lv_at hl 8 rfl) ?_
            refine r_get_28 C w dX4_answer_183 ?_
            refine lv_iload hx hb dX4_answer_186 (lv_at hl 3 rfl) ?_
            refine r_ld_28 C w hu dX4_answer_188 ?_
            refine lv_i2l (v := ((σ.2 28 u.toNatClampNeg)).toInt64) hx hb dX4_answer_189 rfl ?_
            refine lv_goto (tgt := 201) hx hb dX4_answer_190 (by decide) ?_
            exact J_176 _ (cif_pos c_179).symm
      · refine lv_iload hx hb dX4_answer_159 (lv_at hl 4 rfl) ?_
        refine lv_if_ne (tgt := 169) hx hb dX4_answer_161 (by decide) (fun c_161 => ?_) (fun c_161 => ?_)
        · refine lv_iconst (v := 1) hx hb dX4_answer_169 (by decide) ?_
          refine lv_goto (tgt := 174) hx hb dX4_answer_170 (by decide) ?_
          exact J_159 _ (Or.inl ⟨rfl, Or.inl c_161⟩)
        · refine lv_iload hx hb dX4_answer_164 (lv_at hl 1 rfl) ?_
          refine lv_if_eq (tgt := 173) hx hb dX4_answer_166 (by decide) (fun c_166 => ?_) (fun c_166 => ?_)
          · refine lv_iconst (v := 0) hx hb dX4_answer_173 (by decide) ?_
            exact J_159 _ (Or.inr ⟨rfl, fun z => z.elim (fun z => z c_161) (fun z => z c_166)⟩)
          · refine lv_iconst (v := 1) hx hb dX4_answer_169 (by decide) ?_
            refine lv_goto (tgt := 174) hx hb dX4_answer_170 (by decide) ?_
            exact J_159 _ (Or.inl ⟨rfl, Or.inr c_166⟩)
    · refine lv_aload_n hx hb dX4_answer_125 rfl (lv_at hl 7 rfl) ?_
      refine r_get_28 C w dX4_answer_126 ?_
      refine lv_iload hx hb dX4_answer_129 (lv_at hl 0 rfl) ?_
      refine r_ld_28 C w hu dX4_answer_131 ?_
      refine lv_aload_n hx hb dX4_answer_132 rfl (lv_at hl 7 rfl) ?_
      refine r_get_28 C w dX4_answer_133 ?_
      refine lv_iload_n hx hb dX4_answer_136 rfl (lv_at hl 6 rfl) ?_
      refine r_ld_28 C w h1 dX4_answer_137 ?_
      refine lv_icmp_ne (tgt := 145) hx hb dX4_answer_138 (by decide) (fun c_138 => ?_) (fun c_138 => ?_)
      · refine lv_iconst (v := 0) hx hb dX4_answer_145 (by decide) ?_
        exact J_125 _ (Or.inr ⟨rfl, c_138⟩)
      · refine lv_iconst (v := 1) hx hb dX4_answer_141 (by decide) ?_
        refine lv_goto (tgt := 146) hx hb dX4_answer_142 (by decide) ?_
        exact J_125 _ (Or.inl ⟨rfl, c_138⟩)
set_option maxHeartbeats 4000000 in
set_option maxRecDepth 100000 in
theorem q_answer_no (l : Launch) (D : va_G) (cI cZ cN cO : ClassId) (A : Nat → Prop) (mm : Nat) (d : Nat → Nat) (n : Nat) (σ : RS) (x : Int32)  (ok : rOK n σ) (hno : ¬ ((¬ x < 1 ∧ ¬ σ.1 37 < x) ∧ ¬ σ.2 31 x.toNatClampNeg = -1 ∧ ¬ σ.2 27 x.toNatClampNeg < 10)) : Met l yX4_answer (.code yX4_answer cX4_answer 13 (some .long) :: gw) ({ frames := 1, cells := 0, slots := 0, locals := 25 }) (va_Pc (.ref mm :: [.int x]) (rH D cI cZ cN cO A mm d σ)) (va_Ql (fun (r : Int64) (_ : Unit) => r = 0) (fun _ t => (∃ σ1 : RS, rH D cI cZ cN cO A mm d σ1 t ∧ rOK n σ1 ∧ (∀ A, ¬ A = 39 → σ1.2 A = σ.2 A) ∧ (∀ j, ¬ j = 40 → ¬ j = 1 → σ1.1 j = σ.1 j) ∧ σ1.1 1 = 0)) A) 0 0 A := by
  refine Met.ofW (cc := cX4_answer) (maxL := 13) (ret := (some .long)) (by decide) rfl ?_
  intro p e s m args below meth c s₁ B hml hv
  obtain ⟨rfl, hP, hK, hD⟩ := hv
  have hx := B.exec
  have hb := B.bytes
  have hr := B.returns
  have hts := atoms_spec (ws := (.code yX4_answer cX4_answer 13 (some .long) :: gw)) B.pre
  have hg : ∀ w ∈ gw, w.before _ s = true := fun w h => hts w (List.mem_cons_of_mem _ h)
  have hown : s.vm.findClass RX4 = some m.cls := findClass_of_methodNamed B.named
  have hlocks := B.notSynchronized
  have C : Cx p c cX4_answer s m _ RX4 D (gTy cI cZ cN cO) := ⟨hx, hb, hown, hg, hK⟩
  have w : rWd D cI cZ A s.heap mm d σ s.heap [] := ⟨hP, hD, va_S.rf⟩
  have ok0 := ok
  have hl := lv_entry ([.ref mm, .int x]) (n := 13) (Nat.le_of_ble_eq_true rfl)
  rw [lg_entry_eq]
  generalize (lg_sl ([.ref mm, .int x]) ++ List.replicate (13 - (lg_sl ([.ref mm, .int x])).length) Slot.unset).toArray = ls at hl ⊢
  have hl : lv_has ls 13 [(0, .ref mm), (1, .int x)] := hl
  refine lv_aload_n hx hb dX4_answer_0 rfl (lv_at hl 0 rfl) ?_
  refine lv_iconst (v := 0) hx hb dX4_answer_1 (by decide) ?_
  refine r_put_1 C w dX4_answer_2 (fun H locs w => ?_)
  have ok : rOK n _ := rOK.put ok (k := 1) (v := 0) (by decide) (fun h => absurd h (by decide)) (fun h => absurd h (by decide))
  refine lv_aload_n hx hb dX4_answer_5 rfl (lv_at hl 0 rfl) ?_
  refine lv_iload_n hx hb dX4_answer_6 rfl (lv_at hl 1 rfl) ?_
  refine r_callp (As := [.int x]) (rest := []) C w hml hl.1 (q_isOperation l D cI cZ cN cO A mm d n _ x ok ) kM_X4_198 kI_X4_isOperation kS_X4_isOperation kD_X4_isOperation (show yX4_isOperation.cls = RX4 ∧ yX4_isOperation.cls ≠ "java/lang/invoke/MethodHandle" ∧ yX4_isOperation.cls ≠ "java/lang/invoke/VarHandle" ∧ (parseMethodDescriptor yX4_isOperation.desc).map (fun d => d.parameters.length) = some 1 from by decide +kernel) rfl rfl ⟨Nat.le_of_ble_eq_true rfl, Nat.le_of_ble_eq_true rfl⟩ rfl (lv_room (Nat.le_of_ble_eq_true rfl)) dX4_answer_7 ⟨Nat.zero_le _, Nat.zero_le _⟩ (fun r_1 hr_1 => ?_)
  refine lv_if_eq (tgt := 31) hx hb dX4_answer_10 (by decide) (fun c_10 => ?_) (fun c_10 => ?_)
  · refine lv_lconst (v := 0) hx hb dX4_answer_31 (by decide) ?_
    exact W.lret (v := 0) hx hb hr (fun t ht hW => ⟨⟨_, (), rfl, rfl, rI σ 1 0, ⟨by rw [ht]; exact w.1, va_K.moved hW.alike hK, w.2.1⟩, ok, fun _ _ => rfl, fun j _ h => by rw [rI_1, if_neg h], rfl⟩, w.2.2.F ht⟩) w.2.2.2.2 dX4_answer_32
  · have hxo := ite_ne0 hr_1 c_10
    have h512 : vp_in x 512 := rOp_in (σ := σ) ok0 hxo.1 hxo.2
    refine lv_aload_n hx hb dX4_answer_13 rfl (lv_at hl 0 rfl) ?_
    refine r_get_31 C w dX4_answer_14 ?_
    refine lv_iload_n hx hb dX4_answer_17 rfl (lv_at hl 1 rfl) ?_
    refine r_ld_31 C w h512 dX4_answer_18 ?_
    refine lv_topi (fun t_2 et_2 => ?_)
    refine lv_iconst (v := (-1)) hx hb dX4_answer_19 (by decide) ?_
    refine lv_icmp_eq (tgt := 31) hx hb dX4_answer_20 (by decide) (fun c_20 => ?_) (fun c_20 => ?_)
    · refine lv_lconst (v := 0) hx hb dX4_answer_31 (by decide) ?_
      exact W.lret (v := 0) hx hb hr (fun t ht hW => ⟨⟨_, (), rfl, rfl, rI σ 1 0, ⟨by rw [ht]; exact w.1, va_K.moved hW.alike hK, w.2.1⟩, ok, fun _ _ => rfl, fun j _ h => by rw [rI_1, if_neg h], rfl⟩, w.2.2.F ht⟩) w.2.2.2.2 dX4_answer_32
    · refine lv_aload_n hx hb dX4_answer_23 rfl (lv_at hl 0 rfl) ?_
      refine lv_iload_n hx hb dX4_answer_24 rfl (lv_at hl 1 rfl) ?_
      refine r_callp (As := [.int x]) (rest := []) C w hml hl.1 (q_isQuery l D cI cZ cN cO A mm d n _ x ok h512) kM_X4_159 kI_X4_isQuery kS_X4_isQuery kD_X4_isQuery (show yX4_isQuery.cls = RX4 ∧ yX4_isQuery.cls ≠ "java/lang/invoke/MethodHandle" ∧ yX4_isQuery.cls ≠ "java/lang/invoke/VarHandle" ∧ (parseMethodDescriptor yX4_isQuery.desc).map (fun d => d.parameters.length) = some 1 from by decide +kernel) rfl rfl ⟨Nat.le_of_ble_eq_true rfl, Nat.le_of_ble_eq_true rfl⟩ rfl (lv_room (Nat.le_of_ble_eq_true rfl)) dX4_answer_25 ⟨Nat.zero_le _, Nat.zero_le _⟩ (fun r_3 hr_3 => ?_)
      refine lv_if_ne (tgt := 33) hx hb dX4_answer_28 (by decide) (fun c_28 => absurd ⟨hxo, (by intro z; exact c_20 (by rw [et_2]; exact z)), ite_ne0 hr_3 c_28⟩ hno) (fun c_28 => ?_)
      refine lv_lconst (v := 0) hx hb dX4_answer_31 (by decide) ?_
      exact W.lret (v := 0) hx hb hr (fun t ht hW => ⟨⟨_, (), rfl, rfl, rI σ 1 0, ⟨by rw [ht]; exact w.1, va_K.moved hW.alike hK, w.2.1⟩, ok, fun _ _ => rfl, fun j _ h => by rw [rI_1, if_neg h], rfl⟩, w.2.2.F ht⟩) w.2.2.2.2 dX4_answer_32
set_option maxHeartbeats 4000000 in
set_option maxRecDepth 100000 in
theorem q_answer_yes (l : Launch) (D : va_G) (cI cZ cN cO : ClassId) (A : Nat → Prop) (mm : Nat) (d : Nat → Nat) (n : Nat) (σ : RS) (x : Int32) (V : Nat → Nat) (ok : rOK n σ) (hxo : ¬ x < 1 ∧ ¬ σ.1 37 < x) (hdn : ¬ σ.2 31 x.toNatClampNeg = -1) (hqu : ¬ σ.2 27 x.toNatClampNeg < 10) (hV : ∀ k, k < n → σ.2 35 ((31 : Int32) * x + nI k).toNatClampNeg = nI (V k)) (hS : mSum V n ≤ 511) : Met l yX4_answer (.code yX4_answer cX4_answer 13 (some .long) :: gw) ({ frames := 1, cells := 0, slots := 0, locals := 25 }) (va_Pc (.ref mm :: [.int x]) (rH D cI cZ cN cO A mm d σ)) (va_Ql (fun (r : Int64) (_ : Unit) => ∃ cq, cq ≤ 511 ∧ (rGat n V (aWh (σ.2 27 x.toNatClampNeg)) (rI σ 1 0)).1 40 = nI cq ∧ r = aAns (rGat n V (aWh (σ.2 27 x.toNatClampNeg)) (rI σ 1 0)) (σ.2 27 x.toNatClampNeg) (σ.2 28 x.toNatClampNeg) cq) (fun _ t => (∃ σ1 : RS, rH D cI cZ cN cO A mm d σ1 t ∧ rOK n σ1 ∧ (∀ A, ¬ A = 39 → σ1.2 A = σ.2 A) ∧ (∀ j, ¬ j = 40 → ¬ j = 1 → σ1.1 j = σ.1 j) ∧ σ1.1 1 = 0)) A) 0 0 A := by
  refine Met.ofW (cc := cX4_answer) (maxL := 13) (ret := (some .long)) (by decide) rfl ?_
  intro p e s m args below meth c s₁ B hml hv
  obtain ⟨rfl, hP, hK, hD⟩ := hv
  have hx := B.exec
  have hb := B.bytes
  have hr := B.returns
  have hts := atoms_spec (ws := (.code yX4_answer cX4_answer 13 (some .long) :: gw)) B.pre
  have hg : ∀ w ∈ gw, w.before _ s = true := fun w h => hts w (List.mem_cons_of_mem _ h)
  have hown : s.vm.findClass RX4 = some m.cls := findClass_of_methodNamed B.named
  have hlocks := B.notSynchronized
  have C : Cx p c cX4_answer s m _ RX4 D (gTy cI cZ cN cO) := ⟨hx, hb, hown, hg, hK⟩
  have w : rWd D cI cZ A s.heap mm d σ s.heap [] := ⟨hP, hD, va_S.rf⟩
  have h512 : vp_in x 512 := rOp_in (σ := σ) ok hxo.1 hxo.2
  have hl := lv_entry ([.ref mm, .int x]) (n := 13) (Nat.le_of_ble_eq_true rfl)
  rw [lg_entry_eq]
  generalize (lg_sl ([.ref mm, .int x]) ++ List.replicate (13 - (lg_sl ([.ref mm, .int x])).length) Slot.unset).toArray = ls at hl ⊢
  have hl : lv_has ls 13 [(0, .ref mm), (1, .int x)] := hl
  refine lv_aload_n hx hb dX4_answer_0 rfl (lv_at hl 0 rfl) ?_
  refine lv_iconst (v := 0) hx hb dX4_answer_1 (by decide) ?_
  refine r_put_1 C w dX4_answer_2 (fun H locs w => ?_)
  have ok : rOK n _ := rOK.put ok (k := 1) (v := 0) (by decide) (fun h => absurd h (by decide)) (fun h => absurd h (by decide))
  refine lv_aload_n hx hb dX4_answer_5 rfl (lv_at hl 0 rfl) ?_
  refine lv_iload_n hx hb dX4_answer_6 rfl (lv_at hl 1 rfl) ?_
  refine r_callp (As := [.int x]) (rest := []) C w hml hl.1 (q_isOperation l D cI cZ cN cO A mm d n _ x ok ) kM_X4_198 kI_X4_isOperation kS_X4_isOperation kD_X4_isOperation (show yX4_isOperation.cls = RX4 ∧ yX4_isOperation.cls ≠ "java/lang/invoke/MethodHandle" ∧ yX4_isOperation.cls ≠ "java/lang/invoke/VarHandle" ∧ (parseMethodDescriptor yX4_isOperation.desc).map (fun d => d.parameters.length) = some 1 from by decide +kernel) rfl rfl ⟨Nat.le_of_ble_eq_true rfl, Nat.le_of_ble_eq_true rfl⟩ rfl (lv_room (Nat.le_of_ble_eq_true rfl)) dX4_answer_7 ⟨Nat.zero_le _, Nat.zero_le _⟩ (fun r_1 hr_1 => ?_)
  refine lv_if_eq (tgt := 31) hx hb dX4_answer_10 (by decide) (fun c_10 => absurd hxo (ite_eq0 hr_1 c_10)) (fun c_10 => ?_)
  refine lv_aload_n hx hb dX4_answer_13 rfl (lv_at hl 0 rfl) ?_
  refine r_get_31 C w dX4_answer_14 ?_
  refine lv_iload_n hx hb dX4_answer_17 rfl (lv_at hl 1 rfl) ?_
  refine r_ld_31 C w h512 dX4_answer_18 ?_
  refine lv_topi (fun t_2 et_2 => ?_)
  refine lv_iconst (v := (-1)) hx hb dX4_answer_19 (by decide) ?_
  refine lv_icmp_eq (tgt := 31) hx hb dX4_answer_20 (by decide) (fun c_20 => absurd (show σ.2 31 x.toNatClampNeg = -1 from et_2.symm.trans c_20) hdn) (fun c_20 => ?_)
  refine lv_aload_n hx hb dX4_answer_23 rfl (lv_at hl 0 rfl) ?_
  refine lv_iload_n hx hb dX4_answer_24 rfl (lv_at hl 1 rfl) ?_
  refine r_callp (As := [.int x]) (rest := []) C w hml hl.1 (q_isQuery l D cI cZ cN cO A mm d n _ x ok h512) kM_X4_159 kI_X4_isQuery kS_X4_isQuery kD_X4_isQuery (show yX4_isQuery.cls = RX4 ∧ yX4_isQuery.cls ≠ "java/lang/invoke/MethodHandle" ∧ yX4_isQuery.cls ≠ "java/lang/invoke/VarHandle" ∧ (parseMethodDescriptor yX4_isQuery.desc).map (fun d => d.parameters.length) = some 1 from by decide +kernel) rfl rfl ⟨Nat.le_of_ble_eq_true rfl, Nat.le_of_ble_eq_true rfl⟩ rfl (lv_room (Nat.le_of_ble_eq_true rfl)) dX4_answer_25 ⟨Nat.zero_le _, Nat.zero_le _⟩ (fun r_3 hr_3 => ?_)
  refine lv_if_ne (tgt := 33) hx hb dX4_answer_28 (by decide) (fun c_28 => ?_) (fun c_28 => absurd hqu (ite_eq0 hr_3 c_28))
  refine lv_aload_n hx hb dX4_answer_33 rfl (lv_at hl 0 rfl) ?_
  refine r_get_27 C w dX4_answer_34 ?_
  refine lv_iload_n hx hb dX4_answer_37 rfl (lv_at hl 1 rfl) ?_
  refine r_ld_27 C w h512 dX4_answer_38 ?_
  refine lv_topi (fun wh ewh => ?_)
  have ewh : wh = (σ.2 27 x.toNatClampNeg) := ewh
  refine lv_istore_n (lv' := [(2, _), (0, _), (1, _)]) C.1 C.2.1 dX4_answer_39 rfl hl (by decide) rfl (fun ls hl => ?_)
  refine lv_aload_n hx hb dX4_answer_40 rfl (lv_at hl 1 rfl) ?_
  refine lv_iload_n hx hb dX4_answer_41 rfl (lv_at hl 2 rfl) ?_
  refine gJoin (fun v => v = aWh wh) (fun v => F0 m 73 ls [.int v, .int x, .ref mm]) (fun v_42 hv_42 => ?_) (fun J_42 => ?_)
  · obtain ⟨cq, hcq, hc⟩ : rGc (mSum V n) (rGat n V v_42 (rI σ 1 0)) := rGo_c n
    refine r_callv (As := [.int x, .int v_42]) (rest := []) C w hml hl.1 (q_gather l D cI cZ cN cO A mm d n _ x v_42 V ok h512 hV hS) kM_X4_204 kI_X4_gather kS_X4_gather kD_X4_gather (show yX4_gather.cls = RX4 ∧ yX4_gather.cls ≠ "java/lang/invoke/MethodHandle" ∧ yX4_gather.cls ≠ "java/lang/invoke/VarHandle" ∧ (parseMethodDescriptor yX4_gather.desc).map (fun d => d.parameters.length) = some 2 from by decide +kernel) rfl rfl ⟨Nat.le_of_ble_eq_true rfl, Nat.le_of_ble_eq_true rfl⟩ rfl (lv_room (Nat.le_of_ble_eq_true rfl)) dX4_answer_73 ⟨Nat.zero_le _, Nat.zero_le _⟩ (fun H locs w ok => ?_)
    refine lv_iload_n hx hb dX4_answer_76 rfl (lv_at hl 0 rfl) ?_
    refine lv_bipush (v := 13) hx hb dX4_answer_77 (by decide) ?_
    refine lv_icmp_eq (tgt := 88) hx hb dX4_answer_79 (by decide) (fun c_79 => ?_) (fun c_79 => ?_)
    · refine lv_aload_n hx hb dX4_answer_88 rfl (lv_at hl 1 rfl) ?_
      refine r_callp (As := []) (rest := []) C w hml hl.1 (q_different l D cI cZ cN cO A mm d n _ cq ok hc (by omega)) kM_X4_208 kI_X4_different kS_X4_different kD_X4_different (show yX4_different.cls = RX4 ∧ yX4_different.cls ≠ "java/lang/invoke/MethodHandle" ∧ yX4_different.cls ≠ "java/lang/invoke/VarHandle" ∧ (parseMethodDescriptor yX4_different.desc).map (fun d => d.parameters.length) = some 0 from by decide +kernel) rfl rfl ⟨Nat.le_of_ble_eq_true rfl, Nat.le_of_ble_eq_true rfl⟩ rfl (lv_room (Nat.le_of_ble_eq_true rfl)) dX4_answer_89 ⟨Nat.zero_le _, Nat.zero_le _⟩ (fun r_4 hr_4 => ?_)
      refine lv_i2l (v := r_4.toInt64) hx hb dX4_answer_92 rfl ?_
      exact W.lret (v := r_4.toInt64) hx hb hr (fun t ht hW => ⟨⟨_, (), rfl, ⟨cq, by omega, by rw [← ewh, ← hv_42]; exact hc, by rw [← ewh, ← hv_42]; unfold aAns; rw [cif_pos (Or.inl c_79), hr_4]⟩, _, ⟨by rw [ht]; exact w.1, va_K.moved hW.alike hK, w.2.1⟩, ok, (fun A hA => by rw [rGat_2 hA]; rfl), (fun j h1 h2 => by rw [rGat_1 h1, rI_1, if_neg h2]), (by rw [rGat_1 (by decide)]; rfl)⟩, w.2.2.F ht⟩) w.2.2.2.2 dX4_answer_93
    · refine lv_iload_n hx hb dX4_answer_82 rfl (lv_at hl 0 rfl) ?_
      refine lv_bipush (v := 15) hx hb dX4_answer_83 (by decide) ?_
      refine lv_icmp_ne (tgt := 94) hx hb dX4_answer_85 (by decide) (fun c_85 => ?_) (fun c_85 => ?_)
      · refine lv_lconst (v := 0) hx hb dX4_answer_94 (by decide) ?_
        refine lv_lstore_n (lv' := [(3, _), (2, _), (0, _), (1, _)]) C.1 C.2.1 dX4_answer_95 rfl hl (by decide) rfl (fun ls hl => ?_)
        refine lv_ldc2 (v := -9223372036854775808) C.1 C.2.1 C.2.2.1 (C.2.2.2.1 _ kZ_constantLong_RX4_214_9223372036854775808_) dX4_answer_96 ?_
        refine lv_lstore (lv' := [(5, _), (3, _), (2, _), (0, _), (1, _)]) C.1 C.2.1 dX4_answer_99 hl (by decide) rfl (fun ls hl => ?_)
        refine lv_iconst (v := 0) hx hb dX4_answer_101 (by decide) ?_
        refine lv_istore (lv' := [(7, _), (5, _), (3, _), (2, _), (0, _), (1, _)]) C.1 C.2.1 dX4_answer_102 hl (by decide) rfl (fun ls hl => ?_)
        refine lv_iconst (v := 0) hx hb dX4_answer_104 (by decide) ?_
        refine lv_istore (lv' := [(8, _), (7, _), (5, _), (3, _), (2, _), (0, _), (1, _)]) C.1 C.2.1 dX4_answer_105 hl (by decide) rfl (fun ls hl => ?_)
        have hl := lv_sub hl (l' := [(8, .int (nI 0)), (7, .int 0), (5, .long (-9223372036854775808)), (3, .long 0), (2, .int wh), (1, .int x), (0, .ref mm)]) [0, 1, 2, 3, 4, 6, 5] (by rw [nI_0]; rfl)
        refine ql_ans C hml cq w ok hc (by omega) h512 ?_ cq 0 (by omega) 0 (-9223372036854775808) 0 ⟨rfl, rfl, rfl⟩ ls hl
        intro su mo is hJ ls hl
        have h28 : (rGat n V v_42 (rI σ 1 0)).2 28 x.toNatClampNeg = σ.2 28 x.toNatClampNeg := by rw [rGat_2 (by decide)]; rfl
        rw [h28] at hJ
        refine lv_iload_n hx hb dX4_answer_237 rfl (lv_at hl 4 rfl) ?_
        refine lv_bipush (v := 10) hx hb dX4_answer_238 (by decide) ?_
        refine lv_icmp_ne (tgt := 247) hx hb dX4_answer_240 (by decide) (fun c_240 => ?_) (fun c_240 => ?_)
        · refine lv_iload_n hx hb dX4_answer_247 rfl (lv_at hl 4 rfl) ?_
          refine lv_bipush (v := 12) hx hb dX4_answer_248 (by decide) ?_
          refine lv_icmp_ne (tgt := 266) hx hb dX4_answer_250 (by decide) (fun c_250 => ?_) (fun c_250 => ?_)
          · refine lv_lload hx hb dX4_answer_266 (lv_at hl 2 rfl) ?_
            exact W.lret (v := mo) hx hb hr (fun t ht hW => ⟨⟨_, (), rfl, ⟨cq, by omega, by rw [← ewh, ← hv_42]; exact hc, by rw [← ewh, ← hv_42]; unfold aAns; rw [cif_neg (fun z => z.elim c_79 c_85), cif_neg c_240, cif_neg c_250, ← hJ.2.2]⟩, _, ⟨by rw [ht]; exact w.1, va_K.moved hW.alike hK, w.2.1⟩, ok, (fun A hA => by rw [rGat_2 hA]; rfl), (fun j h1 h2 => by rw [rGat_1 h1, rI_1, if_neg h2]), (by rw [rGat_1 (by decide)]; rfl)⟩, w.2.2.F ht⟩) w.2.2.2.2 dX4_answer_268
          · refine lv_iload hx hb dX4_answer_253 (lv_at hl 1 rfl) ?_
            refine lv_if_eq (tgt := 262) hx hb dX4_answer_255 (by decide) (fun c_255 => ?_) (fun c_255 => ?_)
            · refine lv_lconst (v := 0) hx hb dX4_answer_262 (by decide) ?_
              refine lv_goto (tgt := 268) hx hb dX4_answer_263 (by decide) ?_
              exact W.lret (v := 0) hx hb hr (fun t ht hW => ⟨⟨_, (), rfl, ⟨cq, by omega, by rw [← ewh, ← hv_42]; exact hc, by rw [← ewh, ← hv_42]; unfold aAns; rw [cif_neg (fun z => z.elim c_79 c_85), cif_neg c_240, cif_pos c_250, ← hJ.2.1, cif_pos c_255]⟩, _, ⟨by rw [ht]; exact w.1, va_K.moved hW.alike hK, w.2.1⟩, ok, (fun A hA => by rw [rGat_2 hA]; rfl), (fun j h1 h2 => by rw [rGat_1 h1, rI_1, if_neg h2]), (by rw [rGat_1 (by decide)]; rfl)⟩, w.2.2.F ht⟩) w.2.2.2.2 dX4_answer_268
            · refine lv_lconst (v := 1) hx hb dX4_answer_258 (by decide) ?_
              refine lv_goto (tgt := 268) hx hb dX4_answer_259 (by decide) ?_
              exact W.lret (v := 1) hx hb hr (fun t ht hW => ⟨⟨_, (), rfl, ⟨cq, by omega, by rw [← ewh, ← hv_42]; exact hc, by rw [← ewh, ← hv_42]; unfold aAns; rw [cif_neg (fun z => z.elim c_79 c_85), cif_neg c_240, cif_pos c_250, ← hJ.2.1, cif_neg c_255]⟩, _, ⟨by rw [ht]; exact w.1, va_K.moved hW.alike hK, w.2.1⟩, ok, (fun A hA => by rw [rGat_2 hA]; rfl), (fun j h1 h2 => by rw [rGat_1 h1, rI_1, if_neg h2]), (by rw [rGat_1 (by decide)]; rfl)⟩, w.2.2.F ht⟩) w.2.2.2.2 dX4_answer_268
        · refine lv_lload_n hx hb dX4_answer_243 rfl (lv_at hl 3 rfl) ?_
          refine lv_goto (tgt := 268) hx hb dX4_answer_244 (by decide) ?_
          exact W.lret (v := su) hx hb hr (fun t ht hW => ⟨⟨_, (), rfl, ⟨cq, by omega, by rw [← ewh, ← hv_42]; exact hc, by rw [← ewh, ← hv_42]; unfold aAns; rw [cif_neg (fun z => z.elim c_79 c_85), cif_pos c_240, ← hJ.1]⟩, _, ⟨by rw [ht]; exact w.1, va_K.moved hW.alike hK, w.2.1⟩, ok, (fun A hA => by rw [rGat_2 hA]; rfl), (fun j h1 h2 => by rw [rGat_1 h1, rI_1, if_neg h2]), (by rw [rGat_1 (by decide)]; rfl)⟩, w.2.2.F ht⟩) w.2.2.2.2 dX4_answer_268
      · refine lv_aload_n hx hb dX4_answer_88 rfl (lv_at hl 1 rfl) ?_
        refine r_callp (As := []) (rest := []) C w hml hl.1 (q_different l D cI cZ cN cO A mm d n _ cq ok hc (by omega)) kM_X4_208 kI_X4_different kS_X4_different kD_X4_different (show yX4_different.cls = RX4 ∧ yX4_different.cls ≠ "java/lang/invoke/MethodHandle" ∧ yX4_different.cls ≠ "java/lang/invoke/VarHandle" ∧ (parseMethodDescriptor yX4_different.desc).map (fun d => d.parameters.length) = some 0 from by decide +kernel) rfl rfl ⟨Nat.le_of_ble_eq_true rfl, Nat.le_of_ble_eq_true rfl⟩ rfl (lv_room (Nat.le_of_ble_eq_true rfl)) dX4_answer_89 ⟨Nat.zero_le _, Nat.zero_le _⟩ (fun r_5 hr_5 => ?_)
        refine lv_i2l (v := r_5.toInt64) hx hb dX4_answer_92 rfl ?_
        exact W.lret (v := r_5.toInt64) hx hb hr (fun t ht hW => ⟨⟨_, (), rfl, ⟨cq, by omega, by rw [← ewh, ← hv_42]; exact hc, by rw [← ewh, ← hv_42]; unfold aAns; rw [cif_pos (Or.inr c_85), hr_5]⟩, _, ⟨by rw [ht]; exact w.1, va_K.moved hW.alike hK, w.2.1⟩, ok, (fun A hA => by rw [rGat_2 hA]; rfl), (fun j h1 h2 => by rw [rGat_1 h1, rI_1, if_neg h2]), (by rw [rGat_1 (by decide)]; rfl)⟩, w.2.2.F ht⟩) w.2.2.2.2 dX4_answer_93
  · refine lv_iload_n hx hb dX4_answer_42 rfl (lv_at hl 0 rfl) ?_
    refine lv_bipush (v := 10) hx hb dX4_answer_43 (by decide) ?_
    refine lv_icmp_ne (tgt := 52) hx hb dX4_answer_45 (by decide) (fun c_45 => ?_) (fun c_45 => ?_)
    · refine lv_iload_n hx hb dX4_answer_52 rfl (lv_at hl 0 rfl) ?_
      refine lv_bipush (v := 11) hx hb dX4_answer_53 (by decide) ?_
      refine lv_icmp_ne (tgt := 62) hx hb dX4_answer_55 (by decide) (fun c_55 => ?_) (fun c_55 => ?_)
      · refine lv_iload_n hx hb dX4_answer_62 rfl (lv_at hl 0 rfl) ?_
        refine lv_bipush (v := 14) hx hb dX4_answer_63 (by decide) ?_
        refine lv_icmp_ge (tgt := 72) hx hb dX4_answer_65 (by decide) (fun c_65 => ?_) (fun c_65 => ?_)
        · refine lv_iconst (v := 3) hx hb dX4_answer_72 (by decide) ?_
          exact J_42 _ ((cif_neg c_45).trans ((cif_neg c_55).trans (cif_pos c_65))).symm
        · refine lv_iconst (v := 2) hx hb dX4_answer_68 (by decide) ?_
          refine lv_goto (tgt := 73) hx hb dX4_answer_69 (by decide) ?_
          exact J_42 _ ((cif_neg c_45).trans ((cif_neg c_55).trans (cif_neg c_65))).symm
      · refine lv_iconst (v := 1) hx hb dX4_answer_58 (by decide) ?_
        refine lv_goto (tgt := 73) hx hb dX4_answer_59 (by decide) ?_
        exact J_42 _ ((cif_neg c_45).trans (cif_pos c_55)).symm
    · refine lv_iconst (v := 0) hx hb dX4_answer_48 (by decide) ?_
      refine lv_goto (tgt := 73) hx hb dX4_answer_49 (by decide) ?_
      exact J_42 _ (cif_pos c_45).symm
