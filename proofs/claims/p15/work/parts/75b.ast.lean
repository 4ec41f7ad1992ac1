/-- in how many ways the pair is astray, as the reference counts -/
def rAhd (σ : RS) (u v : Nat) : Prop := ¬ σ.2 31 u = -1 ∧ σ.2 31 u < σ.2 30 v
def rMis (σ : RS) (u v : Nat) : Prop := σ.2 27 u < 10 ∧ σ.2 35 ((31 : Int32) * nI v + σ.2 26 u).toNatClampNeg < σ.2 34 u
noncomputable def rPr (n : Nat) (σ : RS) (u v : Nat) : Int32 := cif (u < v ∧ ¬ rWin n (nI u) (nI v) σ ∧ ¬ rWin n (nI v) (nI u) σ) 1 0 + cif (rAhd σ u v ∧ (¬ rWin n (nI u) (nI v) σ ∨ rMis σ u v)) 1 0
noncomputable def rIn (n : Nat) (σ : RS) (u : Nat) : Nat → Int32
  | 0 => 0
  | i + 1 => rIn n σ u i + cif (1 + i = u ∨ σ.2 36 (1 + i) = 0) 0 (rPr n σ u (1 + i))
noncomputable def rAst (n : Nat) (σ : RS) (op : Nat) : Nat → Int32
  | 0 => 0
  | i + 1 => rAst n σ op i + cif (σ.2 36 (1 + i) = 0) 0 (cif (¬ σ.2 31 (1 + i) = -1 ∧ rLate n (nI (1 + i)) σ) 1 0 + rIn n σ (1 + i) op)
set_option maxHeartbeats 4000000 in
set_option maxRecDepth 100000 in
theorem ql_as2 {p : Program} {l : Launch} {e : Env} {R : Room} {s : State} {m : MethodId} {args : Array Value} {below : List Frame} {meth : Method} {c : Code} {cells slots : Nat} {Q : State → Prop} {D : va_G} {cI cZ cN cO : ClassId} {A : Nat → Prop} {H0 : Heap} {mm : Nat} {d : Nat → Nat} {n : Nat} {H : Heap} {locs : List Loc} (C : Cx p c cX4_astray s m args RX4 D (gTy cI cZ cN cO)) (hml : c.maxLocals = 7) {σ : RS} {B : Int32} (u op : Nat) (w : rWd D cI cZ A H0 mm d σ H locs) (ok : rOK n σ) (hop : σ.1 37 = nI op) (hopl : op < 512) (hu : u < 512) (hRf : 1 ≤ R.frames) (hRl : 23 ≤ R.locals) (hRc : cells + 0 ≤ R.cells) (hRs : slots + 0 ≤ R.slots) (kk : ∀ (b0 : Int32), (b0 = B + rIn n σ u op) → ∀ ls : Array Slot, lv_has ls 7 [(3, .int (nI (1 + op))), (1, .int b0), (2, .int (nI u)), (0, .ref mm)] → W p l e R s m args below meth c H locs cells slots Q (F0 m 218 ls [])) : ∀ (fu i : Nat), i + fu = op → ∀ (b0 : Int32), (b0 = B + rIn n σ u i) → ∀ ls : Array Slot, lv_has ls 7 [(3, .int (nI (1 + i))), (1, .int b0), (2, .int (nI u)), (0, .ref mm)] → W p l e R s m args below meth c H locs cells slots Q (F0 m 57 ls []) := by
  intro fu
  induction fu with
  | zero =>
    intro i hik
    intro b0 hI ls hl
    have hx := C.1
    have hb := C.2.1
    have hi : op = i := by omega
    subst hi
    refine lv_iload_n hx hb dX4_astray_57 rfl (lv_at hl 0 rfl) ?_
    refine lv_aload_n hx hb dX4_astray_58 rfl (lv_at hl 3 rfl) ?_
    refine r_get_37 C w dX4_astray_59 ?_
    rw [hop]
    refine lv_icmp_gt (tgt := 218) hx hb dX4_astray_62 (by decide) (fun c_62 => ?_) (fun c_62 => absurd (nI_lt (by omega) (by omega)) c_62)
    exact kk b0 hI ls (lv_sub hl [0, 1, 2, 3] rfl)
  | succ fu ih =>
    intro i hik
    intro b0 hI ls hl
    have hx := C.1
    have hb := C.2.1
    have hi : i < op := by omega
    refine lv_iload_n hx hb dX4_astray_57 rfl (lv_at hl 0 rfl) ?_
    refine lv_aload_n hx hb dX4_astray_58 rfl (lv_at hl 3 rfl) ?_
    refine r_get_37 C w dX4_astray_59 ?_
    rw [hop]
    refine lv_icmp_gt (tgt := 218) hx hb dX4_astray_62 (by decide) (fun c_62 => absurd c_62 (nI_nlt (by omega) (by omega))) (fun c_62 => ?_)
    refine lv_iload_n hx hb dX4_astray_65 rfl (lv_at hl 0 rfl) ?_
    refine lv_iload_n hx hb dX4_astray_66 rfl (lv_at hl 2 rfl) ?_
    refine lv_icmp_eq (tgt := 212) hx hb dX4_astray_67 (by decide) (fun c_67 => ?_) (fun c_67 => ?_)
    · obtain ⟨x_1, ex_1⟩ : ∃ y : Int32, y = (nI (1 + i)) + 1 := ⟨_, rfl⟩
      refine lv_iinc (v := x_1) (lv' := [(3, _), (1, _), (2, _), (0, _)]) C.1 C.2.1 dX4_astray_212 hl (k := 0) rfl (by rw [ex_1]; rfl) (by decide) rfl (fun ls hl => ?_)
      refine lv_goto (tgt := 57) hx hb dX4_astray_215 (by decide) ?_
      have hq9 : b0 = B + rIn n σ u (i + 1) := by rw [hI]; show _ = B + (rIn n σ u i + cif (1 + i = u ∨ σ.2 36 (1 + i) = 0) 0 (rPr n σ u (1 + i))); rw [cif_pos (Or.inl ((nI_eq (by omega) (by omega)).mp c_67)), Int32.add_zero]
      have hx2 : x_1 = nI (1 + (i + 1)) := by rw [ex_1]; exact nI_1 _
      rw [hx2] at hl
      exact ih (i + 1) (by omega) b0 hq9 ls (lv_sub hl [0, 1, 2, 3] rfl)
    · refine lv_aload_n hx hb dX4_astray_70 rfl (lv_at hl 3 rfl) ?_
      refine r_get_36 C w dX4_astray_71 ?_
      refine lv_iload_n hx hb dX4_astray_74 rfl (lv_at hl 0 rfl) ?_
      refine r_ld_36 C w (vp_in_nI (show 1 + i < 512 by omega) (by omega)) dX4_astray_75 ?_
      rw [nI_clamp (show 1 + i < 2 ^ 31 by omega)]
      refine lv_if_ne (tgt := 82) hx hb dX4_astray_76 (by decide) (fun c_76 => ?_) (fun c_76 => ?_)
      · refine lv_aload_n hx hb dX4_astray_82 rfl (lv_at hl 3 rfl) ?_
        refine lv_iload_n hx hb dX4_astray_83 rfl (lv_at hl 2 rfl) ?_
        refine lv_iload_n hx hb dX4_astray_84 rfl (lv_at hl 0 rfl) ?_
        refine r_callp (As := [.int (nI u), .int (nI (1 + i))]) (rest := []) C w hml hl.1 (q_isWithin l D cI cZ cN cO A mm d n _ (nI u) (nI (1 + i)) ok (vp_in_nI (show u < 512 by omega) (by omega)) (vp_in_nI (show 1 + i < 512 by omega) (by omega))) kM_X4_219 kI_X4_isWithin kS_X4_isWithin kD_X4_isWithin (show yX4_isWithin.cls = RX4 ∧ yX4_isWithin.cls ≠ "java/lang/invoke/MethodHandle" ∧ yX4_isWithin.cls ≠ "java/lang/invoke/VarHandle" ∧ (parseMethodDescriptor yX4_isWithin.desc).map (fun d => d.parameters.length) = some 2 from by decide +kernel) rfl rfl ⟨(by show 0 + 1 ≤ R.frames; omega), (by show 8 + (4 + 11) + 0 ≤ R.locals; omega)⟩ rfl (lv_room (Nat.le_of_ble_eq_true rfl)) dX4_astray_85 ⟨hRc, hRs⟩ (fun r_2 hr_2 => ?_)
        refine lv_istore (lv' := [(4, _), (3, _), (1, _), (2, _), (0, _)]) C.1 C.2.1 dX4_astray_88 hl (by decide) rfl (fun ls hl => ?_)
        refine lv_iload_n hx hb dX4_astray_90 rfl (lv_at hl 2 rfl) ?_
        refine gJoin (fun v => v = cif (u < 1 + i ∧ ¬ rWin n (nI u) (nI (1 + i)) σ ∧ ¬ rWin n (nI (1 + i)) (nI u) σ) 1 0) (fun v => F0 m 115 ls [.int v, .int b0]) (fun v_91 hv_91 => ?_) (fun J_91 => ?_)
        · refine lv_iadd hx hb dX4_astray_115 ?_
          refine lv_topi (fun t1 et1 => ?_)
          refine lv_istore_n (lv' := [(1, _), (4, _), (3, _), (2, _), (0, _)]) C.1 C.2.1 dX4_astray_116 rfl hl (by decide) rfl (fun ls hl => ?_)
          refine gJoin (fun v => (v = 1 ∧ rAhd σ u (1 + i)) ∨ (v = 0 ∧ ¬ rAhd σ u (1 + i))) (fun v => F0 m 147 ls [.int v]) (fun v_117 hv_117 => ?_) (fun J_117 => ?_)
          · refine lv_istore (lv' := [(5, _), (1, _), (4, _), (3, _), (2, _), (0, _)]) C.1 C.2.1 dX4_astray_147 hl (by decide) rfl (fun ls hl => ?_)
            refine gJoin (fun v => (v = 1 ∧ rMis σ u (1 + i)) ∨ (v = 0 ∧ ¬ rMis σ u (1 + i))) (fun v => F0 m 187 ls [.int v]) (fun v_149 hv_149 => ?_) (fun J_149 => ?_)
            · refine lv_istore (lv' := [(6, _), (5, _), (1, _), (4, _), (3, _), (2, _), (0, _)]) C.1 C.2.1 dX4_astray_187 hl (by decide) rfl (fun ls hl => ?_)
              refine lv_iload_n hx hb dX4_astray_189 rfl (lv_at hl 2 rfl) ?_
              refine gJoin (fun v => v = cif (rAhd σ u (1 + i) ∧ (¬ rWin n (nI u) (nI (1 + i)) σ ∨ rMis σ u (1 + i))) 1 0) (fun v => F0 m 210 ls [.int v, .int t1]) (fun v_190 hv_190 => ?_) (fun J_190 => ?_)
              · refine lv_iadd hx hb dX4_astray_210 ?_
                refine lv_topi (fun t2 et2 => ?_)
                refine lv_istore_n (lv' := [(1, _), (6, _), (5, _), (4, _), (3, _), (2, _), (0, _)]) C.1 C.2.1 dX4_astray_211 rfl hl (by decide) rfl (fun ls hl => ?_)
                obtain ⟨x_3, ex_3⟩ : ∃ y : Int32, y = (nI (1 + i)) + 1 := ⟨_, rfl⟩
                refine lv_iinc (v := x_3) (lv' := [(3, _), (1, _), (6, _), (5, _), (4, _), (2, _), (0, _)]) C.1 C.2.1 dX4_astray_212 hl (k := 4) rfl (by rw [ex_3]; rfl) (by decide) rfl (fun ls hl => ?_)
                refine lv_goto (tgt := 57) hx hb dX4_astray_215 (by decide) ?_
                have hq9 : t2 = B + rIn n σ u (i + 1) := by rw [et2, et1, hI, hv_91, hv_190]; show _ = B + (rIn n σ u i + cif (1 + i = u ∨ σ.2 36 (1 + i) = 0) 0 (rPr n σ u (1 + i))); rw [cif_neg (P := 1 + i = u ∨ σ.2 36 (1 + i) = 0) (fun z => z.elim (fun z => c_67 (by rw [z])) c_76), Int32.add_assoc, Int32.add_assoc]; rfl
                have hx2 : x_3 = nI (1 + (i + 1)) := by rw [ex_3]; exact nI_1 _
                rw [hx2] at hl
                exact ih (i + 1) (by omega) t2 hq9 ls (lv_sub hl [0, 1, 5, 6] rfl)
              · refine lv_iload hx hb dX4_astray_190 (lv_at hl 1 rfl) ?_
                refine lv_if_eq (tgt := 209) hx hb dX4_astray_192 (by decide) (fun c_192 => ?_) (fun c_192 => ?_)
                · refine lv_iconst (v := 0) hx hb dX4_astray_209 (by decide) ?_
                  exact J_190 _ (cif_neg (fun z => hv_117.elim (fun y => absurd (y.1.symm.trans c_192) (by decide)) (fun y => y.2 z.1))).symm
                · refine lv_iload hx hb dX4_astray_195 (lv_at hl 3 rfl) ?_
                  refine lv_if_eq (tgt := 205) hx hb dX4_astray_197 (by decide) (fun c_197 => ?_) (fun c_197 => ?_)
                  · refine lv_iconst (v := 1) hx hb dX4_astray_205 (by decide) ?_
                    refine lv_goto (tgt := 210) hx hb dX4_astray_206 (by decide) ?_
                    exact J_190 _ (cif_pos ⟨hv_117.elim (fun y => y.2) (fun y => absurd y.1 c_192), Or.inl (hr_2.elim (fun y => absurd (y.1.symm.trans c_197) (by decide)) (fun y => y.2))⟩).symm
                  · refine lv_iload hx hb dX4_astray_200 (lv_at hl 0 rfl) ?_
                    refine lv_if_eq (tgt := 209) hx hb dX4_astray_202 (by decide) (fun c_202 => ?_) (fun c_202 => ?_)
                    · refine lv_iconst (v := 0) hx hb dX4_astray_209 (by decide) ?_
                      exact J_190 _ (cif_neg (fun z => z.2.elim (fun q => hr_2.elim (fun y => q y.2) (fun y => c_197 y.1)) (fun q => hv_149.elim (fun y => absurd (y.1.symm.trans c_202) (by decide)) (fun y => y.2 q)))).symm
                    · refine lv_iconst (v := 1) hx hb dX4_astray_205 (by decide) ?_
                      refine lv_goto (tgt := 210) hx hb dX4_astray_206 (by decide) ?_
                      exact J_190 _ (cif_pos ⟨hv_117.elim (fun y => y.2) (fun y => absurd y.1 c_192), Or.inr (hv_149.elim (fun y => y.2) (fun y => absurd y.1 c_202))⟩).symm
            · refine lv_aload_n hx hb dX4_astray_149 rfl (lv_at hl 5 rfl) ?_
              refine lv_iload_n hx hb dX4_astray_150 rfl (lv_at hl 4 rfl) ?_
              refine r_callp (As := [.int (nI u)]) (rest := []) C w hml hl.1 (q_isQuery l D cI cZ cN cO A mm d n _ (nI u) ok (vp_in_nI (show u < 512 by omega) (by omega))) kM_X4_159 kI_X4_isQuery kS_X4_isQuery kD_X4_isQuery (show yX4_isQuery.cls = RX4 ∧ yX4_isQuery.cls ≠ "java/lang/invoke/MethodHandle" ∧ yX4_isQuery.cls ≠ "java/lang/invoke/VarHandle" ∧ (parseMethodDescriptor yX4_isQuery.desc).map (fun d => d.parameters.length) = some 1 from by decide +kernel) rfl rfl ⟨(by show 0 + 1 ≤ R.frames; omega), (by show 8 + (2 + 11) + 0 ≤ R.locals; omega)⟩ rfl (lv_room (Nat.le_of_ble_eq_true rfl)) dX4_astray_151 ⟨hRc, hRs⟩ (fun r_4 hr_4 => ?_)
              rw [nI_clamp (show u < 2 ^ 31 by omega)] at hr_4
              refine lv_if_ne (tgt := 186) hx hb dX4_astray_154 (by decide) (fun c_154 => ?_) (fun c_154 => ?_)
              · refine lv_iconst (v := 0) hx hb dX4_astray_186 (by decide) ?_
                exact J_149 _ (Or.inr ⟨rfl, fun z => (ite_ne0 hr_4 c_154) z.1⟩)
              · refine lv_aload_n hx hb dX4_astray_157 rfl (lv_at hl 5 rfl) ?_
                refine r_get_35 C w dX4_astray_158 ?_
                refine lv_bipush (v := 31) hx hb dX4_astray_161 (by decide) ?_
                refine lv_iload_n hx hb dX4_astray_163 rfl (lv_at hl 3 rfl) ?_
                refine lv_imul hx hb dX4_astray_164 ?_
                refine lv_aload_n hx hb dX4_astray_165 rfl (lv_at hl 5 rfl) ?_
                refine r_get_26 C w dX4_astray_166 ?_
                refine lv_iload_n hx hb dX4_astray_169 rfl (lv_at hl 4 rfl) ?_
                refine r_ld_26 C w (vp_in_nI (show u < 512 by omega) (by omega)) dX4_astray_170 ?_
                rw [nI_clamp (show u < 2 ^ 31 by omega)]
                refine lv_iadd hx hb dX4_astray_171 ?_
                refine r_ld_35 C w (gIx (c := 31) (N := 512) rfl (by decide) (vp_in_nI (show 1 + i < 512 by omega) (by omega)) (ok.n31 (ok.at 26 rfl _))) dX4_astray_172 ?_
                refine lv_aload_n hx hb dX4_astray_173 rfl (lv_at hl 5 rfl) ?_
                refine r_get_34 C w dX4_astray_174 ?_
                refine lv_iload_n hx hb dX4_astray_177 rfl (lv_at hl 4 rfl) ?_
                refine r_ld_34 C w (vp_in_nI (show u < 512 by omega) (by omega)) dX4_astray_178 ?_
                rw [nI_clamp (show u < 2 ^ 31 by omega)]
                refine lv_icmp_ge (tgt := 186) hx hb dX4_astray_179 (by decide) (fun c_179 => ?_) (fun c_179 => ?_)
                · refine lv_iconst (v := 0) hx hb dX4_astray_186 (by decide) ?_
                  exact J_149 _ (Or.inr ⟨rfl, fun z => absurd z.2 (Int32.not_lt.mpr c_179)⟩)
                · refine lv_iconst (v := 1) hx hb dX4_astray_182 (by decide) ?_
                  refine lv_goto (tgt := 187) hx hb dX4_astray_183 (by decide) ?_
                  exact J_149 _ (Or.inl ⟨rfl, Classical.byContradiction (ite_eq0 hr_4 c_154), Int32.not_le.mp c_179⟩)
          · refine lv_aload_n hx hb dX4_astray_117 rfl (lv_at hl 4 rfl) ?_
            refine r_get_31 C w dX4_astray_118 ?_
            refine lv_iload_n hx hb dX4_astray_121 rfl (lv_at hl 3 rfl) ?_
            refine r_ld_31 C w (vp_in_nI (show u < 512 by omega) (by omega)) dX4_astray_122 ?_
            rw [nI_clamp (show u < 2 ^ 31 by omega)]
            refine lv_iconst (v := (-1)) hx hb dX4_astray_123 (by decide) ?_
            refine lv_icmp_eq (tgt := 146) hx hb dX4_astray_124 (by decide) (fun c_124 => ?_) (fun c_124 => ?_)
            · refine lv_iconst (v := 0) hx hb dX4_astray_146 (by decide) ?_
              exact J_117 _ (Or.inr ⟨rfl, fun z => z.1 c_124⟩)
            · refine lv_aload_n hx hb dX4_astray_127 rfl (lv_at hl 4 rfl) ?_
              refine r_get_31 C w dX4_astray_128 ?_
              refine lv_iload_n hx hb dX4_astray_131 rfl (lv_at hl 3 rfl) ?_
              refine r_ld_31 C w (vp_in_nI (show u < 512 by omega) (by omega)) dX4_astray_132 ?_
              rw [nI_clamp (show u < 2 ^ 31 by omega)]
              refine lv_aload_n hx hb dX4_astray_133 rfl (lv_at hl 4 rfl) ?_
              refine r_get_30 C w dX4_astray_134 ?_
              refine lv_iload_n hx hb dX4_astray_137 rfl (lv_at hl 2 rfl) ?_
              refine r_ld_30 C w (vp_in_nI (show 1 + i < 512 by omega) (by omega)) dX4_astray_138 ?_
              rw [nI_clamp (show 1 + i < 2 ^ 31 by omega)]
              refine lv_icmp_ge (tgt := 146) hx hb dX4_astray_139 (by decide) (fun c_139 => ?_) (fun c_139 => ?_)
              · refine lv_iconst (v := 0) hx hb dX4_astray_146 (by decide) ?_
                exact J_117 _ (Or.inr ⟨rfl, fun z => absurd z.2 (Int32.not_lt.mpr c_139)⟩)
              · refine lv_iconst (v := 1) hx hb dX4_astray_142 (by decide) ?_
                refine lv_goto (tgt := 147) hx hb dX4_astray_143 (by decide) ?_
                exact J_117 _ (Or.inl ⟨rfl, c_124, Int32.not_le.mp c_139⟩)
        · refine lv_iload_n hx hb dX4_astray_91 rfl (lv_at hl 1 rfl) ?_
          refine lv_iload_n hx hb dX4_astray_92 rfl (lv_at hl 3 rfl) ?_
          refine lv_icmp_le (tgt := 114) hx hb dX4_astray_93 (by decide) (fun c_93 => ?_) (fun c_93 => ?_)
          · refine lv_iconst (v := 0) hx hb dX4_astray_114 (by decide) ?_
            exact J_91 _ (cif_neg (fun z => absurd ((nI_leI (by omega) (by omega)).mp c_93) (by omega))).symm
          · refine lv_iload hx hb dX4_astray_96 (lv_at hl 0 rfl) ?_
            refine lv_if_ne (tgt := 114) hx hb dX4_astray_98 (by decide) (fun c_98 => ?_) (fun c_98 => ?_)
            · refine lv_iconst (v := 0) hx hb dX4_astray_114 (by decide) ?_
              exact J_91 _ (cif_neg (fun z => hr_2.elim (fun y => z.2.1 y.2) (fun y => c_98 y.1))).symm
            · refine lv_aload_n hx hb dX4_astray_101 rfl (lv_at hl 4 rfl) ?_
              refine lv_iload_n hx hb dX4_astray_102 rfl (lv_at hl 1 rfl) ?_
              refine lv_iload_n hx hb dX4_astray_103 rfl (lv_at hl 3 rfl) ?_
              refine r_callp (As := [.int (nI (1 + i)), .int (nI u)]) (rest := [.int b0]) C w hml hl.1 (q_isWithin l D cI cZ cN cO A mm d n _ (nI (1 + i)) (nI u) ok (vp_in_nI (show 1 + i < 512 by omega) (by omega)) (vp_in_nI (show u < 512 by omega) (by omega))) kM_X4_219 kI_X4_isWithin kS_X4_isWithin kD_X4_isWithin (show yX4_isWithin.cls = RX4 ∧ yX4_isWithin.cls ≠ "java/lang/invoke/MethodHandle" ∧ yX4_isWithin.cls ≠ "java/lang/invoke/VarHandle" ∧ (parseMethodDescriptor yX4_isWithin.desc).map (fun d => d.parameters.length) = some 2 from by decide +kernel) rfl rfl ⟨(by show 0 + 1 ≤ R.frames; omega), (by show 8 + (4 + 11) + 0 ≤ R.locals; omega)⟩ rfl (lv_room (Nat.le_of_ble_eq_true rfl)) dX4_astray_104 ⟨hRc, hRs⟩ (fun r_5 hr_5 => ?_)
              refine lv_if_ne (tgt := 114) hx hb dX4_astray_107 (by decide) (fun c_107 => ?_) (fun c_107 => ?_)
              · refine lv_iconst (v := 0) hx hb dX4_astray_114 (by decide) ?_
                exact J_91 _ (cif_neg (fun z => hr_5.elim (fun y => z.2.2 y.2) (fun y => c_107 y.1))).symm
              · refine lv_iconst (v := 1) hx hb dX4_astray_110 (by decide) ?_
                refine lv_goto (tgt := 115) hx hb dX4_astray_111 (by decide) ?_
                exact J_91 _ (cif_pos ⟨by have := mt (nI_leI (a := 1 + i) (b := u) (by omega) (by omega)).mpr c_93; omega, hr_2.elim (fun y => absurd (y.1.symm.trans c_98) (by decide)) (fun y => y.2), hr_5.elim (fun y => absurd (y.1.symm.trans c_107) (by decide)) (fun y => y.2)⟩).symm
      · refine lv_goto (tgt := 212) hx hb dX4_astray_79 (by decide) ?_
        obtain ⟨x_6, ex_6⟩ : ∃ y : Int32, y = (nI (1 + i)) + 1 := ⟨_, rfl⟩
        refine lv_iinc (v := x_6) (lv' := [(3, _), (1, _), (2, _), (0, _)]) C.1 C.2.1 dX4_astray_212 hl (k := 0) rfl (by rw [ex_6]; rfl) (by decide) rfl (fun ls hl => ?_)
        refine lv_goto (tgt := 57) hx hb dX4_astray_215 (by decide) ?_
        have hq9 : b0 = B + rIn n σ u (i + 1) := by rw [hI]; show _ = B + (rIn n σ u i + cif (1 + i = u ∨ σ.2 36 (1 + i) = 0) 0 (rPr n σ u (1 + i))); rw [cif_pos (Or.inr c_76), Int32.add_zero]
        have hx2 : x_6 = nI (1 + (i + 1)) := by rw [ex_6]; exact nI_1 _
        rw [hx2] at hl
        exact ih (i + 1) (by omega) b0 hq9 ls (lv_sub hl [0, 1, 2, 3] rfl)
set_option maxHeartbeats 4000000 in
set_option maxRecDepth 100000 in
theorem ql_as1 {p : Program} {l : Launch} {e : Env} {R : Room} {s : State} {m : MethodId} {args : Array Value} {below : List Frame} {meth : Method} {c : Code} {cells slots : Nat} {Q : State → Prop} {D : va_G} {cI cZ cN cO : ClassId} {A : Nat → Prop} {H0 : Heap} {mm : Nat} {d : Nat → Nat} {n : Nat} {H : Heap} {locs : List Loc} (C : Cx p c cX4_astray s m args RX4 D (gTy cI cZ cN cO)) (hml : c.maxLocals = 7) {σ : RS} (op : Nat) (w : rWd D cI cZ A H0 mm d σ H locs) (ok : rOK n σ) (hop : σ.1 37 = nI op) (hopl : op < 512) (hRf : 1 ≤ R.frames) (hRl : 23 ≤ R.locals) (hRc : cells + 0 ≤ R.cells) (hRs : slots + 0 ≤ R.slots) (kk : ∀ (b0 : Int32), (b0 = rAst n σ op op) → ∀ ls : Array Slot, lv_has ls 7 [(2, .int (nI (1 + op))), (1, .int b0), (0, .ref mm)] → W p l e R s m args below meth c H locs cells slots Q (F0 m 224 ls [])) : ∀ (fu i : Nat), i + fu = op → ∀ (b0 : Int32), (b0 = rAst n σ op i) → ∀ ls : Array Slot, lv_has ls 7 [(2, .int (nI (1 + i))), (1, .int b0), (0, .ref mm)] → W p l e R s m args below meth c H locs cells slots Q (F0 m 9 ls []) := by
  intro fu
  induction fu with
  | zero =>
    intro i hik
    intro b0 hI ls hl
    have hx := C.1
    have hb := C.2.1
    have hi : op = i := by omega
    subst hi
    refine lv_iload_n hx hb dX4_astray_9 rfl (lv_at hl 0 rfl) ?_
    refine lv_aload_n hx hb dX4_astray_10 rfl (lv_at hl 2 rfl) ?_
    refine r_get_37 C w dX4_astray_11 ?_
    rw [hop]
    refine lv_icmp_gt (tgt := 224) hx hb dX4_astray_14 (by decide) (fun c_14 => ?_) (fun c_14 => absurd (nI_lt (by omega) (by omega)) c_14)
    exact kk b0 hI ls (lv_sub hl [0, 1, 2] rfl)
  | succ fu ih =>
    intro i hik
    intro b0 hI ls hl
    have hx := C.1
    have hb := C.2.1
    have hi : i < op := by omega
    refine lv_iload_n hx hb dX4_astray_9 rfl (lv_at hl 0 rfl) ?_
    refine lv_aload_n hx hb dX4_astray_10 rfl (lv_at hl 2 rfl) ?_
    refine r_get_37 C w dX4_astray_11 ?_
    rw [hop]
    refine lv_icmp_gt (tgt := 224) hx hb dX4_astray_14 (by decide) (fun c_14 => absurd c_14 (nI_nlt (by omega) (by omega))) (fun c_14 => ?_)
    refine lv_aload_n hx hb dX4_astray_17 rfl (lv_at hl 2 rfl) ?_
    refine r_get_36 C w dX4_astray_18 ?_
    refine lv_iload_n hx hb dX4_astray_21 rfl (lv_at hl 0 rfl) ?_
    refine r_ld_36 C w (vp_in_nI (show 1 + i < 512 by omega) (by omega)) dX4_astray_22 ?_
    rw [nI_clamp (show 1 + i < 2 ^ 31 by omega)]
    refine lv_if_ne (tgt := 29) hx hb dX4_astray_23 (by decide) (fun c_23 => ?_) (fun c_23 => ?_)
    · refine lv_iload_n hx hb dX4_astray_29 rfl (lv_at hl 1 rfl) ?_
      refine gJoin (fun v => v = cif (¬ σ.2 31 (1 + i) = -1 ∧ rLate n (nI (1 + i)) σ) 1 0) (fun v => F0 m 53 ls [.int v, .int b0]) (fun v_30 hv_30 => ?_) (fun J_30 => ?_)
      · refine lv_iadd hx hb dX4_astray_53 ?_
        refine lv_topi (fun t3 et3 => ?_)
        refine lv_istore_n (lv' := [(1, _), (2, _), (0, _)]) C.1 C.2.1 dX4_astray_54 rfl hl (by decide) rfl (fun ls hl => ?_)
        refine lv_iconst (v := 1) hx hb dX4_astray_55 (by decide) ?_
        refine lv_istore_n (lv' := [(3, _), (1, _), (2, _), (0, _)]) C.1 C.2.1 dX4_astray_56 rfl hl (by decide) rfl (fun ls hl => ?_)
        have hl := lv_sub hl (l' := [(3, .int (nI (1 + 0))), (1, .int t3), (2, .int (nI (1 + i))), (0, .ref mm)]) [0, 1, 2, 3] (by rw [show nI (1 + 0) = (1 : Int32) from by decide +kernel]; rfl)
        refine ql_as2 (B := t3) C hml (1 + i) op w ok hop hopl (by omega) hRf hRl hRc hRs ?_ op 0 (by omega) _ (Int32.add_zero _).symm ls hl
        intro b1 hJ ls hl
        obtain ⟨x_1, ex_1⟩ : ∃ y : Int32, y = (nI (1 + i)) + 1 := ⟨_, rfl⟩
        refine lv_iinc (v := x_1) (lv' := [(2, _), (3, _), (1, _), (0, _)]) C.1 C.2.1 dX4_astray_218 hl (k := 2) rfl (by rw [ex_1]; rfl) (by decide) rfl (fun ls hl => ?_)
        refine lv_goto (tgt := 9) hx hb dX4_astray_221 (by decide) ?_
        have hq9 : b1 = rAst n σ op (i + 1) := by rw [hJ, et3, hI, hv_30]; show _ = rAst n σ op i + cif (σ.2 36 (1 + i) = 0) 0 (cif (¬ σ.2 31 (1 + i) = -1 ∧ rLate n (nI (1 + i)) σ) 1 0 + rIn n σ (1 + i) op); rw [cif_neg (P := σ.2 36 (1 + i) = 0) c_23, Int32.add_assoc]
        have hx2 : x_1 = nI (1 + (i + 1)) := by rw [ex_1]; exact nI_1 _
        rw [hx2] at hl
        exact ih (i + 1) (by omega) b1 hq9 ls (lv_sub hl [0, 2, 3] rfl)
      · refine lv_aload_n hx hb dX4_astray_30 rfl (lv_at hl 2 rfl) ?_
        refine r_get_31 C w dX4_astray_31 ?_
        refine lv_iload_n hx hb dX4_astray_34 rfl (lv_at hl 0 rfl) ?_
        refine r_ld_31 C w (vp_in_nI (show 1 + i < 512 by omega) (by omega)) dX4_astray_35 ?_
        rw [nI_clamp (show 1 + i < 2 ^ 31 by omega)]
        refine lv_iconst (v := (-1)) hx hb dX4_astray_36 (by decide) ?_
        refine lv_icmp_eq (tgt := 52) hx hb dX4_astray_37 (by decide) (fun c_37 => ?_) (fun c_37 => ?_)
        · refine lv_iconst (v := 0) hx hb dX4_astray_52 (by decide) ?_
          exact J_30 _ (cif_neg (fun z => z.1 c_37)).symm
        · refine lv_aload_n hx hb dX4_astray_40 rfl (lv_at hl 2 rfl) ?_
          refine lv_iload_n hx hb dX4_astray_41 rfl (lv_at hl 0 rfl) ?_
          refine r_callp (As := [.int (nI (1 + i))]) (rest := [.int b0]) C w hml hl.1 (q_isLate l D cI cZ cN cO A mm d n _ (nI (1 + i)) ok (vp_in_nI (show 1 + i < 512 by omega) (by omega))) kM_X4_216 kI_X4_isLate kS_X4_isLate kD_X4_isLate (show yX4_isLate.cls = RX4 ∧ yX4_isLate.cls ≠ "java/lang/invoke/MethodHandle" ∧ yX4_isLate.cls ≠ "java/lang/invoke/VarHandle" ∧ (parseMethodDescriptor yX4_isLate.desc).map (fun d => d.parameters.length) = some 1 from by decide +kernel) rfl rfl ⟨(by show 0 + 1 ≤ R.frames; omega), (by show 8 + (4 + 11) + 0 ≤ R.locals; omega)⟩ rfl (lv_room (Nat.le_of_ble_eq_true rfl)) dX4_astray_42 ⟨hRc, hRs⟩ (fun r_2 hr_2 => ?_)
          refine lv_if_eq (tgt := 52) hx hb dX4_astray_45 (by decide) (fun c_45 => ?_) (fun c_45 => ?_)
          · refine lv_iconst (v := 0) hx hb dX4_astray_52 (by decide) ?_
            exact J_30 _ (cif_neg (fun z => hr_2.elim (fun y => absurd (y.1.symm.trans c_45) (by decide)) (fun y => y.2 z.2))).symm
          · refine lv_iconst (v := 1) hx hb dX4_astray_48 (by decide) ?_
            refine lv_goto (tgt := 53) hx hb dX4_astray_49 (by decide) ?_
            exact J_30 _ (cif_pos ⟨c_37, hr_2.elim (fun y => y.2) (fun y => absurd y.1 c_45)⟩).symm
    · refine lv_goto (tgt := 218) hx hb dX4_astray_26 (by decide) ?_
      obtain ⟨x_3, ex_3⟩ : ∃ y : Int32, y = (nI (1 + i)) + 1 := ⟨_, rfl⟩
      refine lv_iinc (v := x_3) (lv' := [(2, _), (1, _), (0, _)]) C.1 C.2.1 dX4_astray_218 hl (k := 0) rfl (by rw [ex_3]; rfl) (by decide) rfl (fun ls hl => ?_)
      refine lv_goto (tgt := 9) hx hb dX4_astray_221 (by decide) ?_
      have hq9 : b0 = rAst n σ op (i + 1) := by rw [hI]; show _ = rAst n σ op i + cif (σ.2 36 (1 + i) = 0) 0 (cif (¬ σ.2 31 (1 + i) = -1 ∧ rLate n (nI (1 + i)) σ) 1 0 + rIn n σ (1 + i) op); rw [cif_pos c_23, Int32.add_zero]
      have hx2 : x_3 = nI (1 + (i + 1)) := by rw [ex_3]; exact nI_1 _
      rw [hx2] at hl
      exact ih (i + 1) (by omega) b0 hq9 ls (lv_sub hl [0, 1, 2] rfl)
set_option maxHeartbeats 4000000 in
set_option maxRecDepth 100000 in
theorem q_astray8 (l : Launch) (D : va_G) (cI cZ cN cO : ClassId) (A : Nat → Prop) (mm : Nat) (d : Nat → Nat) (n : Nat) (σ : RS) (op : Nat) (ok : rOK n σ) (hop : σ.1 37 = nI op) (hopl : op < 512) : Met l yX4_astray (.code yX4_astray cX4_astray 7 (some .int) :: gw) ({ frames := 1, cells := 0, slots := 0, locals := 23 }) (va_Pc (.ref mm :: []) (rH D cI cZ cN cO A mm d σ)) (va_Qi (fun (r : Int32) (_ : Unit) => r = rAst n (rI σ 1 0) op op) (fun _ t => rH D cI cZ cN cO A mm d (rI σ 1 0) t ∧ rOK n (rI σ 1 0)) A) 0 0 A := by
  refine Met.ofW (cc := cX4_astray) (maxL := 7) (ret := (some .int)) (by decide) rfl ?_
  intro p e s m args below meth c s₁ B hml hv
  obtain ⟨rfl, hP, hK, hD⟩ := hv
  have hx := B.exec
  have hb := B.bytes
  have hr := B.returns
  have hts := atoms_spec (ws := (.code yX4_astray cX4_astray 7 (some .int) :: gw)) B.pre
  have hg : ∀ w ∈ gw, w.before _ s = true := fun w h => hts w (List.mem_cons_of_mem _ h)
  have hown : s.vm.findClass RX4 = some m.cls := findClass_of_methodNamed B.named
  have hlocks := B.notSynchronized
  have C : Cx p c cX4_astray s m _ RX4 D (gTy cI cZ cN cO) := ⟨hx, hb, hown, hg, hK⟩
  have w : rWd D cI cZ A s.heap mm d σ s.heap [] := ⟨hP, hD, va_S.rf⟩
  have hl := lv_entry ([.ref mm]) (n := 7) (Nat.le_of_ble_eq_true rfl)
  rw [lg_entry_eq]
  generalize (lg_sl ([.ref mm]) ++ List.replicate (7 - (lg_sl ([.ref mm])).length) Slot.unset).toArray = ls at hl ⊢
  have hl : lv_has ls 7 [(0, .ref mm)] := hl
  refine lv_aload_n hx hb dX4_astray_0 rfl (lv_at hl 0 rfl) ?_
  refine lv_iconst (v := 0) hx hb dX4_astray_1 (by decide) ?_
  refine r_put_1 C w dX4_astray_2 (fun H locs w => ?_)
  have ok : rOK n _ := rOK.put ok (k := 1) (v := 0) (by decide) (fun h => absurd h (by decide)) (fun h => absurd h (by decide))
  refine lv_iconst (v := 0) hx hb dX4_astray_5 (by decide) ?_
  refine lv_istore_n (lv' := [(1, _), (0, _)]) C.1 C.2.1 dX4_astray_6 rfl hl (by decide) rfl (fun ls hl => ?_)
  refine lv_iconst (v := 1) hx hb dX4_astray_7 (by decide) ?_
  refine lv_istore_n (lv' := [(2, _), (1, _), (0, _)]) C.1 C.2.1 dX4_astray_8 rfl hl (by decide) rfl (fun ls hl => ?_)
  have hl := lv_sub hl (l' := [(2, .int (nI (1 + 0))), (1, .int 0), (0, .ref mm)]) [0, 1, 2] (by rw [show nI (1 + 0) = (1 : Int32) from by decide +kernel]; rfl)
  refine ql_as1 C hml op w ok hop hopl (Nat.le_of_ble_eq_true rfl) (Nat.le_of_ble_eq_true rfl) (Nat.zero_le _) (Nat.zero_le _) ?_ op 0 (by omega) _ rfl ls hl
  intro b1 hJ ls hl
  refine lv_iload_n hx hb dX4_astray_224 rfl (lv_at hl 1 rfl) ?_
  exact W.iret hx hb hr (fun t ht hW => ⟨⟨_, (), rfl, hJ, ⟨by rw [ht]; exact w.1, va_K.moved hW.alike hK, w.2.1⟩, ok⟩, w.2.2.F ht⟩) w.2.2.2.2 dX4_astray_225
