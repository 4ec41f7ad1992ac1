theorem gJoin {p : Program} {l : Launch} {e : Env} {R : Room} {s : State} {m : MethodId} {args : Array Value} {below : List Frame} {meth : Method} {c : Code} {H : Heap} {locs : List Loc} {cells slots : Nat} {Q : State → Prop} {g : JFrame} (P : Int32 → Prop) (mk : Int32 → JFrame) (h : ∀ v, P v → W p l e R s m args below meth c H locs cells slots Q (mk v)) (k : (∀ v, P v → W p l e R s m args below meth c H locs cells slots Q (mk v)) → W p l e R s m args below meth c H locs cells slots Q g) : W p l e R s m args below meth c H locs cells slots Q g := k h
set_option maxHeartbeats 4000000 in
set_option maxRecDepth 100000 in
theorem ql_ast2 {p : Program} {l : Launch} {e : Env} {R : Room} {s : State} {m : MethodId} {args : Array Value} {below : List Frame} {meth : Method} {c : Code} {cells slots : Nat} {Q : State → Prop} {D : va_G} {cI cZ cN cO : ClassId} {A : Nat → Prop} {H0 : Heap} {mm : Nat} {d : Nat → Nat} {n : Nat} {H : Heap} {locs : List Loc} (C : Cx p c cX4_astray s m args RX4 D (gTy cI cZ cN cO)) (hml : c.maxLocals = 7) {σ : RS} {x : Int32} (op : Nat) (w : rWd D cI cZ A H0 mm d σ H locs) (ok : rOK n σ) (hop : σ.1 37 = nI op) (hopl : op < 512) (hX : vp_in x 512) (hRf : 1 ≤ R.frames) (hRl : 23 ≤ R.locals) (hRc : cells + 0 ≤ R.cells) (hRs : slots + 0 ≤ R.slots) (kk : ∀ (b0 : Int32), ∀ ls : Array Slot, lv_has ls 7 [(3, .int (nI (1 + op))), (1, .int b0), (2, .int x), (0, .ref mm)] → W p l e R s m args below meth c H locs cells slots Q (F0 m 218 ls [])) : ∀ (fu i : Nat), i + fu = op → ∀ (b0 : Int32), ∀ ls : Array Slot, lv_has ls 7 [(3, .int (nI (1 + i))), (1, .int b0), (2, .int x), (0, .ref mm)] → W p l e R s m args below meth c H locs cells slots Q (F0 m 57 ls []) := by
  intro fu
  induction fu with
  | zero =>
    intro i hik
    intro b0 ls hl
    have hx := C.1
    have hb := C.2.1
    have hi : op = i := by omega
    subst hi
    refine lv_iload_n hx hb dX4_astray_57 rfl (lv_at hl 0 rfl) ?_
    refine lv_aload_n hx hb dX4_astray_58 rfl (lv_at hl 3 rfl) ?_
    refine r_get_37 C w dX4_astray_59 ?_
    rw [hop]
    refine lv_icmp_gt (tgt := 218) hx hb dX4_astray_62 (by decide) (fun c_62 => ?_) (fun c_62 => absurd (nI_lt (by omega) (by omega)) c_62)
    exact kk b0 ls (lv_sub hl [0, 1, 2, 3] rfl)
  | succ fu ih =>
    intro i hik
    intro b0 ls hl
    have hx := C.1
    have hb := C.2.1
    have hi : i < op := by omega
    refine lv_iload_n hx hb dX4_astray_57 rfl (lv_at hl 0 rfl) ?_
    refine lv_aload_n hx hb dX4_astray_58 rfl (lv_at hl 3 rfl) ?_
    refine r_get_37 C w dX4_astray_59 ?_
    rw [hop]
    refine lv_icmp_gt (tgt := 218) hx hb dX4_astray_62 (by decide) (fun c_62 => absurd c_62 (nI_nlt (by omega) (by omega))) (fun c_62 => ?_)
    refine lv_iload_n hx hb dX4_astray_65 rfl (lv_at hl 0 rfl) ?_
    refine lv_iload_n hx hb dX4_astray_66 rfl (lv_at hl 2 rfl) ?_
    refine lv_icmp_eq (tgt := 212) hx hb dX4_astray_67 (by decide) (fun c_67 => ?_) (fun c_67 => ?_)
    · obtain ⟨x_1, ex_1⟩ : ∃ y : Int32, y = (nI (1 + i)) + 1 := ⟨_, rfl⟩
      refine lv_iinc (v := x_1) (lv' := [(3, _), (1, _), (2, _), (0, _)]) C.1 C.2.1 dX4_astray_212 hl (k := 0) rfl (by rw [ex_1]; rfl) (by decide) rfl (fun ls hl => ?_)
      refine lv_goto (tgt := 57) hx hb dX4_astray_215 (by decide) ?_
      have hx2 : x_1 = nI (1 + (i + 1)) := by rw [ex_1]; exact nI_1 _
      rw [hx2] at hl
      exact ih (i + 1) (by omega) b0 ls (lv_sub hl [0, 1, 2, 3] rfl)
    · refine lv_aload_n hx hb dX4_astray_70 rfl (lv_at hl 3 rfl) ?_
      refine r_get_36 C w dX4_astray_71 ?_
      refine lv_iload_n hx hb dX4_astray_74 rfl (lv_at hl 0 rfl) ?_
      refine r_ld_36 C w (vp_in_nI (show 1 + i < 512 by omega) (by omega)) dX4_astray_75 ?_
      refine lv_topi (fun t_2 et_2 => ?_)
      refine lv_if_ne (tgt := 82) hx hb dX4_astray_76 (by decide) (fun c_76 => ?_) (fun c_76 => ?_)
      · refine lv_aload_n hx hb dX4_astray_82 rfl (lv_at hl 3 rfl) ?_
        refine lv_iload_n hx hb dX4_astray_83 rfl (lv_at hl 2 rfl) ?_
        refine lv_iload_n hx hb dX4_astray_84 rfl (lv_at hl 0 rfl) ?_
        refine r_callp (As := [.int x, .int (nI (1 + i))]) (rest := []) C w hml hl.1 (q_isWithin l D cI cZ cN cO A mm d n _ x (nI (1 + i)) ok hX (vp_in_nI (show 1 + i < 512 by omega) (by omega))) kM_X4_219 kI_X4_isWithin kS_X4_isWithin kD_X4_isWithin (show yX4_isWithin.cls = RX4 ∧ yX4_isWithin.cls ≠ "java/lang/invoke/MethodHandle" ∧ yX4_isWithin.cls ≠ "java/lang/invoke/VarHandle" ∧ (parseMethodDescriptor yX4_isWithin.desc).map (fun d => d.parameters.length) = some 2 from by decide +kernel) rfl rfl ⟨(by show 0 + 1 ≤ R.frames; omega), (by show 8 + (4 + 11) + 0 ≤ R.locals; omega)⟩ rfl (lv_room (Nat.le_of_ble_eq_true rfl)) dX4_astray_85 ⟨hRc, hRs⟩ (fun r_3 hr_3 => ?_)
        refine lv_istore (lv' := [(4, _), (3, _), (1, _), (2, _), (0, _)]) C.1 C.2.1 dX4_astray_88 hl (by decide) rfl (fun ls hl => ?_)
        refine lv_iload_n hx hb dX4_astray_90 rfl (lv_at hl 2 rfl) ?_
        refine gJoin (fun v => True) (fun v => F0 m 115 ls [.int v, .int b0]) (fun v_91 hv_91 => ?_) (fun J_91 => ?_)
        · refine lv_iadd hx hb dX4_astray_115 ?_
          refine lv_topi (fun t_4 et_4 => ?_)
          refine lv_istore_n (lv' := [(1, _), (4, _), (3, _), (2, _), (0, _)]) C.1 C.2.1 dX4_astray_116 rfl hl (by decide) rfl (fun ls hl => ?_)
          refine gJoin (fun v => True) (fun v => F0 m 147 ls [.int v]) (fun v_117 hv_117 => ?_) (fun J_117 => ?_)
          · refine lv_istore (lv' := [(5, _), (1, _), (4, _), (3, _), (2, _), (0, _)]) C.1 C.2.1 dX4_astray_147 hl (by decide) rfl (fun ls hl => ?_)
            refine gJoin (fun v => True) (fun v => F0 m 187 ls [.int v]) (fun v_149 hv_149 => ?_) (fun J_149 => ?_)
            · refine lv_istore (lv' := [(6, _), (5, _), (1, _), (4, _), (3, _), (2, _), (0, _)]) C.1 C.2.1 dX4_astray_187 hl (by decide) rfl (fun ls hl => ?_)
              refine lv_iload_n hx hb dX4_astray_189 rfl (lv_at hl 2 rfl) ?_
              refine gJoin (fun v => True) (fun v => F0 m 210 ls [.int v, .int t_4]) (fun v_190 hv_190 => ?_) (fun J_190 => ?_)
              · refine lv_iadd hx hb dX4_astray_210 ?_
                refine lv_topi (fun t_5 et_5 => ?_)
                refine lv_istore_n (lv' := [(1, _), (6, _), (5, _), (4, _), (3, _), (2, _), (0, _)]) C.1 C.2.1 dX4_astray_211 rfl hl (by decide) rfl (fun ls hl => ?_)
                obtain ⟨x_6, ex_6⟩ : ∃ y : Int32, y = (nI (1 + i)) + 1 := ⟨_, rfl⟩
                refine lv_iinc (v := x_6) (lv' := [(3, _), (1, _), (6, _), (5, _), (4, _), (2, _), (0, _)]) C.1 C.2.1 dX4_astray_212 hl (k := 4) rfl (by rw [ex_6]; rfl) (by decide) rfl (fun ls hl => ?_)
                refine lv_goto (tgt := 57) hx hb dX4_astray_215 (by decide) ?_
                have hx2 : x_6 = nI (1 + (i + 1)) := by rw [ex_6]; exact nI_1 _
                rw [hx2] at hl
                exact ih (i + 1) (by omega) t_5 ls (lv_sub hl [0, 1, 5, 6] rfl)
              · refine lv_iload hx hb dX4_astray_190 (lv_at hl 1 rfl) ?_
                refine lv_if_eq (tgt := 209) hx hb dX4_astray_192 (by decide) (fun c_192 => ?_) (fun c_192 => ?_)
                · refine lv_iconst (v := 0) hx hb dX4_astray_209 (by decide) ?_
                  exact J_190 _ trivial
                · refine lv_iload hx hb dX4_astray_195 (lv_at hl 3 rfl) ?_
                  refine lv_if_eq (tgt := 205) hx hb dX4_astray_197 (by decide) (fun c_197 => ?_) (fun c_197 => ?_)
                  · refine lv_iconst (v := 1) hx hb dX4_astray_205 (by decide) ?_
                    refine lv_goto (tgt := 210) hx hb dX4_astray_206 (by decide) ?_
                    exact J_190 _ trivial
                  · refine lv_iload hx hb dX4_astray_200 (lv_at hl 0 rfl) ?_
                    refine lv_if_eq (tgt := 209) hx hb dX4_astray_202 (by decide) (fun c_202 => ?_) (fun c_202 => ?_)
                    · refine lv_iconst (v := 0) hx hb dX4_astray_209 (by decide) ?_
                      exact J_190 _ trivial
                    · refine lv_iconst (v := 1) hx hb dX4_astray_205 (by decide) ?_
                      refine lv_goto (tgt := 210) hx hb dX4_astray_206 (by decide) ?_
                      exact J_190 _ trivial
            · refine lv_aload_n hx hb dX4_astray_149 rfl (lv_at hl 5 rfl) ?_
              refine lv_iload_n hx hb dX4_astray_150 rfl (lv_at hl 4 rfl) ?_
              refine r_callp (As := [.int x]) (rest := []) C w hml hl.1 (q_isQuery l D cI cZ cN cO A mm d n _ x ok hX) kM_X4_159 kI_X4_isQuery kS_X4_isQuery kD_X4_isQuery (show yX4_isQuery.cls = RX4 ∧ yX4_isQuery.cls ≠ "java/lang/invoke/MethodHandle" ∧ yX4_isQuery.cls ≠ "java/lang/invoke/VarHandle" ∧ (parseMethodDescriptor yX4_isQuery.desc).map (fun d => d.parameters.length) = some 1 from by decide +kernel) rfl rfl ⟨(by show 0 + 1 ≤ R.frames; omega), (by show 8 + (2 + 11) + 0 ≤ R.locals; omega)⟩ rfl (lv_room (Nat.le_of_ble_eq_true rfl)) dX4_astray_151 ⟨hRc, hRs⟩ (fun r_7 hr_7 => ?_)
              refine lv_if_ne (tgt := 186) hx hb dX4_astray_154 (by decide) (fun c_154 => ?_) (fun c_154 => ?_)
              · refine lv_iconst (v := 0) hx hb dX4_astray_186 (by decide) ?_
                exact J_149 _ trivial
              · refine lv_aload_n hx hb dX4_astray_157 rfl (lv_at hl 5 rfl) ?_
                refine r_get_35 C w dX4_astray_158 ?_
                refine lv_bipush (v := 31) hx hb dX4_astray_161 (by decide) ?_
                refine lv_iload_n hx hb dX4_astray_163 rfl (lv_at hl 3 rfl) ?_
                refine lv_imul hx hb dX4_astray_164 ?_
                refine lv_topi (fun t_8 et_8 => ?_)
                refine lv_aload_n hx hb dX4_astray_165 rfl (lv_at hl 5 rfl) ?_
                refine r_get_26 C w dX4_astray_166 ?_
                refine lv_iload_n hx hb dX4_astray_169 rfl (lv_at hl 4 rfl) ?_
                refine r_ld_26 C w hX dX4_astray_170 ?_
                refine lv_topi (fun t_9 et_9 => ?_)
                refine lv_iadd hx hb dX4_astray_171 ?_
                refine lv_topi (fun t_10 et_10 => ?_)
                refine r_ld_35 C w (by rw [et_10, et_8]; exact gIx (c := 31) (N := 512) rfl (by decide) (vp_in_nI (show 1 + i < 512 by omega) (by omega)) (ok.n31 (by rw [et_9]; exact ok.at 26 rfl _))) dX4_astray_172 ?_
                refine lv_topi (fun t_11 et_11 => ?_)
                refine lv_aload_n hx hb dX4_astray_173 rfl (lv_at hl 5 rfl) ?_
                refine r_get_34 C w dX4_astray_174 ?_
                refine lv_iload_n hx hb dX4_astray_177 rfl (lv_at hl 4 rfl) ?_
                refine r_ld_34 C w hX dX4_astray_178 ?_
                refine lv_topi (fun t_12 et_12 => ?_)
                refine lv_icmp_ge (tgt := 186) hx hb dX4_astray_179 (by decide) (fun c_179 => ?_) (fun c_179 => ?_)
                · refine lv_iconst (v := 0) hx hb dX4_astray_186 (by decide) ?_
                  exact J_149 _ trivial
                · refine lv_iconst (v := 1) hx hb dX4_astray_182 (by decide) ?_
                  refine lv_goto (tgt := 187) hx hb dX4_astray_183 (by decide) ?_
                  exact J_149 _ trivial
          · refine lv_aload_n hx hb dX4_astray_117 rfl (lv_at hl 4 rfl) ?_
            refine r_get_31 C w dX4_astray_118 ?_
            refine lv_iload_n hx hb dX4_astray_121 rfl (lv_at hl 3 rfl) ?_
            refine r_ld_31 C w hX dX4_astray_122 ?_
            refine lv_topi (fun t_13 et_13 => ?_)
            refine lv_iconst (v := (-1)) hx hb dX4_astray_123 (by decide) ?_
            refine lv_icmp_eq (tgt := 146) hx hb dX4_astray_124 (by decide) (fun c_124 => ?_) (fun c_124 => ?_)
            · refine lv_iconst (v := 0) hx hb dX4_astray_146 (by decide) ?_
              exact J_117 _ trivial
            · refine lv_aload_n hx hb dX4_astray_127 rfl (lv_at hl 4 rfl) ?_
              refine r_get_31 C w dX4_astray_128 ?_
              refine lv_iload_n hx hb dX4_astray_131 rfl (lv_at hl 3 rfl) ?_
              refine r_ld_31 C w hX dX4_astray_132 ?_
              refine lv_topi (fun t_14 et_14 => ?_)
              refine lv_aload_n hx hb dX4_astray_133 rfl (lv_at hl 4 rfl) ?_
              refine r_get_30 C w dX4_astray_134 ?_
              refine lv_iload_n hx hb dX4_astray_137 rfl (lv_at hl 2 rfl) ?_
              refine r_ld_30 C w (vp_in_nI (show 1 + i < 512 by omega) (by omega)) dX4_astray_138 ?_
              refine lv_topi (fun t_15 et_15 => ?_)
              refine lv_icmp_ge (tgt := 146) hx hb dX4_astray_139 (by decide) (fun c_139 => ?_) (fun c_139 => ?_)
              · refine lv_iconst (v := 0) hx hb dX4_astray_146 (by decide) ?_
                exact J_117 _ trivial
              · refine lv_iconst (v := 1) hx hb dX4_astray_142 (by decide) ?_
                refine lv_goto (tgt := 147) hx hb dX4_astray_143 (by decide) ?_
                exact J_117 _ trivial
        · refine lv_iload_n hx hb dX4_astray_91 rfl (lv_at hl 1 rfl) ?_
          refine lv_iload_n hx hb dX4_astray_92 rfl (lv_at hl 3 rfl) ?_
          refine lv_icmp_le (tgt := 114) hx hb dX4_astray_93 (by decide) (fun c_93 => ?_) (fun c_93 => ?_)
          · refine lv_iconst (v := 0) hx hb dX4_astray_114 (by decide) ?_
            exact J_91 _ trivial
          · refine lv_iload hx hb dX4_astray_96 (lv_at hl 0 rfl) ?_
            refine lv_if_ne (tgt := 114) hx hb dX4_astray_98 (by decide) (fun c_98 => ?_) (fun c_98 => ?_)
            · refine lv_iconst (v := 0) hx hb dX4_astray_114 (by decide) ?_
              exact J_91 _ trivial
            · refine lv_aload_n hx hb dX4_astray_101 rfl (lv_at hl 4 rfl) ?_
              refine lv_iload_n hx hb dX4_astray_102 rfl (lv_at hl 1 rfl) ?_
              refine lv_iload_n hx hb dX4_astray_103 rfl (lv_at hl 3 rfl) ?_
              refine r_callp (As := [.int (nI (1 + i)), .int x]) (rest := [.int b0]) C w hml hl.1 (q_isWithin l D cI cZ cN cO A mm d n _ (nI (1 + i)) x ok (vp_in_nI (show 1 + i < 512 by omega) (by omega)) hX) kM_X4_219 kI_X4_isWithin kS_X4_isWithin kD_X4_isWithin (show yX4_isWithin.cls = RX4 ∧ yX4_isWithin.cls ≠ "java/lang/invoke/MethodHandle" ∧ yX4_isWithin.cls ≠ "java/lang/invoke/VarHandle" ∧ (parseMethodDescriptor yX4_isWithin.desc).map (fun d => d.parameters.length) = some 2 from by decide +kernel) rfl rfl ⟨(by show 0 + 1 ≤ R.frames; omega), (by show 8 + (4 + 11) + 0 ≤ R.locals; omega)⟩ rfl (lv_room (Nat.le_of_ble_eq_true rfl)) dX4_astray_104 ⟨hRc, hRs⟩ (fun r_16 hr_16 => ?_)
              refine lv_if_ne (tgt := 114) hx hb dX4_astray_107 (by decide) (fun c_107 => ?_) (fun c_107 => ?_)
              · refine lv_iconst (v := 0) hx hb dX4_astray_114 (by decide) ?_
                exact J_91 _ trivial
              · refine lv_iconst (v := 1) hx hb dX4_astray_110 (by decide) ?_
                refine lv_goto (tgt := 115) hx hb dX4_astray_111 (by decide) ?_
                exact J_91 _ trivial
      · refine lv_goto (tgt := 212) hx hb dX4_astray_79 (by decide) ?_
        obtain ⟨x_17, ex_17⟩ : ∃ y : Int32, y = (nI (1 + i)) + 1 := ⟨_, rfl⟩
        refine lv_iinc (v := x_17) (lv' := [(3, _), (1, _), (2, _), (0, _)]) C.1 C.2.1 dX4_astray_212 hl (k := 0) rfl (by rw [ex_17]; rfl) (by decide) rfl (fun ls hl => ?_)
        refine lv_goto (tgt := 57) hx hb dX4_astray_215 (by decide) ?_
        have hx2 : x_17 = nI (1 + (i + 1)) := by rw [ex_17]; exact nI_1 _
        rw [hx2] at hl
        exact ih (i + 1) (by omega) b0 ls (lv_sub hl [0, 1, 2, 3] rfl)
set_option maxHeartbeats 4000000 in
set_option maxRecDepth 100000 in
theorem ql_ast1 {p : Program} {l : Launch} {e : Env} {R : Room} {s : State} {m : MethodId} {args : Array Value} {below : List Frame} {meth : Method} {c : Code} {cells slots : Nat} {Q : State → Prop} {D : va_G} {cI cZ cN cO : ClassId} {A : Nat → Prop} {H0 : Heap} {mm : Nat} {d : Nat → Nat} {n : Nat} {H : Heap} {locs : List Loc} (C : Cx p c cX4_astray s m args RX4 D (gTy cI cZ cN cO)) (hml : c.maxLocals = 7) {σ : RS} (op : Nat) (w : rWd D cI cZ A H0 mm d σ H locs) (ok : rOK n σ) (hop : σ.1 37 = nI op) (hopl : op < 512) (hRf : 1 ≤ R.frames) (hRl : 23 ≤ R.locals) (hRc : cells + 0 ≤ R.cells) (hRs : slots + 0 ≤ R.slots) (kk : ∀ (b0 : Int32), ∀ ls : Array Slot, lv_has ls 7 [(2, .int (nI (1 + op))), (1, .int b0), (0, .ref mm)] → W p l e R s m args below meth c H locs cells slots Q (F0 m 224 ls [])) : ∀ (fu i : Nat), i + fu = op → ∀ (b0 : Int32), ∀ ls : Array Slot, lv_has ls 7 [(2, .int (nI (1 + i))), (1, .int b0), (0, .ref mm)] → W p l e R s m args below meth c H locs cells slots Q (F0 m 9 ls []) := by
  intro fu
  induction fu with
  | zero =>
    intro i hik
    intro b0 ls hl
    have hx := C.1
    have hb := C.2.1
    have hi : op = i := by omega
    subst hi
    refine lv_iload_n hx hb dX4_astray_9 rfl (lv_at hl 0 rfl) ?_
    refine lv_aload_n hx hb dX4_astray_10 rfl (lv_at hl 2 rfl) ?_
    refine r_get_37 C w dX4_astray_11 ?_
    rw [hop]
    refine lv_icmp_gt (tgt := 224) hx hb dX4_astray_14 (by decide) (fun c_14 => ?_) (fun c_14 => absurd (nI_lt (by omega) (by omega)) c_14)
    exact kk b0 ls (lv_sub hl [0, 1, 2] rfl)
  | succ fu ih =>
    intro i hik
    intro b0 ls hl
    have hx := C.1
    have hb := C.2.1
    have hi : i < op := by omega
    refine lv_iload_n hx hb dX4_astray_9 rfl (lv_at hl 0 rfl) ?_
    refine lv_aload_n hx hb dX4_astray_10 rfl (lv_at hl 2 rfl) ?_
    refine r_get_37 C w dX4_astray_11 ?_
    rw [hop]
    refine lv_icmp_gt (tgt := 224) hx hb dX4_astray_14 (by decide) (fun c_14 => absurd c_14 (nI_nlt (by omega) (by omega))) (fun c_14 => ?_)
    refine lv_aload_n hx hb dX4_astray_17 rfl (lv_at hl 2 rfl) ?_
    refine r_get_36 C w dX4_astray_18 ?_
    refine lv_iload_n hx hb dX4_astray_21 rfl (lv_at hl 0 rfl) ?_
    refine r_ld_36 C w (vp_in_nI (show 1 + i < 512 by omega) (by omega)) dX4_astray_22 ?_
    refine lv_topi (fun t_1 et_1 => ?_)
    refine lv_if_ne (tgt := 29) hx hb dX4_astray_23 (by decide) (fun c_23 => ?_) (fun c_23 => ?_)
    · refine lv_iload_n hx hb dX4_astray_29 rfl (lv_at hl 1 rfl) ?_
      refine gJoin (fun v => True) (fun v => F0 m 53 ls [.int v, .int b0]) (fun v_30 hv_30 => ?_) (fun J_30 => ?_)
      · refine lv_iadd hx hb dX4_astray_53 ?_
        refine lv_topi (fun t_2 et_2 => ?_)
        refine lv_istore_n (lv' := [(1, _), (2, _), (0, _)]) C.1 C.2.1 dX4_astray_54 rfl hl (by decide) rfl (fun ls hl => ?_)
        refine lv_iconst (v := 1) hx hb dX4_astray_55 (by decide) ?_
        refine lv_istore_n (lv' := [(3, _), (1, _), (2, _), (0, _)]) C.1 C.2.1 dX4_astray_56 rfl hl (by decide) rfl (fun ls hl => ?_)
        have hl := lv_sub hl (l' := [(3, .int (nI (1 + 0))), (1, .int t_2), (2, .int (nI (1 + i))), (0, .ref mm)]) [0, 1, 2, 3] (by rw [show nI (1 + 0) = (1 : Int32) from by decide +kernel]; rfl)
        refine ql_ast2 C hml op w ok hop hopl (vp_in_nI (show 1 + i < 512 by omega) (by omega)) hRf hRl hRc hRs ?_ op 0 (by omega) _ ls hl
        intro b1 ls hl
        obtain ⟨x_3, ex_3⟩ : ∃ y : Int32, y = (nI (1 + i)) + 1 := ⟨_, rfl⟩
        refine lv_iinc (v := x_3) (lv' := [(2, _), (3, _), (1, _), (0, _)]) C.1 C.2.1 dX4_astray_218 hl (k := 2) rfl (by rw [ex_3]; rfl) (by decide) rfl (fun ls hl => ?_)
        refine lv_goto (tgt := 9) hx hb dX4_astray_221 (by decide) ?_
        have hx2 : x_3 = nI (1 + (i + 1)) := by rw [ex_3]; exact nI_1 _
        rw [hx2] at hl
        exact ih (i + 1) (by omega) b1 ls (lv_sub hl [0, 2, 3] rfl)
      · refine lv_aload_n hx hb dX4_astray_30 rfl (lv_at hl 2 rfl) ?_
        refine r_get_31 C w dX4_astray_31 ?_
        refine lv_iload_n hx hb dX4_astray_34 rfl (lv_at hl 0 rfl) ?_
        refine r_ld_31 C w (vp_in_nI (show 1 + i < 512 by omega) (by omega)) dX4_astray_35 ?_
        refine lv_topi (fun t_4 et_4 => ?_)
        refine lv_iconst (v := (-1)) hx hb dX4_astray_36 (by decide) ?_
        refine lv_icmp_eq (tgt := 52) hx hb dX4_astray_37 (by decide) (fun c_37 => ?_) (fun c_37 => ?_)
        · refine lv_iconst (v := 0) hx hb dX4_astray_52 (by decide) ?_
          exact J_30 _ trivial
        · refine lv_aload_n hx hb dX4_astray_40 rfl (lv_at hl 2 rfl) ?_
          refine lv_iload_n hx hb dX4_astray_41 rfl (lv_at hl 0 rfl) ?_
          refine r_callp (As := [.int (nI (1 + i))]) (rest := [.int b0]) C w hml hl.1 (q_isLate l D cI cZ cN cO A mm d n _ (nI (1 + i)) ok (vp_in_nI (show 1 + i < 512 by omega) (by omega))) kM_X4_216 kI_X4_isLate kS_X4_isLate kD_X4_isLate (show yX4_isLate.cls = RX4 ∧ yX4_isLate.cls ≠ "java/lang/invoke/MethodHandle" ∧ yX4_isLate.cls ≠ "java/lang/invoke/VarHandle" ∧ (parseMethodDescriptor yX4_isLate.desc).map (fun d => d.parameters.length) = some 1 from by decide +kernel) rfl rfl ⟨(by show 0 + 1 ≤ R.frames; omega), (by show 8 + (4 + 11) + 0 ≤ R.locals; omega)⟩ rfl (lv_room (Nat.le_of_ble_eq_true rfl)) dX4_astray_42 ⟨hRc, hRs⟩ (fun r_5 hr_5 => ?_)
          refine lv_if_eq (tgt := 52) hx hb dX4_astray_45 (by decide) (fun c_45 => ?_) (fun c_45 => ?_)
          · refine lv_iconst (v := 0) hx hb dX4_astray_52 (by decide) ?_
            exact J_30 _ trivial
          · refine lv_iconst (v := 1) hx hb dX4_astray_48 (by decide) ?_
            refine lv_goto (tgt := 53) hx hb dX4_astray_49 (by decide) ?_
            exact J_30 _ trivial
    · refine lv_goto (tgt := 218) hx hb dX4_astray_26 (by decide) ?_
      obtain ⟨x_6, ex_6⟩ : ∃ y : Int32, y = (nI (1 + i)) + 1 := ⟨_, rfl⟩
      refine lv_iinc (v := x_6) (lv' := [(2, _), (1, _), (0, _)]) C.1 C.2.1 dX4_astray_218 hl (k := 0) rfl (by rw [ex_6]; rfl) (by decide) rfl (fun ls hl => ?_)
      refine lv_goto (tgt := 9) hx hb dX4_astray_221 (by decide) ?_
      have hx2 : x_6 = nI (1 + (i + 1)) := by rw [ex_6]; exact nI_1 _
      rw [hx2] at hl
      exact ih (i + 1) (by omega) b0 ls (lv_sub hl [0, 1, 2] rfl)
set_option maxHeartbeats 4000000 in
set_option maxRecDepth 100000 in
/-- astray: it returns -/
theorem q_astray (l : Launch) (D : va_G) (cI cZ cN cO : ClassId) (A : Nat → Prop) (mm : Nat) (d : Nat → Nat) (n : Nat) (σ : RS)  (ok : rOK n σ)  : Met l yX4_astray (.code yX4_astray cX4_astray 7 (some .int) :: gw) ({ frames := 1, cells := 0, slots := 0, locals := 23 }) (va_Pc (.ref mm :: []) (rH D cI cZ cN cO A mm d σ)) (va_Qi (fun (r : Int32) (_ : Unit) => True) (fun _ t => rH D cI cZ cN cO A mm d (rI σ 1 0) t ∧ rOK n (rI σ 1 0)) A) 0 0 A := by
  refine Met.ofW (cc := cX4_astray) (maxL := 7) (ret := (some .int)) (by decide) rfl ?_
  intro p e s m args below meth c s₁ B hml hv
  obtain ⟨rfl, hP, hK, hD⟩ := hv
  have hx := B.exec
  have hb := B.bytes
  have hr := B.returns
  have hts := atoms_spec (ws := (.code yX4_astray cX4_astray 7 (some .int) :: gw)) B.pre
  have hg : ∀ w ∈ gw, w.before _ s = true := fun w h => hts w (List.mem_cons_of_mem _ h)
  have hown : s.vm.findClass RX4 = some m.cls := findClass_of_methodNamed B.named
  have hlocks := B.notSynchronized
  have C : Cx p c cX4_astray s m _ RX4 D (gTy cI cZ cN cO) := ⟨hx, hb, hown, hg, hK⟩
  have w : rWd D cI cZ A s.heap mm d σ s.heap [] := ⟨hP, hD, va_S.rf⟩
  have hl := lv_entry ([.ref mm]) (n := 7) (Nat.le_of_ble_eq_true rfl)
  rw [lg_entry_eq]
  generalize (lg_sl ([.ref mm]) ++ List.replicate (7 - (lg_sl ([.ref mm])).length) Slot.unset).toArray = ls at hl ⊢
  have hl : lv_has ls 7 [(0, .ref mm)] := hl
  refine lv_aload_n hx hb dX4_astray_0 rfl (lv_at hl 0 rfl) ?_
  refine lv_iconst (v := 0) hx hb dX4_astray_1 (by decide) ?_
  refine r_put_1 C w dX4_astray_2 (fun H locs w => ?_)
  have ok : rOK n _ := rOK.put ok (k := 1) (v := 0) (by decide) (fun h => absurd h (by decide)) (fun h => absurd h (by decide))
  refine lv_iconst (v := 0) hx hb dX4_astray_5 (by decide) ?_
  refine lv_istore_n (lv' := [(1, _), (0, _)]) C.1 C.2.1 dX4_astray_6 rfl hl (by decide) rfl (fun ls hl => ?_)
  refine lv_iconst (v := 1) hx hb dX4_astray_7 (by decide) ?_
  refine lv_istore_n (lv' := [(2, _), (1, _), (0, _)]) C.1 C.2.1 dX4_astray_8 rfl hl (by decide) rfl (fun ls hl => ?_)
  obtain ⟨op, hopl, hop⟩ := vp_in_of ok.2.2.2.2.1 (by decide)
  have hl := lv_sub hl (l' := [(2, .int (nI (1 + 0))), (1, .int 0), (0, .ref mm)]) [0, 1, 2] (by rw [show nI (1 + 0) = (1 : Int32) from by decide +kernel]; rfl)
  refine ql_ast1 C hml op w ok hop hopl (Nat.le_of_ble_eq_true rfl) (Nat.le_of_ble_eq_true rfl) (Nat.zero_le _) (Nat.zero_le _) ?_ op 0 (by omega) _ ls hl
  intro b1 ls hl
  refine lv_iload_n hx hb dX4_astray_224 rfl (lv_at hl 1 rfl) ?_
  exact W.iret hx hb hr (fun t ht hW => ⟨⟨_, (), rfl, trivial, ⟨by rw [ht]; exact w.1, va_K.moved hW.alike hK, w.2.1⟩, ok⟩, w.2.2.F ht⟩) w.2.2.2.2 dX4_astray_225
