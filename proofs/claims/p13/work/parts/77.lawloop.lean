set_option maxHeartbeats 4000000 in
set_option maxRecDepth 100000 in
theorem lc_update {p : Program} {l : Launch} {e : Env} {s : State} {m : MethodId} {below : List Frame} {meth : Method} {c : Code} {b L : Nat} {xs : Nat → Int32} {D : va_G} {cI cZ cN cO cL : ClassId} {x n mm oo t : Nat} {d : Nat → Nat} {Q : State → Prop} (C : LC p l s m c b D cI cZ cN cO cL) (hX : va_X b L xs s s.heap) (hbl : b < s.heap.size) (hn : n ≤ 31) (hn3 : 3 ≤ n) (hL : L ≤ 2561) (ht : 5 * t + 6 ≤ L) (M : MS) (th : Int32) (fo : Nat → Int64) (H : Heap) (locs : List Loc) (w : LW D cI cZ cN cO cL s x n M M th mm d oo fo H locs) (hi : mInv n M) (hI : mIdl n M) (hM5 : M.1 0 0 5 ≤ 2000 * t) (ls : Array Slot) (hl : lv_has ls 7 [(4, .int (nI (1 + 5 * t))), (3, .ref oo), (2, .ref mm), (1, .ref x), (0, .ref b)]) (kk : (∀ (M : MS) (th : Int32) (fo : Nat → Int64) (H : Heap) (locs : List Loc), LW D cI cZ cN cO cL s x n M M th mm d oo fo H locs → mInv n M → mIdl n M → M.1 0 0 5 ≤ 2000 * (t + 1) → ∀ ls : Array Slot, lv_has ls 7 [(4, .int (nI (1 + 5 * t))), (3, .ref oo), (2, .ref mm), (1, .ref x), (0, .ref b)] → W p l e room_1 s m #[Value.ref b] below meth c H locs (300 + 2 * t + 2) (200000 + 43 * t + 43) Q (F0 m 605 ls []))) : W p l e room_1 s m #[Value.ref b] below meth c H locs (300 + 2 * t) (200000 + 43 * t) Q (F0 m 120 ls []) := by
  have hx := C.1.1
  have hb := C.1.2.1
  have hbA : ¬ (fun q => s.heap.size ≤ q) b := Nat.not_le.mpr hbl
  refine lv_aload_n hx hb dL_law_120 rfl (lv_at hl 3 rfl) ?_
  refine lv_aload_n hx hb dL_law_121 rfl (lv_at hl 4 rfl) ?_
  refine lv_iload hx hb dL_law_122 (lv_at hl 0 rfl) ?_
  refine lv_iconst (v := 1) hx hb dL_law_124 (by decide) ?_
  refine lv_iadd hx hb dL_law_125 ?_
  rw [show nI (1 + 5 * t) + (1 : Int32) = nI (1 + 5 * t + 1) from nI_add _ 1]
  refine va_sld hx hb hX hbl hbA w.2.2.2.2 (vp_in_nI (by omega) (by omega)) dL_law_126 ?_
  rw [nI_clamp (show 1 + 5 * t + 1 < 2 ^ 31 by omega)]
  refine lv_aload_n hx hb dL_law_127 rfl (lv_at hl 4 rfl) ?_
  refine lv_iload hx hb dL_law_128 (lv_at hl 0 rfl) ?_
  refine lv_iconst (v := 2) hx hb dL_law_130 (by decide) ?_
  refine lv_iadd hx hb dL_law_131 ?_
  rw [show nI (1 + 5 * t) + (2 : Int32) = nI (1 + 5 * t + 2) from nI_add _ 2]
  refine va_sld hx hb hX hbl hbA w.2.2.2.2 (vp_in_nI (by omega) (by omega)) dL_law_132 ?_
  rw [nI_clamp (show 1 + 5 * t + 2 < 2 ^ 31 by omega)]
  refine lv_aload_n hx hb dL_law_133 rfl (lv_at hl 4 rfl) ?_
  refine lv_iload hx hb dL_law_134 (lv_at hl 0 rfl) ?_
  refine lv_iconst (v := 3) hx hb dL_law_136 (by decide) ?_
  refine lv_iadd hx hb dL_law_137 ?_
  rw [show nI (1 + 5 * t) + (3 : Int32) = nI (1 + 5 * t + 3) from nI_add _ 3]
  refine va_sld hx hb hX hbl hbA w.2.2.2.2 (vp_in_nI (by omega) (by omega)) dL_law_138 ?_
  rw [nI_clamp (show 1 + 5 * t + 3 < 2 ^ 31 by omega)]
  refine lv_aload_n hx hb dL_law_139 rfl (lv_at hl 4 rfl) ?_
  refine lv_iload hx hb dL_law_140 (lv_at hl 0 rfl) ?_
  refine lv_iconst (v := 4) hx hb dL_law_142 (by decide) ?_
  refine lv_iadd hx hb dL_law_143 ?_
  rw [show nI (1 + 5 * t) + (4 : Int32) = nI (1 + 5 * t + 4) from nI_add _ 4]
  refine va_sld hx hb hX hbl hbA w.2.2.2.2 (vp_in_nI (by omega) (by omega)) dL_law_144 ?_
  rw [nI_clamp (show 1 + 5 * t + 4 < 2 ^ 31 by omega)]
  refine lv_aload_n hx hb dL_law_145 rfl (lv_at hl 1 rfl) ?_
  refine L_update C hl.1 w hi hn hn3 (by omega) kM_L_44 dL_law_146 ⟨(by show (300 + 2 * t) + 2 ≤ 601024; omega), (by show (200000 + 43 * t) + 43 ≤ 7293000; omega)⟩ (fun H locs fo hfo w => ?_)
  refine lv_istore (lv' := [(5, .int (nI (tUpd n (xs (1 + 5 * t + 1)) (xs (1 + 5 * t + 2))))), (4, .int (nI (1 + 5 * t))), (3, .ref oo), (2, .ref mm), (1, .ref x), (0, .ref b)]) hx hb dL_law_149 hl (by decide) rfl (fun ls hl => ?_)
  refine lv_aload_n hx hb dL_law_151 rfl (lv_at hl 3 rfl) ?_
  refine lv_aload_n hx hb dL_law_152 rfl (lv_at hl 5 rfl) ?_
  refine lv_iload hx hb dL_law_153 (lv_at hl 1 rfl) ?_
  refine lv_iconst (v := 1) hx hb dL_law_155 (by decide) ?_
  refine lv_iadd hx hb dL_law_156 ?_
  rw [show nI (1 + 5 * t) + (1 : Int32) = nI (1 + 5 * t + 1) from nI_add _ 1]
  refine va_sld hx hb hX hbl hbA w.2.2.2.2 (vp_in_nI (by omega) (by omega)) dL_law_157 ?_
  rw [nI_clamp (show 1 + 5 * t + 1 < 2 ^ 31 by omega)]
  refine lv_aload_n hx hb dL_law_158 rfl (lv_at hl 5 rfl) ?_
  refine lv_iload hx hb dL_law_159 (lv_at hl 1 rfl) ?_
  refine lv_iconst (v := 2) hx hb dL_law_161 (by decide) ?_
  refine lv_iadd hx hb dL_law_162 ?_
  rw [show nI (1 + 5 * t) + (2 : Int32) = nI (1 + 5 * t + 2) from nI_add _ 2]
  refine va_sld hx hb hX hbl hbA w.2.2.2.2 (vp_in_nI (by omega) (by omega)) dL_law_163 ?_
  rw [nI_clamp (show 1 + 5 * t + 2 < 2 ^ 31 by omega)]
  refine lv_aload_n hx hb dL_law_164 rfl (lv_at hl 5 rfl) ?_
  refine lv_iload hx hb dL_law_165 (lv_at hl 1 rfl) ?_
  refine lv_iconst (v := 3) hx hb dL_law_167 (by decide) ?_
  refine lv_iadd hx hb dL_law_168 ?_
  rw [show nI (1 + 5 * t) + (3 : Int32) = nI (1 + 5 * t + 3) from nI_add _ 3]
  refine va_sld hx hb hX hbl hbA w.2.2.2.2 (vp_in_nI (by omega) (by omega)) dL_law_169 ?_
  rw [nI_clamp (show 1 + 5 * t + 3 < 2 ^ 31 by omega)]
  refine lv_aload_n hx hb dL_law_170 rfl (lv_at hl 5 rfl) ?_
  refine lv_iload hx hb dL_law_171 (lv_at hl 1 rfl) ?_
  refine lv_iconst (v := 4) hx hb dL_law_173 (by decide) ?_
  refine lv_iadd hx hb dL_law_174 ?_
  rw [show nI (1 + 5 * t) + (4 : Int32) = nI (1 + 5 * t + 4) from nI_add _ 4]
  refine va_sld hx hb hX hbl hbA w.2.2.2.2 (vp_in_nI (by omega) (by omega)) dL_law_175 ?_
  rw [nI_clamp (show 1 + 5 * t + 4 < 2 ^ 31 by omega)]
  refine L_ri (rest := []) C hl.1 w (fun σ ok hR => t_update l D cI cZ cN cO mm d n σ M (xs (1 + 5 * t + 1)) (xs (1 + 5 * t + 2)) (xs (1 + 5 * t + 3)) (xs (1 + 5 * t + 4)) ok hR hi hn (by omega)) kM_L_47 kI_X4_update kS_X4_update kD_X4_update (show yX4_update.cls = RX4 ∧ yX4_update.cls ≠ "java/lang/invoke/MethodHandle" ∧ yX4_update.cls ≠ "java/lang/invoke/VarHandle" ∧ (parseMethodDescriptor yX4_update.desc).map (fun d => d.parameters.length) = some 4 from by decide +kernel) rfl rfl ⟨Nat.le_of_ble_eq_true rfl, Nat.le_of_ble_eq_true rfl⟩ rfl (lv_room (Nat.le_of_ble_eq_true rfl)) dL_law_176 ⟨(by show (300 + 2 * t + 2) + 0 ≤ 601024; omega), (by show (200000 + 43 * t + 43) + 0 ≤ 7293000; omega)⟩ (fun r2 H locs hr2 w => ?_)
  refine lv_istore (lv' := [(6, .int r2), (5, .int (nI (tUpd n (xs (1 + 5 * t + 1)) (xs (1 + 5 * t + 2))))), (4, .int (nI (1 + 5 * t))), (3, .ref oo), (2, .ref mm), (1, .ref x), (0, .ref b)]) hx hb dL_law_179 hl (by decide) rfl (fun ls hl => ?_)
  refine lv_goto (tgt := 605) hx hb dL_law_181 (by decide) ?_
  have hk9 := mActB_ok (k := (xs (1 + 5 * t + 1))) (kd := (xs (1 + 5 * t + 2))) (a := (xs (1 + 5 * t + 3))) (b := (xs (1 + 5 * t + 4))) (T := tUpd n (xs (1 + 5 * t + 1)) (xs (1 + 5 * t + 2))) hi tUpd_0 hn
  exact kk _ _ _ _ _ w hk9.1 hI.actB (by have := hk9.2; omega) ls (lv_sub hl [2, 3, 4, 5, 6] rfl)
set_option maxHeartbeats 4000000 in
set_option maxRecDepth 100000 in
theorem lc_query {p : Program} {l : Launch} {e : Env} {s : State} {m : MethodId} {below : List Frame} {meth : Method} {c : Code} {b L : Nat} {xs : Nat → Int32} {D : va_G} {cI cZ cN cO cL : ClassId} {x n mm oo t : Nat} {d : Nat → Nat} {Q : State → Prop} (C : LC p l s m c b D cI cZ cN cO cL) (hX : va_X b L xs s s.heap) (hbl : b < s.heap.size) (hn : n ≤ 31) (hn3 : 3 ≤ n) (hL : L ≤ 2561) (ht : 5 * t + 6 ≤ L) (M : MS) (th : Int32) (fo : Nat → Int64) (H : Heap) (locs : List Loc) (w : LW D cI cZ cN cO cL s x n M M th mm d oo fo H locs) (hi : mInv n M) (hI : mIdl n M) (hM5 : M.1 0 0 5 ≤ 2000 * t) (ls : Array Slot) (hl : lv_has ls 7 [(4, .int (nI (1 + 5 * t))), (3, .ref oo), (2, .ref mm), (1, .ref x), (0, .ref b)]) (kk : (∀ (M : MS) (th : Int32) (fo : Nat → Int64) (H : Heap) (locs : List Loc), LW D cI cZ cN cO cL s x n M M th mm d oo fo H locs → mInv n M → mIdl n M → M.1 0 0 5 ≤ 2000 * (t + 1) → ∀ ls : Array Slot, lv_has ls 7 [(4, .int (nI (1 + 5 * t))), (3, .ref oo), (2, .ref mm), (1, .ref x), (0, .ref b)] → W p l e room_1 s m #[Value.ref b] below meth c H locs (300 + 2 * t + 2) (200000 + 43 * t + 43) Q (F0 m 605 ls []))) : W p l e room_1 s m #[Value.ref b] below meth c H locs (300 + 2 * t) (200000 + 43 * t) Q (F0 m 184 ls []) := by
  have hx := C.1.1
  have hb := C.1.2.1
  have hbA : ¬ (fun q => s.heap.size ≤ q) b := Nat.not_le.mpr hbl
  refine lv_aload_n hx hb dL_law_184 rfl (lv_at hl 3 rfl) ?_
  refine lv_aload_n hx hb dL_law_185 rfl (lv_at hl 4 rfl) ?_
  refine lv_iload hx hb dL_law_186 (lv_at hl 0 rfl) ?_
  refine lv_iconst (v := 1) hx hb dL_law_188 (by decide) ?_
  refine lv_iadd hx hb dL_law_189 ?_
  rw [show nI (1 + 5 * t) + (1 : Int32) = nI (1 + 5 * t + 1) from nI_add _ 1]
  refine va_sld hx hb hX hbl hbA w.2.2.2.2 (vp_in_nI (by omega) (by omega)) dL_law_190 ?_
  rw [nI_clamp (show 1 + 5 * t + 1 < 2 ^ 31 by omega)]
  refine lv_aload_n hx hb dL_law_191 rfl (lv_at hl 4 rfl) ?_
  refine lv_iload hx hb dL_law_192 (lv_at hl 0 rfl) ?_
  refine lv_iconst (v := 2) hx hb dL_law_194 (by decide) ?_
  refine lv_iadd hx hb dL_law_195 ?_
  rw [show nI (1 + 5 * t) + (2 : Int32) = nI (1 + 5 * t + 2) from nI_add _ 2]
  refine va_sld hx hb hX hbl hbA w.2.2.2.2 (vp_in_nI (by omega) (by omega)) dL_law_196 ?_
  rw [nI_clamp (show 1 + 5 * t + 2 < 2 ^ 31 by omega)]
  refine lv_aload_n hx hb dL_law_197 rfl (lv_at hl 4 rfl) ?_
  refine lv_iload hx hb dL_law_198 (lv_at hl 0 rfl) ?_
  refine lv_iconst (v := 3) hx hb dL_law_200 (by decide) ?_
  refine lv_iadd hx hb dL_law_201 ?_
  rw [show nI (1 + 5 * t) + (3 : Int32) = nI (1 + 5 * t + 3) from nI_add _ 3]
  refine va_sld hx hb hX hbl hbA w.2.2.2.2 (vp_in_nI (by omega) (by omega)) dL_law_202 ?_
  rw [nI_clamp (show 1 + 5 * t + 3 < 2 ^ 31 by omega)]
  refine lv_aload_n hx hb dL_law_203 rfl (lv_at hl 1 rfl) ?_
  refine L_query C hl.1 w hi hn hn3 (by omega) kM_L_48 dL_law_204 ⟨(by show (300 + 2 * t) + 2 ≤ 601024; omega), (by show (200000 + 43 * t) + 43 ≤ 7293000; omega)⟩ (fun H locs fo hfo w => ?_)
  refine lv_istore (lv' := [(5, .int (nI (tQry n (xs (1 + 5 * t + 1)) (xs (1 + 5 * t + 2))))), (4, .int (nI (1 + 5 * t))), (3, .ref oo), (2, .ref mm), (1, .ref x), (0, .ref b)]) hx hb dL_law_207 hl (by decide) rfl (fun ls hl => ?_)
  refine lv_aload_n hx hb dL_law_209 rfl (lv_at hl 3 rfl) ?_
  refine lv_aload_n hx hb dL_law_210 rfl (lv_at hl 5 rfl) ?_
  refine lv_iload hx hb dL_law_211 (lv_at hl 1 rfl) ?_
  refine lv_iconst (v := 1) hx hb dL_law_213 (by decide) ?_
  refine lv_iadd hx hb dL_law_214 ?_
  rw [show nI (1 + 5 * t) + (1 : Int32) = nI (1 + 5 * t + 1) from nI_add _ 1]
  refine va_sld hx hb hX hbl hbA w.2.2.2.2 (vp_in_nI (by omega) (by omega)) dL_law_215 ?_
  rw [nI_clamp (show 1 + 5 * t + 1 < 2 ^ 31 by omega)]
  refine lv_aload_n hx hb dL_law_216 rfl (lv_at hl 5 rfl) ?_
  refine lv_iload hx hb dL_law_217 (lv_at hl 1 rfl) ?_
  refine lv_iconst (v := 2) hx hb dL_law_219 (by decide) ?_
  refine lv_iadd hx hb dL_law_220 ?_
  rw [show nI (1 + 5 * t) + (2 : Int32) = nI (1 + 5 * t + 2) from nI_add _ 2]
  refine va_sld hx hb hX hbl hbA w.2.2.2.2 (vp_in_nI (by omega) (by omega)) dL_law_221 ?_
  rw [nI_clamp (show 1 + 5 * t + 2 < 2 ^ 31 by omega)]
  refine lv_aload_n hx hb dL_law_222 rfl (lv_at hl 5 rfl) ?_
  refine lv_iload hx hb dL_law_223 (lv_at hl 1 rfl) ?_
  refine lv_iconst (v := 3) hx hb dL_law_225 (by decide) ?_
  refine lv_iadd hx hb dL_law_226 ?_
  rw [show nI (1 + 5 * t) + (3 : Int32) = nI (1 + 5 * t + 3) from nI_add _ 3]
  refine va_sld hx hb hX hbl hbA w.2.2.2.2 (vp_in_nI (by omega) (by omega)) dL_law_227 ?_
  rw [nI_clamp (show 1 + 5 * t + 3 < 2 ^ 31 by omega)]
  refine L_ri (rest := []) C hl.1 w (fun σ ok hR => t_query l D cI cZ cN cO mm d n σ M (xs (1 + 5 * t + 1)) (xs (1 + 5 * t + 2)) (xs (1 + 5 * t + 3)) ok hR hi hn (by omega)) kM_L_51 kI_X4_query kS_X4_query kD_X4_query (show yX4_query.cls = RX4 ∧ yX4_query.cls ≠ "java/lang/invoke/MethodHandle" ∧ yX4_query.cls ≠ "java/lang/invoke/VarHandle" ∧ (parseMethodDescriptor yX4_query.desc).map (fun d => d.parameters.length) = some 3 from by decide +kernel) rfl rfl ⟨Nat.le_of_ble_eq_true rfl, Nat.le_of_ble_eq_true rfl⟩ rfl (lv_room (Nat.le_of_ble_eq_true rfl)) dL_law_228 ⟨(by show (300 + 2 * t + 2) + 0 ≤ 601024; omega), (by show (200000 + 43 * t + 43) + 0 ≤ 7293000; omega)⟩ (fun r2 H locs hr2 w => ?_)
  refine lv_istore (lv' := [(6, .int r2), (5, .int (nI (tQry n (xs (1 + 5 * t + 1)) (xs (1 + 5 * t + 2))))), (4, .int (nI (1 + 5 * t))), (3, .ref oo), (2, .ref mm), (1, .ref x), (0, .ref b)]) hx hb dL_law_231 hl (by decide) rfl (fun ls hl => ?_)
  refine lv_goto (tgt := 605) hx hb dL_law_233 (by decide) ?_
  have hk9 := mActB_ok (k := (xs (1 + 5 * t + 1))) (kd := (xs (1 + 5 * t + 2))) (a := (xs (1 + 5 * t + 3))) (b := 0) (T := tQry n (xs (1 + 5 * t + 1)) (xs (1 + 5 * t + 2))) hi tQry_0 hn
  exact kk _ _ _ _ _ w hk9.1 hI.actB (by have := hk9.2; omega) ls (lv_sub hl [2, 3, 4, 5, 6] rfl)
set_option maxHeartbeats 4000000 in
set_option maxRecDepth 100000 in
theorem lc_deliver {p : Program} {l : Launch} {e : Env} {s : State} {m : MethodId} {below : List Frame} {meth : Method} {c : Code} {b L : Nat} {xs : Nat → Int32} {D : va_G} {cI cZ cN cO cL : ClassId} {x n mm oo t : Nat} {d : Nat → Nat} {Q : State → Prop} (C : LC p l s m c b D cI cZ cN cO cL) (hX : va_X b L xs s s.heap) (hbl : b < s.heap.size) (hn : n ≤ 31) (hn3 : 3 ≤ n) (hL : L ≤ 2561) (ht : 5 * t + 6 ≤ L) (M : MS) (th : Int32) (fo : Nat → Int64) (H : Heap) (locs : List Loc) (w : LW D cI cZ cN cO cL s x n M M th mm d oo fo H locs) (hi : mInv n M) (hI : mIdl n M) (hM5 : M.1 0 0 5 ≤ 2000 * t) (ls : Array Slot) (hl : lv_has ls 7 [(4, .int (nI (1 + 5 * t))), (3, .ref oo), (2, .ref mm), (1, .ref x), (0, .ref b)]) (kk : (∀ (M : MS) (th : Int32) (fo : Nat → Int64) (H : Heap) (locs : List Loc), LW D cI cZ cN cO cL s x n M M th mm d oo fo H locs → mInv n M → mIdl n M → M.1 0 0 5 ≤ 2000 * (t + 1) → ∀ ls : Array Slot, lv_has ls 7 [(4, .int (nI (1 + 5 * t))), (3, .ref oo), (2, .ref mm), (1, .ref x), (0, .ref b)] → W p l e room_1 s m #[Value.ref b] below meth c H locs (300 + 2 * t + 2) (200000 + 43 * t + 43) Q (F0 m 605 ls []))) : W p l e room_1 s m #[Value.ref b] below meth c H locs (300 + 2 * t) (200000 + 43 * t) Q (F0 m 236 ls []) := by
  have hx := C.1.1
  have hb := C.1.2.1
  have hbA : ¬ (fun q => s.heap.size ≤ q) b := Nat.not_le.mpr hbl
  refine lv_aload_n hx hb dL_law_236 rfl (lv_at hl 3 rfl) ?_
  refine lv_aload_n hx hb dL_law_237 rfl (lv_at hl 4 rfl) ?_
  refine lv_iload hx hb dL_law_238 (lv_at hl 0 rfl) ?_
  refine lv_iconst (v := 1) hx hb dL_law_240 (by decide) ?_
  refine lv_iadd hx hb dL_law_241 ?_
  rw [show nI (1 + 5 * t) + (1 : Int32) = nI (1 + 5 * t + 1) from nI_add _ 1]
  refine va_sld hx hb hX hbl hbA w.2.2.2.2 (vp_in_nI (by omega) (by omega)) dL_law_242 ?_
  rw [nI_clamp (show 1 + 5 * t + 1 < 2 ^ 31 by omega)]
  refine lv_aload_n hx hb dL_law_243 rfl (lv_at hl 1 rfl) ?_
  refine L_deliver C hl.1 w hi hn hn3 (by omega) kM_L_52 dL_law_244 ⟨(by show (300 + 2 * t) + 2 ≤ 601024; omega), (by show (200000 + 43 * t) + 43 ≤ 7293000; omega)⟩ (fun H locs fo hfo w => ?_)
  refine lv_istore (lv' := [(5, .int (nI (tDel (xs (1 + 5 * t + 1)) M))), (4, .int (nI (1 + 5 * t))), (3, .ref oo), (2, .ref mm), (1, .ref x), (0, .ref b)]) hx hb dL_law_247 hl (by decide) rfl (fun ls hl => ?_)
  refine lv_aload_n hx hb dL_law_249 rfl (lv_at hl 3 rfl) ?_
  refine lv_aload_n hx hb dL_law_250 rfl (lv_at hl 5 rfl) ?_
  refine lv_iload hx hb dL_law_251 (lv_at hl 1 rfl) ?_
  refine lv_iconst (v := 1) hx hb dL_law_253 (by decide) ?_
  refine lv_iadd hx hb dL_law_254 ?_
  rw [show nI (1 + 5 * t) + (1 : Int32) = nI (1 + 5 * t + 1) from nI_add _ 1]
  refine va_sld hx hb hX hbl hbA w.2.2.2.2 (vp_in_nI (by omega) (by omega)) dL_law_255 ?_
  rw [nI_clamp (show 1 + 5 * t + 1 < 2 ^ 31 by omega)]
  refine L_ri (rest := []) C hl.1 w (fun σ ok hR => t_deliver l D cI cZ cN cO mm d n σ M (xs (1 + 5 * t + 1)) ok hR hi hn (by omega) hn3) kM_L_55 kI_X4_deliver kS_X4_deliver kD_X4_deliver (show yX4_deliver.cls = RX4 ∧ yX4_deliver.cls ≠ "java/lang/invoke/MethodHandle" ∧ yX4_deliver.cls ≠ "java/lang/invoke/VarHandle" ∧ (parseMethodDescriptor yX4_deliver.desc).map (fun d => d.parameters.length) = some 1 from by decide +kernel) rfl rfl ⟨Nat.le_of_ble_eq_true rfl, Nat.le_of_ble_eq_true rfl⟩ rfl (lv_room (Nat.le_of_ble_eq_true rfl)) dL_law_256 ⟨(by show (300 + 2 * t + 2) + 0 ≤ 601024; omega), (by show (200000 + 43 * t + 43) + 0 ≤ 7293000; omega)⟩ (fun r2 H locs hr2 w => ?_)
  refine lv_istore (lv' := [(6, .int r2), (5, .int (nI (tDel (xs (1 + 5 * t + 1)) M))), (4, .int (nI (1 + 5 * t))), (3, .ref oo), (2, .ref mm), (1, .ref x), (0, .ref b)]) hx hb dL_law_259 hl (by decide) rfl (fun ls hl => ?_)
  refine lv_goto (tgt := 605) hx hb dL_law_261 (by decide) ?_
  exact kk _ _ _ _ _ w (mDel_ok hi).1 hI.del (by have := (mDel_ok (n := n) (i := (xs (1 + 5 * t + 1))) hi).2; omega) ls (lv_sub hl [2, 3, 4, 5, 6] rfl)
set_option maxHeartbeats 4000000 in
set_option maxRecDepth 100000 in
theorem lc_calm {p : Program} {l : Launch} {e : Env} {s : State} {m : MethodId} {below : List Frame} {meth : Method} {c : Code} {b L : Nat} {xs : Nat → Int32} {D : va_G} {cI cZ cN cO cL : ClassId} {x n mm oo t : Nat} {d : Nat → Nat} {Q : State → Prop} (C : LC p l s m c b D cI cZ cN cO cL) (hX : va_X b L xs s s.heap) (hbl : b < s.heap.size) (hn : n ≤ 31) (hn3 : 3 ≤ n) (hL : L ≤ 2561) (ht : 5 * t + 6 ≤ L) (M : MS) (th : Int32) (fo : Nat → Int64) (H : Heap) (locs : List Loc) (w : LW D cI cZ cN cO cL s x n M M th mm d oo fo H locs) (hi : mInv n M) (hI : mIdl n M) (hM5 : M.1 0 0 5 ≤ 2000 * t) (ls : Array Slot) (hl : lv_has ls 7 [(4, .int (nI (1 + 5 * t))), (3, .ref oo), (2, .ref mm), (1, .ref x), (0, .ref b)]) (kk : (∀ (M : MS) (th : Int32) (fo : Nat → Int64) (H : Heap) (locs : List Loc), LW D cI cZ cN cO cL s x n M M th mm d oo fo H locs → mInv n M → mIdl n M → M.1 0 0 5 ≤ 2000 * (t + 1) → ∀ ls : Array Slot, lv_has ls 7 [(4, .int (nI (1 + 5 * t))), (3, .ref oo), (2, .ref mm), (1, .ref x), (0, .ref b)] → W p l e room_1 s m #[Value.ref b] below meth c H locs (300 + 2 * t + 2) (200000 + 43 * t + 43) Q (F0 m 605 ls []))) : W p l e room_1 s m #[Value.ref b] below meth c H locs (300 + 2 * t) (200000 + 43 * t) Q (F0 m 264 ls []) := by
  have hx := C.1.1
  have hb := C.1.2.1
  have hbA : ¬ (fun q => s.heap.size ≤ q) b := Nat.not_le.mpr hbl
  refine lv_aload_n hx hb dL_law_264 rfl (lv_at hl 3 rfl) ?_
  refine lv_aload_n hx hb dL_law_265 rfl (lv_at hl 4 rfl) ?_
  refine lv_iload hx hb dL_law_266 (lv_at hl 0 rfl) ?_
  refine lv_iconst (v := 1) hx hb dL_law_268 (by decide) ?_
  refine lv_iadd hx hb dL_law_269 ?_
  rw [show nI (1 + 5 * t) + (1 : Int32) = nI (1 + 5 * t + 1) from nI_add _ 1]
  refine va_sld hx hb hX hbl hbA w.2.2.2.2 (vp_in_nI (by omega) (by omega)) dL_law_270 ?_
  rw [nI_clamp (show 1 + 5 * t + 1 < 2 ^ 31 by omega)]
  refine lv_aload_n hx hb dL_law_271 rfl (lv_at hl 1 rfl) ?_
  refine L_calm C hl.1 w hi hn hn3 (by omega) kM_L_56 dL_law_272 ⟨(by show (300 + 2 * t) + 2 ≤ 601024; omega), (by show (200000 + 43 * t) + 43 ≤ 7293000; omega)⟩ (fun H locs fo hfo w => ?_)
  refine lv_istore (lv' := [(5, .int (nI (tCal (xs (1 + 5 * t + 1))))), (4, .int (nI (1 + 5 * t))), (3, .ref oo), (2, .ref mm), (1, .ref x), (0, .ref b)]) hx hb dL_law_275 hl (by decide) rfl (fun ls hl => ?_)
  refine lv_aload_n hx hb dL_law_277 rfl (lv_at hl 3 rfl) ?_
  refine lv_aload_n hx hb dL_law_278 rfl (lv_at hl 5 rfl) ?_
  refine lv_iload hx hb dL_law_279 (lv_at hl 1 rfl) ?_
  refine lv_iconst (v := 1) hx hb dL_law_281 (by decide) ?_
  refine lv_iadd hx hb dL_law_282 ?_
  rw [show nI (1 + 5 * t) + (1 : Int32) = nI (1 + 5 * t + 1) from nI_add _ 1]
  refine va_sld hx hb hX hbl hbA w.2.2.2.2 (vp_in_nI (by omega) (by omega)) dL_law_283 ?_
  rw [nI_clamp (show 1 + 5 * t + 1 < 2 ^ 31 by omega)]
  refine L_ri (rest := []) C hl.1 w (fun σ ok hR => t_calm l D cI cZ cN cO mm d n σ M (xs (1 + 5 * t + 1)) ok hR hi hn (by omega)) kM_L_58 kI_X4_calm kS_X4_calm kD_X4_calm (show yX4_calm.cls = RX4 ∧ yX4_calm.cls ≠ "java/lang/invoke/MethodHandle" ∧ yX4_calm.cls ≠ "java/lang/invoke/VarHandle" ∧ (parseMethodDescriptor yX4_calm.desc).map (fun d => d.parameters.length) = some 1 from by decide +kernel) rfl rfl ⟨Nat.le_of_ble_eq_true rfl, Nat.le_of_ble_eq_true rfl⟩ rfl (lv_room (Nat.le_of_ble_eq_true rfl)) dL_law_284 ⟨(by show (300 + 2 * t + 2) + 0 ≤ 601024; omega), (by show (200000 + 43 * t + 43) + 0 ≤ 7293000; omega)⟩ (fun r2 H locs hr2 w => ?_)
  refine lv_istore (lv' := [(6, .int r2), (5, .int (nI (tCal (xs (1 + 5 * t + 1))))), (4, .int (nI (1 + 5 * t))), (3, .ref oo), (2, .ref mm), (1, .ref x), (0, .ref b)]) hx hb dL_law_287 hl (by decide) rfl (fun ls hl => ?_)
  refine lv_goto (tgt := 605) hx hb dL_law_289 (by decide) ?_
  exact kk _ _ _ _ _ w (mCal_ok hi).1 hI.cal (by have := (mCal_ok (n := n) (p0 := (xs (1 + 5 * t + 1))) hi).2; omega) ls (lv_sub hl [2, 3, 4, 5, 6] rfl)
set_option maxHeartbeats 4000000 in
set_option maxRecDepth 100000 in
theorem lc_crash {p : Program} {l : Launch} {e : Env} {s : State} {m : MethodId} {below : List Frame} {meth : Method} {c : Code} {b L : Nat} {xs : Nat → Int32} {D : va_G} {cI cZ cN cO cL : ClassId} {x n mm oo t : Nat} {d : Nat → Nat} {Q : State → Prop} (C : LC p l s m c b D cI cZ cN cO cL) (hX : va_X b L xs s s.heap) (hbl : b < s.heap.size) (hn : n ≤ 31) (hn3 : 3 ≤ n) (hL : L ≤ 2561) (ht : 5 * t + 6 ≤ L) (M : MS) (th : Int32) (fo : Nat → Int64) (H : Heap) (locs : List Loc) (w : LW D cI cZ cN cO cL s x n M M th mm d oo fo H locs) (hi : mInv n M) (hI : mIdl n M) (hM5 : M.1 0 0 5 ≤ 2000 * t) (ls : Array Slot) (hl : lv_has ls 7 [(4, .int (nI (1 + 5 * t))), (3, .ref oo), (2, .ref mm), (1, .ref x), (0, .ref b)]) (kk : (∀ (M : MS) (th : Int32) (fo : Nat → Int64) (H : Heap) (locs : List Loc), LW D cI cZ cN cO cL s x n M M th mm d oo fo H locs → mInv n M → mIdl n M → M.1 0 0 5 ≤ 2000 * (t + 1) → ∀ ls : Array Slot, lv_has ls 7 [(4, .int (nI (1 + 5 * t))), (3, .ref oo), (2, .ref mm), (1, .ref x), (0, .ref b)] → W p l e room_1 s m #[Value.ref b] below meth c H locs (300 + 2 * t + 2) (200000 + 43 * t + 43) Q (F0 m 605 ls []))) : W p l e room_1 s m #[Value.ref b] below meth c H locs (300 + 2 * t) (200000 + 43 * t) Q (F0 m 292 ls []) := by
  have hx := C.1.1
  have hb := C.1.2.1
  have hbA : ¬ (fun q => s.heap.size ≤ q) b := Nat.not_le.mpr hbl
  refine lv_aload_n hx hb dL_law_292 rfl (lv_at hl 3 rfl) ?_
  refine lv_aload_n hx hb dL_law_293 rfl (lv_at hl 4 rfl) ?_
  refine lv_iload hx hb dL_law_294 (lv_at hl 0 rfl) ?_
  refine lv_iconst (v := 1) hx hb dL_law_296 (by decide) ?_
  refine lv_iadd hx hb dL_law_297 ?_
  rw [show nI (1 + 5 * t) + (1 : Int32) = nI (1 + 5 * t + 1) from nI_add _ 1]
  refine va_sld hx hb hX hbl hbA w.2.2.2.2 (vp_in_nI (by omega) (by omega)) dL_law_298 ?_
  rw [nI_clamp (show 1 + 5 * t + 1 < 2 ^ 31 by omega)]
  refine lv_aload_n hx hb dL_law_299 rfl (lv_at hl 1 rfl) ?_
  refine L_crash C hl.1 w hi hn hn3 (by omega) kM_L_59 dL_law_300 ⟨(by show (300 + 2 * t) + 2 ≤ 601024; omega), (by show (200000 + 43 * t) + 43 ≤ 7293000; omega)⟩ (fun H locs fo hfo w => ?_)
  refine lv_istore (lv' := [(5, .int (nI (tCra n (xs (1 + 5 * t + 1))))), (4, .int (nI (1 + 5 * t))), (3, .ref oo), (2, .ref mm), (1, .ref x), (0, .ref b)]) hx hb dL_law_303 hl (by decide) rfl (fun ls hl => ?_)
  refine lv_aload_n hx hb dL_law_305 rfl (lv_at hl 3 rfl) ?_
  refine lv_aload_n hx hb dL_law_306 rfl (lv_at hl 5 rfl) ?_
  refine lv_iload hx hb dL_law_307 (lv_at hl 1 rfl) ?_
  refine lv_iconst (v := 1) hx hb dL_law_309 (by decide) ?_
  refine lv_iadd hx hb dL_law_310 ?_
  rw [show nI (1 + 5 * t) + (1 : Int32) = nI (1 + 5 * t + 1) from nI_add _ 1]
  refine va_sld hx hb hX hbl hbA w.2.2.2.2 (vp_in_nI (by omega) (by omega)) dL_law_311 ?_
  rw [nI_clamp (show 1 + 5 * t + 1 < 2 ^ 31 by omega)]
  refine L_ri (rest := []) C hl.1 w (fun σ ok hR => t_crash l D cI cZ cN cO mm d n σ M (xs (1 + 5 * t + 1)) ok hR hi hn (by omega)) kM_L_61 kI_X4_crash kS_X4_crash kD_X4_crash (show yX4_crash.cls = RX4 ∧ yX4_crash.cls ≠ "java/lang/invoke/MethodHandle" ∧ yX4_crash.cls ≠ "java/lang/invoke/VarHandle" ∧ (parseMethodDescriptor yX4_crash.desc).map (fun d => d.parameters.length) = some 1 from by decide +kernel) rfl rfl ⟨Nat.le_of_ble_eq_true rfl, Nat.le_of_ble_eq_true rfl⟩ rfl (lv_room (Nat.le_of_ble_eq_true rfl)) dL_law_312 ⟨(by show (300 + 2 * t + 2) + 0 ≤ 601024; omega), (by show (200000 + 43 * t + 43) + 0 ≤ 7293000; omega)⟩ (fun r2 H locs hr2 w => ?_)
  refine lv_istore (lv' := [(6, .int r2), (5, .int (nI (tCra n (xs (1 + 5 * t + 1))))), (4, .int (nI (1 + 5 * t))), (3, .ref oo), (2, .ref mm), (1, .ref x), (0, .ref b)]) hx hb dL_law_315 hl (by decide) rfl (fun ls hl => ?_)
  refine lv_goto (tgt := 605) hx hb dL_law_317 (by decide) ?_
  exact kk _ _ _ _ _ w (mCra_ok hi).1 hI.cra (by have := (mCra_ok (n := n) (k := (xs (1 + 5 * t + 1))) hi).2; omega) ls (lv_sub hl [2, 3, 4, 5, 6] rfl)
set_option maxHeartbeats 4000000 in
set_option maxRecDepth 100000 in
theorem lc_told {p : Program} {l : Launch} {e : Env} {s : State} {m : MethodId} {below : List Frame} {meth : Method} {c : Code} {b L : Nat} {xs : Nat → Int32} {D : va_G} {cI cZ cN cO cL : ClassId} {x n mm oo t : Nat} {d : Nat → Nat} {Q : State → Prop} (C : LC p l s m c b D cI cZ cN cO cL) (hX : va_X b L xs s s.heap) (hbl : b < s.heap.size) (hn : n ≤ 31) (hn3 : 3 ≤ n) (hL : L ≤ 2561) (ht : 5 * t + 6 ≤ L) (M : MS) (th : Int32) (fo : Nat → Int64) (H : Heap) (locs : List Loc) (w : LW D cI cZ cN cO cL s x n M M th mm d oo fo H locs) (hi : mInv n M) (hI : mIdl n M) (hM5 : M.1 0 0 5 ≤ 2000 * t) (ls : Array Slot) (hl : lv_has ls 7 [(4, .int (nI (1 + 5 * t))), (3, .ref oo), (2, .ref mm), (1, .ref x), (0, .ref b)]) (kk : (∀ (M : MS) (th : Int32) (fo : Nat → Int64) (H : Heap) (locs : List Loc), LW D cI cZ cN cO cL s x n M M th mm d oo fo H locs → mInv n M → mIdl n M → M.1 0 0 5 ≤ 2000 * (t + 1) → ∀ ls : Array Slot, lv_has ls 7 [(4, .int (nI (1 + 5 * t))), (3, .ref oo), (2, .ref mm), (1, .ref x), (0, .ref b)] → W p l e room_1 s m #[Value.ref b] below meth c H locs (300 + 2 * t + 2) (200000 + 43 * t + 43) Q (F0 m 605 ls []))) : W p l e room_1 s m #[Value.ref b] below meth c H locs (300 + 2 * t) (200000 + 43 * t) Q (F0 m 320 ls []) := by
  have hx := C.1.1
  have hb := C.1.2.1
  have hbA : ¬ (fun q => s.heap.size ≤ q) b := Nat.not_le.mpr hbl
  refine lv_aload_n hx hb dL_law_320 rfl (lv_at hl 3 rfl) ?_
  refine lv_aload_n hx hb dL_law_321 rfl (lv_at hl 4 rfl) ?_
  refine lv_iload hx hb dL_law_322 (lv_at hl 0 rfl) ?_
  refine lv_iconst (v := 1) hx hb dL_law_324 (by decide) ?_
  refine lv_iadd hx hb dL_law_325 ?_
  rw [show nI (1 + 5 * t) + (1 : Int32) = nI (1 + 5 * t + 1) from nI_add _ 1]
  refine va_sld hx hb hX hbl hbA w.2.2.2.2 (vp_in_nI (by omega) (by omega)) dL_law_326 ?_
  rw [nI_clamp (show 1 + 5 * t + 1 < 2 ^ 31 by omega)]
  refine lv_aload_n hx hb dL_law_327 rfl (lv_at hl 4 rfl) ?_
  refine lv_iload hx hb dL_law_328 (lv_at hl 0 rfl) ?_
  refine lv_iconst (v := 2) hx hb dL_law_330 (by decide) ?_
  refine lv_iadd hx hb dL_law_331 ?_
  rw [show nI (1 + 5 * t) + (2 : Int32) = nI (1 + 5 * t + 2) from nI_add _ 2]
  refine va_sld hx hb hX hbl hbA w.2.2.2.2 (vp_in_nI (by omega) (by omega)) dL_law_332 ?_
  rw [nI_clamp (show 1 + 5 * t + 2 < 2 ^ 31 by omega)]
  refine L_cp C hl.1 w (fun E σ ok hCR => s_told l D cI cZ cN cO _ E n σ M (xs (1 + 5 * t + 1)) (xs (1 + 5 * t + 2)) ok hCR hi) kM_L_62 kI_X3_told kS_X3_told kD_X3_told (show yX3_told.cls = RX3 ∧ yX3_told.cls ≠ "java/lang/invoke/MethodHandle" ∧ yX3_told.cls ≠ "java/lang/invoke/VarHandle" ∧ (parseMethodDescriptor yX3_told.desc).map (fun d => d.parameters.length) = some 2 from by decide +kernel) rfl rfl ⟨Nat.le_of_ble_eq_true rfl, Nat.le_of_ble_eq_true rfl⟩ rfl (lv_room (Nat.le_of_ble_eq_true rfl)) dL_law_333 ⟨(by show (300 + 2 * t) + 0 ≤ 601024; omega), (by show (200000 + 43 * t) + 0 ≤ 7293000; omega)⟩ (fun r1 hr1 => ?_)
  refine lv_pop hx hb dL_law_336 rfl ?_
  refine lv_aload_n hx hb dL_law_337 rfl (lv_at hl 2 rfl) ?_
  refine lv_aload_n hx hb dL_law_338 rfl (lv_at hl 4 rfl) ?_
  refine lv_iload hx hb dL_law_339 (lv_at hl 0 rfl) ?_
  refine lv_iconst (v := 1) hx hb dL_law_341 (by decide) ?_
  refine lv_iadd hx hb dL_law_342 ?_
  rw [show nI (1 + 5 * t) + (1 : Int32) = nI (1 + 5 * t + 1) from nI_add _ 1]
  refine va_sld hx hb hX hbl hbA w.2.2.2.2 (vp_in_nI (by omega) (by omega)) dL_law_343 ?_
  rw [nI_clamp (show 1 + 5 * t + 1 < 2 ^ 31 by omega)]
  refine lv_aload_n hx hb dL_law_344 rfl (lv_at hl 4 rfl) ?_
  refine lv_iload hx hb dL_law_345 (lv_at hl 0 rfl) ?_
  refine lv_iconst (v := 2) hx hb dL_law_347 (by decide) ?_
  refine lv_iadd hx hb dL_law_348 ?_
  rw [show nI (1 + 5 * t) + (2 : Int32) = nI (1 + 5 * t + 2) from nI_add _ 2]
  refine va_sld hx hb hX hbl hbA w.2.2.2.2 (vp_in_nI (by omega) (by omega)) dL_law_349 ?_
  rw [nI_clamp (show 1 + 5 * t + 2 < 2 ^ 31 by omega)]
  refine L_ri (rest := []) C hl.1 w (fun σ ok hR => t_told l D cI cZ cN cO mm d n σ M (xs (1 + 5 * t + 1)) (xs (1 + 5 * t + 2)) ok hR hi hn) kM_L_66 kI_X4_told kS_X4_told kD_X4_told (show yX4_told.cls = RX4 ∧ yX4_told.cls ≠ "java/lang/invoke/MethodHandle" ∧ yX4_told.cls ≠ "java/lang/invoke/VarHandle" ∧ (parseMethodDescriptor yX4_told.desc).map (fun d => d.parameters.length) = some 2 from by decide +kernel) rfl rfl ⟨Nat.le_of_ble_eq_true rfl, Nat.le_of_ble_eq_true rfl⟩ rfl (lv_room (Nat.le_of_ble_eq_true rfl)) dL_law_350 ⟨(by show (300 + 2 * t) + 0 ≤ 601024; omega), (by show (200000 + 43 * t) + 0 ≤ 7293000; omega)⟩ (fun r2 H locs hr2 w => ?_)
  refine lv_pop hx hb dL_law_353 rfl ?_
  refine lv_goto (tgt := 605) hx hb dL_law_354 (by decide) ?_
  refine W.widen (k := (300 + 2 * t + 2)) (n := (200000 + 43 * t + 43)) (by omega) (by omega) ?_
  exact kk _ _ _ _ _ w hi hI (by omega) ls (lv_sub hl [0, 1, 2, 3, 4] rfl)
set_option maxHeartbeats 4000000 in
set_option maxRecDepth 100000 in
theorem lc_answer {p : Program} {l : Launch} {e : Env} {s : State} {m : MethodId} {below : List Frame} {meth : Method} {c : Code} {b L : Nat} {xs : Nat → Int32} {D : va_G} {cI cZ cN cO cL : ClassId} {x n mm oo t : Nat} {d : Nat → Nat} {Q : State → Prop} (C : LC p l s m c b D cI cZ cN cO cL) (hX : va_X b L xs s s.heap) (hbl : b < s.heap.size) (hn : n ≤ 31) (hn3 : 3 ≤ n) (hL : L ≤ 2561) (ht : 5 * t + 6 ≤ L) (M : MS) (th : Int32) (fo : Nat → Int64) (H : Heap) (locs : List Loc) (w : LW D cI cZ cN cO cL s x n M M th mm d oo fo H locs) (hi : mInv n M) (hI : mIdl n M) (hM5 : M.1 0 0 5 ≤ 2000 * t) (ls : Array Slot) (hl : lv_has ls 7 [(4, .int (nI (1 + 5 * t))), (3, .ref oo), (2, .ref mm), (1, .ref x), (0, .ref b)]) (kk : (∀ (M : MS) (th : Int32) (fo : Nat → Int64) (H : Heap) (locs : List Loc), LW D cI cZ cN cO cL s x n M M th mm d oo fo H locs → mInv n M → mIdl n M → M.1 0 0 5 ≤ 2000 * (t + 1) → ∀ ls : Array Slot, lv_has ls 7 [(4, .int (nI (1 + 5 * t))), (3, .ref oo), (2, .ref mm), (1, .ref x), (0, .ref b)] → W p l e room_1 s m #[Value.ref b] below meth c H locs (300 + 2 * t + 2) (200000 + 43 * t + 43) Q (F0 m 605 ls []))) : W p l e room_1 s m #[Value.ref b] below meth c H locs (300 + 2 * t) (200000 + 43 * t) Q (F0 m 357 ls []) := by
  have hx := C.1.1
  have hb := C.1.2.1
  have hbA : ¬ (fun q => s.heap.size ≤ q) b := Nat.not_le.mpr hbl
  refine lv_aload_n hx hb dL_law_357 rfl (lv_at hl 3 rfl) ?_
  refine lv_aload_n hx hb dL_law_358 rfl (lv_at hl 4 rfl) ?_
  refine lv_iload hx hb dL_law_359 (lv_at hl 0 rfl) ?_
  refine lv_iconst (v := 1) hx hb dL_law_361 (by decide) ?_
  refine lv_iadd hx hb dL_law_362 ?_
  rw [show nI (1 + 5 * t) + (1 : Int32) = nI (1 + 5 * t + 1) from nI_add _ 1]
  refine va_sld hx hb hX hbl hbA w.2.2.2.2 (vp_in_nI (by omega) (by omega)) dL_law_363 ?_
  rw [nI_clamp (show 1 + 5 * t + 1 < 2 ^ 31 by omega)]
  refine L_cl C hl.1 w (fun E σ ok hCR => s_answerT l D cI cZ cN cO _ E n σ M (xs (1 + 5 * t + 1)) ok hCR hi) kM_L_67 kI_X3_answer kS_X3_answer kD_X3_answer (show yX3_answer.cls = RX3 ∧ yX3_answer.cls ≠ "java/lang/invoke/MethodHandle" ∧ yX3_answer.cls ≠ "java/lang/invoke/VarHandle" ∧ (parseMethodDescriptor yX3_answer.desc).map (fun d => d.parameters.length) = some 1 from by decide +kernel) rfl rfl ⟨Nat.le_of_ble_eq_true rfl, Nat.le_of_ble_eq_true rfl⟩ rfl (lv_room (Nat.le_of_ble_eq_true rfl)) dL_law_364 ⟨(by show (300 + 2 * t) + 0 ≤ 601024; omega), (by show (200000 + 43 * t) + 0 ≤ 7293000; omega)⟩ (fun r1 hr1 => ?_)
  refine lv_pop2_2 hx hb dL_law_367 rfl ?_
  refine lv_aload_n hx hb dL_law_368 rfl (lv_at hl 2 rfl) ?_
  refine lv_aload_n hx hb dL_law_369 rfl (lv_at hl 4 rfl) ?_
  refine lv_iload hx hb dL_law_370 (lv_at hl 0 rfl) ?_
  refine lv_iconst (v := 1) hx hb dL_law_372 (by decide) ?_
  refine lv_iadd hx hb dL_law_373 ?_
  rw [show nI (1 + 5 * t) + (1 : Int32) = nI (1 + 5 * t + 1) from nI_add _ 1]
  refine va_sld hx hb hX hbl hbA w.2.2.2.2 (vp_in_nI (by omega) (by omega)) dL_law_374 ?_
  rw [nI_clamp (show 1 + 5 * t + 1 < 2 ^ 31 by omega)]
  refine L_rl (rest := []) C hl.1 w (fun σ ok hR => t_answerT l D cI cZ cN cO mm d n σ M (xs (1 + 5 * t + 1)) ok hR hi hn) kM_L_71 kI_X4_answer kS_X4_answer kD_X4_answer (show yX4_answer.cls = RX4 ∧ yX4_answer.cls ≠ "java/lang/invoke/MethodHandle" ∧ yX4_answer.cls ≠ "java/lang/invoke/VarHandle" ∧ (parseMethodDescriptor yX4_answer.desc).map (fun d => d.parameters.length) = some 1 from by decide +kernel) rfl rfl ⟨Nat.le_of_ble_eq_true rfl, Nat.le_of_ble_eq_true rfl⟩ rfl (lv_room (Nat.le_of_ble_eq_true rfl)) dL_law_375 ⟨(by show (300 + 2 * t) + 0 ≤ 601024; omega), (by show (200000 + 43 * t) + 0 ≤ 7293000; omega)⟩ (fun r2 H locs hr2 w => ?_)
  refine lv_pop2_2 hx hb dL_law_378 rfl ?_
  refine lv_goto (tgt := 605) hx hb dL_law_379 (by decide) ?_
  refine W.widen (k := (300 + 2 * t + 2)) (n := (200000 + 43 * t + 43)) (by omega) (by omega) ?_
  exact kk _ _ _ _ _ w hi hI (by omega) ls (lv_sub hl [0, 1, 2, 3, 4] rfl)
set_option maxHeartbeats 4000000 in
set_option maxRecDepth 100000 in
theorem lc_view {p : Program} {l : Launch} {e : Env} {s : State} {m : MethodId} {below : List Frame} {meth : Method} {c : Code} {b L : Nat} {xs : Nat → Int32} {D : va_G} {cI cZ cN cO cL : ClassId} {x n mm oo t : Nat} {d : Nat → Nat} {Q : State → Prop} (C : LC p l s m c b D cI cZ cN cO cL) (hX : va_X b L xs s s.heap) (hbl : b < s.heap.size) (hn : n ≤ 31) (hn3 : 3 ≤ n) (hL : L ≤ 2561) (ht : 5 * t + 6 ≤ L) (M : MS) (th : Int32) (fo : Nat → Int64) (H : Heap) (locs : List Loc) (w : LW D cI cZ cN cO cL s x n M M th mm d oo fo H locs) (hi : mInv n M) (hI : mIdl n M) (hM5 : M.1 0 0 5 ≤ 2000 * t) (ls : Array Slot) (hl : lv_has ls 7 [(4, .int (nI (1 + 5 * t))), (3, .ref oo), (2, .ref mm), (1, .ref x), (0, .ref b)]) (kk : (∀ (M : MS) (th : Int32) (fo : Nat → Int64) (H : Heap) (locs : List Loc), LW D cI cZ cN cO cL s x n M M th mm d oo fo H locs → mInv n M → mIdl n M → M.1 0 0 5 ≤ 2000 * (t + 1) → ∀ ls : Array Slot, lv_has ls 7 [(4, .int (nI (1 + 5 * t))), (3, .ref oo), (2, .ref mm), (1, .ref x), (0, .ref b)] → W p l e room_1 s m #[Value.ref b] below meth c H locs (300 + 2 * t + 2) (200000 + 43 * t + 43) Q (F0 m 605 ls []))) : W p l e room_1 s m #[Value.ref b] below meth c H locs (300 + 2 * t) (200000 + 43 * t) Q (F0 m 382 ls []) := by
  have hx := C.1.1
  have hb := C.1.2.1
  have hbA : ¬ (fun q => s.heap.size ≤ q) b := Nat.not_le.mpr hbl
  refine lv_aload_n hx hb dL_law_382 rfl (lv_at hl 3 rfl) ?_
  refine lv_aload_n hx hb dL_law_383 rfl (lv_at hl 4 rfl) ?_
  refine lv_iload hx hb dL_law_384 (lv_at hl 0 rfl) ?_
  refine lv_iconst (v := 1) hx hb dL_law_386 (by decide) ?_
  refine lv_iadd hx hb dL_law_387 ?_
  rw [show nI (1 + 5 * t) + (1 : Int32) = nI (1 + 5 * t + 1) from nI_add _ 1]
  refine va_sld hx hb hX hbl hbA w.2.2.2.2 (vp_in_nI (by omega) (by omega)) dL_law_388 ?_
  rw [nI_clamp (show 1 + 5 * t + 1 < 2 ^ 31 by omega)]
  refine lv_aload_n hx hb dL_law_389 rfl (lv_at hl 4 rfl) ?_
  refine lv_iload hx hb dL_law_390 (lv_at hl 0 rfl) ?_
  refine lv_iconst (v := 2) hx hb dL_law_392 (by decide) ?_
  refine lv_iadd hx hb dL_law_393 ?_
  rw [show nI (1 + 5 * t) + (2 : Int32) = nI (1 + 5 * t + 2) from nI_add _ 2]
  refine va_sld hx hb hX hbl hbA w.2.2.2.2 (vp_in_nI (by omega) (by omega)) dL_law_394 ?_
  rw [nI_clamp (show 1 + 5 * t + 2 < 2 ^ 31 by omega)]
  refine L_cp C hl.1 w (fun E σ ok hCR => s_view l D cI cZ cN cO _ E n σ M (xs (1 + 5 * t + 1)) (xs (1 + 5 * t + 2)) ok hCR hi) kM_L_72 kI_X3_view kS_X3_view kD_X3_view (show yX3_view.cls = RX3 ∧ yX3_view.cls ≠ "java/lang/invoke/MethodHandle" ∧ yX3_view.cls ≠ "java/lang/invoke/VarHandle" ∧ (parseMethodDescriptor yX3_view.desc).map (fun d => d.parameters.length) = some 2 from by decide +kernel) rfl rfl ⟨Nat.le_of_ble_eq_true rfl, Nat.le_of_ble_eq_true rfl⟩ rfl (lv_room (Nat.le_of_ble_eq_true rfl)) dL_law_395 ⟨(by show (300 + 2 * t) + 0 ≤ 601024; omega), (by show (200000 + 43 * t) + 0 ≤ 7293000; omega)⟩ (fun r1 hr1 => ?_)
  refine lv_pop hx hb dL_law_398 rfl ?_
  refine lv_aload_n hx hb dL_law_399 rfl (lv_at hl 2 rfl) ?_
  refine lv_aload_n hx hb dL_law_400 rfl (lv_at hl 4 rfl) ?_
  refine lv_iload hx hb dL_law_401 (lv_at hl 0 rfl) ?_
  refine lv_iconst (v := 1) hx hb dL_law_403 (by decide) ?_
  refine lv_iadd hx hb dL_law_404 ?_
  rw [show nI (1 + 5 * t) + (1 : Int32) = nI (1 + 5 * t + 1) from nI_add _ 1]
  refine va_sld hx hb hX hbl hbA w.2.2.2.2 (vp_in_nI (by omega) (by omega)) dL_law_405 ?_
  rw [nI_clamp (show 1 + 5 * t + 1 < 2 ^ 31 by omega)]
  refine lv_aload_n hx hb dL_law_406 rfl (lv_at hl 4 rfl) ?_
  refine lv_iload hx hb dL_law_407 (lv_at hl 0 rfl) ?_
  refine lv_iconst (v := 2) hx hb dL_law_409 (by decide) ?_
  refine lv_iadd hx hb dL_law_410 ?_
  rw [show nI (1 + 5 * t) + (2 : Int32) = nI (1 + 5 * t + 2) from nI_add _ 2]
  refine va_sld hx hb hX hbl hbA w.2.2.2.2 (vp_in_nI (by omega) (by omega)) dL_law_411 ?_
  rw [nI_clamp (show 1 + 5 * t + 2 < 2 ^ 31 by omega)]
  refine L_ri (rest := []) C hl.1 w (fun σ ok hR => t_view l D cI cZ cN cO mm d n σ M (xs (1 + 5 * t + 1)) (xs (1 + 5 * t + 2)) ok hR hi hn) kM_L_75 kI_X4_view kS_X4_view kD_X4_view (show yX4_view.cls = RX4 ∧ yX4_view.cls ≠ "java/lang/invoke/MethodHandle" ∧ yX4_view.cls ≠ "java/lang/invoke/VarHandle" ∧ (parseMethodDescriptor yX4_view.desc).map (fun d => d.parameters.length) = some 2 from by decide +kernel) rfl rfl ⟨Nat.le_of_ble_eq_true rfl, Nat.le_of_ble_eq_true rfl⟩ rfl (lv_room (Nat.le_of_ble_eq_true rfl)) dL_law_412 ⟨(by show (300 + 2 * t) + 0 ≤ 601024; omega), (by show (200000 + 43 * t) + 0 ≤ 7293000; omega)⟩ (fun r2 H locs hr2 w => ?_)
  refine lv_pop hx hb dL_law_415 rfl ?_
  refine lv_goto (tgt := 605) hx hb dL_law_416 (by decide) ?_
  refine W.widen (k := (300 + 2 * t + 2)) (n := (200000 + 43 * t + 43)) (by omega) (by omega) ?_
  exact kk _ _ _ _ _ w hi hI (by omega) ls (lv_sub hl [0, 1, 2, 3, 4] rfl)
set_option maxHeartbeats 4000000 in
set_option maxRecDepth 100000 in
theorem lc_node {p : Program} {l : Launch} {e : Env} {s : State} {m : MethodId} {below : List Frame} {meth : Method} {c : Code} {b L : Nat} {xs : Nat → Int32} {D : va_G} {cI cZ cN cO cL : ClassId} {x n mm oo t : Nat} {d : Nat → Nat} {Q : State → Prop} (C : LC p l s m c b D cI cZ cN cO cL) (hX : va_X b L xs s s.heap) (hbl : b < s.heap.size) (hn : n ≤ 31) (hn3 : 3 ≤ n) (hL : L ≤ 2561) (ht : 5 * t + 6 ≤ L) (M : MS) (th : Int32) (fo : Nat → Int64) (H : Heap) (locs : List Loc) (w : LW D cI cZ cN cO cL s x n M M th mm d oo fo H locs) (hi : mInv n M) (hI : mIdl n M) (hM5 : M.1 0 0 5 ≤ 2000 * t) (ls : Array Slot) (hl : lv_has ls 7 [(4, .int (nI (1 + 5 * t))), (3, .ref oo), (2, .ref mm), (1, .ref x), (0, .ref b)]) (kk : (∀ (M : MS) (th : Int32) (fo : Nat → Int64) (H : Heap) (locs : List Loc), LW D cI cZ cN cO cL s x n M M th mm d oo fo H locs → mInv n M → mIdl n M → M.1 0 0 5 ≤ 2000 * (t + 1) → ∀ ls : Array Slot, lv_has ls 7 [(4, .int (nI (1 + 5 * t))), (3, .ref oo), (2, .ref mm), (1, .ref x), (0, .ref b)] → W p l e room_1 s m #[Value.ref b] below meth c H locs (300 + 2 * t + 2) (200000 + 43 * t + 43) Q (F0 m 605 ls []))) : W p l e room_1 s m #[Value.ref b] below meth c H locs (300 + 2 * t) (200000 + 43 * t) Q (F0 m 419 ls []) := by
  have hx := C.1.1
  have hb := C.1.2.1
  have hbA : ¬ (fun q => s.heap.size ≤ q) b := Nat.not_le.mpr hbl
  refine lv_aload_n hx hb dL_law_419 rfl (lv_at hl 3 rfl) ?_
  refine lv_aload_n hx hb dL_law_420 rfl (lv_at hl 4 rfl) ?_
  refine lv_iload hx hb dL_law_421 (lv_at hl 0 rfl) ?_
  refine lv_iconst (v := 1) hx hb dL_law_423 (by decide) ?_
  refine lv_iadd hx hb dL_law_424 ?_
  rw [show nI (1 + 5 * t) + (1 : Int32) = nI (1 + 5 * t + 1) from nI_add _ 1]
  refine va_sld hx hb hX hbl hbA w.2.2.2.2 (vp_in_nI (by omega) (by omega)) dL_law_425 ?_
  rw [nI_clamp (show 1 + 5 * t + 1 < 2 ^ 31 by omega)]
  refine lv_aload_n hx hb dL_law_426 rfl (lv_at hl 4 rfl) ?_
  refine lv_iload hx hb dL_law_427 (lv_at hl 0 rfl) ?_
  refine lv_iconst (v := 2) hx hb dL_law_429 (by decide) ?_
  refine lv_iadd hx hb dL_law_430 ?_
  rw [show nI (1 + 5 * t) + (2 : Int32) = nI (1 + 5 * t + 2) from nI_add _ 2]
  refine va_sld hx hb hX hbl hbA w.2.2.2.2 (vp_in_nI (by omega) (by omega)) dL_law_431 ?_
  rw [nI_clamp (show 1 + 5 * t + 2 < 2 ^ 31 by omega)]
  refine L_cp C hl.1 w (fun E σ ok hCR => s_node l D cI cZ cN cO _ E n σ M (xs (1 + 5 * t + 1)) (xs (1 + 5 * t + 2)) ok hCR hi) kM_L_76 kI_X3_node kS_X3_node kD_X3_node (show yX3_node.cls = RX3 ∧ yX3_node.cls ≠ "java/lang/invoke/MethodHandle" ∧ yX3_node.cls ≠ "java/lang/invoke/VarHandle" ∧ (parseMethodDescriptor yX3_node.desc).map (fun d => d.parameters.length) = some 2 from by decide +kernel) rfl rfl ⟨Nat.le_of_ble_eq_true rfl, Nat.le_of_ble_eq_true rfl⟩ rfl (lv_room (Nat.le_of_ble_eq_true rfl)) dL_law_432 ⟨(by show (300 + 2 * t) + 0 ≤ 601024; omega), (by show (200000 + 43 * t) + 0 ≤ 7293000; omega)⟩ (fun r1 hr1 => ?_)
  refine lv_pop hx hb dL_law_435 rfl ?_
  refine lv_aload_n hx hb dL_law_436 rfl (lv_at hl 2 rfl) ?_
  refine lv_aload_n hx hb dL_law_437 rfl (lv_at hl 4 rfl) ?_
  refine lv_iload hx hb dL_law_438 (lv_at hl 0 rfl) ?_
  refine lv_iconst (v := 1) hx hb dL_law_440 (by decide) ?_
  refine lv_iadd hx hb dL_law_441 ?_
  rw [show nI (1 + 5 * t) + (1 : Int32) = nI (1 + 5 * t + 1) from nI_add _ 1]
  refine va_sld hx hb hX hbl hbA w.2.2.2.2 (vp_in_nI (by omega) (by omega)) dL_law_442 ?_
  rw [nI_clamp (show 1 + 5 * t + 1 < 2 ^ 31 by omega)]
  refine lv_aload_n hx hb dL_law_443 rfl (lv_at hl 4 rfl) ?_
  refine lv_iload hx hb dL_law_444 (lv_at hl 0 rfl) ?_
  refine lv_iconst (v := 2) hx hb dL_law_446 (by decide) ?_
  refine lv_iadd hx hb dL_law_447 ?_
  rw [show nI (1 + 5 * t) + (2 : Int32) = nI (1 + 5 * t + 2) from nI_add _ 2]
  refine va_sld hx hb hX hbl hbA w.2.2.2.2 (vp_in_nI (by omega) (by omega)) dL_law_448 ?_
  rw [nI_clamp (show 1 + 5 * t + 2 < 2 ^ 31 by omega)]
  refine L_ri (rest := []) C hl.1 w (fun σ ok hR => t_node l D cI cZ cN cO mm d n σ M (xs (1 + 5 * t + 1)) (xs (1 + 5 * t + 2)) ok hR hi hn hI) kM_L_79 kI_X4_node kS_X4_node kD_X4_node (show yX4_node.cls = RX4 ∧ yX4_node.cls ≠ "java/lang/invoke/MethodHandle" ∧ yX4_node.cls ≠ "java/lang/invoke/VarHandle" ∧ (parseMethodDescriptor yX4_node.desc).map (fun d => d.parameters.length) = some 2 from by decide +kernel) rfl rfl ⟨Nat.le_of_ble_eq_true rfl, Nat.le_of_ble_eq_true rfl⟩ rfl (lv_room (Nat.le_of_ble_eq_true rfl)) dL_law_449 ⟨(by show (300 + 2 * t) + 0 ≤ 601024; omega), (by show (200000 + 43 * t) + 0 ≤ 7293000; omega)⟩ (fun r2 H locs hr2 w => ?_)
  refine lv_pop hx hb dL_law_452 rfl ?_
  refine lv_goto (tgt := 605) hx hb dL_law_453 (by decide) ?_
  refine W.widen (k := (300 + 2 * t + 2)) (n := (200000 + 43 * t + 43)) (by omega) (by omega) ?_
  exact kk _ _ _ _ _ w hi hI (by omega) ls (lv_sub hl [0, 1, 2, 3, 4] rfl)
set_option maxHeartbeats 4000000 in
set_option maxRecDepth 100000 in
theorem lc_kept {p : Program} {l : Launch} {e : Env} {s : State} {m : MethodId} {below : List Frame} {meth : Method} {c : Code} {b L : Nat} {xs : Nat → Int32} {D : va_G} {cI cZ cN cO cL : ClassId} {x n mm oo t : Nat} {d : Nat → Nat} {Q : State → Prop} (C : LC p l s m c b D cI cZ cN cO cL) (hX : va_X b L xs s s.heap) (hbl : b < s.heap.size) (hn : n ≤ 31) (hn3 : 3 ≤ n) (hL : L ≤ 2561) (ht : 5 * t + 6 ≤ L) (M : MS) (th : Int32) (fo : Nat → Int64) (H : Heap) (locs : List Loc) (w : LW D cI cZ cN cO cL s x n M M th mm d oo fo H locs) (hi : mInv n M) (hI : mIdl n M) (hM5 : M.1 0 0 5 ≤ 2000 * t) (ls : Array Slot) (hl : lv_has ls 7 [(4, .int (nI (1 + 5 * t))), (3, .ref oo), (2, .ref mm), (1, .ref x), (0, .ref b)]) (kk : (∀ (M : MS) (th : Int32) (fo : Nat → Int64) (H : Heap) (locs : List Loc), LW D cI cZ cN cO cL s x n M M th mm d oo fo H locs → mInv n M → mIdl n M → M.1 0 0 5 ≤ 2000 * (t + 1) → ∀ ls : Array Slot, lv_has ls 7 [(4, .int (nI (1 + 5 * t))), (3, .ref oo), (2, .ref mm), (1, .ref x), (0, .ref b)] → W p l e room_1 s m #[Value.ref b] below meth c H locs (300 + 2 * t + 2) (200000 + 43 * t + 43) Q (F0 m 605 ls []))) : W p l e room_1 s m #[Value.ref b] below meth c H locs (300 + 2 * t) (200000 + 43 * t) Q (F0 m 456 ls []) := by
  have hx := C.1.1
  have hb := C.1.2.1
  have hbA : ¬ (fun q => s.heap.size ≤ q) b := Nat.not_le.mpr hbl
  refine lv_aload_n hx hb dL_law_456 rfl (lv_at hl 3 rfl) ?_
  refine lv_aload_n hx hb dL_law_457 rfl (lv_at hl 4 rfl) ?_
  refine lv_iload hx hb dL_law_458 (lv_at hl 0 rfl) ?_
  refine lv_iconst (v := 1) hx hb dL_law_460 (by decide) ?_
  refine lv_iadd hx hb dL_law_461 ?_
  rw [show nI (1 + 5 * t) + (1 : Int32) = nI (1 + 5 * t + 1) from nI_add _ 1]
  refine va_sld hx hb hX hbl hbA w.2.2.2.2 (vp_in_nI (by omega) (by omega)) dL_law_462 ?_
  rw [nI_clamp (show 1 + 5 * t + 1 < 2 ^ 31 by omega)]
  refine lv_aload_n hx hb dL_law_463 rfl (lv_at hl 4 rfl) ?_
  refine lv_iload hx hb dL_law_464 (lv_at hl 0 rfl) ?_
  refine lv_iconst (v := 2) hx hb dL_law_466 (by decide) ?_
  refine lv_iadd hx hb dL_law_467 ?_
  rw [show nI (1 + 5 * t) + (2 : Int32) = nI (1 + 5 * t + 2) from nI_add _ 2]
  refine va_sld hx hb hX hbl hbA w.2.2.2.2 (vp_in_nI (by omega) (by omega)) dL_law_468 ?_
  rw [nI_clamp (show 1 + 5 * t + 2 < 2 ^ 31 by omega)]
  refine L_cp C hl.1 w (fun E σ ok hCR => s_kept l D cI cZ cN cO _ E n σ M (xs (1 + 5 * t + 1)) (xs (1 + 5 * t + 2)) ok hCR hi) kM_L_80 kI_X3_kept kS_X3_kept kD_X3_kept (show yX3_kept.cls = RX3 ∧ yX3_kept.cls ≠ "java/lang/invoke/MethodHandle" ∧ yX3_kept.cls ≠ "java/lang/invoke/VarHandle" ∧ (parseMethodDescriptor yX3_kept.desc).map (fun d => d.parameters.length) = some 2 from by decide +kernel) rfl rfl ⟨Nat.le_of_ble_eq_true rfl, Nat.le_of_ble_eq_true rfl⟩ rfl (lv_room (Nat.le_of_ble_eq_true rfl)) dL_law_469 ⟨(by show (300 + 2 * t) + 0 ≤ 601024; omega), (by show (200000 + 43 * t) + 0 ≤ 7293000; omega)⟩ (fun r1 hr1 => ?_)
  refine lv_pop hx hb dL_law_472 rfl ?_
  refine lv_aload_n hx hb dL_law_473 rfl (lv_at hl 2 rfl) ?_
  refine lv_aload_n hx hb dL_law_474 rfl (lv_at hl 4 rfl) ?_
  refine lv_iload hx hb dL_law_475 (lv_at hl 0 rfl) ?_
  refine lv_iconst (v := 1) hx hb dL_law_477 (by decide) ?_
  refine lv_iadd hx hb dL_law_478 ?_
  rw [show nI (1 + 5 * t) + (1 : Int32) = nI (1 + 5 * t + 1) from nI_add _ 1]
  refine va_sld hx hb hX hbl hbA w.2.2.2.2 (vp_in_nI (by omega) (by omega)) dL_law_479 ?_
  rw [nI_clamp (show 1 + 5 * t + 1 < 2 ^ 31 by omega)]
  refine lv_aload_n hx hb dL_law_480 rfl (lv_at hl 4 rfl) ?_
  refine lv_iload hx hb dL_law_481 (lv_at hl 0 rfl) ?_
  refine lv_iconst (v := 2) hx hb dL_law_483 (by decide) ?_
  refine lv_iadd hx hb dL_law_484 ?_
  rw [show nI (1 + 5 * t) + (2 : Int32) = nI (1 + 5 * t + 2) from nI_add _ 2]
  refine va_sld hx hb hX hbl hbA w.2.2.2.2 (vp_in_nI (by omega) (by omega)) dL_law_485 ?_
  rw [nI_clamp (show 1 + 5 * t + 2 < 2 ^ 31 by omega)]
  refine L_ri (rest := []) C hl.1 w (fun σ ok hR => t_kept l D cI cZ cN cO mm d n σ M (xs (1 + 5 * t + 1)) (xs (1 + 5 * t + 2)) ok hR hi hn) kM_L_83 kI_X4_kept kS_X4_kept kD_X4_kept (show yX4_kept.cls = RX4 ∧ yX4_kept.cls ≠ "java/lang/invoke/MethodHandle" ∧ yX4_kept.cls ≠ "java/lang/invoke/VarHandle" ∧ (parseMethodDescriptor yX4_kept.desc).map (fun d => d.parameters.length) = some 2 from by decide +kernel) rfl rfl ⟨Nat.le_of_ble_eq_true rfl, Nat.le_of_ble_eq_true rfl⟩ rfl (lv_room (Nat.le_of_ble_eq_true rfl)) dL_law_486 ⟨(by show (300 + 2 * t) + 0 ≤ 601024; omega), (by show (200000 + 43 * t) + 0 ≤ 7293000; omega)⟩ (fun r2 H locs hr2 w => ?_)
  refine lv_pop hx hb dL_law_489 rfl ?_
  refine lv_goto (tgt := 605) hx hb dL_law_490 (by decide) ?_
  refine W.widen (k := (300 + 2 * t + 2)) (n := (200000 + 43 * t + 43)) (by omega) (by omega) ?_
  exact kk _ _ _ _ _ w hi hI (by omega) ls (lv_sub hl [0, 1, 2, 3, 4] rfl)
set_option maxHeartbeats 4000000 in
set_option maxRecDepth 100000 in
theorem lc_message {p : Program} {l : Launch} {e : Env} {s : State} {m : MethodId} {below : List Frame} {meth : Method} {c : Code} {b L : Nat} {xs : Nat → Int32} {D : va_G} {cI cZ cN cO cL : ClassId} {x n mm oo t : Nat} {d : Nat → Nat} {Q : State → Prop} (C : LC p l s m c b D cI cZ cN cO cL) (hX : va_X b L xs s s.heap) (hbl : b < s.heap.size) (hn : n ≤ 31) (hn3 : 3 ≤ n) (hL : L ≤ 2561) (ht : 5 * t + 6 ≤ L) (M : MS) (th : Int32) (fo : Nat → Int64) (H : Heap) (locs : List Loc) (w : LW D cI cZ cN cO cL s x n M M th mm d oo fo H locs) (hi : mInv n M) (hI : mIdl n M) (hM5 : M.1 0 0 5 ≤ 2000 * t) (ls : Array Slot) (hl : lv_has ls 7 [(4, .int (nI (1 + 5 * t))), (3, .ref oo), (2, .ref mm), (1, .ref x), (0, .ref b)]) (kk : (∀ (M : MS) (th : Int32) (fo : Nat → Int64) (H : Heap) (locs : List Loc), LW D cI cZ cN cO cL s x n M M th mm d oo fo H locs → mInv n M → mIdl n M → M.1 0 0 5 ≤ 2000 * (t + 1) → ∀ ls : Array Slot, lv_has ls 7 [(4, .int (nI (1 + 5 * t))), (3, .ref oo), (2, .ref mm), (1, .ref x), (0, .ref b)] → W p l e room_1 s m #[Value.ref b] below meth c H locs (300 + 2 * t + 2) (200000 + 43 * t + 43) Q (F0 m 605 ls []))) : W p l e room_1 s m #[Value.ref b] below meth c H locs (300 + 2 * t) (200000 + 43 * t) Q (F0 m 493 ls []) := by
  have hx := C.1.1
  have hb := C.1.2.1
  have hbA : ¬ (fun q => s.heap.size ≤ q) b := Nat.not_le.mpr hbl
  refine lv_aload_n hx hb dL_law_493 rfl (lv_at hl 3 rfl) ?_
  refine lv_aload_n hx hb dL_law_494 rfl (lv_at hl 4 rfl) ?_
  refine lv_iload hx hb dL_law_495 (lv_at hl 0 rfl) ?_
  refine lv_iconst (v := 1) hx hb dL_law_497 (by decide) ?_
  refine lv_iadd hx hb dL_law_498 ?_
  rw [show nI (1 + 5 * t) + (1 : Int32) = nI (1 + 5 * t + 1) from nI_add _ 1]
  refine va_sld hx hb hX hbl hbA w.2.2.2.2 (vp_in_nI (by omega) (by omega)) dL_law_499 ?_
  rw [nI_clamp (show 1 + 5 * t + 1 < 2 ^ 31 by omega)]
  refine lv_aload_n hx hb dL_law_500 rfl (lv_at hl 4 rfl) ?_
  refine lv_iload hx hb dL_law_501 (lv_at hl 0 rfl) ?_
  refine lv_iconst (v := 2) hx hb dL_law_503 (by decide) ?_
  refine lv_iadd hx hb dL_law_504 ?_
  rw [show nI (1 + 5 * t) + (2 : Int32) = nI (1 + 5 * t + 2) from nI_add _ 2]
  refine va_sld hx hb hX hbl hbA w.2.2.2.2 (vp_in_nI (by omega) (by omega)) dL_law_505 ?_
  rw [nI_clamp (show 1 + 5 * t + 2 < 2 ^ 31 by omega)]
  refine L_cp C hl.1 w (fun E σ ok hCR => s_message l D cI cZ cN cO _ E n σ M (xs (1 + 5 * t + 1)) (xs (1 + 5 * t + 2)) ok hCR hi) kM_L_84 kI_X3_message kS_X3_message kD_X3_message (show yX3_message.cls = RX3 ∧ yX3_message.cls ≠ "java/lang/invoke/MethodHandle" ∧ yX3_message.cls ≠ "java/lang/invoke/VarHandle" ∧ (parseMethodDescriptor yX3_message.desc).map (fun d => d.parameters.length) = some 2 from by decide +kernel) rfl rfl ⟨Nat.le_of_ble_eq_true rfl, Nat.le_of_ble_eq_true rfl⟩ rfl (lv_room (Nat.le_of_ble_eq_true rfl)) dL_law_506 ⟨(by show (300 + 2 * t) + 0 ≤ 601024; omega), (by show (200000 + 43 * t) + 0 ≤ 7293000; omega)⟩ (fun r1 hr1 => ?_)
  refine lv_pop hx hb dL_law_509 rfl ?_
  refine lv_aload_n hx hb dL_law_510 rfl (lv_at hl 2 rfl) ?_
  refine lv_aload_n hx hb dL_law_511 rfl (lv_at hl 4 rfl) ?_
  refine lv_iload hx hb dL_law_512 (lv_at hl 0 rfl) ?_
  refine lv_iconst (v := 1) hx hb dL_law_514 (by decide) ?_
  refine lv_iadd hx hb dL_law_515 ?_
  rw [show nI (1 + 5 * t) + (1 : Int32) = nI (1 + 5 * t + 1) from nI_add _ 1]
  refine va_sld hx hb hX hbl hbA w.2.2.2.2 (vp_in_nI (by omega) (by omega)) dL_law_516 ?_
  rw [nI_clamp (show 1 + 5 * t + 1 < 2 ^ 31 by omega)]
  refine lv_aload_n hx hb dL_law_517 rfl (lv_at hl 4 rfl) ?_
  refine lv_iload hx hb dL_law_518 (lv_at hl 0 rfl) ?_
  refine lv_iconst (v := 2) hx hb dL_law_520 (by decide) ?_
  refine lv_iadd hx hb dL_law_521 ?_
  rw [show nI (1 + 5 * t) + (2 : Int32) = nI (1 + 5 * t + 2) from nI_add _ 2]
  refine va_sld hx hb hX hbl hbA w.2.2.2.2 (vp_in_nI (by omega) (by omega)) dL_law_522 ?_
  rw [nI_clamp (show 1 + 5 * t + 2 < 2 ^ 31 by omega)]
  refine L_ri (rest := []) C hl.1 w (fun σ ok hR => t_message l D cI cZ cN cO mm d n σ M (xs (1 + 5 * t + 1)) (xs (1 + 5 * t + 2)) ok hR hi hn) kM_L_87 kI_X4_message kS_X4_message kD_X4_message (show yX4_message.cls = RX4 ∧ yX4_message.cls ≠ "java/lang/invoke/MethodHandle" ∧ yX4_message.cls ≠ "java/lang/invoke/VarHandle" ∧ (parseMethodDescriptor yX4_message.desc).map (fun d => d.parameters.length) = some 2 from by decide +kernel) rfl rfl ⟨Nat.le_of_ble_eq_true rfl, Nat.le_of_ble_eq_true rfl⟩ rfl (lv_room (Nat.le_of_ble_eq_true rfl)) dL_law_523 ⟨(by show (300 + 2 * t) + 0 ≤ 601024; omega), (by show (200000 + 43 * t) + 0 ≤ 7293000; omega)⟩ (fun r2 H locs hr2 w => ?_)
  refine lv_pop hx hb dL_law_526 rfl ?_
  refine lv_goto (tgt := 605) hx hb dL_law_527 (by decide) ?_
  refine W.widen (k := (300 + 2 * t + 2)) (n := (200000 + 43 * t + 43)) (by omega) (by omega) ?_
  exact kk _ _ _ _ _ w hi hI (by omega) ls (lv_sub hl [0, 1, 2, 3, 4] rfl)
set_option maxHeartbeats 4000000 in
set_option maxRecDepth 100000 in
theorem lc_vector {p : Program} {l : Launch} {e : Env} {s : State} {m : MethodId} {below : List Frame} {meth : Method} {c : Code} {b L : Nat} {xs : Nat → Int32} {D : va_G} {cI cZ cN cO cL : ClassId} {x n mm oo t : Nat} {d : Nat → Nat} {Q : State → Prop} (C : LC p l s m c b D cI cZ cN cO cL) (hX : va_X b L xs s s.heap) (hbl : b < s.heap.size) (hn : n ≤ 31) (hn3 : 3 ≤ n) (hL : L ≤ 2561) (ht : 5 * t + 6 ≤ L) (M : MS) (th : Int32) (fo : Nat → Int64) (H : Heap) (locs : List Loc) (w : LW D cI cZ cN cO cL s x n M M th mm d oo fo H locs) (hi : mInv n M) (hI : mIdl n M) (hM5 : M.1 0 0 5 ≤ 2000 * t) (ls : Array Slot) (hl : lv_has ls 7 [(4, .int (nI (1 + 5 * t))), (3, .ref oo), (2, .ref mm), (1, .ref x), (0, .ref b)]) (kk : (∀ (M : MS) (th : Int32) (fo : Nat → Int64) (H : Heap) (locs : List Loc), LW D cI cZ cN cO cL s x n M M th mm d oo fo H locs → mInv n M → mIdl n M → M.1 0 0 5 ≤ 2000 * (t + 1) → ∀ ls : Array Slot, lv_has ls 7 [(4, .int (nI (1 + 5 * t))), (3, .ref oo), (2, .ref mm), (1, .ref x), (0, .ref b)] → W p l e room_1 s m #[Value.ref b] below meth c H locs (300 + 2 * t + 2) (200000 + 43 * t + 43) Q (F0 m 605 ls []))) : W p l e room_1 s m #[Value.ref b] below meth c H locs (300 + 2 * t) (200000 + 43 * t) Q (F0 m 530 ls []) := by
  have hx := C.1.1
  have hb := C.1.2.1
  have hbA : ¬ (fun q => s.heap.size ≤ q) b := Nat.not_le.mpr hbl
  refine lv_aload_n hx hb dL_law_530 rfl (lv_at hl 3 rfl) ?_
  refine lv_aload_n hx hb dL_law_531 rfl (lv_at hl 4 rfl) ?_
  refine lv_iload hx hb dL_law_532 (lv_at hl 0 rfl) ?_
  refine lv_iconst (v := 1) hx hb dL_law_534 (by decide) ?_
  refine lv_iadd hx hb dL_law_535 ?_
  rw [show nI (1 + 5 * t) + (1 : Int32) = nI (1 + 5 * t + 1) from nI_add _ 1]
  refine va_sld hx hb hX hbl hbA w.2.2.2.2 (vp_in_nI (by omega) (by omega)) dL_law_536 ?_
  rw [nI_clamp (show 1 + 5 * t + 1 < 2 ^ 31 by omega)]
  refine lv_aload_n hx hb dL_law_537 rfl (lv_at hl 4 rfl) ?_
  refine lv_iload hx hb dL_law_538 (lv_at hl 0 rfl) ?_
  refine lv_iconst (v := 2) hx hb dL_law_540 (by decide) ?_
  refine lv_iadd hx hb dL_law_541 ?_
  rw [show nI (1 + 5 * t) + (2 : Int32) = nI (1 + 5 * t + 2) from nI_add _ 2]
  refine va_sld hx hb hX hbl hbA w.2.2.2.2 (vp_in_nI (by omega) (by omega)) dL_law_542 ?_
  rw [nI_clamp (show 1 + 5 * t + 2 < 2 ^ 31 by omega)]
  refine L_cp C hl.1 w (fun E σ ok hCR => s_vector l D cI cZ cN cO _ E n σ M (xs (1 + 5 * t + 1)) (xs (1 + 5 * t + 2)) ok hCR hi) kM_L_88 kI_X3_vector kS_X3_vector kD_X3_vector (show yX3_vector.cls = RX3 ∧ yX3_vector.cls ≠ "java/lang/invoke/MethodHandle" ∧ yX3_vector.cls ≠ "java/lang/invoke/VarHandle" ∧ (parseMethodDescriptor yX3_vector.desc).map (fun d => d.parameters.length) = some 2 from by decide +kernel) rfl rfl ⟨Nat.le_of_ble_eq_true rfl, Nat.le_of_ble_eq_true rfl⟩ rfl (lv_room (Nat.le_of_ble_eq_true rfl)) dL_law_543 ⟨(by show (300 + 2 * t) + 0 ≤ 601024; omega), (by show (200000 + 43 * t) + 0 ≤ 7293000; omega)⟩ (fun r1 hr1 => ?_)
  refine lv_aload_n hx hb dL_law_546 rfl (lv_at hl 2 rfl) ?_
  refine lv_aload_n hx hb dL_law_547 rfl (lv_at hl 4 rfl) ?_
  refine lv_iload hx hb dL_law_548 (lv_at hl 0 rfl) ?_
  refine lv_iconst (v := 1) hx hb dL_law_550 (by decide) ?_
  refine lv_iadd hx hb dL_law_551 ?_
  rw [show nI (1 + 5 * t) + (1 : Int32) = nI (1 + 5 * t + 1) from nI_add _ 1]
  refine va_sld hx hb hX hbl hbA w.2.2.2.2 (vp_in_nI (by omega) (by omega)) dL_law_552 ?_
  rw [nI_clamp (show 1 + 5 * t + 1 < 2 ^ 31 by omega)]
  refine lv_aload_n hx hb dL_law_553 rfl (lv_at hl 4 rfl) ?_
  refine lv_iload hx hb dL_law_554 (lv_at hl 0 rfl) ?_
  refine lv_iconst (v := 2) hx hb dL_law_556 (by decide) ?_
  refine lv_iadd hx hb dL_law_557 ?_
  rw [show nI (1 + 5 * t) + (2 : Int32) = nI (1 + 5 * t + 2) from nI_add _ 2]
  refine va_sld hx hb hX hbl hbA w.2.2.2.2 (vp_in_nI (by omega) (by omega)) dL_law_558 ?_
  rw [nI_clamp (show 1 + 5 * t + 2 < 2 ^ 31 by omega)]
  refine L_ri (rest := [.int r1]) C hl.1 w (fun σ ok hR => t_vector l D cI cZ cN cO mm d n σ M (xs (1 + 5 * t + 1)) (xs (1 + 5 * t + 2)) ok hR hi hn) kM_L_91 kI_X4_vector kS_X4_vector kD_X4_vector (show yX4_vector.cls = RX4 ∧ yX4_vector.cls ≠ "java/lang/invoke/MethodHandle" ∧ yX4_vector.cls ≠ "java/lang/invoke/VarHandle" ∧ (parseMethodDescriptor yX4_vector.desc).map (fun d => d.parameters.length) = some 2 from by decide +kernel) rfl rfl ⟨Nat.le_of_ble_eq_true rfl, Nat.le_of_ble_eq_true rfl⟩ rfl (lv_room (Nat.le_of_ble_eq_true rfl)) dL_law_559 ⟨(by show (300 + 2 * t) + 0 ≤ 601024; omega), (by show (200000 + 43 * t) + 0 ≤ 7293000; omega)⟩ (fun r2 H locs hr2 w => ?_)
  refine lv_icmp_eq (tgt := 605) hx hb dL_law_562 (by decide) (fun c_562 => ?_) (fun c_562 => absurd (hr1.trans hr2.symm) c_562)
  refine W.widen (k := (300 + 2 * t + 2)) (n := (200000 + 43 * t + 43)) (by omega) (by omega) ?_
  exact kk _ _ _ _ _ w hi hI (by omega) ls (lv_sub hl [0, 1, 2, 3, 4] rfl)
set_option maxHeartbeats 4000000 in
set_option maxRecDepth 100000 in
theorem lc_count {p : Program} {l : Launch} {e : Env} {s : State} {m : MethodId} {below : List Frame} {meth : Method} {c : Code} {b L : Nat} {xs : Nat → Int32} {D : va_G} {cI cZ cN cO cL : ClassId} {x n mm oo t : Nat} {d : Nat → Nat} {Q : State → Prop} (C : LC p l s m c b D cI cZ cN cO cL) (hX : va_X b L xs s s.heap) (hbl : b < s.heap.size) (hn : n ≤ 31) (hn3 : 3 ≤ n) (hL : L ≤ 2561) (ht : 5 * t + 6 ≤ L) (M : MS) (th : Int32) (fo : Nat → Int64) (H : Heap) (locs : List Loc) (w : LW D cI cZ cN cO cL s x n M M th mm d oo fo H locs) (hi : mInv n M) (hI : mIdl n M) (hM5 : M.1 0 0 5 ≤ 2000 * t) (ls : Array Slot) (hl : lv_has ls 7 [(4, .int (nI (1 + 5 * t))), (3, .ref oo), (2, .ref mm), (1, .ref x), (0, .ref b)]) (kk : (∀ (M : MS) (th : Int32) (fo : Nat → Int64) (H : Heap) (locs : List Loc), LW D cI cZ cN cO cL s x n M M th mm d oo fo H locs → mInv n M → mIdl n M → M.1 0 0 5 ≤ 2000 * (t + 1) → ∀ ls : Array Slot, lv_has ls 7 [(4, .int (nI (1 + 5 * t))), (3, .ref oo), (2, .ref mm), (1, .ref x), (0, .ref b)] → W p l e room_1 s m #[Value.ref b] below meth c H locs (300 + 2 * t + 2) (200000 + 43 * t + 43) Q (F0 m 605 ls []))) : W p l e room_1 s m #[Value.ref b] below meth c H locs (300 + 2 * t) (200000 + 43 * t) Q (F0 m 567 ls []) := by
  have hx := C.1.1
  have hb := C.1.2.1
  have hbA : ¬ (fun q => s.heap.size ≤ q) b := Nat.not_le.mpr hbl
  refine lv_aload_n hx hb dL_law_567 rfl (lv_at hl 3 rfl) ?_
  refine lv_aload_n hx hb dL_law_568 rfl (lv_at hl 4 rfl) ?_
  refine lv_iload hx hb dL_law_569 (lv_at hl 0 rfl) ?_
  refine lv_iconst (v := 1) hx hb dL_law_571 (by decide) ?_
  refine lv_iadd hx hb dL_law_572 ?_
  rw [show nI (1 + 5 * t) + (1 : Int32) = nI (1 + 5 * t + 1) from nI_add _ 1]
  refine va_sld hx hb hX hbl hbA w.2.2.2.2 (vp_in_nI (by omega) (by omega)) dL_law_573 ?_
  rw [nI_clamp (show 1 + 5 * t + 1 < 2 ^ 31 by omega)]
  refine L_cp C hl.1 w (fun E σ ok hCR => s_count l D cI cZ cN cO _ E n σ M (xs (1 + 5 * t + 1)) ok hCR hi) kM_L_92 kI_X3_count kS_X3_count kD_X3_count (show yX3_count.cls = RX3 ∧ yX3_count.cls ≠ "java/lang/invoke/MethodHandle" ∧ yX3_count.cls ≠ "java/lang/invoke/VarHandle" ∧ (parseMethodDescriptor yX3_count.desc).map (fun d => d.parameters.length) = some 1 from by decide +kernel) rfl rfl ⟨Nat.le_of_ble_eq_true rfl, Nat.le_of_ble_eq_true rfl⟩ rfl (lv_room (Nat.le_of_ble_eq_true rfl)) dL_law_574 ⟨(by show (300 + 2 * t) + 0 ≤ 601024; omega), (by show (200000 + 43 * t) + 0 ≤ 7293000; omega)⟩ (fun r1 hr1 => ?_)
  refine lv_pop hx hb dL_law_577 rfl ?_
  refine lv_aload_n hx hb dL_law_578 rfl (lv_at hl 2 rfl) ?_
  refine lv_aload_n hx hb dL_law_579 rfl (lv_at hl 4 rfl) ?_
  refine lv_iload hx hb dL_law_580 (lv_at hl 0 rfl) ?_
  refine lv_iconst (v := 1) hx hb dL_law_582 (by decide) ?_
  refine lv_iadd hx hb dL_law_583 ?_
  rw [show nI (1 + 5 * t) + (1 : Int32) = nI (1 + 5 * t + 1) from nI_add _ 1]
  refine va_sld hx hb hX hbl hbA w.2.2.2.2 (vp_in_nI (by omega) (by omega)) dL_law_584 ?_
  rw [nI_clamp (show 1 + 5 * t + 1 < 2 ^ 31 by omega)]
  refine L_ri (rest := []) C hl.1 w (fun σ ok hR => t_count l D cI cZ cN cO mm d n σ M (xs (1 + 5 * t + 1)) ok hR hi hn) kM_L_95 kI_X4_count kS_X4_count kD_X4_count (show yX4_count.cls = RX4 ∧ yX4_count.cls ≠ "java/lang/invoke/MethodHandle" ∧ yX4_count.cls ≠ "java/lang/invoke/VarHandle" ∧ (parseMethodDescriptor yX4_count.desc).map (fun d => d.parameters.length) = some 1 from by decide +kernel) rfl rfl ⟨Nat.le_of_ble_eq_true rfl, Nat.le_of_ble_eq_true rfl⟩ rfl (lv_room (Nat.le_of_ble_eq_true rfl)) dL_law_585 ⟨(by show (300 + 2 * t) + 0 ≤ 601024; omega), (by show (200000 + 43 * t) + 0 ≤ 7293000; omega)⟩ (fun r2 H locs hr2 w => ?_)
  refine lv_pop hx hb dL_law_588 rfl ?_
  refine lv_goto (tgt := 605) hx hb dL_law_589 (by decide) ?_
  refine W.widen (k := (300 + 2 * t + 2)) (n := (200000 + 43 * t + 43)) (by omega) (by omega) ?_
  exact kk _ _ _ _ _ w hi hI (by omega) ls (lv_sub hl [0, 1, 2, 3, 4] rfl)
set_option maxHeartbeats 4000000 in
set_option maxRecDepth 100000 in
theorem lc_astray {p : Program} {l : Launch} {e : Env} {s : State} {m : MethodId} {below : List Frame} {meth : Method} {c : Code} {b L : Nat} {xs : Nat → Int32} {D : va_G} {cI cZ cN cO cL : ClassId} {x n mm oo t : Nat} {d : Nat → Nat} {Q : State → Prop} (C : LC p l s m c b D cI cZ cN cO cL) (hX : va_X b L xs s s.heap) (hbl : b < s.heap.size) (hn : n ≤ 31) (hn3 : 3 ≤ n) (hL : L ≤ 2561) (ht : 5 * t + 6 ≤ L) (M : MS) (th : Int32) (fo : Nat → Int64) (H : Heap) (locs : List Loc) (w : LW D cI cZ cN cO cL s x n M M th mm d oo fo H locs) (hi : mInv n M) (hI : mIdl n M) (hM5 : M.1 0 0 5 ≤ 2000 * t) (ls : Array Slot) (hl : lv_has ls 7 [(4, .int (nI (1 + 5 * t))), (3, .ref oo), (2, .ref mm), (1, .ref x), (0, .ref b)]) (kk : (∀ (M : MS) (th : Int32) (fo : Nat → Int64) (H : Heap) (locs : List Loc), LW D cI cZ cN cO cL s x n M M th mm d oo fo H locs → mInv n M → mIdl n M → M.1 0 0 5 ≤ 2000 * (t + 1) → ∀ ls : Array Slot, lv_has ls 7 [(4, .int (nI (1 + 5 * t))), (3, .ref oo), (2, .ref mm), (1, .ref x), (0, .ref b)] → W p l e room_1 s m #[Value.ref b] below meth c H locs (300 + 2 * t + 2) (200000 + 43 * t + 43) Q (F0 m 605 ls []))) : W p l e room_1 s m #[Value.ref b] below meth c H locs (300 + 2 * t) (200000 + 43 * t) Q (F0 m 592 ls []) := by
  have hx := C.1.1
  have hb := C.1.2.1
  have hbA : ¬ (fun q => s.heap.size ≤ q) b := Nat.not_le.mpr hbl
  refine lv_aload_n hx hb dL_law_592 rfl (lv_at hl 3 rfl) ?_
  refine L_cp C hl.1 w (fun E σ ok hCR => s_astrayT l D cI cZ cN cO _ E n σ M  ok hCR hi) kM_L_96 kI_X3_astray kS_X3_astray kD_X3_astray (show yX3_astray.cls = RX3 ∧ yX3_astray.cls ≠ "java/lang/invoke/MethodHandle" ∧ yX3_astray.cls ≠ "java/lang/invoke/VarHandle" ∧ (parseMethodDescriptor yX3_astray.desc).map (fun d => d.parameters.length) = some 0 from by decide +kernel) rfl rfl ⟨Nat.le_of_ble_eq_true rfl, Nat.le_of_ble_eq_true rfl⟩ rfl (lv_room (Nat.le_of_ble_eq_true rfl)) dL_law_593 ⟨(by show (300 + 2 * t) + 0 ≤ 601024; omega), (by show (200000 + 43 * t) + 0 ≤ 7293000; omega)⟩ (fun r1 hr1 => ?_)
  refine lv_pop hx hb dL_law_596 rfl ?_
  refine lv_aload_n hx hb dL_law_597 rfl (lv_at hl 2 rfl) ?_
  refine L_ri (rest := []) C hl.1 w (fun σ ok hR => t_astray l D cI cZ cN cO mm d n σ M  ok hR hi hn) kM_L_100 kI_X4_astray kS_X4_astray kD_X4_astray (show yX4_astray.cls = RX4 ∧ yX4_astray.cls ≠ "java/lang/invoke/MethodHandle" ∧ yX4_astray.cls ≠ "java/lang/invoke/VarHandle" ∧ (parseMethodDescriptor yX4_astray.desc).map (fun d => d.parameters.length) = some 0 from by decide +kernel) rfl rfl ⟨Nat.le_of_ble_eq_true rfl, Nat.le_of_ble_eq_true rfl⟩ rfl (lv_room (Nat.le_of_ble_eq_true rfl)) dL_law_598 ⟨(by show (300 + 2 * t) + 0 ≤ 601024; omega), (by show (200000 + 43 * t) + 0 ≤ 7293000; omega)⟩ (fun r2 H locs hr2 w => ?_)
  refine lv_pop hx hb dL_law_601 rfl ?_
  refine lv_goto (tgt := 605) hx hb dL_law_602 (by decide) ?_
  refine W.widen (k := (300 + 2 * t + 2)) (n := (200000 + 43 * t + 43)) (by omega) (by omega) ?_
  exact kk _ _ _ _ _ w hi hI (by omega) ls (lv_sub hl [0, 1, 2, 3, 4] rfl)
set_option maxHeartbeats 4000000 in
set_option maxRecDepth 100000 in
theorem law_loop {p : Program} {l : Launch} {e : Env} {s : State} {m : MethodId} {below : List Frame} {meth : Method} {c : Code} {b L : Nat} {xs : Nat → Int32} {D : va_G} {cI cZ cN cO cL : ClassId} {x n mm oo : Nat} {d : Nat → Nat} {Q : State → Prop} (C : LC p l s m c b D cI cZ cN cO cL) (hX : va_X b L xs s s.heap) (hbl : b < s.heap.size) (hn : n ≤ 31) (hn3 : 3 ≤ n) (hL : L ≤ 2561) (fin : ∀ (H : Heap) (locs : List Loc) (cells slots : Nat), cells ≤ 601024 → slots ≤ 7293000 → va_S (fun q => s.heap.size ≤ q) s.heap H locs → ∀ ls : Array Slot, W p l e room_1 s m #[Value.ref b] below meth c H locs cells slots Q (F0 m 611 ls [])) : ∀ (fu t : Nat), L < 5 * t + 6 + 5 * fu → t ≤ 512 → ∀ (M : MS) (th : Int32) (fo : Nat → Int64) (H : Heap) (locs : List Loc), LW D cI cZ cN cO cL s x n M M th mm d oo fo H locs → mInv n M → mIdl n M → M.1 0 0 5 ≤ 2000 * t → ∀ ls : Array Slot, lv_has ls 7 [(4, .int (nI (1 + 5 * t))), (3, .ref oo), (2, .ref mm), (1, .ref x), (0, .ref b)] → W p l e room_1 s m #[Value.ref b] below meth c H locs (300 + 2 * t) (200000 + 43 * t) Q (F0 m 33 ls []) := by
  intro fu
  induction fu with
  | zero =>
    intro t hfu ht512 M th fo H locs w hi hI hM5 ls hl
    have hx := C.1.1
    have hb := C.1.2.1
    have hbA : ¬ (fun q => s.heap.size ≤ q) b := Nat.not_le.mpr hbl
    refine lv_iload hx hb dL_law_33 (lv_at hl 0 rfl) ?_
    refine lv_aload_n hx hb dL_law_35 rfl (lv_at hl 4 rfl) ?_
    refine va_slen hx hb hX hbl hbA w.2.2.2.2 dL_law_36 ?_
    refine lv_iconst (v := 5) hx hb dL_law_37 (by decide) ?_
    refine lv_isub hx hb dL_law_38 ?_
    refine lv_icmp_gt (tgt := 611) hx hb dL_law_39 (by decide) (fun c_39 => ?_) (fun c_39 => absurd ((cmp5 hL (by omega)).mpr (by omega)) c_39)
    exact fin _ _ _ _ (by omega) (by omega) w.2.2.2.2 _
  | succ fu ih =>
    intro t hfu ht512 M th fo H locs w hi hI hM5 ls hl
    have hx := C.1.1
    have hb := C.1.2.1
    have hbA : ¬ (fun q => s.heap.size ≤ q) b := Nat.not_le.mpr hbl
    refine lv_iload hx hb dL_law_33 (lv_at hl 0 rfl) ?_
    refine lv_aload_n hx hb dL_law_35 rfl (lv_at hl 4 rfl) ?_
    refine va_slen hx hb hX hbl hbA w.2.2.2.2 dL_law_36 ?_
    refine lv_iconst (v := 5) hx hb dL_law_37 (by decide) ?_
    refine lv_isub hx hb dL_law_38 ?_
    refine lv_icmp_gt (tgt := 611) hx hb dL_law_39 (by decide) (fun c_39 => ?_) (fun c_39 => ?_)
    · exact fin _ _ _ _ (by omega) (by omega) w.2.2.2.2 _
    have hge : 5 * t + 6 ≤ L := by
      rcases Nat.lt_or_ge L (6 + 5 * t) with q | q
      · exact absurd ((cmp5 hL (by omega)).mpr q) c_39
      · omega
    have kk : (∀ (M : MS) (th : Int32) (fo : Nat → Int64) (H : Heap) (locs : List Loc), LW D cI cZ cN cO cL s x n M M th mm d oo fo H locs → mInv n M → mIdl n M → M.1 0 0 5 ≤ 2000 * (t + 1) → ∀ ls : Array Slot, lv_has ls 7 [(4, .int (nI (1 + 5 * t))), (3, .ref oo), (2, .ref mm), (1, .ref x), (0, .ref b)] → W p l e room_1 s m #[Value.ref b] below meth c H locs (300 + 2 * t + 2) (200000 + 43 * t + 43) Q (F0 m 605 ls [])) := by
      intro M th fo H locs w hi hI hM5 ls hl
      refine lv_iinc (v := nI (1 + 5 * (t + 1))) (lv' := [(4, .int (nI (1 + 5 * (t + 1)))), (3, .ref oo), (2, .ref mm), (1, .ref x), (0, .ref b)]) hx hb dL_law_605 hl (k := 0) rfl (by rw [show Int32.ofInt 5 = nI 5 from by decide +kernel, nI_add]; rfl) (by decide) rfl (fun ls hl => ?_)
      refine lv_goto (tgt := 33) hx hb dL_law_608 (by decide) ?_
      exact ih (t + 1) (by omega) (by omega) M th fo H locs w hi hI hM5 ls hl
    refine lv_aload_n hx hb dL_law_42 rfl (lv_at hl 4 rfl) ?_
    refine lv_iload hx hb dL_law_43 (lv_at hl 0 rfl) ?_
    refine va_sld hx hb hX hbl hbA w.2.2.2.2 (vp_in_nI (by omega) (by omega)) dL_law_45 ?_
    refine lv_bipush (v := 15) hx hb dL_law_46 (by decide) ?_
    refine lv_iand hx hb dL_law_48 ?_
    refine lv_topi (fun tsw etsw => ?_)
    clear etsw
    rcases gSw tsw 13 13 rfl (by decide) with hsw | ⟨j, hj, hjx⟩
    · refine lv_tableOut (tgt := 605) hx hb dL_law_49 hsw (by decide) ?_
      refine W.widen (k := (300 + 2 * t + 2)) (n := (200000 + 43 * t + 43)) (by omega) (by omega) ?_
      exact kk M th fo H locs w hi hI (by omega) ls hl
    · rcases (show j = 0 ∨ j = 1 ∨ j = 2 ∨ j = 3 ∨ j = 4 ∨ j = 5 ∨ j = 6 ∨ j = 7 ∨ j = 8 ∨ j = 9 ∨ j = 10 ∨ j = 11 ∨ j = 12 ∨ j = 13 by omega) with hj0 | hj0 | hj0 | hj0 | hj0 | hj0 | hj0 | hj0 | hj0 | hj0 | hj0 | hj0 | hj0 | hj0
      · rw [hj0] at hjx
        subst hjx
        refine lv_tableIn (off := 71) (tgt := 120) hx hb dL_law_49 (by decide +kernel) (by decide +kernel) (by decide +kernel) (by decide) ?_
        exact lc_update C hX hbl hn hn3 hL hge M th fo H locs w hi hI hM5 ls hl kk
      · rw [hj0] at hjx
        subst hjx
        refine lv_tableIn (off := 135) (tgt := 184) hx hb dL_law_49 (by decide +kernel) (by decide +kernel) (by decide +kernel) (by decide) ?_
        exact lc_query C hX hbl hn hn3 hL hge M th fo H locs w hi hI hM5 ls hl kk
      · rw [hj0] at hjx
        subst hjx
        refine lv_tableIn (off := 187) (tgt := 236) hx hb dL_law_49 (by decide +kernel) (by decide +kernel) (by decide +kernel) (by decide) ?_
        exact lc_deliver C hX hbl hn hn3 hL hge M th fo H locs w hi hI hM5 ls hl kk
      · rw [hj0] at hjx
        subst hjx
        refine lv_tableIn (off := 215) (tgt := 264) hx hb dL_law_49 (by decide +kernel) (by decide +kernel) (by decide +kernel) (by decide) ?_
        exact lc_calm C hX hbl hn hn3 hL hge M th fo H locs w hi hI hM5 ls hl kk
      · rw [hj0] at hjx
        subst hjx
        refine lv_tableIn (off := 243) (tgt := 292) hx hb dL_law_49 (by decide +kernel) (by decide +kernel) (by decide +kernel) (by decide) ?_
        exact lc_crash C hX hbl hn hn3 hL hge M th fo H locs w hi hI hM5 ls hl kk
      · rw [hj0] at hjx
        subst hjx
        refine lv_tableIn (off := 271) (tgt := 320) hx hb dL_law_49 (by decide +kernel) (by decide +kernel) (by decide +kernel) (by decide) ?_
        exact lc_told C hX hbl hn hn3 hL hge M th fo H locs w hi hI hM5 ls hl kk
      · rw [hj0] at hjx
        subst hjx
        refine lv_tableIn (off := 308) (tgt := 357) hx hb dL_law_49 (by decide +kernel) (by decide +kernel) (by decide +kernel) (by decide) ?_
        exact lc_answer C hX hbl hn hn3 hL hge M th fo H locs w hi hI hM5 ls hl kk
      · rw [hj0] at hjx
        subst hjx
        refine lv_tableIn (off := 333) (tgt := 382) hx hb dL_law_49 (by decide +kernel) (by decide +kernel) (by decide +kernel) (by decide) ?_
        exact lc_view C hX hbl hn hn3 hL hge M th fo H locs w hi hI hM5 ls hl kk
      · rw [hj0] at hjx
        subst hjx
        refine lv_tableIn (off := 370) (tgt := 419) hx hb dL_law_49 (by decide +kernel) (by decide +kernel) (by decide +kernel) (by decide) ?_
        exact lc_node C hX hbl hn hn3 hL hge M th fo H locs w hi hI hM5 ls hl kk
      · rw [hj0] at hjx
        subst hjx
        refine lv_tableIn (off := 407) (tgt := 456) hx hb dL_law_49 (by decide +kernel) (by decide +kernel) (by decide +kernel) (by decide) ?_
        exact lc_kept C hX hbl hn hn3 hL hge M th fo H locs w hi hI hM5 ls hl kk
      · rw [hj0] at hjx
        subst hjx
        refine lv_tableIn (off := 444) (tgt := 493) hx hb dL_law_49 (by decide +kernel) (by decide +kernel) (by decide +kernel) (by decide) ?_
        exact lc_message C hX hbl hn hn3 hL hge M th fo H locs w hi hI hM5 ls hl kk
      · rw [hj0] at hjx
        subst hjx
        refine lv_tableIn (off := 481) (tgt := 530) hx hb dL_law_49 (by decide +kernel) (by decide +kernel) (by decide +kernel) (by decide) ?_
        exact lc_vector C hX hbl hn hn3 hL hge M th fo H locs w hi hI hM5 ls hl kk
      · rw [hj0] at hjx
        subst hjx
        refine lv_tableIn (off := 518) (tgt := 567) hx hb dL_law_49 (by decide +kernel) (by decide +kernel) (by decide +kernel) (by decide) ?_
        exact lc_count C hX hbl hn hn3 hL hge M th fo H locs w hi hI hM5 ls hl kk
      · rw [hj0] at hjx
        subst hjx
        refine lv_tableIn (off := 543) (tgt := 592) hx hb dL_law_49 (by decide +kernel) (by decide +kernel) (by decide +kernel) (by decide) ?_
        exact lc_astray C hX hbl hn hn3 hL hge M th fo H locs w hi hI hM5 ls hl kk
