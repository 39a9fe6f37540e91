set_option maxHeartbeats 4000000 in
set_option maxRecDepth 100000 in
theorem cs_unit {p : Program} {l : Launch} {e : Env} {s : State} {m : MethodId} {below : List Frame} {meth : Method} {c : Code} {b L : Nat} {xs : Nat → Int32} {D : va_G} {ka : Nat → ClassId} {al be : Nat → Nat} {o : Nat} {A : Nat → Prop} {hh : List ExceptionTableEntry} {Q : State → Prop} (hls : l.stackTraces = false) (C : fr_Cx p s m #[Value.ref b] meth c "FragileRulesLaw" code 7 ret hh fr_tbl fr_nw D vwCl (fr_ty ka) A) (hX : va_X b L xs s s.heap) (hbl : b < s.heap.size) (hbA : ¬ A b) (hL : L ≤ 2048) {f g : Nat → Nat → Int32} {h : Nat → Int64} {i : Int32} {H : Heap} {locs : List Loc} {ls : Array Slot} {cells slots : Nat} (hr : rl f g) (hi : 0 ≤ i.toInt ∧ i.toInt + 4 ≤ (L : Int)) (hf : cells + 1 ≤ room_1.cells ∧ slots + 6 ≤ room_1.slots) (hP : va_P D vwCl (lw_w ka al f be g o h) H) (hD : va_D A (lw_w ka al f be g o h)) (hS : va_S A s.heap H locs) (hl : lv_has ls 7 [(0, .ref b), (1, .ref (al 0)), (2, .ref (be 0)), (3, .ref o), (4, .int i)])
    (kk : ∀ (f g : Nat → Nat → Int32) (h : Nat → Int64) (H : Heap) (locs : List Loc) (ls : Array Slot), rl f g → va_P D vwCl (lw_w ka al f be g o h) H → va_D A (lw_w ka al f be g o h) → va_S A s.heap H locs → lv_has ls 7 [(0, .ref b), (1, .ref (al 0)), (2, .ref (be 0)), (3, .ref o), (4, .int i)] → W p l e room_1 s m #[Value.ref b] below meth c H locs (cells + 1) (slots + 6) Q (F0 m 958 ls [])) : W p l e room_1 s m #[Value.ref b] below meth c H locs cells slots Q (F0 m 108 ls []) := by
  obtain ⟨hx, hb, hml, hown, ht, hK, hlocks, hrt, hA, hN, hZ, hEx⟩ := id C
  refine lv_aload_n hx hb dW_law_108 rfl (lv_at hl 1 rfl) ?_
  refine lv_aload_n hx hb dW_law_109 rfl (lv_at hl 0 rfl) ?_
  refine lv_iload hx hb dW_law_110 (lv_at hl 4 rfl) ?_
  refine lv_iconst (v := 1) hx hb dW_law_112 (by decide) ?_
  refine lv_iadd hx hb dW_law_113 ?_
  refine va_sld hx hb hX hbl hbA hS (lw_idx hL hi (by decide)) dW_law_114 ?_
  refine lv_aload_n hx hb dW_law_115 rfl (lv_at hl 0 rfl) ?_
  refine lv_iload hx hb dW_law_116 (lv_at hl 4 rfl) ?_
  refine lv_iconst (v := 2) hx hb dW_law_118 (by decide) ?_
  refine lv_iadd hx hb dW_law_119 ?_
  refine va_sld hx hb hX hbl hbA hS (lw_idx hL hi (by decide)) dW_law_120 ?_
  refine lv_aload_n hx hb dW_law_121 rfl (lv_at hl 0 rfl) ?_
  refine lv_iload hx hb dW_law_122 (lv_at hl 4 rfl) ?_
  refine lv_iconst (v := 3) hx hb dW_law_124 (by decide) ?_
  refine lv_iadd hx hb dW_law_125 ?_
  refine va_sld hx hb hX hbl hbA hS (lw_idx hL hi (by decide)) dW_law_126 ?_
  refine lv_aload_n hx hb dW_law_127 rfl (lv_at hl 3 rfl) ?_
  refine sL_unit C hP hD hS hl.1 ⟨Nat.le_of_ble_eq_true rfl, Nat.le_of_ble_eq_true rfl⟩ (Nat.le_of_ble_eq_true rfl) hf hls hr.2.1.1 hr.2.1.2.1 (rl_ford hr) dW_law_128 (fun H locs hP hD hS => ?_)
  refine lv_istore (lv' := [(5, .int (rl_c2 xI (dn_unit f (xs (i + 1).toNatClampNeg) (xs (i + 2).toNatClampNeg) (xs (i + 3).toNatClampNeg)).1)), (0, .ref b), (1, .ref (al 0)), (2, .ref (be 0)), (3, .ref o), (4, .int i)]) hx hb dW_law_131 hl (by decide) rfl (fun ls hl => ?_)
  refine lv_aload_n hx hb dW_law_133 rfl (lv_at hl 3 rfl) ?_
  refine lv_aload_n hx hb dW_law_134 rfl (lv_at hl 1 rfl) ?_
  refine lv_iload hx hb dW_law_135 (lv_at hl 5 rfl) ?_
  refine lv_iconst (v := 1) hx hb dW_law_137 (by decide) ?_
  refine lv_iadd hx hb dW_law_138 ?_
  refine va_sld hx hb hX hbl hbA hS (lw_idx hL hi (by decide)) dW_law_139 ?_
  refine lv_aload_n hx hb dW_law_140 rfl (lv_at hl 1 rfl) ?_
  refine lv_iload hx hb dW_law_141 (lv_at hl 5 rfl) ?_
  refine lv_iconst (v := 2) hx hb dW_law_143 (by decide) ?_
  refine lv_iadd hx hb dW_law_144 ?_
  refine va_sld hx hb hX hbl hbA hS (lw_idx hL hi (by decide)) dW_law_145 ?_
  refine lv_aload_n hx hb dW_law_146 rfl (lv_at hl 1 rfl) ?_
  refine lv_iload hx hb dW_law_147 (lv_at hl 5 rfl) ?_
  refine lv_iconst (v := 3) hx hb dW_law_149 (by decide) ?_
  refine lv_iadd hx hb dW_law_150 ?_
  refine va_sld hx hb hX hbl hbA hS (lw_idx hL hi (by decide)) dW_law_151 ?_
  refine mL_unit C hP hD hS hl.1 ⟨Nat.le_of_ble_eq_true rfl, Nat.le_of_ble_eq_true rfl⟩ (Nat.le_of_ble_eq_true rfl) ⟨by have := hf.1; omega, by have := hf.2; omega⟩ (rl_mU hr) (rl_mR hr) (rl_mord hr) (rl_mB hr) dW_law_152 (fun H locs hP hD hS => ?_)
  refine lv_istore (lv' := [(6, .int (dn_m_unit g (xs (i + 1).toNatClampNeg) (xs (i + 2).toNatClampNeg) (xs (i + 3).toNatClampNeg)).1), (5, .int (rl_c2 xI (dn_unit f (xs (i + 1).toNatClampNeg) (xs (i + 2).toNatClampNeg) (xs (i + 3).toNatClampNeg)).1)), (0, .ref b), (1, .ref (al 0)), (2, .ref (be 0)), (3, .ref o), (4, .int i)]) hx hb dW_law_155 hl (by decide) rfl (fun ls hl => ?_)
  refine lv_aload_n hx hb dW_law_157 rfl (lv_at hl 4 rfl) ?_
  refine mL_thrown C hP hD hS hl.1 ⟨Nat.le_of_ble_eq_true rfl, Nat.le_of_ble_eq_true rfl⟩ (Nat.le_of_ble_eq_true rfl) ⟨by have := hf.1; omega, by have := hf.2; omega⟩  dW_law_158 (fun H locs hP hD hS => ?_)
  refine lv_iload hx hb dW_law_161 (lv_at hl 1 rfl) ?_
  have K := ro_unit hr (xs (i + 1).toNatClampNeg) (xs (i + 2).toNatClampNeg) (xs (i + 3).toNatClampNeg)
  have hrl : rl ((dn_unit f (xs (i + 1).toNatClampNeg) (xs (i + 2).toNatClampNeg) (xs (i + 3).toNatClampNeg)).2.2) ((dn_m_unit g (xs (i + 1).toNatClampNeg) (xs (i + 2).toNatClampNeg) (xs (i + 3).toNatClampNeg)).2) := K.2.2
  refine lv_icmp_eq (tgt := 168) hx hb dW_law_163 (by decide) (fun _ => ?_) (fun z => absurd K.1 z)
  refine lv_iload hx hb dW_law_168 (lv_at hl 1 rfl) ?_
  refine lv_if_ne (tgt := 185) hx hb dW_law_170 (by decide) (fun hk => ?_) (fun hk => ?_)
  · skip
    refine lv_goto (tgt := 958) hx hb dW_law_185 (by decide) ?_
    exact kk ((dn_unit f (xs (i + 1).toNatClampNeg) (xs (i + 2).toNatClampNeg) (xs (i + 3).toNatClampNeg)).2.2) ((dn_m_unit g (xs (i + 1).toNatClampNeg) (xs (i + 2).toNatClampNeg) (xs (i + 3).toNatClampNeg)).2) (lo_h h (dn_unit f (xs (i + 1).toNatClampNeg) (xs (i + 2).toNatClampNeg) (xs (i + 3).toNatClampNeg)).1 (dn_unit f (xs (i + 1).toNatClampNeg) (xs (i + 2).toNatClampNeg) (xs (i + 3).toNatClampNeg)).2.1) H locs ls hrl hP hD hS (lv_sub hl [2, 3, 4, 5, 6] rfl)
  · skip
    refine lv_aload_n hx hb dW_law_173 rfl (lv_at hl 5 rfl) ?_
    refine lv_iconst (v := 0) hx hb dW_law_174 (by decide) ?_
    refine va_lald hx hb hK hP 40 3 lw_w_o rfl lw_in dW_law_175 ?_
    refine lv_iload hx hb dW_law_176 (lv_at hl 0 rfl) ?_
    refine lv_i2l (v := ((dn_m_unit g (xs (i + 1).toNatClampNeg) (xs (i + 2).toNatClampNeg) (xs (i + 3).toNatClampNeg)).1).toInt64) hx hb dW_law_178 rfl ?_
    refine W.lcmp hx hb dW_law_179 ?_
    refine lv_if_eq (tgt := 185) hx hb dW_law_180 (by decide) (fun _ => ?_) (fun z => absurd (lo_out (rl_c2_0 hk) K.2.1) z)
    refine lv_goto (tgt := 958) hx hb dW_law_185 (by decide) ?_
    exact kk ((dn_unit f (xs (i + 1).toNatClampNeg) (xs (i + 2).toNatClampNeg) (xs (i + 3).toNatClampNeg)).2.2) ((dn_m_unit g (xs (i + 1).toNatClampNeg) (xs (i + 2).toNatClampNeg) (xs (i + 3).toNatClampNeg)).2) (lo_h h (dn_unit f (xs (i + 1).toNatClampNeg) (xs (i + 2).toNatClampNeg) (xs (i + 3).toNatClampNeg)).1 (dn_unit f (xs (i + 1).toNatClampNeg) (xs (i + 2).toNatClampNeg) (xs (i + 3).toNatClampNeg)).2.1) H locs ls hrl hP hD hS (lv_sub hl [2, 3, 4, 5, 6] rfl)

set_option maxHeartbeats 4000000 in
set_option maxRecDepth 100000 in
theorem cs_rule {p : Program} {l : Launch} {e : Env} {s : State} {m : MethodId} {below : List Frame} {meth : Method} {c : Code} {b L : Nat} {xs : Nat → Int32} {D : va_G} {ka : Nat → ClassId} {al be : Nat → Nat} {o : Nat} {A : Nat → Prop} {hh : List ExceptionTableEntry} {Q : State → Prop} (hls : l.stackTraces = false) (C : fr_Cx p s m #[Value.ref b] meth c "FragileRulesLaw" code 7 ret hh fr_tbl fr_nw D vwCl (fr_ty ka) A) (hX : va_X b L xs s s.heap) (hbl : b < s.heap.size) (hbA : ¬ A b) (hL : L ≤ 2048) {f g : Nat → Nat → Int32} {h : Nat → Int64} {i : Int32} {H : Heap} {locs : List Loc} {ls : Array Slot} {cells slots : Nat} (hr : rl f g) (hi : 0 ≤ i.toInt ∧ i.toInt + 4 ≤ (L : Int)) (hf : cells + 1 ≤ room_1.cells ∧ slots + 6 ≤ room_1.slots) (hP : va_P D vwCl (lw_w ka al f be g o h) H) (hD : va_D A (lw_w ka al f be g o h)) (hS : va_S A s.heap H locs) (hl : lv_has ls 7 [(0, .ref b), (1, .ref (al 0)), (2, .ref (be 0)), (3, .ref o), (4, .int i)])
    (kk : ∀ (f g : Nat → Nat → Int32) (h : Nat → Int64) (H : Heap) (locs : List Loc) (ls : Array Slot), rl f g → va_P D vwCl (lw_w ka al f be g o h) H → va_D A (lw_w ka al f be g o h) → va_S A s.heap H locs → lv_has ls 7 [(0, .ref b), (1, .ref (al 0)), (2, .ref (be 0)), (3, .ref o), (4, .int i)] → W p l e room_1 s m #[Value.ref b] below meth c H locs (cells + 1) (slots + 6) Q (F0 m 958 ls [])) : W p l e room_1 s m #[Value.ref b] below meth c H locs cells slots Q (F0 m 188 ls []) := by
  obtain ⟨hx, hb, hml, hown, ht, hK, hlocks, hrt, hA, hN, hZ, hEx⟩ := id C
  refine lv_aload_n hx hb dW_law_188 rfl (lv_at hl 1 rfl) ?_
  refine lv_aload_n hx hb dW_law_189 rfl (lv_at hl 0 rfl) ?_
  refine lv_iload hx hb dW_law_190 (lv_at hl 4 rfl) ?_
  refine lv_iconst (v := 1) hx hb dW_law_192 (by decide) ?_
  refine lv_iadd hx hb dW_law_193 ?_
  refine va_sld hx hb hX hbl hbA hS (lw_idx hL hi (by decide)) dW_law_194 ?_
  refine lv_aload_n hx hb dW_law_195 rfl (lv_at hl 0 rfl) ?_
  refine lv_iload hx hb dW_law_196 (lv_at hl 4 rfl) ?_
  refine lv_iconst (v := 2) hx hb dW_law_198 (by decide) ?_
  refine lv_iadd hx hb dW_law_199 ?_
  refine va_sld hx hb hX hbl hbA hS (lw_idx hL hi (by decide)) dW_law_200 ?_
  refine lv_aload_n hx hb dW_law_201 rfl (lv_at hl 0 rfl) ?_
  refine lv_iload hx hb dW_law_202 (lv_at hl 4 rfl) ?_
  refine lv_iconst (v := 3) hx hb dW_law_204 (by decide) ?_
  refine lv_iadd hx hb dW_law_205 ?_
  refine va_sld hx hb hX hbl hbA hS (lw_idx hL hi (by decide)) dW_law_206 ?_
  refine lv_aload_n hx hb dW_law_207 rfl (lv_at hl 3 rfl) ?_
  refine sL_rule C hP hD hS hl.1 ⟨Nat.le_of_ble_eq_true rfl, Nat.le_of_ble_eq_true rfl⟩ (Nat.le_of_ble_eq_true rfl) hf hls hr.2.1.2.1 dW_law_208 (fun H locs hP hD hS => ?_)
  refine lv_istore (lv' := [(5, .int (rl_c2 xI (dn_rule f (xs (i + 1).toNatClampNeg) (xs (i + 2).toNatClampNeg) (xs (i + 3).toNatClampNeg)).1)), (0, .ref b), (1, .ref (al 0)), (2, .ref (be 0)), (3, .ref o), (4, .int i)]) hx hb dW_law_211 hl (by decide) rfl (fun ls hl => ?_)
  refine lv_aload_n hx hb dW_law_213 rfl (lv_at hl 3 rfl) ?_
  refine lv_aload_n hx hb dW_law_214 rfl (lv_at hl 1 rfl) ?_
  refine lv_iload hx hb dW_law_215 (lv_at hl 5 rfl) ?_
  refine lv_iconst (v := 1) hx hb dW_law_217 (by decide) ?_
  refine lv_iadd hx hb dW_law_218 ?_
  refine va_sld hx hb hX hbl hbA hS (lw_idx hL hi (by decide)) dW_law_219 ?_
  refine lv_aload_n hx hb dW_law_220 rfl (lv_at hl 1 rfl) ?_
  refine lv_iload hx hb dW_law_221 (lv_at hl 5 rfl) ?_
  refine lv_iconst (v := 2) hx hb dW_law_223 (by decide) ?_
  refine lv_iadd hx hb dW_law_224 ?_
  refine va_sld hx hb hX hbl hbA hS (lw_idx hL hi (by decide)) dW_law_225 ?_
  refine lv_aload_n hx hb dW_law_226 rfl (lv_at hl 1 rfl) ?_
  refine lv_iload hx hb dW_law_227 (lv_at hl 5 rfl) ?_
  refine lv_iconst (v := 3) hx hb dW_law_229 (by decide) ?_
  refine lv_iadd hx hb dW_law_230 ?_
  refine va_sld hx hb hX hbl hbA hS (lw_idx hL hi (by decide)) dW_law_231 ?_
  refine mL_rule C hP hD hS hl.1 ⟨Nat.le_of_ble_eq_true rfl, Nat.le_of_ble_eq_true rfl⟩ (Nat.le_of_ble_eq_true rfl) ⟨by have := hf.1; omega, by have := hf.2; omega⟩ (rl_mR hr) dW_law_232 (fun H locs hP hD hS => ?_)
  refine lv_istore (lv' := [(6, .int (dn_m_rule g (xs (i + 1).toNatClampNeg) (xs (i + 2).toNatClampNeg) (xs (i + 3).toNatClampNeg)).1), (5, .int (rl_c2 xI (dn_rule f (xs (i + 1).toNatClampNeg) (xs (i + 2).toNatClampNeg) (xs (i + 3).toNatClampNeg)).1)), (0, .ref b), (1, .ref (al 0)), (2, .ref (be 0)), (3, .ref o), (4, .int i)]) hx hb dW_law_235 hl (by decide) rfl (fun ls hl => ?_)
  refine lv_aload_n hx hb dW_law_237 rfl (lv_at hl 4 rfl) ?_
  refine mL_thrown C hP hD hS hl.1 ⟨Nat.le_of_ble_eq_true rfl, Nat.le_of_ble_eq_true rfl⟩ (Nat.le_of_ble_eq_true rfl) ⟨by have := hf.1; omega, by have := hf.2; omega⟩  dW_law_238 (fun H locs hP hD hS => ?_)
  refine lv_iload hx hb dW_law_241 (lv_at hl 1 rfl) ?_
  have K := ro_rule hr (xs (i + 1).toNatClampNeg) (xs (i + 2).toNatClampNeg) (xs (i + 3).toNatClampNeg)
  have hrl : rl ((dn_rule f (xs (i + 1).toNatClampNeg) (xs (i + 2).toNatClampNeg) (xs (i + 3).toNatClampNeg)).2.2) ((dn_m_rule g (xs (i + 1).toNatClampNeg) (xs (i + 2).toNatClampNeg) (xs (i + 3).toNatClampNeg)).2) := K.2.2
  refine lv_icmp_eq (tgt := 248) hx hb dW_law_243 (by decide) (fun _ => ?_) (fun z => absurd K.1 z)
  refine lv_iload hx hb dW_law_248 (lv_at hl 1 rfl) ?_
  refine lv_if_ne (tgt := 265) hx hb dW_law_250 (by decide) (fun hk => ?_) (fun hk => ?_)
  · skip
    refine lv_goto (tgt := 958) hx hb dW_law_265 (by decide) ?_
    exact kk ((dn_rule f (xs (i + 1).toNatClampNeg) (xs (i + 2).toNatClampNeg) (xs (i + 3).toNatClampNeg)).2.2) ((dn_m_rule g (xs (i + 1).toNatClampNeg) (xs (i + 2).toNatClampNeg) (xs (i + 3).toNatClampNeg)).2) (lo_h h (dn_rule f (xs (i + 1).toNatClampNeg) (xs (i + 2).toNatClampNeg) (xs (i + 3).toNatClampNeg)).1 (dn_rule f (xs (i + 1).toNatClampNeg) (xs (i + 2).toNatClampNeg) (xs (i + 3).toNatClampNeg)).2.1) H locs ls hrl hP hD hS (lv_sub hl [2, 3, 4, 5, 6] rfl)
  · skip
    refine lv_aload_n hx hb dW_law_253 rfl (lv_at hl 5 rfl) ?_
    refine lv_iconst (v := 0) hx hb dW_law_254 (by decide) ?_
    refine va_lald hx hb hK hP 40 3 lw_w_o rfl lw_in dW_law_255 ?_
    refine lv_iload hx hb dW_law_256 (lv_at hl 0 rfl) ?_
    refine lv_i2l (v := ((dn_m_rule g (xs (i + 1).toNatClampNeg) (xs (i + 2).toNatClampNeg) (xs (i + 3).toNatClampNeg)).1).toInt64) hx hb dW_law_258 rfl ?_
    refine W.lcmp hx hb dW_law_259 ?_
    refine lv_if_eq (tgt := 265) hx hb dW_law_260 (by decide) (fun _ => ?_) (fun z => absurd (lo_out (rl_c2_0 hk) K.2.1) z)
    refine lv_goto (tgt := 958) hx hb dW_law_265 (by decide) ?_
    exact kk ((dn_rule f (xs (i + 1).toNatClampNeg) (xs (i + 2).toNatClampNeg) (xs (i + 3).toNatClampNeg)).2.2) ((dn_m_rule g (xs (i + 1).toNatClampNeg) (xs (i + 2).toNatClampNeg) (xs (i + 3).toNatClampNeg)).2) (lo_h h (dn_rule f (xs (i + 1).toNatClampNeg) (xs (i + 2).toNatClampNeg) (xs (i + 3).toNatClampNeg)).1 (dn_rule f (xs (i + 1).toNatClampNeg) (xs (i + 2).toNatClampNeg) (xs (i + 3).toNatClampNeg)).2.1) H locs ls hrl hP hD hS (lv_sub hl [2, 3, 4, 5, 6] rfl)

set_option maxHeartbeats 4000000 in
set_option maxRecDepth 100000 in
theorem cs_own {p : Program} {l : Launch} {e : Env} {s : State} {m : MethodId} {below : List Frame} {meth : Method} {c : Code} {b L : Nat} {xs : Nat → Int32} {D : va_G} {ka : Nat → ClassId} {al be : Nat → Nat} {o : Nat} {A : Nat → Prop} {hh : List ExceptionTableEntry} {Q : State → Prop} (hls : l.stackTraces = false) (C : fr_Cx p s m #[Value.ref b] meth c "FragileRulesLaw" code 7 ret hh fr_tbl fr_nw D vwCl (fr_ty ka) A) (hX : va_X b L xs s s.heap) (hbl : b < s.heap.size) (hbA : ¬ A b) (hL : L ≤ 2048) {f g : Nat → Nat → Int32} {h : Nat → Int64} {i : Int32} {H : Heap} {locs : List Loc} {ls : Array Slot} {cells slots : Nat} (hr : rl f g) (hi : 0 ≤ i.toInt ∧ i.toInt + 4 ≤ (L : Int)) (hf : cells + 1 ≤ room_1.cells ∧ slots + 6 ≤ room_1.slots) (hP : va_P D vwCl (lw_w ka al f be g o h) H) (hD : va_D A (lw_w ka al f be g o h)) (hS : va_S A s.heap H locs) (hl : lv_has ls 7 [(0, .ref b), (1, .ref (al 0)), (2, .ref (be 0)), (3, .ref o), (4, .int i)])
    (kk : ∀ (f g : Nat → Nat → Int32) (h : Nat → Int64) (H : Heap) (locs : List Loc) (ls : Array Slot), rl f g → va_P D vwCl (lw_w ka al f be g o h) H → va_D A (lw_w ka al f be g o h) → va_S A s.heap H locs → lv_has ls 7 [(0, .ref b), (1, .ref (al 0)), (2, .ref (be 0)), (3, .ref o), (4, .int i)] → W p l e room_1 s m #[Value.ref b] below meth c H locs (cells + 1) (slots + 6) Q (F0 m 958 ls [])) : W p l e room_1 s m #[Value.ref b] below meth c H locs cells slots Q (F0 m 268 ls []) := by
  obtain ⟨hx, hb, hml, hown, ht, hK, hlocks, hrt, hA, hN, hZ, hEx⟩ := id C
  refine lv_aload_n hx hb dW_law_268 rfl (lv_at hl 1 rfl) ?_
  refine lv_aload_n hx hb dW_law_269 rfl (lv_at hl 0 rfl) ?_
  refine lv_iload hx hb dW_law_270 (lv_at hl 4 rfl) ?_
  refine lv_iconst (v := 1) hx hb dW_law_272 (by decide) ?_
  refine lv_iadd hx hb dW_law_273 ?_
  refine va_sld hx hb hX hbl hbA hS (lw_idx hL hi (by decide)) dW_law_274 ?_
  refine lv_aload_n hx hb dW_law_275 rfl (lv_at hl 0 rfl) ?_
  refine lv_iload hx hb dW_law_276 (lv_at hl 4 rfl) ?_
  refine lv_iconst (v := 2) hx hb dW_law_278 (by decide) ?_
  refine lv_iadd hx hb dW_law_279 ?_
  refine va_sld hx hb hX hbl hbA hS (lw_idx hL hi (by decide)) dW_law_280 ?_
  refine lv_if_eq (tgt := 288) hx hb dW_law_281 (by decide) (fun hy => ?_) (fun hy => ?_)
  · skip
    refine lv_iconst (v := 0) hx hb dW_law_288 (by decide) ?_
    refine lv_aload_n hx hb dW_law_289 rfl (lv_at hl 3 rfl) ?_
    refine sL_own C hP hD hS hl.1 ⟨Nat.le_of_ble_eq_true rfl, Nat.le_of_ble_eq_true rfl⟩ (Nat.le_of_ble_eq_true rfl) hf hls hr.2.1.2.1 dW_law_290 (fun H locs hP hD hS => ?_)
    refine lv_istore (lv' := [(5, .int (rl_c2 xI (dn_own f (xs (i + 1).toNatClampNeg) 0).1)), (0, .ref b), (1, .ref (al 0)), (2, .ref (be 0)), (3, .ref o), (4, .int i)]) hx hb dW_law_293 hl (by decide) rfl (fun ls hl => ?_)
    refine lv_aload_n hx hb dW_law_295 rfl (lv_at hl 3 rfl) ?_
    refine lv_aload_n hx hb dW_law_296 rfl (lv_at hl 1 rfl) ?_
    refine lv_iload hx hb dW_law_297 (lv_at hl 5 rfl) ?_
    refine lv_iconst (v := 1) hx hb dW_law_299 (by decide) ?_
    refine lv_iadd hx hb dW_law_300 ?_
    refine va_sld hx hb hX hbl hbA hS (lw_idx hL hi (by decide)) dW_law_301 ?_
    refine lv_aload_n hx hb dW_law_302 rfl (lv_at hl 1 rfl) ?_
    refine lv_iload hx hb dW_law_303 (lv_at hl 5 rfl) ?_
    refine lv_iconst (v := 2) hx hb dW_law_305 (by decide) ?_
    refine lv_iadd hx hb dW_law_306 ?_
    refine va_sld hx hb hX hbl hbA hS (lw_idx hL hi (by decide)) dW_law_307 ?_
    refine lv_if_eq (tgt := 315) hx hb dW_law_308 (by decide) (fun z => ?_) (fun z => absurd hy z)
    refine lv_iconst (v := 0) hx hb dW_law_315 (by decide) ?_
    refine mL_own C hP hD hS hl.1 ⟨Nat.le_of_ble_eq_true rfl, Nat.le_of_ble_eq_true rfl⟩ (Nat.le_of_ble_eq_true rfl) ⟨by have := hf.1; omega, by have := hf.2; omega⟩ (rl_mR hr) dW_law_316 (fun H locs hP hD hS => ?_)
    refine lv_istore (lv' := [(6, .int (dn_m_own g (xs (i + 1).toNatClampNeg) 0).1), (5, .int (rl_c2 xI (dn_own f (xs (i + 1).toNatClampNeg) 0).1)), (0, .ref b), (1, .ref (al 0)), (2, .ref (be 0)), (3, .ref o), (4, .int i)]) hx hb dW_law_319 hl (by decide) rfl (fun ls hl => ?_)
    refine lv_aload_n hx hb dW_law_321 rfl (lv_at hl 4 rfl) ?_
    refine mL_thrown C hP hD hS hl.1 ⟨Nat.le_of_ble_eq_true rfl, Nat.le_of_ble_eq_true rfl⟩ (Nat.le_of_ble_eq_true rfl) ⟨by have := hf.1; omega, by have := hf.2; omega⟩  dW_law_322 (fun H locs hP hD hS => ?_)
    refine lv_iload hx hb dW_law_325 (lv_at hl 1 rfl) ?_
    have K := ro_own hr (xs (i + 1).toNatClampNeg) 0
    have hrl : rl ((dn_own f (xs (i + 1).toNatClampNeg) 0).2.2) ((dn_m_own g (xs (i + 1).toNatClampNeg) 0).2) := K.2.2
    refine lv_icmp_eq (tgt := 332) hx hb dW_law_327 (by decide) (fun _ => ?_) (fun z => absurd K.1 z)
    refine lv_iload hx hb dW_law_332 (lv_at hl 1 rfl) ?_
    refine lv_if_ne (tgt := 349) hx hb dW_law_334 (by decide) (fun hk => ?_) (fun hk => ?_)
    · skip
      refine lv_goto (tgt := 958) hx hb dW_law_349 (by decide) ?_
      exact kk ((dn_own f (xs (i + 1).toNatClampNeg) 0).2.2) ((dn_m_own g (xs (i + 1).toNatClampNeg) 0).2) (lo_h h (dn_own f (xs (i + 1).toNatClampNeg) 0).1 (dn_own f (xs (i + 1).toNatClampNeg) 0).2.1) H locs ls hrl hP hD hS (lv_sub hl [2, 3, 4, 5, 6] rfl)
    · skip
      refine lv_aload_n hx hb dW_law_337 rfl (lv_at hl 5 rfl) ?_
      refine lv_iconst (v := 0) hx hb dW_law_338 (by decide) ?_
      refine va_lald hx hb hK hP 40 3 lw_w_o rfl lw_in dW_law_339 ?_
      refine lv_iload hx hb dW_law_340 (lv_at hl 0 rfl) ?_
      refine lv_i2l (v := ((dn_m_own g (xs (i + 1).toNatClampNeg) 0).1).toInt64) hx hb dW_law_342 rfl ?_
      refine W.lcmp hx hb dW_law_343 ?_
      refine lv_if_eq (tgt := 349) hx hb dW_law_344 (by decide) (fun _ => ?_) (fun z => absurd (lo_out (rl_c2_0 hk) K.2.1) z)
      refine lv_goto (tgt := 958) hx hb dW_law_349 (by decide) ?_
      exact kk ((dn_own f (xs (i + 1).toNatClampNeg) 0).2.2) ((dn_m_own g (xs (i + 1).toNatClampNeg) 0).2) (lo_h h (dn_own f (xs (i + 1).toNatClampNeg) 0).1 (dn_own f (xs (i + 1).toNatClampNeg) 0).2.1) H locs ls hrl hP hD hS (lv_sub hl [2, 3, 4, 5, 6] rfl)
  · skip
    refine lv_iconst (v := 1) hx hb dW_law_284 (by decide) ?_
    refine lv_goto (tgt := 289) hx hb dW_law_285 (by decide) ?_
    refine lv_aload_n hx hb dW_law_289 rfl (lv_at hl 3 rfl) ?_
    refine sL_own C hP hD hS hl.1 ⟨Nat.le_of_ble_eq_true rfl, Nat.le_of_ble_eq_true rfl⟩ (Nat.le_of_ble_eq_true rfl) hf hls hr.2.1.2.1 dW_law_290 (fun H locs hP hD hS => ?_)
    refine lv_istore (lv' := [(5, .int (rl_c2 xI (dn_own f (xs (i + 1).toNatClampNeg) 1).1)), (0, .ref b), (1, .ref (al 0)), (2, .ref (be 0)), (3, .ref o), (4, .int i)]) hx hb dW_law_293 hl (by decide) rfl (fun ls hl => ?_)
    refine lv_aload_n hx hb dW_law_295 rfl (lv_at hl 3 rfl) ?_
    refine lv_aload_n hx hb dW_law_296 rfl (lv_at hl 1 rfl) ?_
    refine lv_iload hx hb dW_law_297 (lv_at hl 5 rfl) ?_
    refine lv_iconst (v := 1) hx hb dW_law_299 (by decide) ?_
    refine lv_iadd hx hb dW_law_300 ?_
    refine va_sld hx hb hX hbl hbA hS (lw_idx hL hi (by decide)) dW_law_301 ?_
    refine lv_aload_n hx hb dW_law_302 rfl (lv_at hl 1 rfl) ?_
    refine lv_iload hx hb dW_law_303 (lv_at hl 5 rfl) ?_
    refine lv_iconst (v := 2) hx hb dW_law_305 (by decide) ?_
    refine lv_iadd hx hb dW_law_306 ?_
    refine va_sld hx hb hX hbl hbA hS (lw_idx hL hi (by decide)) dW_law_307 ?_
    refine lv_if_eq (tgt := 315) hx hb dW_law_308 (by decide) (fun z => absurd z hy) (fun z => ?_)
    refine lv_iconst (v := 1) hx hb dW_law_311 (by decide) ?_
    refine lv_goto (tgt := 316) hx hb dW_law_312 (by decide) ?_
    refine mL_own C hP hD hS hl.1 ⟨Nat.le_of_ble_eq_true rfl, Nat.le_of_ble_eq_true rfl⟩ (Nat.le_of_ble_eq_true rfl) ⟨by have := hf.1; omega, by have := hf.2; omega⟩ (rl_mR hr) dW_law_316 (fun H locs hP hD hS => ?_)
    refine lv_istore (lv' := [(6, .int (dn_m_own g (xs (i + 1).toNatClampNeg) 1).1), (5, .int (rl_c2 xI (dn_own f (xs (i + 1).toNatClampNeg) 1).1)), (0, .ref b), (1, .ref (al 0)), (2, .ref (be 0)), (3, .ref o), (4, .int i)]) hx hb dW_law_319 hl (by decide) rfl (fun ls hl => ?_)
    refine lv_aload_n hx hb dW_law_321 rfl (lv_at hl 4 rfl) ?_
    refine mL_thrown C hP hD hS hl.1 ⟨Nat.le_of_ble_eq_true rfl, Nat.le_of_ble_eq_true rfl⟩ (Nat.le_of_ble_eq_true rfl) ⟨by have := hf.1; omega, by have := hf.2; omega⟩  dW_law_322 (fun H locs hP hD hS => ?_)
    refine lv_iload hx hb dW_law_325 (lv_at hl 1 rfl) ?_
    have K := ro_own hr (xs (i + 1).toNatClampNeg) 1
    have hrl : rl ((dn_own f (xs (i + 1).toNatClampNeg) 1).2.2) ((dn_m_own g (xs (i + 1).toNatClampNeg) 1).2) := K.2.2
    refine lv_icmp_eq (tgt := 332) hx hb dW_law_327 (by decide) (fun _ => ?_) (fun z => absurd K.1 z)
    refine lv_iload hx hb dW_law_332 (lv_at hl 1 rfl) ?_
    refine lv_if_ne (tgt := 349) hx hb dW_law_334 (by decide) (fun hk => ?_) (fun hk => ?_)
    · skip
      refine lv_goto (tgt := 958) hx hb dW_law_349 (by decide) ?_
      exact kk ((dn_own f (xs (i + 1).toNatClampNeg) 1).2.2) ((dn_m_own g (xs (i + 1).toNatClampNeg) 1).2) (lo_h h (dn_own f (xs (i + 1).toNatClampNeg) 1).1 (dn_own f (xs (i + 1).toNatClampNeg) 1).2.1) H locs ls hrl hP hD hS (lv_sub hl [2, 3, 4, 5, 6] rfl)
    · skip
      refine lv_aload_n hx hb dW_law_337 rfl (lv_at hl 5 rfl) ?_
      refine lv_iconst (v := 0) hx hb dW_law_338 (by decide) ?_
      refine va_lald hx hb hK hP 40 3 lw_w_o rfl lw_in dW_law_339 ?_
      refine lv_iload hx hb dW_law_340 (lv_at hl 0 rfl) ?_
      refine lv_i2l (v := ((dn_m_own g (xs (i + 1).toNatClampNeg) 1).1).toInt64) hx hb dW_law_342 rfl ?_
      refine W.lcmp hx hb dW_law_343 ?_
      refine lv_if_eq (tgt := 349) hx hb dW_law_344 (by decide) (fun _ => ?_) (fun z => absurd (lo_out (rl_c2_0 hk) K.2.1) z)
      refine lv_goto (tgt := 958) hx hb dW_law_349 (by decide) ?_
      exact kk ((dn_own f (xs (i + 1).toNatClampNeg) 1).2.2) ((dn_m_own g (xs (i + 1).toNatClampNeg) 1).2) (lo_h h (dn_own f (xs (i + 1).toNatClampNeg) 1).1 (dn_own f (xs (i + 1).toNatClampNeg) 1).2.1) H locs ls hrl hP hD hS (lv_sub hl [2, 3, 4, 5, 6] rfl)

set_option maxHeartbeats 4000000 in
set_option maxRecDepth 100000 in
theorem cs_sign {p : Program} {l : Launch} {e : Env} {s : State} {m : MethodId} {below : List Frame} {meth : Method} {c : Code} {b L : Nat} {xs : Nat → Int32} {D : va_G} {ka : Nat → ClassId} {al be : Nat → Nat} {o : Nat} {A : Nat → Prop} {hh : List ExceptionTableEntry} {Q : State → Prop} (hls : l.stackTraces = false) (C : fr_Cx p s m #[Value.ref b] meth c "FragileRulesLaw" code 7 ret hh fr_tbl fr_nw D vwCl (fr_ty ka) A) (hX : va_X b L xs s s.heap) (hbl : b < s.heap.size) (hbA : ¬ A b) (hL : L ≤ 2048) {f g : Nat → Nat → Int32} {h : Nat → Int64} {i : Int32} {H : Heap} {locs : List Loc} {ls : Array Slot} {cells slots : Nat} (hr : rl f g) (hi : 0 ≤ i.toInt ∧ i.toInt + 4 ≤ (L : Int)) (hf : cells + 1 ≤ room_1.cells ∧ slots + 6 ≤ room_1.slots) (hP : va_P D vwCl (lw_w ka al f be g o h) H) (hD : va_D A (lw_w ka al f be g o h)) (hS : va_S A s.heap H locs) (hl : lv_has ls 7 [(0, .ref b), (1, .ref (al 0)), (2, .ref (be 0)), (3, .ref o), (4, .int i)])
    (kk : ∀ (f g : Nat → Nat → Int32) (h : Nat → Int64) (H : Heap) (locs : List Loc) (ls : Array Slot), rl f g → va_P D vwCl (lw_w ka al f be g o h) H → va_D A (lw_w ka al f be g o h) → va_S A s.heap H locs → lv_has ls 7 [(0, .ref b), (1, .ref (al 0)), (2, .ref (be 0)), (3, .ref o), (4, .int i)] → W p l e room_1 s m #[Value.ref b] below meth c H locs (cells + 1) (slots + 6) Q (F0 m 958 ls [])) : W p l e room_1 s m #[Value.ref b] below meth c H locs cells slots Q (F0 m 352 ls []) := by
  obtain ⟨hx, hb, hml, hown, ht, hK, hlocks, hrt, hA, hN, hZ, hEx⟩ := id C
  refine lv_aload_n hx hb dW_law_352 rfl (lv_at hl 1 rfl) ?_
  refine lv_aload_n hx hb dW_law_353 rfl (lv_at hl 0 rfl) ?_
  refine lv_iload hx hb dW_law_354 (lv_at hl 4 rfl) ?_
  refine lv_iconst (v := 1) hx hb dW_law_356 (by decide) ?_
  refine lv_iadd hx hb dW_law_357 ?_
  refine va_sld hx hb hX hbl hbA hS (lw_idx hL hi (by decide)) dW_law_358 ?_
  refine sL_sign C hP hD hS hl.1 ⟨Nat.le_of_ble_eq_true rfl, Nat.le_of_ble_eq_true rfl⟩ (Nat.le_of_ble_eq_true rfl) hf hls hr.2.1.2.2.2 dW_law_359 (fun H locs hP hD hS => ?_)
  refine lv_istore (lv' := [(5, .int (rl_c2 xI (dn_sign f (xs (i + 1).toNatClampNeg)).1)), (0, .ref b), (1, .ref (al 0)), (2, .ref (be 0)), (3, .ref o), (4, .int i)]) hx hb dW_law_362 hl (by decide) rfl (fun ls hl => ?_)
  refine lv_aload_n hx hb dW_law_364 rfl (lv_at hl 3 rfl) ?_
  refine lv_aload_n hx hb dW_law_365 rfl (lv_at hl 1 rfl) ?_
  refine lv_iload hx hb dW_law_366 (lv_at hl 5 rfl) ?_
  refine lv_iconst (v := 1) hx hb dW_law_368 (by decide) ?_
  refine lv_iadd hx hb dW_law_369 ?_
  refine va_sld hx hb hX hbl hbA hS (lw_idx hL hi (by decide)) dW_law_370 ?_
  refine mL_sign C hP hD hS hl.1 ⟨Nat.le_of_ble_eq_true rfl, Nat.le_of_ble_eq_true rfl⟩ (Nat.le_of_ble_eq_true rfl) ⟨by have := hf.1; omega, by have := hf.2; omega⟩ (rl_mS hr) dW_law_371 (fun H locs hP hD hS => ?_)
  refine lv_aload_n hx hb dW_law_374 rfl (lv_at hl 3 rfl) ?_
  refine mL_thrown C hP hD hS hl.1 ⟨Nat.le_of_ble_eq_true rfl, Nat.le_of_ble_eq_true rfl⟩ (Nat.le_of_ble_eq_true rfl) ⟨by have := hf.1; omega, by have := hf.2; omega⟩  dW_law_375 (fun H locs hP hD hS => ?_)
  refine lv_iload hx hb dW_law_378 (lv_at hl 0 rfl) ?_
  have K := ro_sign hr (xs (i + 1).toNatClampNeg)
  have hrl : rl ((dn_sign f (xs (i + 1).toNatClampNeg)).2.2) (dn_m_sign g (xs (i + 1).toNatClampNeg)) := K.2.2
  refine lv_icmp_eq (tgt := 385) hx hb dW_law_380 (by decide) (fun _ => ?_) (fun z => absurd K.1 z)
  refine lv_goto (tgt := 958) hx hb dW_law_385 (by decide) ?_
  exact kk ((dn_sign f (xs (i + 1).toNatClampNeg)).2.2) (dn_m_sign g (xs (i + 1).toNatClampNeg)) h H locs ls hrl hP hD hS (lv_sub hl [1, 2, 3, 4, 5] rfl)

set_option maxHeartbeats 4000000 in
set_option maxRecDepth 100000 in
theorem cs_read {p : Program} {l : Launch} {e : Env} {s : State} {m : MethodId} {below : List Frame} {meth : Method} {c : Code} {b L : Nat} {xs : Nat → Int32} {D : va_G} {ka : Nat → ClassId} {al be : Nat → Nat} {o : Nat} {A : Nat → Prop} {hh : List ExceptionTableEntry} {Q : State → Prop} (hls : l.stackTraces = false) (C : fr_Cx p s m #[Value.ref b] meth c "FragileRulesLaw" code 7 ret hh fr_tbl fr_nw D vwCl (fr_ty ka) A) (hX : va_X b L xs s s.heap) (hbl : b < s.heap.size) (hbA : ¬ A b) (hL : L ≤ 2048) {f g : Nat → Nat → Int32} {h : Nat → Int64} {i : Int32} {H : Heap} {locs : List Loc} {ls : Array Slot} {cells slots : Nat} (hr : rl f g) (hi : 0 ≤ i.toInt ∧ i.toInt + 4 ≤ (L : Int)) (hf : cells + 1 ≤ room_1.cells ∧ slots + 6 ≤ room_1.slots) (hP : va_P D vwCl (lw_w ka al f be g o h) H) (hD : va_D A (lw_w ka al f be g o h)) (hS : va_S A s.heap H locs) (hl : lv_has ls 7 [(0, .ref b), (1, .ref (al 0)), (2, .ref (be 0)), (3, .ref o), (4, .int i)])
    (kk : ∀ (f g : Nat → Nat → Int32) (h : Nat → Int64) (H : Heap) (locs : List Loc) (ls : Array Slot), rl f g → va_P D vwCl (lw_w ka al f be g o h) H → va_D A (lw_w ka al f be g o h) → va_S A s.heap H locs → lv_has ls 7 [(0, .ref b), (1, .ref (al 0)), (2, .ref (be 0)), (3, .ref o), (4, .int i)] → W p l e room_1 s m #[Value.ref b] below meth c H locs (cells + 1) (slots + 6) Q (F0 m 958 ls [])) : W p l e room_1 s m #[Value.ref b] below meth c H locs cells slots Q (F0 m 388 ls []) := by
  obtain ⟨hx, hb, hml, hown, ht, hK, hlocks, hrt, hA, hN, hZ, hEx⟩ := id C
  refine lv_aload_n hx hb dW_law_388 rfl (lv_at hl 1 rfl) ?_
  refine lv_aload_n hx hb dW_law_389 rfl (lv_at hl 3 rfl) ?_
  refine sL_read C hP hD hS hl.1 ⟨Nat.le_of_ble_eq_true rfl, Nat.le_of_ble_eq_true rfl⟩ (Nat.le_of_ble_eq_true rfl) hf hls hr.2.1.2.2.2 hr.2.1.2.1 dW_law_390 (fun H locs hP hD hS => ?_)
  refine lv_istore (lv' := [(5, .int (rl_c1 (dn_read f).1)), (0, .ref b), (1, .ref (al 0)), (2, .ref (be 0)), (3, .ref o), (4, .int i)]) hx hb dW_law_393 hl (by decide) rfl (fun ls hl => ?_)
  refine lv_aload_n hx hb dW_law_395 rfl (lv_at hl 3 rfl) ?_
  refine mL_read C hP hD hS hl.1 ⟨Nat.le_of_ble_eq_true rfl, Nat.le_of_ble_eq_true rfl⟩ (Nat.le_of_ble_eq_true rfl) ⟨by have := hf.1; omega, by have := hf.2; omega⟩ (rl_mS hr) (rl_mR hr) dW_law_396 (fun H locs hP hD hS => ?_)
  refine lv_istore (lv' := [(6, .int (dn_m_read g).1), (5, .int (rl_c1 (dn_read f).1)), (0, .ref b), (1, .ref (al 0)), (2, .ref (be 0)), (3, .ref o), (4, .int i)]) hx hb dW_law_399 hl (by decide) rfl (fun ls hl => ?_)
  refine lv_aload_n hx hb dW_law_401 rfl (lv_at hl 4 rfl) ?_
  refine mL_thrown C hP hD hS hl.1 ⟨Nat.le_of_ble_eq_true rfl, Nat.le_of_ble_eq_true rfl⟩ (Nat.le_of_ble_eq_true rfl) ⟨by have := hf.1; omega, by have := hf.2; omega⟩  dW_law_402 (fun H locs hP hD hS => ?_)
  refine lv_iload hx hb dW_law_405 (lv_at hl 1 rfl) ?_
  have K := ro_read hr 
  have hrl : rl ((dn_read f).2.2) ((dn_m_read g).2) := K.2.2
  refine lv_icmp_eq (tgt := 412) hx hb dW_law_407 (by decide) (fun _ => ?_) (fun z => absurd K.1 z)
  refine lv_iload hx hb dW_law_412 (lv_at hl 1 rfl) ?_
  refine lv_if_ne (tgt := 429) hx hb dW_law_414 (by decide) (fun hk => ?_) (fun hk => ?_)
  · skip
    refine lv_goto (tgt := 958) hx hb dW_law_429 (by decide) ?_
    exact kk ((dn_read f).2.2) ((dn_m_read g).2) (lo_h h (dn_read f).1 (dn_read f).2.1) H locs ls hrl hP hD hS (lv_sub hl [2, 3, 4, 5, 6] rfl)
  · skip
    refine lv_aload_n hx hb dW_law_417 rfl (lv_at hl 5 rfl) ?_
    refine lv_iconst (v := 0) hx hb dW_law_418 (by decide) ?_
    refine va_lald hx hb hK hP 40 3 lw_w_o rfl lw_in dW_law_419 ?_
    refine lv_iload hx hb dW_law_420 (lv_at hl 0 rfl) ?_
    refine lv_i2l (v := ((dn_m_read g).1).toInt64) hx hb dW_law_422 rfl ?_
    refine W.lcmp hx hb dW_law_423 ?_
    refine lv_if_eq (tgt := 429) hx hb dW_law_424 (by decide) (fun _ => ?_) (fun z => absurd (lo_out (rl_c1_0 hk) K.2.1) z)
    refine lv_goto (tgt := 958) hx hb dW_law_429 (by decide) ?_
    exact kk ((dn_read f).2.2) ((dn_m_read g).2) (lo_h h (dn_read f).1 (dn_read f).2.1) H locs ls hrl hP hD hS (lv_sub hl [2, 3, 4, 5, 6] rfl)

set_option maxHeartbeats 4000000 in
set_option maxRecDepth 100000 in
theorem cs_may {p : Program} {l : Launch} {e : Env} {s : State} {m : MethodId} {below : List Frame} {meth : Method} {c : Code} {b L : Nat} {xs : Nat → Int32} {D : va_G} {ka : Nat → ClassId} {al be : Nat → Nat} {o : Nat} {A : Nat → Prop} {hh : List ExceptionTableEntry} {Q : State → Prop} (hls : l.stackTraces = false) (C : fr_Cx p s m #[Value.ref b] meth c "FragileRulesLaw" code 7 ret hh fr_tbl fr_nw D vwCl (fr_ty ka) A) (hX : va_X b L xs s s.heap) (hbl : b < s.heap.size) (hbA : ¬ A b) (hL : L ≤ 2048) {f g : Nat → Nat → Int32} {h : Nat → Int64} {i : Int32} {H : Heap} {locs : List Loc} {ls : Array Slot} {cells slots : Nat} (hr : rl f g) (hi : 0 ≤ i.toInt ∧ i.toInt + 4 ≤ (L : Int)) (hf : cells + 1 ≤ room_1.cells ∧ slots + 6 ≤ room_1.slots) (hP : va_P D vwCl (lw_w ka al f be g o h) H) (hD : va_D A (lw_w ka al f be g o h)) (hS : va_S A s.heap H locs) (hl : lv_has ls 7 [(0, .ref b), (1, .ref (al 0)), (2, .ref (be 0)), (3, .ref o), (4, .int i)])
    (kk : ∀ (f g : Nat → Nat → Int32) (h : Nat → Int64) (H : Heap) (locs : List Loc) (ls : Array Slot), rl f g → va_P D vwCl (lw_w ka al f be g o h) H → va_D A (lw_w ka al f be g o h) → va_S A s.heap H locs → lv_has ls 7 [(0, .ref b), (1, .ref (al 0)), (2, .ref (be 0)), (3, .ref o), (4, .int i)] → W p l e room_1 s m #[Value.ref b] below meth c H locs (cells + 1) (slots + 6) Q (F0 m 958 ls [])) : W p l e room_1 s m #[Value.ref b] below meth c H locs cells slots Q (F0 m 432 ls []) := by
  obtain ⟨hx, hb, hml, hown, ht, hK, hlocks, hrt, hA, hN, hZ, hEx⟩ := id C
  refine lv_aload_n hx hb dW_law_432 rfl (lv_at hl 1 rfl) ?_
  refine lv_aload_n hx hb dW_law_433 rfl (lv_at hl 0 rfl) ?_
  refine lv_iload hx hb dW_law_434 (lv_at hl 4 rfl) ?_
  refine lv_iconst (v := 1) hx hb dW_law_436 (by decide) ?_
  refine lv_iadd hx hb dW_law_437 ?_
  refine va_sld hx hb hX hbl hbA hS (lw_idx hL hi (by decide)) dW_law_438 ?_
  refine lv_aload_n hx hb dW_law_439 rfl (lv_at hl 0 rfl) ?_
  refine lv_iload hx hb dW_law_440 (lv_at hl 4 rfl) ?_
  refine lv_iconst (v := 2) hx hb dW_law_442 (by decide) ?_
  refine lv_iadd hx hb dW_law_443 ?_
  refine va_sld hx hb hX hbl hbA hS (lw_idx hL hi (by decide)) dW_law_444 ?_
  refine lv_aload_n hx hb dW_law_445 rfl (lv_at hl 0 rfl) ?_
  refine lv_iload hx hb dW_law_446 (lv_at hl 4 rfl) ?_
  refine lv_iconst (v := 3) hx hb dW_law_448 (by decide) ?_
  refine lv_iadd hx hb dW_law_449 ?_
  refine va_sld hx hb hX hbl hbA hS (lw_idx hL hi (by decide)) dW_law_450 ?_
  refine lv_aload_n hx hb dW_law_451 rfl (lv_at hl 3 rfl) ?_
  refine sL_may C hP hD hS hl.1 ⟨Nat.le_of_ble_eq_true rfl, Nat.le_of_ble_eq_true rfl⟩ (Nat.le_of_ble_eq_true rfl) hf hls hr.2.1.1 hr.2.1.2.1 (rl_ford hr) dW_law_452 (fun H locs hP hD hS => ?_)
  refine lv_istore (lv' := [(5, .int (rl_c3 xN xI (dn_may f (xs (i + 1).toNatClampNeg) (xs (i + 2).toNatClampNeg) (xs (i + 3).toNatClampNeg)).1)), (0, .ref b), (1, .ref (al 0)), (2, .ref (be 0)), (3, .ref o), (4, .int i)]) hx hb dW_law_455 hl (by decide) rfl (fun ls hl => ?_)
  refine lv_aload_n hx hb dW_law_457 rfl (lv_at hl 3 rfl) ?_
  refine lv_aload_n hx hb dW_law_458 rfl (lv_at hl 1 rfl) ?_
  refine lv_iload hx hb dW_law_459 (lv_at hl 5 rfl) ?_
  refine lv_iconst (v := 1) hx hb dW_law_461 (by decide) ?_
  refine lv_iadd hx hb dW_law_462 ?_
  refine va_sld hx hb hX hbl hbA hS (lw_idx hL hi (by decide)) dW_law_463 ?_
  refine lv_aload_n hx hb dW_law_464 rfl (lv_at hl 1 rfl) ?_
  refine lv_iload hx hb dW_law_465 (lv_at hl 5 rfl) ?_
  refine lv_iconst (v := 2) hx hb dW_law_467 (by decide) ?_
  refine lv_iadd hx hb dW_law_468 ?_
  refine va_sld hx hb hX hbl hbA hS (lw_idx hL hi (by decide)) dW_law_469 ?_
  refine lv_aload_n hx hb dW_law_470 rfl (lv_at hl 1 rfl) ?_
  refine lv_iload hx hb dW_law_471 (lv_at hl 5 rfl) ?_
  refine lv_iconst (v := 3) hx hb dW_law_473 (by decide) ?_
  refine lv_iadd hx hb dW_law_474 ?_
  refine va_sld hx hb hX hbl hbA hS (lw_idx hL hi (by decide)) dW_law_475 ?_
  refine mL_may C hP hD hS hl.1 ⟨Nat.le_of_ble_eq_true rfl, Nat.le_of_ble_eq_true rfl⟩ (Nat.le_of_ble_eq_true rfl) ⟨by have := hf.1; omega, by have := hf.2; omega⟩ (rl_mU hr) (rl_mR hr) (rl_mord hr) dW_law_476 (fun H locs hP hD hS => ?_)
  refine lv_istore (lv' := [(6, .int (dn_m_may g (xs (i + 1).toNatClampNeg) (xs (i + 2).toNatClampNeg) (xs (i + 3).toNatClampNeg)).1), (5, .int (rl_c3 xN xI (dn_may f (xs (i + 1).toNatClampNeg) (xs (i + 2).toNatClampNeg) (xs (i + 3).toNatClampNeg)).1)), (0, .ref b), (1, .ref (al 0)), (2, .ref (be 0)), (3, .ref o), (4, .int i)]) hx hb dW_law_479 hl (by decide) rfl (fun ls hl => ?_)
  refine lv_aload_n hx hb dW_law_481 rfl (lv_at hl 4 rfl) ?_
  refine mL_thrown C hP hD hS hl.1 ⟨Nat.le_of_ble_eq_true rfl, Nat.le_of_ble_eq_true rfl⟩ (Nat.le_of_ble_eq_true rfl) ⟨by have := hf.1; omega, by have := hf.2; omega⟩  dW_law_482 (fun H locs hP hD hS => ?_)
  refine lv_iload hx hb dW_law_485 (lv_at hl 1 rfl) ?_
  have K := ro_may hr (xs (i + 1).toNatClampNeg) (xs (i + 2).toNatClampNeg) (xs (i + 3).toNatClampNeg)
  have hrl : rl ((dn_may f (xs (i + 1).toNatClampNeg) (xs (i + 2).toNatClampNeg) (xs (i + 3).toNatClampNeg)).2.2) ((dn_m_may g (xs (i + 1).toNatClampNeg) (xs (i + 2).toNatClampNeg) (xs (i + 3).toNatClampNeg)).2) := K.2.2
  refine lv_icmp_eq (tgt := 492) hx hb dW_law_487 (by decide) (fun _ => ?_) (fun z => absurd K.1 z)
  refine lv_iload hx hb dW_law_492 (lv_at hl 1 rfl) ?_
  refine lv_if_ne (tgt := 509) hx hb dW_law_494 (by decide) (fun hk => ?_) (fun hk => ?_)
  · skip
    refine lv_goto (tgt := 958) hx hb dW_law_509 (by decide) ?_
    exact kk ((dn_may f (xs (i + 1).toNatClampNeg) (xs (i + 2).toNatClampNeg) (xs (i + 3).toNatClampNeg)).2.2) ((dn_m_may g (xs (i + 1).toNatClampNeg) (xs (i + 2).toNatClampNeg) (xs (i + 3).toNatClampNeg)).2) (lo_h h (dn_may f (xs (i + 1).toNatClampNeg) (xs (i + 2).toNatClampNeg) (xs (i + 3).toNatClampNeg)).1 (dn_may f (xs (i + 1).toNatClampNeg) (xs (i + 2).toNatClampNeg) (xs (i + 3).toNatClampNeg)).2.1) H locs ls hrl hP hD hS (lv_sub hl [2, 3, 4, 5, 6] rfl)
  · skip
    refine lv_aload_n hx hb dW_law_497 rfl (lv_at hl 5 rfl) ?_
    refine lv_iconst (v := 0) hx hb dW_law_498 (by decide) ?_
    refine va_lald hx hb hK hP 40 3 lw_w_o rfl lw_in dW_law_499 ?_
    refine lv_iload hx hb dW_law_500 (lv_at hl 0 rfl) ?_
    refine lv_i2l (v := ((dn_m_may g (xs (i + 1).toNatClampNeg) (xs (i + 2).toNatClampNeg) (xs (i + 3).toNatClampNeg)).1).toInt64) hx hb dW_law_502 rfl ?_
    refine W.lcmp hx hb dW_law_503 ?_
    refine lv_if_eq (tgt := 509) hx hb dW_law_504 (by decide) (fun _ => ?_) (fun z => absurd (lo_out (rl_c3_0 hk) K.2.1) z)
    refine lv_goto (tgt := 958) hx hb dW_law_509 (by decide) ?_
    exact kk ((dn_may f (xs (i + 1).toNatClampNeg) (xs (i + 2).toNatClampNeg) (xs (i + 3).toNatClampNeg)).2.2) ((dn_m_may g (xs (i + 1).toNatClampNeg) (xs (i + 2).toNatClampNeg) (xs (i + 3).toNatClampNeg)).2) (lo_h h (dn_may f (xs (i + 1).toNatClampNeg) (xs (i + 2).toNatClampNeg) (xs (i + 3).toNatClampNeg)).1 (dn_may f (xs (i + 1).toNatClampNeg) (xs (i + 2).toNatClampNeg) (xs (i + 3).toNatClampNeg)).2.1) H locs ls hrl hP hD hS (lv_sub hl [2, 3, 4, 5, 6] rfl)

set_option maxHeartbeats 4000000 in
set_option maxRecDepth 100000 in
theorem cs_together {p : Program} {l : Launch} {e : Env} {s : State} {m : MethodId} {below : List Frame} {meth : Method} {c : Code} {b L : Nat} {xs : Nat → Int32} {D : va_G} {ka : Nat → ClassId} {al be : Nat → Nat} {o : Nat} {A : Nat → Prop} {hh : List ExceptionTableEntry} {Q : State → Prop} (hls : l.stackTraces = false) (C : fr_Cx p s m #[Value.ref b] meth c "FragileRulesLaw" code 7 ret hh fr_tbl fr_nw D vwCl (fr_ty ka) A) (hX : va_X b L xs s s.heap) (hbl : b < s.heap.size) (hbA : ¬ A b) (hL : L ≤ 2048) {f g : Nat → Nat → Int32} {h : Nat → Int64} {i : Int32} {H : Heap} {locs : List Loc} {ls : Array Slot} {cells slots : Nat} (hr : rl f g) (hi : 0 ≤ i.toInt ∧ i.toInt + 4 ≤ (L : Int)) (hf : cells + 1 ≤ room_1.cells ∧ slots + 6 ≤ room_1.slots) (hP : va_P D vwCl (lw_w ka al f be g o h) H) (hD : va_D A (lw_w ka al f be g o h)) (hS : va_S A s.heap H locs) (hl : lv_has ls 7 [(0, .ref b), (1, .ref (al 0)), (2, .ref (be 0)), (3, .ref o), (4, .int i)])
    (kk : ∀ (f g : Nat → Nat → Int32) (h : Nat → Int64) (H : Heap) (locs : List Loc) (ls : Array Slot), rl f g → va_P D vwCl (lw_w ka al f be g o h) H → va_D A (lw_w ka al f be g o h) → va_S A s.heap H locs → lv_has ls 7 [(0, .ref b), (1, .ref (al 0)), (2, .ref (be 0)), (3, .ref o), (4, .int i)] → W p l e room_1 s m #[Value.ref b] below meth c H locs (cells + 1) (slots + 6) Q (F0 m 958 ls [])) : W p l e room_1 s m #[Value.ref b] below meth c H locs cells slots Q (F0 m 512 ls []) := by
  obtain ⟨hx, hb, hml, hown, ht, hK, hlocks, hrt, hA, hN, hZ, hEx⟩ := id C
  refine lv_aload_n hx hb dW_law_512 rfl (lv_at hl 1 rfl) ?_
  refine lv_aload_n hx hb dW_law_513 rfl (lv_at hl 0 rfl) ?_
  refine lv_iload hx hb dW_law_514 (lv_at hl 4 rfl) ?_
  refine lv_iconst (v := 1) hx hb dW_law_516 (by decide) ?_
  refine lv_iadd hx hb dW_law_517 ?_
  refine va_sld hx hb hX hbl hbA hS (lw_idx hL hi (by decide)) dW_law_518 ?_
  refine lv_aload_n hx hb dW_law_519 rfl (lv_at hl 0 rfl) ?_
  refine lv_iload hx hb dW_law_520 (lv_at hl 4 rfl) ?_
  refine lv_iconst (v := 2) hx hb dW_law_522 (by decide) ?_
  refine lv_iadd hx hb dW_law_523 ?_
  refine va_sld hx hb hX hbl hbA hS (lw_idx hL hi (by decide)) dW_law_524 ?_
  refine lv_aload_n hx hb dW_law_525 rfl (lv_at hl 3 rfl) ?_
  refine sL_together C hP hD hS hl.1 ⟨Nat.le_of_ble_eq_true rfl, Nat.le_of_ble_eq_true rfl⟩ (Nat.le_of_ble_eq_true rfl) hf hls hr.2.1.1 hr.2.1.2.1 (rl_ford hr) dW_law_526 (fun H locs hP hD hS => ?_)
  refine lv_istore (lv' := [(5, .int (rl_c2 xN (dn_together f (xs (i + 1).toNatClampNeg) (xs (i + 2).toNatClampNeg)).1)), (0, .ref b), (1, .ref (al 0)), (2, .ref (be 0)), (3, .ref o), (4, .int i)]) hx hb dW_law_529 hl (by decide) rfl (fun ls hl => ?_)
  refine lv_aload_n hx hb dW_law_531 rfl (lv_at hl 3 rfl) ?_
  refine lv_aload_n hx hb dW_law_532 rfl (lv_at hl 1 rfl) ?_
  refine lv_iload hx hb dW_law_533 (lv_at hl 5 rfl) ?_
  refine lv_iconst (v := 1) hx hb dW_law_535 (by decide) ?_
  refine lv_iadd hx hb dW_law_536 ?_
  refine va_sld hx hb hX hbl hbA hS (lw_idx hL hi (by decide)) dW_law_537 ?_
  refine lv_aload_n hx hb dW_law_538 rfl (lv_at hl 1 rfl) ?_
  refine lv_iload hx hb dW_law_539 (lv_at hl 5 rfl) ?_
  refine lv_iconst (v := 2) hx hb dW_law_541 (by decide) ?_
  refine lv_iadd hx hb dW_law_542 ?_
  refine va_sld hx hb hX hbl hbA hS (lw_idx hL hi (by decide)) dW_law_543 ?_
  refine mL_together C hP hD hS hl.1 ⟨Nat.le_of_ble_eq_true rfl, Nat.le_of_ble_eq_true rfl⟩ (Nat.le_of_ble_eq_true rfl) ⟨by have := hf.1; omega, by have := hf.2; omega⟩ (rl_mU hr) (rl_mR hr) (rl_mord hr) dW_law_544 (fun H locs hP hD hS => ?_)
  refine lv_istore (lv' := [(6, .int (dn_m_together g (xs (i + 1).toNatClampNeg) (xs (i + 2).toNatClampNeg)).1), (5, .int (rl_c2 xN (dn_together f (xs (i + 1).toNatClampNeg) (xs (i + 2).toNatClampNeg)).1)), (0, .ref b), (1, .ref (al 0)), (2, .ref (be 0)), (3, .ref o), (4, .int i)]) hx hb dW_law_547 hl (by decide) rfl (fun ls hl => ?_)
  refine lv_aload_n hx hb dW_law_549 rfl (lv_at hl 4 rfl) ?_
  refine mL_thrown C hP hD hS hl.1 ⟨Nat.le_of_ble_eq_true rfl, Nat.le_of_ble_eq_true rfl⟩ (Nat.le_of_ble_eq_true rfl) ⟨by have := hf.1; omega, by have := hf.2; omega⟩  dW_law_550 (fun H locs hP hD hS => ?_)
  refine lv_iload hx hb dW_law_553 (lv_at hl 1 rfl) ?_
  have K := ro_together hr (xs (i + 1).toNatClampNeg) (xs (i + 2).toNatClampNeg)
  have hrl : rl ((dn_together f (xs (i + 1).toNatClampNeg) (xs (i + 2).toNatClampNeg)).2.2) ((dn_m_together g (xs (i + 1).toNatClampNeg) (xs (i + 2).toNatClampNeg)).2) := K.2.2
  refine lv_icmp_eq (tgt := 560) hx hb dW_law_555 (by decide) (fun _ => ?_) (fun z => absurd K.1 z)
  refine lv_iload hx hb dW_law_560 (lv_at hl 1 rfl) ?_
  refine lv_if_ne (tgt := 577) hx hb dW_law_562 (by decide) (fun hk => ?_) (fun hk => ?_)
  · skip
    refine lv_goto (tgt := 958) hx hb dW_law_577 (by decide) ?_
    exact kk ((dn_together f (xs (i + 1).toNatClampNeg) (xs (i + 2).toNatClampNeg)).2.2) ((dn_m_together g (xs (i + 1).toNatClampNeg) (xs (i + 2).toNatClampNeg)).2) (lo_h h (dn_together f (xs (i + 1).toNatClampNeg) (xs (i + 2).toNatClampNeg)).1 (dn_together f (xs (i + 1).toNatClampNeg) (xs (i + 2).toNatClampNeg)).2.1) H locs ls hrl hP hD hS (lv_sub hl [2, 3, 4, 5, 6] rfl)
  · skip
    refine lv_aload_n hx hb dW_law_565 rfl (lv_at hl 5 rfl) ?_
    refine lv_iconst (v := 0) hx hb dW_law_566 (by decide) ?_
    refine va_lald hx hb hK hP 40 3 lw_w_o rfl lw_in dW_law_567 ?_
    refine lv_iload hx hb dW_law_568 (lv_at hl 0 rfl) ?_
    refine lv_i2l (v := ((dn_m_together g (xs (i + 1).toNatClampNeg) (xs (i + 2).toNatClampNeg)).1).toInt64) hx hb dW_law_570 rfl ?_
    refine W.lcmp hx hb dW_law_571 ?_
    refine lv_if_eq (tgt := 577) hx hb dW_law_572 (by decide) (fun _ => ?_) (fun z => absurd (lo_out (rl_c2_0 hk) K.2.1) z)
    refine lv_goto (tgt := 958) hx hb dW_law_577 (by decide) ?_
    exact kk ((dn_together f (xs (i + 1).toNatClampNeg) (xs (i + 2).toNatClampNeg)).2.2) ((dn_m_together g (xs (i + 1).toNatClampNeg) (xs (i + 2).toNatClampNeg)).2) (lo_h h (dn_together f (xs (i + 1).toNatClampNeg) (xs (i + 2).toNatClampNeg)).1 (dn_together f (xs (i + 1).toNatClampNeg) (xs (i + 2).toNatClampNeg)).2.1) H locs ls hrl hP hD hS (lv_sub hl [2, 3, 4, 5, 6] rfl)
