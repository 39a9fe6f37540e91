/-- the law's world: the class's cells, the reference's, and the long that an answer comes back in -/
def fr_la (c : ClassId) (o : Nat) (h : Nat → Int64) : Nat × va_E := (o, .inl (c, 1, .inr (.inl h)))
def lw_w (ka : Nat → ClassId) (al : Nat → Nat) (f : Nat → Nat → Int32) (be : Nat → Nat) (g : Nat → Nat → Int32) (o : Nat) (h : Nat → Int64) : va_W := fr_cw ka al f (fr_mw ka be g [fr_la (ka 3) o h])
def lo_h (h : Nat → Int64) (x : Option String) (r : Int32) : Nat → Int64 := if x = none then vp_updL h 0 r.toInt64 else h
theorem fr_cw_Z {ka : Nat → ClassId} {al : Nat → Nat} {f : Nat → Nat → Int32} {Z : va_W} {i : Nat} : (fr_cw ka al f Z)[29 + i]? = Z[i]? := by
  rw [show 29 + i = (i + 22) + 7 from by omega]
  show ((List.range 10).map (fr_uc al f) ++ ((List.range 12).map (fr_rc al f) ++ Z))[i + 22]? = _
  rw [List.getElem?_append_right (by simp), List.getElem?_append_right (by simp)]
  simp
theorem fr_cw_setZ {ka : Nat → ClassId} {al : Nat → Nat} {f : Nat → Nat → Int32} {Z : va_W} {i : Nat} {v : Nat × va_E} : (fr_cw ka al f Z).set (29 + i) v = fr_cw ka al f (Z.set i v) := by
  rw [show 29 + i = (i + 22) + 7 from by omega]
  show _ :: _ :: _ :: _ :: _ :: _ :: _ :: (((List.range 10).map (fr_uc al f) ++ ((List.range 12).map (fr_rc al f) ++ Z)).set (i + 22) v) = _
  rw [List.set_append_right _ _ (by simp), List.set_append_right _ _ (by simp)]
  simp [fr_cw]
theorem lw_w_o {ka : Nat → ClassId} {al be : Nat → Nat} {f g : Nat → Nat → Int32} {o : Nat} {h : Nat → Int64} : (fr_cw ka al f (fr_mw ka be g [fr_la (ka 3) o h]))[40]? = some (o, .inl (ka 3, 1, .inr (.inl h))) := fr_cw_Z (i := 11)
theorem lw_in : vp_in 0 1 := by
  unfold vp_in
  decide
theorem lw_w_set {ka : Nat → ClassId} {al be : Nat → Nat} {f g : Nat → Nat → Int32} {o : Nat} {h h' : Nat → Int64} : (fr_cw ka al f (fr_mw ka be g [fr_la (ka 3) o h])).set 40 (o, .inl (ka 3, 1, .inr (.inl h'))) = lw_w ka al f be g o h' := fr_cw_setZ (i := 11)
theorem ca_xI : Cond.castable "java/lang/IllegalArgumentException" "java/lang/IllegalArgumentException" ∈ fr_nw := by decide +kernel
theorem ca_xU : Cond.castable "java/lang/UnsupportedOperationException" "java/lang/UnsupportedOperationException" ∈ fr_nw := by decide +kernel
theorem ca_xN : Cond.castable "java/util/NoSuchElementException" "java/util/NoSuchElementException" ∈ fr_nw := by decide +kernel
theorem ca_xS : Cond.castable "java/lang/IllegalStateException" "java/lang/IllegalStateException" ∈ fr_nw := by decide +kernel
theorem nc_xU_xI : Cond.not (Cond.castable "java/lang/UnsupportedOperationException" "java/lang/IllegalArgumentException") ∈ fr_nw := by decide +kernel
theorem nc_xI_xN : Cond.not (Cond.castable "java/lang/IllegalArgumentException" "java/util/NoSuchElementException") ∈ fr_nw := by decide +kernel
theorem nc_xS_xN : Cond.not (Cond.castable "java/lang/IllegalStateException" "java/util/NoSuchElementException") ∈ fr_nw := by decide +kernel
theorem nc_xS_xI : Cond.not (Cond.castable "java/lang/IllegalStateException" "java/lang/IllegalArgumentException") ∈ fr_nw := by decide +kernel
theorem ex_unit {f : Nat → Nat → Int32} {x : Int32} {y : Int32} {k : Int32} : (dn_unit f x y k).1 = none ∨ (dn_unit f x y k).1 = xI ∨ (dn_unit f x y k).1 = xU := by
  unfold dn_unit
  repeat' split
  all_goals first | exact Or.inl rfl | exact Or.inr (Or.inl rfl) | exact Or.inr (Or.inr (rfl))

set_option maxHeartbeats 4000000 in
set_option maxRecDepth 100000 in
theorem w_unit (l : Launch) (hls : l.stackTraces = false) (D : va_G) (ka : Nat → ClassId) (al be : Nat → Nat) (f g : Nat → Nat → Int32) (o : Nat) (h : Nat → Int64) (x : Int32) (y : Int32) (k : Int32) (gU : 0 ≤ (f 0 0).toInt ∧ (f 0 0).toInt ≤ 10) (gR : 0 ≤ (f 0 1).toInt ∧ (f 0 1).toInt ≤ 12) (gO : fr_ord f) : fr_Mi l y_w_unit (.codeWith y_w_unit method_3_code 6 (some FieldType.int) [(0, 12, 15, 13), (0, 12, 19, 15)] :: fr_tbl) { frames := 7, cells := 1, slots := 6, locals := 142 } D vwCl (fr_ty ka) fr_nw [.ref (al 0), .int x, .int y, .int k, .ref o] (lw_w ka al f be g o h) (rl_c2 xI (dn_unit f x y k).1) (lw_w ka al (dn_unit f x y k).2.2 be g o (lo_h h (dn_unit f x y k).1 (dn_unit f x y k).2.1)) 1 6 := by
  refine fr_Mi.ofW (by decide) (Nat.le_of_ble_eq_true rfl) ?_
  intro p e s m below meth c A H locs ls C hP hD hS hl
  obtain ⟨hx, hb, hml, hown, ht, hK, hlocks, hr, hA, hN, hZ, hEx⟩ := id C
  have hl : lv_has ls 6 [(0, .ref (al 0)), (1, .int x), (2, .int y), (3, .int k), (4, .ref o)] := hl
  refine lv_aload hx hb dW_unit_0 (lv_at hl 4 rfl) ?_
  refine lv_iconst (v := 0) hx hb dW_unit_2 (by decide) ?_
  refine lv_aload_n hx hb dW_unit_3 rfl (lv_at hl 0 rfl) ?_
  refine lv_iload_n hx hb dW_unit_4 rfl (lv_at hl 1 rfl) ?_
  refine lv_iload_n hx hb dW_unit_5 rfl (lv_at hl 2 rfl) ?_
  refine lv_iload_n hx hb dW_unit_6 rfl (lv_at hl 3 rfl) ?_
  rcases ex_unit (f := f) (x := x) (y := y) (k := k) with hx0 | hx0 | hx0
  · refine nW_unit hls C hP hD hS hl.1 ⟨Nat.le_of_ble_eq_true rfl, Nat.le_of_ble_eq_true rfl⟩ (Nat.le_of_ble_eq_true rfl) ⟨Nat.le_of_ble_eq_true rfl, Nat.le_of_ble_eq_true rfl⟩ gU gR gO dW_unit_7 hx0 (fun H locs hP hD hS => ?_)
    refine lv_i2l (v := (dn_unit f x y k).2.1.toInt64) hx hb dW_unit_10 rfl ?_
    refine va_last hx hb hK hP hD hS 40 3 (lw_w_o (f := (dn_unit f x y k).2.2)) rfl lw_in dW_unit_11 (fun H locs hP hD hS => ?_)
    have ho : lo_h h (dn_unit f x y k).1 (dn_unit f x y k).2.1 = vp_updL h 0 (dn_unit f x y k).2.1.toInt64 := if_pos hx0
    rw [lw_w_set] at hP hD
    rw [ho]
    refine lv_goto (tgt := 23) hx hb dW_unit_12 (by decide) ?_
    refine lv_iconst (v := 0) hx hb dW_unit_23 (by decide) ?_
    exact fr_iret C hP hD hS (by rw [hx0]; rfl) dW_unit_24
  · refine tW_unit (E := "java/lang/IllegalArgumentException") (name := "java/lang/IllegalArgumentException") hls C hP hD hS hl.1 ⟨Nat.le_of_ble_eq_true rfl, Nat.le_of_ble_eq_true rfl⟩ (Nat.le_of_ble_eq_true rfl) ⟨Nat.le_of_ble_eq_true rfl, Nat.le_of_ble_eq_true rfl⟩ gU gR gO dW_unit_7 [] ⟨0, 12, 15, 13⟩ [⟨0, 12, 19, 15⟩] hx0 rfl (fun z hz => nomatch hz) (by decide) (by decide) (ht _ clk_W_13) (va_Nw.use rfl (hN _ ca_xI).2) (fun q H locs hP hD hS => ?_)
    refine lv_astore (i := 5) (lv' := [(5, .ref q), (0, .ref (al 0)), (1, .int x), (2, .int y), (3, .int k), (4, .ref o)]) hx hb dW_unit_15 hl (by decide) rfl (fun ls hl => ?_)
    have ho : lo_h h (dn_unit f x y k).1 (dn_unit f x y k).2.1 = h := if_neg (by rw [hx0]; exact fun z => by cases z)
    rw [ho]
    refine lv_iconst (v := 1) hx hb dW_unit_17 (by decide) ?_
    exact fr_iret C hP hD hS (by rw [hx0]; rfl) dW_unit_18
  · refine tW_unit (E := "java/lang/UnsupportedOperationException") (name := "java/lang/UnsupportedOperationException") hls C hP hD hS hl.1 ⟨Nat.le_of_ble_eq_true rfl, Nat.le_of_ble_eq_true rfl⟩ (Nat.le_of_ble_eq_true rfl) ⟨Nat.le_of_ble_eq_true rfl, Nat.le_of_ble_eq_true rfl⟩ gU gR gO dW_unit_7 [⟨0, 12, 15, 13⟩] ⟨0, 12, 19, 15⟩ [] hx0 rfl (List.forall_mem_cons.mpr ⟨Or.inr ⟨by decide, "java/lang/IllegalArgumentException", ht _ clk_W_13, va_Nc.of (hN _ nc_xU_xI).2⟩, fun z hz => nomatch hz⟩) (by decide) (by decide) (ht _ clk_W_15) (va_Nw.use rfl (hN _ ca_xU).2) (fun q H locs hP hD hS => ?_)
    refine lv_astore (i := 5) (lv' := [(5, .ref q), (0, .ref (al 0)), (1, .int x), (2, .int y), (3, .int k), (4, .ref o)]) hx hb dW_unit_19 hl (by decide) rfl (fun ls hl => ?_)
    have ho : lo_h h (dn_unit f x y k).1 (dn_unit f x y k).2.1 = h := if_neg (by rw [hx0]; exact fun z => by cases z)
    rw [ho]
    refine lv_iconst (v := 2) hx hb dW_unit_21 (by decide) ?_
    exact fr_iret C hP hD hS (by rw [hx0]; rfl) dW_unit_22

theorem ex_rule {f : Nat → Nat → Int32} {x : Int32} {y : Int32} {k : Int32} : (dn_rule f x y k).1 = none ∨ (dn_rule f x y k).1 = xI ∨ (dn_rule f x y k).1 = xU := by
  unfold dn_rule
  repeat' split
  all_goals first | exact Or.inl rfl | exact Or.inr (Or.inl rfl) | exact Or.inr (Or.inr (rfl))

set_option maxHeartbeats 4000000 in
set_option maxRecDepth 100000 in
theorem w_rule (l : Launch) (hls : l.stackTraces = false) (D : va_G) (ka : Nat → ClassId) (al be : Nat → Nat) (f g : Nat → Nat → Int32) (o : Nat) (h : Nat → Int64) (x : Int32) (y : Int32) (k : Int32) (gR : 0 ≤ (f 0 1).toInt ∧ (f 0 1).toInt ≤ 12) : fr_Mi l y_w_rule (.codeWith y_w_rule method_4_code 6 (some FieldType.int) [(0, 12, 15, 13), (0, 12, 19, 15)] :: fr_tbl) { frames := 7, cells := 1, slots := 6, locals := 113 } D vwCl (fr_ty ka) fr_nw [.ref (al 0), .int x, .int y, .int k, .ref o] (lw_w ka al f be g o h) (rl_c2 xI (dn_rule f x y k).1) (lw_w ka al (dn_rule f x y k).2.2 be g o (lo_h h (dn_rule f x y k).1 (dn_rule f x y k).2.1)) 1 6 := by
  refine fr_Mi.ofW (by decide) (Nat.le_of_ble_eq_true rfl) ?_
  intro p e s m below meth c A H locs ls C hP hD hS hl
  obtain ⟨hx, hb, hml, hown, ht, hK, hlocks, hr, hA, hN, hZ, hEx⟩ := id C
  have hl : lv_has ls 6 [(0, .ref (al 0)), (1, .int x), (2, .int y), (3, .int k), (4, .ref o)] := hl
  refine lv_aload hx hb dW_rule_0 (lv_at hl 4 rfl) ?_
  refine lv_iconst (v := 0) hx hb dW_rule_2 (by decide) ?_
  refine lv_aload_n hx hb dW_rule_3 rfl (lv_at hl 0 rfl) ?_
  refine lv_iload_n hx hb dW_rule_4 rfl (lv_at hl 1 rfl) ?_
  refine lv_iload_n hx hb dW_rule_5 rfl (lv_at hl 2 rfl) ?_
  refine lv_iload_n hx hb dW_rule_6 rfl (lv_at hl 3 rfl) ?_
  rcases ex_rule (f := f) (x := x) (y := y) (k := k) with hx0 | hx0 | hx0
  · refine nW_rule hls C hP hD hS hl.1 ⟨Nat.le_of_ble_eq_true rfl, Nat.le_of_ble_eq_true rfl⟩ (Nat.le_of_ble_eq_true rfl) ⟨Nat.le_of_ble_eq_true rfl, Nat.le_of_ble_eq_true rfl⟩ gR dW_rule_7 hx0 (fun H locs hP hD hS => ?_)
    refine lv_i2l (v := (dn_rule f x y k).2.1.toInt64) hx hb dW_rule_10 rfl ?_
    refine va_last hx hb hK hP hD hS 40 3 (lw_w_o (f := (dn_rule f x y k).2.2)) rfl lw_in dW_rule_11 (fun H locs hP hD hS => ?_)
    have ho : lo_h h (dn_rule f x y k).1 (dn_rule f x y k).2.1 = vp_updL h 0 (dn_rule f x y k).2.1.toInt64 := if_pos hx0
    rw [lw_w_set] at hP hD
    rw [ho]
    refine lv_goto (tgt := 23) hx hb dW_rule_12 (by decide) ?_
    refine lv_iconst (v := 0) hx hb dW_rule_23 (by decide) ?_
    exact fr_iret C hP hD hS (by rw [hx0]; rfl) dW_rule_24
  · refine tW_rule (E := "java/lang/IllegalArgumentException") (name := "java/lang/IllegalArgumentException") hls C hP hD hS hl.1 ⟨Nat.le_of_ble_eq_true rfl, Nat.le_of_ble_eq_true rfl⟩ (Nat.le_of_ble_eq_true rfl) ⟨Nat.le_of_ble_eq_true rfl, Nat.le_of_ble_eq_true rfl⟩ gR dW_rule_7 [] ⟨0, 12, 15, 13⟩ [⟨0, 12, 19, 15⟩] hx0 rfl (fun z hz => nomatch hz) (by decide) (by decide) (ht _ clk_W_13) (va_Nw.use rfl (hN _ ca_xI).2) (fun q H locs hP hD hS => ?_)
    refine lv_astore (i := 5) (lv' := [(5, .ref q), (0, .ref (al 0)), (1, .int x), (2, .int y), (3, .int k), (4, .ref o)]) hx hb dW_rule_15 hl (by decide) rfl (fun ls hl => ?_)
    have ho : lo_h h (dn_rule f x y k).1 (dn_rule f x y k).2.1 = h := if_neg (by rw [hx0]; exact fun z => by cases z)
    rw [ho]
    refine lv_iconst (v := 1) hx hb dW_rule_17 (by decide) ?_
    exact fr_iret C hP hD hS (by rw [hx0]; rfl) dW_rule_18
  · refine tW_rule (E := "java/lang/UnsupportedOperationException") (name := "java/lang/UnsupportedOperationException") hls C hP hD hS hl.1 ⟨Nat.le_of_ble_eq_true rfl, Nat.le_of_ble_eq_true rfl⟩ (Nat.le_of_ble_eq_true rfl) ⟨Nat.le_of_ble_eq_true rfl, Nat.le_of_ble_eq_true rfl⟩ gR dW_rule_7 [⟨0, 12, 15, 13⟩] ⟨0, 12, 19, 15⟩ [] hx0 rfl (List.forall_mem_cons.mpr ⟨Or.inr ⟨by decide, "java/lang/IllegalArgumentException", ht _ clk_W_13, va_Nc.of (hN _ nc_xU_xI).2⟩, fun z hz => nomatch hz⟩) (by decide) (by decide) (ht _ clk_W_15) (va_Nw.use rfl (hN _ ca_xU).2) (fun q H locs hP hD hS => ?_)
    refine lv_astore (i := 5) (lv' := [(5, .ref q), (0, .ref (al 0)), (1, .int x), (2, .int y), (3, .int k), (4, .ref o)]) hx hb dW_rule_19 hl (by decide) rfl (fun ls hl => ?_)
    have ho : lo_h h (dn_rule f x y k).1 (dn_rule f x y k).2.1 = h := if_neg (by rw [hx0]; exact fun z => by cases z)
    rw [ho]
    refine lv_iconst (v := 2) hx hb dW_rule_21 (by decide) ?_
    exact fr_iret C hP hD hS (by rw [hx0]; rfl) dW_rule_22

theorem ex_own {f : Nat → Nat → Int32} {x : Int32} {y : Int32} : (dn_own f x y).1 = none ∨ (dn_own f x y).1 = xI ∨ (dn_own f x y).1 = xU := by
  unfold dn_own
  repeat' split
  all_goals first | exact Or.inl rfl | exact Or.inr (Or.inl rfl) | exact Or.inr (Or.inr (rfl))

set_option maxHeartbeats 4000000 in
set_option maxRecDepth 100000 in
theorem w_own (l : Launch) (hls : l.stackTraces = false) (D : va_G) (ka : Nat → ClassId) (al be : Nat → Nat) (f g : Nat → Nat → Int32) (o : Nat) (h : Nat → Int64) (x : Int32) (y : Int32) (gR : 0 ≤ (f 0 1).toInt ∧ (f 0 1).toInt ≤ 12) : fr_Mi l y_w_own (.codeWith y_w_own method_5_code 5 (some FieldType.int) [(0, 10, 13, 13), (0, 10, 17, 15)] :: fr_tbl) { frames := 7, cells := 1, slots := 6, locals := 112 } D vwCl (fr_ty ka) fr_nw [.ref (al 0), .int x, .int y, .ref o] (lw_w ka al f be g o h) (rl_c2 xI (dn_own f x y).1) (lw_w ka al (dn_own f x y).2.2 be g o (lo_h h (dn_own f x y).1 (dn_own f x y).2.1)) 1 6 := by
  refine fr_Mi.ofW (by decide) (Nat.le_of_ble_eq_true rfl) ?_
  intro p e s m below meth c A H locs ls C hP hD hS hl
  obtain ⟨hx, hb, hml, hown, ht, hK, hlocks, hr, hA, hN, hZ, hEx⟩ := id C
  have hl : lv_has ls 5 [(0, .ref (al 0)), (1, .int x), (2, .int y), (3, .ref o)] := hl
  refine lv_aload_n hx hb dW_own_0 rfl (lv_at hl 3 rfl) ?_
  refine lv_iconst (v := 0) hx hb dW_own_1 (by decide) ?_
  refine lv_aload_n hx hb dW_own_2 rfl (lv_at hl 0 rfl) ?_
  refine lv_iload_n hx hb dW_own_3 rfl (lv_at hl 1 rfl) ?_
  refine lv_iload_n hx hb dW_own_4 rfl (lv_at hl 2 rfl) ?_
  rcases ex_own (f := f) (x := x) (y := y) with hx0 | hx0 | hx0
  · refine nW_own hls C hP hD hS hl.1 ⟨Nat.le_of_ble_eq_true rfl, Nat.le_of_ble_eq_true rfl⟩ (Nat.le_of_ble_eq_true rfl) ⟨Nat.le_of_ble_eq_true rfl, Nat.le_of_ble_eq_true rfl⟩ gR dW_own_5 hx0 (fun H locs hP hD hS => ?_)
    refine lv_i2l (v := (dn_own f x y).2.1.toInt64) hx hb dW_own_8 rfl ?_
    refine va_last hx hb hK hP hD hS 40 3 (lw_w_o (f := (dn_own f x y).2.2)) rfl lw_in dW_own_9 (fun H locs hP hD hS => ?_)
    have ho : lo_h h (dn_own f x y).1 (dn_own f x y).2.1 = vp_updL h 0 (dn_own f x y).2.1.toInt64 := if_pos hx0
    rw [lw_w_set] at hP hD
    rw [ho]
    refine lv_goto (tgt := 21) hx hb dW_own_10 (by decide) ?_
    refine lv_iconst (v := 0) hx hb dW_own_21 (by decide) ?_
    exact fr_iret C hP hD hS (by rw [hx0]; rfl) dW_own_22
  · refine tW_own (E := "java/lang/IllegalArgumentException") (name := "java/lang/IllegalArgumentException") hls C hP hD hS hl.1 ⟨Nat.le_of_ble_eq_true rfl, Nat.le_of_ble_eq_true rfl⟩ (Nat.le_of_ble_eq_true rfl) ⟨Nat.le_of_ble_eq_true rfl, Nat.le_of_ble_eq_true rfl⟩ gR dW_own_5 [] ⟨0, 10, 13, 13⟩ [⟨0, 10, 17, 15⟩] hx0 rfl (fun z hz => nomatch hz) (by decide) (by decide) (ht _ clk_W_13) (va_Nw.use rfl (hN _ ca_xI).2) (fun q H locs hP hD hS => ?_)
    refine lv_astore (i := 4) (lv' := [(4, .ref q), (0, .ref (al 0)), (1, .int x), (2, .int y), (3, .ref o)]) hx hb dW_own_13 hl (by decide) rfl (fun ls hl => ?_)
    have ho : lo_h h (dn_own f x y).1 (dn_own f x y).2.1 = h := if_neg (by rw [hx0]; exact fun z => by cases z)
    rw [ho]
    refine lv_iconst (v := 1) hx hb dW_own_15 (by decide) ?_
    exact fr_iret C hP hD hS (by rw [hx0]; rfl) dW_own_16
  · refine tW_own (E := "java/lang/UnsupportedOperationException") (name := "java/lang/UnsupportedOperationException") hls C hP hD hS hl.1 ⟨Nat.le_of_ble_eq_true rfl, Nat.le_of_ble_eq_true rfl⟩ (Nat.le_of_ble_eq_true rfl) ⟨Nat.le_of_ble_eq_true rfl, Nat.le_of_ble_eq_true rfl⟩ gR dW_own_5 [⟨0, 10, 13, 13⟩] ⟨0, 10, 17, 15⟩ [] hx0 rfl (List.forall_mem_cons.mpr ⟨Or.inr ⟨by decide, "java/lang/IllegalArgumentException", ht _ clk_W_13, va_Nc.of (hN _ nc_xU_xI).2⟩, fun z hz => nomatch hz⟩) (by decide) (by decide) (ht _ clk_W_15) (va_Nw.use rfl (hN _ ca_xU).2) (fun q H locs hP hD hS => ?_)
    refine lv_astore (i := 4) (lv' := [(4, .ref q), (0, .ref (al 0)), (1, .int x), (2, .int y), (3, .ref o)]) hx hb dW_own_17 hl (by decide) rfl (fun ls hl => ?_)
    have ho : lo_h h (dn_own f x y).1 (dn_own f x y).2.1 = h := if_neg (by rw [hx0]; exact fun z => by cases z)
    rw [ho]
    refine lv_iconst (v := 2) hx hb dW_own_19 (by decide) ?_
    exact fr_iret C hP hD hS (by rw [hx0]; rfl) dW_own_20

theorem ex_sign {f : Nat → Nat → Int32} {x : Int32} : (dn_sign f x).1 = none ∨ (dn_sign f x).1 = xI ∨ (dn_sign f x).1 = xU := by
  unfold dn_sign
  repeat' split
  all_goals first | exact Or.inl rfl | exact Or.inr (Or.inl rfl) | exact Or.inr (Or.inr (rfl))

set_option maxHeartbeats 4000000 in
set_option maxRecDepth 100000 in
theorem w_sign (l : Launch) (hls : l.stackTraces = false) (D : va_G) (ka : Nat → ClassId) (al be : Nat → Nat) (f g : Nat → Nat → Int32) (o : Nat) (h : Nat → Int64) (x : Int32) (gT : 0 ≤ (f 0 5).toInt ∧ (f 0 5).toInt ≤ 200) : fr_Mi l y_w_sign (.codeWith y_w_sign method_6_code 3 (some FieldType.int) [(0, 5, 8, 13), (0, 5, 11, 15)] :: fr_tbl) { frames := 7, cells := 1, slots := 6, locals := 111 } D vwCl (fr_ty ka) fr_nw [.ref (al 0), .int x] (lw_w ka al f be g o h) (rl_c2 xI (dn_sign f x).1) (lw_w ka al (dn_sign f x).2.2 be g o h) 1 6 := by
  refine fr_Mi.ofW (by decide) (Nat.le_of_ble_eq_true rfl) ?_
  intro p e s m below meth c A H locs ls C hP hD hS hl
  obtain ⟨hx, hb, hml, hown, ht, hK, hlocks, hr, hA, hN, hZ, hEx⟩ := id C
  have hl : lv_has ls 3 [(0, .ref (al 0)), (1, .int x)] := hl
  refine lv_aload_n hx hb dW_sign_0 rfl (lv_at hl 0 rfl) ?_
  refine lv_iload_n hx hb dW_sign_1 rfl (lv_at hl 1 rfl) ?_
  rcases ex_sign (f := f) (x := x) with hx0 | hx0 | hx0
  · refine nW_sign hls C hP hD hS hl.1 ⟨Nat.le_of_ble_eq_true rfl, Nat.le_of_ble_eq_true rfl⟩ (Nat.le_of_ble_eq_true rfl) ⟨Nat.le_of_ble_eq_true rfl, Nat.le_of_ble_eq_true rfl⟩ gT dW_sign_2 hx0 (fun H locs hP hD hS => ?_)
    refine lv_goto (tgt := 14) hx hb dW_sign_5 (by decide) ?_
    refine lv_iconst (v := 0) hx hb dW_sign_14 (by decide) ?_
    exact fr_iret C hP hD hS (by rw [hx0]; rfl) dW_sign_15
  · refine tW_sign (E := "java/lang/IllegalArgumentException") (name := "java/lang/IllegalArgumentException") hls C hP hD hS hl.1 ⟨Nat.le_of_ble_eq_true rfl, Nat.le_of_ble_eq_true rfl⟩ (Nat.le_of_ble_eq_true rfl) ⟨Nat.le_of_ble_eq_true rfl, Nat.le_of_ble_eq_true rfl⟩ gT dW_sign_2 [] ⟨0, 5, 8, 13⟩ [⟨0, 5, 11, 15⟩] hx0 rfl (fun z hz => nomatch hz) (by decide) (by decide) (ht _ clk_W_13) (va_Nw.use rfl (hN _ ca_xI).2) (fun q H locs hP hD hS => ?_)
    refine lv_astore_n (i := 2) (lv' := [(2, .ref q), (0, .ref (al 0)), (1, .int x)]) hx hb dW_sign_8 rfl hl (by decide) rfl (fun ls hl => ?_)
    refine lv_iconst (v := 1) hx hb dW_sign_9 (by decide) ?_
    exact fr_iret C hP hD hS (by rw [hx0]; rfl) dW_sign_10
  · refine tW_sign (E := "java/lang/UnsupportedOperationException") (name := "java/lang/UnsupportedOperationException") hls C hP hD hS hl.1 ⟨Nat.le_of_ble_eq_true rfl, Nat.le_of_ble_eq_true rfl⟩ (Nat.le_of_ble_eq_true rfl) ⟨Nat.le_of_ble_eq_true rfl, Nat.le_of_ble_eq_true rfl⟩ gT dW_sign_2 [⟨0, 5, 8, 13⟩] ⟨0, 5, 11, 15⟩ [] hx0 rfl (List.forall_mem_cons.mpr ⟨Or.inr ⟨by decide, "java/lang/IllegalArgumentException", ht _ clk_W_13, va_Nc.of (hN _ nc_xU_xI).2⟩, fun z hz => nomatch hz⟩) (by decide) (by decide) (ht _ clk_W_15) (va_Nw.use rfl (hN _ ca_xU).2) (fun q H locs hP hD hS => ?_)
    refine lv_astore_n (i := 2) (lv' := [(2, .ref q), (0, .ref (al 0)), (1, .int x)]) hx hb dW_sign_11 rfl hl (by decide) rfl (fun ls hl => ?_)
    refine lv_iconst (v := 2) hx hb dW_sign_12 (by decide) ?_
    exact fr_iret C hP hD hS (by rw [hx0]; rfl) dW_sign_13

theorem ex_read {f : Nat → Nat → Int32}  : (dn_read f).1 = none ∨ (dn_read f).1 = xU := by
  unfold dn_read
  repeat' split
  all_goals first | exact Or.inl rfl | exact Or.inr (rfl)

set_option maxHeartbeats 4000000 in
set_option maxRecDepth 100000 in
theorem w_read (l : Launch) (hls : l.stackTraces = false) (D : va_G) (ka : Nat → ClassId) (al be : Nat → Nat) (f g : Nat → Nat → Int32) (o : Nat) (h : Nat → Int64)  (gT : 0 ≤ (f 0 5).toInt ∧ (f 0 5).toInt ≤ 200) (gR : 0 ≤ (f 0 1).toInt ∧ (f 0 1).toInt ≤ 12) : fr_Mi l y_w_read (.codeWith y_w_read method_7_code 3 (some FieldType.int) [(0, 8, 11, 15)] :: fr_tbl) { frames := 7, cells := 1, slots := 6, locals := 114 } D vwCl (fr_ty ka) fr_nw [.ref (al 0), .ref o] (lw_w ka al f be g o h) (rl_c1 (dn_read f).1) (lw_w ka al (dn_read f).2.2 be g o (lo_h h (dn_read f).1 (dn_read f).2.1)) 1 6 := by
  refine fr_Mi.ofW (by decide) (Nat.le_of_ble_eq_true rfl) ?_
  intro p e s m below meth c A H locs ls C hP hD hS hl
  obtain ⟨hx, hb, hml, hown, ht, hK, hlocks, hr, hA, hN, hZ, hEx⟩ := id C
  have hl : lv_has ls 3 [(0, .ref (al 0)), (1, .ref o)] := hl
  refine lv_aload_n hx hb dW_read_0 rfl (lv_at hl 1 rfl) ?_
  refine lv_iconst (v := 0) hx hb dW_read_1 (by decide) ?_
  refine lv_aload_n hx hb dW_read_2 rfl (lv_at hl 0 rfl) ?_
  rcases ex_read (f := f)  with hx0 | hx0
  · refine nW_read hls C hP hD hS hl.1 ⟨Nat.le_of_ble_eq_true rfl, Nat.le_of_ble_eq_true rfl⟩ (Nat.le_of_ble_eq_true rfl) ⟨Nat.le_of_ble_eq_true rfl, Nat.le_of_ble_eq_true rfl⟩ gT gR dW_read_3 hx0 (fun H locs hP hD hS => ?_)
    refine lv_i2l (v := (dn_read f).2.1.toInt64) hx hb dW_read_6 rfl ?_
    refine va_last hx hb hK hP hD hS 40 3 (lw_w_o (f := (dn_read f).2.2)) rfl lw_in dW_read_7 (fun H locs hP hD hS => ?_)
    have ho : lo_h h (dn_read f).1 (dn_read f).2.1 = vp_updL h 0 (dn_read f).2.1.toInt64 := if_pos hx0
    rw [lw_w_set] at hP hD
    rw [ho]
    refine lv_goto (tgt := 14) hx hb dW_read_8 (by decide) ?_
    refine lv_iconst (v := 0) hx hb dW_read_14 (by decide) ?_
    exact fr_iret C hP hD hS (by rw [hx0]; rfl) dW_read_15
  · refine tW_read (E := "java/lang/UnsupportedOperationException") (name := "java/lang/UnsupportedOperationException") hls C hP hD hS hl.1 ⟨Nat.le_of_ble_eq_true rfl, Nat.le_of_ble_eq_true rfl⟩ (Nat.le_of_ble_eq_true rfl) ⟨Nat.le_of_ble_eq_true rfl, Nat.le_of_ble_eq_true rfl⟩ gT gR dW_read_3 [] ⟨0, 8, 11, 15⟩ [] hx0 rfl (fun z hz => nomatch hz) (by decide) (by decide) (ht _ clk_W_15) (va_Nw.use rfl (hN _ ca_xU).2) (fun q H locs hP hD hS => ?_)
    refine lv_astore_n (i := 2) (lv' := [(2, .ref q), (0, .ref (al 0)), (1, .ref o)]) hx hb dW_read_11 rfl hl (by decide) rfl (fun ls hl => ?_)
    have ho : lo_h h (dn_read f).1 (dn_read f).2.1 = h := if_neg (by rw [hx0]; exact fun z => by cases z)
    rw [ho]
    refine lv_iconst (v := 1) hx hb dW_read_12 (by decide) ?_
    exact fr_iret C hP hD hS (by rw [hx0]; rfl) dW_read_13

theorem ex_may {f : Nat → Nat → Int32} {x : Int32} {y : Int32} {k : Int32} : (dn_may f x y k).1 = none ∨ (dn_may f x y k).1 = xN ∨ (dn_may f x y k).1 = xI ∨ (dn_may f x y k).1 = xS := by
  unfold dn_may
  repeat' split
  all_goals first | exact Or.inl rfl | exact Or.inr (Or.inl rfl) | exact Or.inr (Or.inr (Or.inl rfl)) | exact Or.inr (Or.inr (Or.inr (rfl)))

set_option maxHeartbeats 4000000 in
set_option maxRecDepth 100000 in
theorem w_may (l : Launch) (hls : l.stackTraces = false) (D : va_G) (ka : Nat → ClassId) (al be : Nat → Nat) (f g : Nat → Nat → Int32) (o : Nat) (h : Nat → Int64) (x : Int32) (y : Int32) (k : Int32) (gU : 0 ≤ (f 0 0).toInt ∧ (f 0 0).toInt ≤ 10) (gR : 0 ≤ (f 0 1).toInt ∧ (f 0 1).toInt ≤ 12) (gO : fr_ord f) : fr_Mi l y_w_may (.codeWith y_w_may method_8_code 6 (some FieldType.int) [(0, 12, 15, 35), (0, 12, 19, 13), (0, 12, 23, 37)] :: fr_tbl) { frames := 7, cells := 1, slots := 6, locals := 142 } D vwCl (fr_ty ka) fr_nw [.ref (al 0), .int x, .int y, .int k, .ref o] (lw_w ka al f be g o h) (rl_c3 xN xI (dn_may f x y k).1) (lw_w ka al (dn_may f x y k).2.2 be g o (lo_h h (dn_may f x y k).1 (dn_may f x y k).2.1)) 1 6 := by
  refine fr_Mi.ofW (by decide) (Nat.le_of_ble_eq_true rfl) ?_
  intro p e s m below meth c A H locs ls C hP hD hS hl
  obtain ⟨hx, hb, hml, hown, ht, hK, hlocks, hr, hA, hN, hZ, hEx⟩ := id C
  have hl : lv_has ls 6 [(0, .ref (al 0)), (1, .int x), (2, .int y), (3, .int k), (4, .ref o)] := hl
  refine lv_aload hx hb dW_may_0 (lv_at hl 4 rfl) ?_
  refine lv_iconst (v := 0) hx hb dW_may_2 (by decide) ?_
  refine lv_aload_n hx hb dW_may_3 rfl (lv_at hl 0 rfl) ?_
  refine lv_iload_n hx hb dW_may_4 rfl (lv_at hl 1 rfl) ?_
  refine lv_iload_n hx hb dW_may_5 rfl (lv_at hl 2 rfl) ?_
  refine lv_iload_n hx hb dW_may_6 rfl (lv_at hl 3 rfl) ?_
  rcases ex_may (f := f) (x := x) (y := y) (k := k) with hx0 | hx0 | hx0 | hx0
  · refine nW_may hls C hP hD hS hl.1 ⟨Nat.le_of_ble_eq_true rfl, Nat.le_of_ble_eq_true rfl⟩ (Nat.le_of_ble_eq_true rfl) ⟨Nat.le_of_ble_eq_true rfl, Nat.le_of_ble_eq_true rfl⟩ gU gR gO dW_may_7 hx0 (fun H locs hP hD hS => ?_)
    refine lv_i2l (v := (dn_may f x y k).2.1.toInt64) hx hb dW_may_10 rfl ?_
    refine va_last hx hb hK hP hD hS 40 3 (lw_w_o (f := (dn_may f x y k).2.2)) rfl lw_in dW_may_11 (fun H locs hP hD hS => ?_)
    have ho : lo_h h (dn_may f x y k).1 (dn_may f x y k).2.1 = vp_updL h 0 (dn_may f x y k).2.1.toInt64 := if_pos hx0
    rw [lw_w_set] at hP hD
    rw [ho]
    refine lv_goto (tgt := 27) hx hb dW_may_12 (by decide) ?_
    refine lv_iconst (v := 0) hx hb dW_may_27 (by decide) ?_
    exact fr_iret C hP hD hS (by rw [hx0]; rfl) dW_may_28
  · refine tW_may (E := "java/util/NoSuchElementException") (name := "java/util/NoSuchElementException") hls C hP hD hS hl.1 ⟨Nat.le_of_ble_eq_true rfl, Nat.le_of_ble_eq_true rfl⟩ (Nat.le_of_ble_eq_true rfl) ⟨Nat.le_of_ble_eq_true rfl, Nat.le_of_ble_eq_true rfl⟩ gU gR gO dW_may_7 [] ⟨0, 12, 15, 35⟩ [⟨0, 12, 19, 13⟩, ⟨0, 12, 23, 37⟩] hx0 rfl (fun z hz => nomatch hz) (by decide) (by decide) (ht _ clk_W_35) (va_Nw.use rfl (hN _ ca_xN).2) (fun q H locs hP hD hS => ?_)
    refine lv_astore (i := 5) (lv' := [(5, .ref q), (0, .ref (al 0)), (1, .int x), (2, .int y), (3, .int k), (4, .ref o)]) hx hb dW_may_15 hl (by decide) rfl (fun ls hl => ?_)
    have ho : lo_h h (dn_may f x y k).1 (dn_may f x y k).2.1 = h := if_neg (by rw [hx0]; exact fun z => by cases z)
    rw [ho]
    refine lv_iconst (v := 1) hx hb dW_may_17 (by decide) ?_
    exact fr_iret C hP hD hS (by rw [hx0]; rfl) dW_may_18
  · refine tW_may (E := "java/lang/IllegalArgumentException") (name := "java/lang/IllegalArgumentException") hls C hP hD hS hl.1 ⟨Nat.le_of_ble_eq_true rfl, Nat.le_of_ble_eq_true rfl⟩ (Nat.le_of_ble_eq_true rfl) ⟨Nat.le_of_ble_eq_true rfl, Nat.le_of_ble_eq_true rfl⟩ gU gR gO dW_may_7 [⟨0, 12, 15, 35⟩] ⟨0, 12, 19, 13⟩ [⟨0, 12, 23, 37⟩] hx0 rfl (List.forall_mem_cons.mpr ⟨Or.inr ⟨by decide, "java/util/NoSuchElementException", ht _ clk_W_35, va_Nc.of (hN _ nc_xI_xN).2⟩, fun z hz => nomatch hz⟩) (by decide) (by decide) (ht _ clk_W_13) (va_Nw.use rfl (hN _ ca_xI).2) (fun q H locs hP hD hS => ?_)
    refine lv_astore (i := 5) (lv' := [(5, .ref q), (0, .ref (al 0)), (1, .int x), (2, .int y), (3, .int k), (4, .ref o)]) hx hb dW_may_19 hl (by decide) rfl (fun ls hl => ?_)
    have ho : lo_h h (dn_may f x y k).1 (dn_may f x y k).2.1 = h := if_neg (by rw [hx0]; exact fun z => by cases z)
    rw [ho]
    refine lv_iconst (v := 2) hx hb dW_may_21 (by decide) ?_
    exact fr_iret C hP hD hS (by rw [hx0]; rfl) dW_may_22
  · refine tW_may (E := "java/lang/IllegalStateException") (name := "java/lang/IllegalStateException") hls C hP hD hS hl.1 ⟨Nat.le_of_ble_eq_true rfl, Nat.le_of_ble_eq_true rfl⟩ (Nat.le_of_ble_eq_true rfl) ⟨Nat.le_of_ble_eq_true rfl, Nat.le_of_ble_eq_true rfl⟩ gU gR gO dW_may_7 [⟨0, 12, 15, 35⟩, ⟨0, 12, 19, 13⟩] ⟨0, 12, 23, 37⟩ [] hx0 rfl (List.forall_mem_cons.mpr ⟨Or.inr ⟨by decide, "java/util/NoSuchElementException", ht _ clk_W_35, va_Nc.of (hN _ nc_xS_xN).2⟩, List.forall_mem_cons.mpr ⟨Or.inr ⟨by decide, "java/lang/IllegalArgumentException", ht _ clk_W_13, va_Nc.of (hN _ nc_xS_xI).2⟩, fun z hz => nomatch hz⟩⟩) (by decide) (by decide) (ht _ clk_W_37) (va_Nw.use rfl (hN _ ca_xS).2) (fun q H locs hP hD hS => ?_)
    refine lv_astore (i := 5) (lv' := [(5, .ref q), (0, .ref (al 0)), (1, .int x), (2, .int y), (3, .int k), (4, .ref o)]) hx hb dW_may_23 hl (by decide) rfl (fun ls hl => ?_)
    have ho : lo_h h (dn_may f x y k).1 (dn_may f x y k).2.1 = h := if_neg (by rw [hx0]; exact fun z => by cases z)
    rw [ho]
    refine lv_iconst (v := 3) hx hb dW_may_25 (by decide) ?_
    exact fr_iret C hP hD hS (by rw [hx0]; rfl) dW_may_26

theorem ex_together {f : Nat → Nat → Int32} {x : Int32} {y : Int32} : (dn_together f x y).1 = none ∨ (dn_together f x y).1 = xN ∨ (dn_together f x y).1 = xS := by
  unfold dn_together
  repeat' split
  all_goals first | exact Or.inl rfl | exact Or.inr (Or.inl rfl) | exact Or.inr (Or.inr (rfl))

set_option maxHeartbeats 4000000 in
set_option maxRecDepth 100000 in
theorem w_together (l : Launch) (hls : l.stackTraces = false) (D : va_G) (ka : Nat → ClassId) (al be : Nat → Nat) (f g : Nat → Nat → Int32) (o : Nat) (h : Nat → Int64) (x : Int32) (y : Int32) (gU : 0 ≤ (f 0 0).toInt ∧ (f 0 0).toInt ≤ 10) (gR : 0 ≤ (f 0 1).toInt ∧ (f 0 1).toInt ≤ 12) (gO : fr_ord f) : fr_Mi l y_w_together (.codeWith y_w_together method_9_code 5 (some FieldType.int) [(0, 10, 13, 35), (0, 10, 17, 37)] :: fr_tbl) { frames := 7, cells := 1, slots := 6, locals := 141 } D vwCl (fr_ty ka) fr_nw [.ref (al 0), .int x, .int y, .ref o] (lw_w ka al f be g o h) (rl_c2 xN (dn_together f x y).1) (lw_w ka al (dn_together f x y).2.2 be g o (lo_h h (dn_together f x y).1 (dn_together f x y).2.1)) 1 6 := by
  refine fr_Mi.ofW (by decide) (Nat.le_of_ble_eq_true rfl) ?_
  intro p e s m below meth c A H locs ls C hP hD hS hl
  obtain ⟨hx, hb, hml, hown, ht, hK, hlocks, hr, hA, hN, hZ, hEx⟩ := id C
  have hl : lv_has ls 5 [(0, .ref (al 0)), (1, .int x), (2, .int y), (3, .ref o)] := hl
  refine lv_aload_n hx hb dW_together_0 rfl (lv_at hl 3 rfl) ?_
  refine lv_iconst (v := 0) hx hb dW_together_1 (by decide) ?_
  refine lv_aload_n hx hb dW_together_2 rfl (lv_at hl 0 rfl) ?_
  refine lv_iload_n hx hb dW_together_3 rfl (lv_at hl 1 rfl) ?_
  refine lv_iload_n hx hb dW_together_4 rfl (lv_at hl 2 rfl) ?_
  rcases ex_together (f := f) (x := x) (y := y) with hx0 | hx0 | hx0
  · refine nW_together hls C hP hD hS hl.1 ⟨Nat.le_of_ble_eq_true rfl, Nat.le_of_ble_eq_true rfl⟩ (Nat.le_of_ble_eq_true rfl) ⟨Nat.le_of_ble_eq_true rfl, Nat.le_of_ble_eq_true rfl⟩ gU gR gO dW_together_5 hx0 (fun H locs hP hD hS => ?_)
    refine lv_i2l (v := (dn_together f x y).2.1.toInt64) hx hb dW_together_8 rfl ?_
    refine va_last hx hb hK hP hD hS 40 3 (lw_w_o (f := (dn_together f x y).2.2)) rfl lw_in dW_together_9 (fun H locs hP hD hS => ?_)
    have ho : lo_h h (dn_together f x y).1 (dn_together f x y).2.1 = vp_updL h 0 (dn_together f x y).2.1.toInt64 := if_pos hx0
    rw [lw_w_set] at hP hD
    rw [ho]
    refine lv_goto (tgt := 21) hx hb dW_together_10 (by decide) ?_
    refine lv_iconst (v := 0) hx hb dW_together_21 (by decide) ?_
    exact fr_iret C hP hD hS (by rw [hx0]; rfl) dW_together_22
  · refine tW_together (E := "java/util/NoSuchElementException") (name := "java/util/NoSuchElementException") hls C hP hD hS hl.1 ⟨Nat.le_of_ble_eq_true rfl, Nat.le_of_ble_eq_true rfl⟩ (Nat.le_of_ble_eq_true rfl) ⟨Nat.le_of_ble_eq_true rfl, Nat.le_of_ble_eq_true rfl⟩ gU gR gO dW_together_5 [] ⟨0, 10, 13, 35⟩ [⟨0, 10, 17, 37⟩] hx0 rfl (fun z hz => nomatch hz) (by decide) (by decide) (ht _ clk_W_35) (va_Nw.use rfl (hN _ ca_xN).2) (fun q H locs hP hD hS => ?_)
    refine lv_astore (i := 4) (lv' := [(4, .ref q), (0, .ref (al 0)), (1, .int x), (2, .int y), (3, .ref o)]) hx hb dW_together_13 hl (by decide) rfl (fun ls hl => ?_)
    have ho : lo_h h (dn_together f x y).1 (dn_together f x y).2.1 = h := if_neg (by rw [hx0]; exact fun z => by cases z)
    rw [ho]
    refine lv_iconst (v := 1) hx hb dW_together_15 (by decide) ?_
    exact fr_iret C hP hD hS (by rw [hx0]; rfl) dW_together_16
  · refine tW_together (E := "java/lang/IllegalStateException") (name := "java/lang/IllegalStateException") hls C hP hD hS hl.1 ⟨Nat.le_of_ble_eq_true rfl, Nat.le_of_ble_eq_true rfl⟩ (Nat.le_of_ble_eq_true rfl) ⟨Nat.le_of_ble_eq_true rfl, Nat.le_of_ble_eq_true rfl⟩ gU gR gO dW_together_5 [⟨0, 10, 13, 35⟩] ⟨0, 10, 17, 37⟩ [] hx0 rfl (List.forall_mem_cons.mpr ⟨Or.inr ⟨by decide, "java/util/NoSuchElementException", ht _ clk_W_35, va_Nc.of (hN _ nc_xS_xN).2⟩, fun z hz => nomatch hz⟩) (by decide) (by decide) (ht _ clk_W_37) (va_Nw.use rfl (hN _ ca_xS).2) (fun q H locs hP hD hS => ?_)
    refine lv_astore (i := 4) (lv' := [(4, .ref q), (0, .ref (al 0)), (1, .int x), (2, .int y), (3, .ref o)]) hx hb dW_together_17 hl (by decide) rfl (fun ls hl => ?_)
    have ho : lo_h h (dn_together f x y).1 (dn_together f x y).2.1 = h := if_neg (by rw [hx0]; exact fun z => by cases z)
    rw [ho]
    refine lv_iconst (v := 2) hx hb dW_together_19 (by decide) ?_
    exact fr_iret C hP hD hS (by rw [hx0]; rfl) dW_together_20

theorem ex_mark {f : Nat → Nat → Int32} {x : Int32} {y : Int32} : (dn_mark f x y).1 = none ∨ (dn_mark f x y).1 = xN ∨ (dn_mark f x y).1 = xI ∨ (dn_mark f x y).1 = xS := by
  unfold dn_mark
  repeat' split
  all_goals first | exact Or.inl rfl | exact Or.inr (Or.inl rfl) | exact Or.inr (Or.inr (Or.inl rfl)) | exact Or.inr (Or.inr (Or.inr (rfl)))

set_option maxHeartbeats 4000000 in
set_option maxRecDepth 100000 in
theorem w_mark (l : Launch) (hls : l.stackTraces = false) (D : va_G) (ka : Nat → ClassId) (al be : Nat → Nat) (f g : Nat → Nat → Int32) (o : Nat) (h : Nat → Int64) (x : Int32) (y : Int32) (gU : 0 ≤ (f 0 0).toInt ∧ (f 0 0).toInt ≤ 10) (gR : 0 ≤ (f 0 1).toInt ∧ (f 0 1).toInt ≤ 12) (gO : fr_ord f) : fr_Mi l y_w_mark (.codeWith y_w_mark method_10_code 5 (some FieldType.int) [(0, 10, 13, 35), (0, 10, 17, 13), (0, 10, 21, 37)] :: fr_tbl) { frames := 7, cells := 1, slots := 6, locals := 143 } D vwCl (fr_ty ka) fr_nw [.ref (al 0), .int x, .int y, .ref o] (lw_w ka al f be g o h) (rl_c3 xN xI (dn_mark f x y).1) (lw_w ka al (dn_mark f x y).2.2 be g o (lo_h h (dn_mark f x y).1 (dn_mark f x y).2.1)) 1 6 := by
  refine fr_Mi.ofW (by decide) (Nat.le_of_ble_eq_true rfl) ?_
  intro p e s m below meth c A H locs ls C hP hD hS hl
  obtain ⟨hx, hb, hml, hown, ht, hK, hlocks, hr, hA, hN, hZ, hEx⟩ := id C
  have hl : lv_has ls 5 [(0, .ref (al 0)), (1, .int x), (2, .int y), (3, .ref o)] := hl
  refine lv_aload_n hx hb dW_mark_0 rfl (lv_at hl 3 rfl) ?_
  refine lv_iconst (v := 0) hx hb dW_mark_1 (by decide) ?_
  refine lv_aload_n hx hb dW_mark_2 rfl (lv_at hl 0 rfl) ?_
  refine lv_iload_n hx hb dW_mark_3 rfl (lv_at hl 1 rfl) ?_
  refine lv_iload_n hx hb dW_mark_4 rfl (lv_at hl 2 rfl) ?_
  rcases ex_mark (f := f) (x := x) (y := y) with hx0 | hx0 | hx0 | hx0
  · refine nW_mark hls C hP hD hS hl.1 ⟨Nat.le_of_ble_eq_true rfl, Nat.le_of_ble_eq_true rfl⟩ (Nat.le_of_ble_eq_true rfl) ⟨Nat.le_of_ble_eq_true rfl, Nat.le_of_ble_eq_true rfl⟩ gU gR gO dW_mark_5 hx0 (fun H locs hP hD hS => ?_)
    refine lv_i2l (v := (dn_mark f x y).2.1.toInt64) hx hb dW_mark_8 rfl ?_
    refine va_last hx hb hK hP hD hS 40 3 (lw_w_o (f := (dn_mark f x y).2.2)) rfl lw_in dW_mark_9 (fun H locs hP hD hS => ?_)
    have ho : lo_h h (dn_mark f x y).1 (dn_mark f x y).2.1 = vp_updL h 0 (dn_mark f x y).2.1.toInt64 := if_pos hx0
    rw [lw_w_set] at hP hD
    rw [ho]
    refine lv_goto (tgt := 25) hx hb dW_mark_10 (by decide) ?_
    refine lv_iconst (v := 0) hx hb dW_mark_25 (by decide) ?_
    exact fr_iret C hP hD hS (by rw [hx0]; rfl) dW_mark_26
  · refine tW_mark (E := "java/util/NoSuchElementException") (name := "java/util/NoSuchElementException") hls C hP hD hS hl.1 ⟨Nat.le_of_ble_eq_true rfl, Nat.le_of_ble_eq_true rfl⟩ (Nat.le_of_ble_eq_true rfl) ⟨Nat.le_of_ble_eq_true rfl, Nat.le_of_ble_eq_true rfl⟩ gU gR gO dW_mark_5 [] ⟨0, 10, 13, 35⟩ [⟨0, 10, 17, 13⟩, ⟨0, 10, 21, 37⟩] hx0 rfl (fun z hz => nomatch hz) (by decide) (by decide) (ht _ clk_W_35) (va_Nw.use rfl (hN _ ca_xN).2) (fun q H locs hP hD hS => ?_)
    refine lv_astore (i := 4) (lv' := [(4, .ref q), (0, .ref (al 0)), (1, .int x), (2, .int y), (3, .ref o)]) hx hb dW_mark_13 hl (by decide) rfl (fun ls hl => ?_)
    have ho : lo_h h (dn_mark f x y).1 (dn_mark f x y).2.1 = h := if_neg (by rw [hx0]; exact fun z => by cases z)
    rw [ho]
    refine lv_iconst (v := 1) hx hb dW_mark_15 (by decide) ?_
    exact fr_iret C hP hD hS (by rw [hx0]; rfl) dW_mark_16
  · refine tW_mark (E := "java/lang/IllegalArgumentException") (name := "java/lang/IllegalArgumentException") hls C hP hD hS hl.1 ⟨Nat.le_of_ble_eq_true rfl, Nat.le_of_ble_eq_true rfl⟩ (Nat.le_of_ble_eq_true rfl) ⟨Nat.le_of_ble_eq_true rfl, Nat.le_of_ble_eq_true rfl⟩ gU gR gO dW_mark_5 [⟨0, 10, 13, 35⟩] ⟨0, 10, 17, 13⟩ [⟨0, 10, 21, 37⟩] hx0 rfl (List.forall_mem_cons.mpr ⟨Or.inr ⟨by decide, "java/util/NoSuchElementException", ht _ clk_W_35, va_Nc.of (hN _ nc_xI_xN).2⟩, fun z hz => nomatch hz⟩) (by decide) (by decide) (ht _ clk_W_13) (va_Nw.use rfl (hN _ ca_xI).2) (fun q H locs hP hD hS => ?_)
    refine lv_astore (i := 4) (lv' := [(4, .ref q), (0, .ref (al 0)), (1, .int x), (2, .int y), (3, .ref o)]) hx hb dW_mark_17 hl (by decide) rfl (fun ls hl => ?_)
    have ho : lo_h h (dn_mark f x y).1 (dn_mark f x y).2.1 = h := if_neg (by rw [hx0]; exact fun z => by cases z)
    rw [ho]
    refine lv_iconst (v := 2) hx hb dW_mark_19 (by decide) ?_
    exact fr_iret C hP hD hS (by rw [hx0]; rfl) dW_mark_20
  · refine tW_mark (E := "java/lang/IllegalStateException") (name := "java/lang/IllegalStateException") hls C hP hD hS hl.1 ⟨Nat.le_of_ble_eq_true rfl, Nat.le_of_ble_eq_true rfl⟩ (Nat.le_of_ble_eq_true rfl) ⟨Nat.le_of_ble_eq_true rfl, Nat.le_of_ble_eq_true rfl⟩ gU gR gO dW_mark_5 [⟨0, 10, 13, 35⟩, ⟨0, 10, 17, 13⟩] ⟨0, 10, 21, 37⟩ [] hx0 rfl (List.forall_mem_cons.mpr ⟨Or.inr ⟨by decide, "java/util/NoSuchElementException", ht _ clk_W_35, va_Nc.of (hN _ nc_xS_xN).2⟩, List.forall_mem_cons.mpr ⟨Or.inr ⟨by decide, "java/lang/IllegalArgumentException", ht _ clk_W_13, va_Nc.of (hN _ nc_xS_xI).2⟩, fun z hz => nomatch hz⟩⟩) (by decide) (by decide) (ht _ clk_W_37) (va_Nw.use rfl (hN _ ca_xS).2) (fun q H locs hP hD hS => ?_)
    refine lv_astore (i := 4) (lv' := [(4, .ref q), (0, .ref (al 0)), (1, .int x), (2, .int y), (3, .ref o)]) hx hb dW_mark_21 hl (by decide) rfl (fun ls hl => ?_)
    have ho : lo_h h (dn_mark f x y).1 (dn_mark f x y).2.1 = h := if_neg (by rw [hx0]; exact fun z => by cases z)
    rw [ho]
    refine lv_iconst (v := 3) hx hb dW_mark_23 (by decide) ?_
    exact fr_iret C hP hD hS (by rw [hx0]; rfl) dW_mark_24

theorem ex_never_18 {x : Int32} : ∀ (n : Nat) (f : Nat → Nat → Int32) (x2 x3 : Int32), (dn_never_18 n f x x2 x3).1 = none := by
  intro n
  induction n with
  | zero => intro f x2 x3; rfl
  | succ n ih =>
    intro f x2 x3
    rw [dn_never_18]
    repeat' split
    all_goals first | rfl | exact ih _ _ _

theorem ex_never {f : Nat → Nat → Int32} {x : Int32} : (dn_never f x).1 = none ∨ (dn_never f x).1 = xI := by
  unfold dn_never
  repeat' split
  all_goals first | exact Or.inl rfl | exact Or.inr (rfl) | exact Or.inl (ex_never_18 _ _ _ _)

set_option maxHeartbeats 4000000 in
set_option maxRecDepth 100000 in
theorem w_never (l : Launch) (hls : l.stackTraces = false) (D : va_G) (ka : Nat → ClassId) (al be : Nat → Nat) (f g : Nat → Nat → Int32) (o : Nat) (h : Nat → Int64) (x : Int32) (gR : 0 ≤ (f 0 1).toInt ∧ (f 0 1).toInt ≤ 12) : fr_Mi l y_w_never (.codeWith y_w_never method_11_code 4 (some FieldType.int) [(0, 9, 12, 13)] :: fr_tbl) { frames := 7, cells := 1, slots := 6, locals := 113 } D vwCl (fr_ty ka) fr_nw [.ref (al 0), .int x, .ref o] (lw_w ka al f be g o h) (rl_c1 (dn_never f x).1) (lw_w ka al (dn_never f x).2.2 be g o (lo_h h (dn_never f x).1 (dn_never f x).2.1)) 1 6 := by
  refine fr_Mi.ofW (by decide) (Nat.le_of_ble_eq_true rfl) ?_
  intro p e s m below meth c A H locs ls C hP hD hS hl
  obtain ⟨hx, hb, hml, hown, ht, hK, hlocks, hr, hA, hN, hZ, hEx⟩ := id C
  have hl : lv_has ls 4 [(0, .ref (al 0)), (1, .int x), (2, .ref o)] := hl
  refine lv_aload_n hx hb dW_never_0 rfl (lv_at hl 2 rfl) ?_
  refine lv_iconst (v := 0) hx hb dW_never_1 (by decide) ?_
  refine lv_aload_n hx hb dW_never_2 rfl (lv_at hl 0 rfl) ?_
  refine lv_iload_n hx hb dW_never_3 rfl (lv_at hl 1 rfl) ?_
  rcases ex_never (f := f) (x := x) with hx0 | hx0
  · refine nW_never hls C hP hD hS hl.1 ⟨Nat.le_of_ble_eq_true rfl, Nat.le_of_ble_eq_true rfl⟩ (Nat.le_of_ble_eq_true rfl) ⟨Nat.le_of_ble_eq_true rfl, Nat.le_of_ble_eq_true rfl⟩ gR dW_never_4 hx0 (fun H locs hP hD hS => ?_)
    refine lv_i2l (v := (dn_never f x).2.1.toInt64) hx hb dW_never_7 rfl ?_
    refine va_last hx hb hK hP hD hS 40 3 (lw_w_o (f := (dn_never f x).2.2)) rfl lw_in dW_never_8 (fun H locs hP hD hS => ?_)
    have ho : lo_h h (dn_never f x).1 (dn_never f x).2.1 = vp_updL h 0 (dn_never f x).2.1.toInt64 := if_pos hx0
    rw [lw_w_set] at hP hD
    rw [ho]
    refine lv_goto (tgt := 15) hx hb dW_never_9 (by decide) ?_
    refine lv_iconst (v := 0) hx hb dW_never_15 (by decide) ?_
    exact fr_iret C hP hD hS (by rw [hx0]; rfl) dW_never_16
  · refine tW_never (E := "java/lang/IllegalArgumentException") (name := "java/lang/IllegalArgumentException") hls C hP hD hS hl.1 ⟨Nat.le_of_ble_eq_true rfl, Nat.le_of_ble_eq_true rfl⟩ (Nat.le_of_ble_eq_true rfl) ⟨Nat.le_of_ble_eq_true rfl, Nat.le_of_ble_eq_true rfl⟩ gR dW_never_4 [] ⟨0, 9, 12, 13⟩ [] hx0 rfl (fun z hz => nomatch hz) (by decide) (by decide) (ht _ clk_W_13) (va_Nw.use rfl (hN _ ca_xI).2) (fun q H locs hP hD hS => ?_)
    refine lv_astore_n (i := 3) (lv' := [(3, .ref q), (0, .ref (al 0)), (1, .int x), (2, .ref o)]) hx hb dW_never_12 rfl hl (by decide) rfl (fun ls hl => ?_)
    have ho : lo_h h (dn_never f x).1 (dn_never f x).2.1 = h := if_neg (by rw [hx0]; exact fun z => by cases z)
    rw [ho]
    refine lv_iconst (v := 1) hx hb dW_never_13 (by decide) ?_
    exact fr_iret C hP hD hS (by rw [hx0]; rfl) dW_never_14

theorem ex_order {f : Nat → Nat → Int32} {x : Int32} {y : Int32} : (dn_order f x y).1 = none ∨ (dn_order f x y).1 = xN ∨ (dn_order f x y).1 = xI := by
  unfold dn_order
  repeat' split
  all_goals first | exact Or.inl rfl | exact Or.inr (Or.inl rfl) | exact Or.inr (Or.inr (rfl))

set_option maxHeartbeats 4000000 in
set_option maxRecDepth 100000 in
theorem w_order (l : Launch) (hls : l.stackTraces = false) (D : va_G) (ka : Nat → ClassId) (al be : Nat → Nat) (f g : Nat → Nat → Int32) (o : Nat) (h : Nat → Int64) (x : Int32) (y : Int32) (gR : 0 ≤ (f 0 1).toInt ∧ (f 0 1).toInt ≤ 12) : fr_Mi l y_w_order (.codeWith y_w_order method_12_code 5 (some FieldType.int) [(0, 10, 13, 35), (0, 10, 17, 13)] :: fr_tbl) { frames := 7, cells := 1, slots := 6, locals := 113 } D vwCl (fr_ty ka) fr_nw [.ref (al 0), .int x, .int y, .ref o] (lw_w ka al f be g o h) (rl_c2 xN (dn_order f x y).1) (lw_w ka al (dn_order f x y).2.2 be g o (lo_h h (dn_order f x y).1 (dn_order f x y).2.1)) 1 6 := by
  refine fr_Mi.ofW (by decide) (Nat.le_of_ble_eq_true rfl) ?_
  intro p e s m below meth c A H locs ls C hP hD hS hl
  obtain ⟨hx, hb, hml, hown, ht, hK, hlocks, hr, hA, hN, hZ, hEx⟩ := id C
  have hl : lv_has ls 5 [(0, .ref (al 0)), (1, .int x), (2, .int y), (3, .ref o)] := hl
  refine lv_aload_n hx hb dW_order_0 rfl (lv_at hl 3 rfl) ?_
  refine lv_iconst (v := 0) hx hb dW_order_1 (by decide) ?_
  refine lv_aload_n hx hb dW_order_2 rfl (lv_at hl 0 rfl) ?_
  refine lv_iload_n hx hb dW_order_3 rfl (lv_at hl 1 rfl) ?_
  refine lv_iload_n hx hb dW_order_4 rfl (lv_at hl 2 rfl) ?_
  rcases ex_order (f := f) (x := x) (y := y) with hx0 | hx0 | hx0
  · refine nW_order hls C hP hD hS hl.1 ⟨Nat.le_of_ble_eq_true rfl, Nat.le_of_ble_eq_true rfl⟩ (Nat.le_of_ble_eq_true rfl) ⟨Nat.le_of_ble_eq_true rfl, Nat.le_of_ble_eq_true rfl⟩ gR dW_order_5 hx0 (fun H locs hP hD hS => ?_)
    refine lv_i2l (v := (dn_order f x y).2.1.toInt64) hx hb dW_order_8 rfl ?_
    refine va_last hx hb hK hP hD hS 40 3 (lw_w_o (f := (dn_order f x y).2.2)) rfl lw_in dW_order_9 (fun H locs hP hD hS => ?_)
    have ho : lo_h h (dn_order f x y).1 (dn_order f x y).2.1 = vp_updL h 0 (dn_order f x y).2.1.toInt64 := if_pos hx0
    rw [lw_w_set] at hP hD
    rw [ho]
    refine lv_goto (tgt := 21) hx hb dW_order_10 (by decide) ?_
    refine lv_iconst (v := 0) hx hb dW_order_21 (by decide) ?_
    exact fr_iret C hP hD hS (by rw [hx0]; rfl) dW_order_22
  · refine tW_order (E := "java/util/NoSuchElementException") (name := "java/util/NoSuchElementException") hls C hP hD hS hl.1 ⟨Nat.le_of_ble_eq_true rfl, Nat.le_of_ble_eq_true rfl⟩ (Nat.le_of_ble_eq_true rfl) ⟨Nat.le_of_ble_eq_true rfl, Nat.le_of_ble_eq_true rfl⟩ gR dW_order_5 [] ⟨0, 10, 13, 35⟩ [⟨0, 10, 17, 13⟩] hx0 rfl (fun z hz => nomatch hz) (by decide) (by decide) (ht _ clk_W_35) (va_Nw.use rfl (hN _ ca_xN).2) (fun q H locs hP hD hS => ?_)
    refine lv_astore (i := 4) (lv' := [(4, .ref q), (0, .ref (al 0)), (1, .int x), (2, .int y), (3, .ref o)]) hx hb dW_order_13 hl (by decide) rfl (fun ls hl => ?_)
    have ho : lo_h h (dn_order f x y).1 (dn_order f x y).2.1 = h := if_neg (by rw [hx0]; exact fun z => by cases z)
    rw [ho]
    refine lv_iconst (v := 1) hx hb dW_order_15 (by decide) ?_
    exact fr_iret C hP hD hS (by rw [hx0]; rfl) dW_order_16
  · refine tW_order (E := "java/lang/IllegalArgumentException") (name := "java/lang/IllegalArgumentException") hls C hP hD hS hl.1 ⟨Nat.le_of_ble_eq_true rfl, Nat.le_of_ble_eq_true rfl⟩ (Nat.le_of_ble_eq_true rfl) ⟨Nat.le_of_ble_eq_true rfl, Nat.le_of_ble_eq_true rfl⟩ gR dW_order_5 [⟨0, 10, 13, 35⟩] ⟨0, 10, 17, 13⟩ [] hx0 rfl (List.forall_mem_cons.mpr ⟨Or.inr ⟨by decide, "java/util/NoSuchElementException", ht _ clk_W_35, va_Nc.of (hN _ nc_xI_xN).2⟩, fun z hz => nomatch hz⟩) (by decide) (by decide) (ht _ clk_W_13) (va_Nw.use rfl (hN _ ca_xI).2) (fun q H locs hP hD hS => ?_)
    refine lv_astore (i := 4) (lv' := [(4, .ref q), (0, .ref (al 0)), (1, .int x), (2, .int y), (3, .ref o)]) hx hb dW_order_17 hl (by decide) rfl (fun ls hl => ?_)
    have ho : lo_h h (dn_order f x y).1 (dn_order f x y).2.1 = h := if_neg (by rw [hx0]; exact fun z => by cases z)
    rw [ho]
    refine lv_iconst (v := 2) hx hb dW_order_19 (by decide) ?_
    exact fr_iret C hP hD hS (by rw [hx0]; rfl) dW_order_20

theorem ex_told {f : Nat → Nat → Int32} {x : Int32} {y : Int32} : (dn_told f x y).1 = none ∨ (dn_told f x y).1 = xN ∨ (dn_told f x y).1 = xI := by
  unfold dn_told
  repeat' split
  all_goals first | exact Or.inl rfl | exact Or.inr (Or.inl rfl) | exact Or.inr (Or.inr (rfl))

set_option maxHeartbeats 4000000 in
set_option maxRecDepth 100000 in
theorem w_told (l : Launch) (hls : l.stackTraces = false) (D : va_G) (ka : Nat → ClassId) (al be : Nat → Nat) (f g : Nat → Nat → Int32) (o : Nat) (h : Nat → Int64) (x : Int32) (y : Int32) (gR : 0 ≤ (f 0 1).toInt ∧ (f 0 1).toInt ≤ 12) : fr_Mi l y_w_told (.codeWith y_w_told method_13_code 5 (some FieldType.int) [(0, 10, 13, 35), (0, 10, 17, 13)] :: fr_tbl) { frames := 7, cells := 1, slots := 6, locals := 113 } D vwCl (fr_ty ka) fr_nw [.ref (al 0), .int x, .int y, .ref o] (lw_w ka al f be g o h) (rl_c2 xN (dn_told f x y).1) (lw_w ka al (dn_told f x y).2.2 be g o (lo_h h (dn_told f x y).1 (dn_told f x y).2.1)) 1 6 := by
  refine fr_Mi.ofW (by decide) (Nat.le_of_ble_eq_true rfl) ?_
  intro p e s m below meth c A H locs ls C hP hD hS hl
  obtain ⟨hx, hb, hml, hown, ht, hK, hlocks, hr, hA, hN, hZ, hEx⟩ := id C
  have hl : lv_has ls 5 [(0, .ref (al 0)), (1, .int x), (2, .int y), (3, .ref o)] := hl
  refine lv_aload_n hx hb dW_told_0 rfl (lv_at hl 3 rfl) ?_
  refine lv_iconst (v := 0) hx hb dW_told_1 (by decide) ?_
  refine lv_aload_n hx hb dW_told_2 rfl (lv_at hl 0 rfl) ?_
  refine lv_iload_n hx hb dW_told_3 rfl (lv_at hl 1 rfl) ?_
  refine lv_iload_n hx hb dW_told_4 rfl (lv_at hl 2 rfl) ?_
  rcases ex_told (f := f) (x := x) (y := y) with hx0 | hx0 | hx0
  · refine nW_told hls C hP hD hS hl.1 ⟨Nat.le_of_ble_eq_true rfl, Nat.le_of_ble_eq_true rfl⟩ (Nat.le_of_ble_eq_true rfl) ⟨Nat.le_of_ble_eq_true rfl, Nat.le_of_ble_eq_true rfl⟩ gR dW_told_5 hx0 (fun H locs hP hD hS => ?_)
    refine lv_i2l (v := (dn_told f x y).2.1.toInt64) hx hb dW_told_8 rfl ?_
    refine va_last hx hb hK hP hD hS 40 3 (lw_w_o (f := (dn_told f x y).2.2)) rfl lw_in dW_told_9 (fun H locs hP hD hS => ?_)
    have ho : lo_h h (dn_told f x y).1 (dn_told f x y).2.1 = vp_updL h 0 (dn_told f x y).2.1.toInt64 := if_pos hx0
    rw [lw_w_set] at hP hD
    rw [ho]
    refine lv_goto (tgt := 21) hx hb dW_told_10 (by decide) ?_
    refine lv_iconst (v := 0) hx hb dW_told_21 (by decide) ?_
    exact fr_iret C hP hD hS (by rw [hx0]; rfl) dW_told_22
  · refine tW_told (E := "java/util/NoSuchElementException") (name := "java/util/NoSuchElementException") hls C hP hD hS hl.1 ⟨Nat.le_of_ble_eq_true rfl, Nat.le_of_ble_eq_true rfl⟩ (Nat.le_of_ble_eq_true rfl) ⟨Nat.le_of_ble_eq_true rfl, Nat.le_of_ble_eq_true rfl⟩ gR dW_told_5 [] ⟨0, 10, 13, 35⟩ [⟨0, 10, 17, 13⟩] hx0 rfl (fun z hz => nomatch hz) (by decide) (by decide) (ht _ clk_W_35) (va_Nw.use rfl (hN _ ca_xN).2) (fun q H locs hP hD hS => ?_)
    refine lv_astore (i := 4) (lv' := [(4, .ref q), (0, .ref (al 0)), (1, .int x), (2, .int y), (3, .ref o)]) hx hb dW_told_13 hl (by decide) rfl (fun ls hl => ?_)
    have ho : lo_h h (dn_told f x y).1 (dn_told f x y).2.1 = h := if_neg (by rw [hx0]; exact fun z => by cases z)
    rw [ho]
    refine lv_iconst (v := 1) hx hb dW_told_15 (by decide) ?_
    exact fr_iret C hP hD hS (by rw [hx0]; rfl) dW_told_16
  · refine tW_told (E := "java/lang/IllegalArgumentException") (name := "java/lang/IllegalArgumentException") hls C hP hD hS hl.1 ⟨Nat.le_of_ble_eq_true rfl, Nat.le_of_ble_eq_true rfl⟩ (Nat.le_of_ble_eq_true rfl) ⟨Nat.le_of_ble_eq_true rfl, Nat.le_of_ble_eq_true rfl⟩ gR dW_told_5 [⟨0, 10, 13, 35⟩] ⟨0, 10, 17, 13⟩ [] hx0 rfl (List.forall_mem_cons.mpr ⟨Or.inr ⟨by decide, "java/util/NoSuchElementException", ht _ clk_W_35, va_Nc.of (hN _ nc_xI_xN).2⟩, fun z hz => nomatch hz⟩) (by decide) (by decide) (ht _ clk_W_13) (va_Nw.use rfl (hN _ ca_xI).2) (fun q H locs hP hD hS => ?_)
    refine lv_astore (i := 4) (lv' := [(4, .ref q), (0, .ref (al 0)), (1, .int x), (2, .int y), (3, .ref o)]) hx hb dW_told_17 hl (by decide) rfl (fun ls hl => ?_)
    have ho : lo_h h (dn_told f x y).1 (dn_told f x y).2.1 = h := if_neg (by rw [hx0]; exact fun z => by cases z)
    rw [ho]
    refine lv_iconst (v := 2) hx hb dW_told_19 (by decide) ?_
    exact fr_iret C hP hD hS (by rw [hx0]; rfl) dW_told_20

theorem ex_about {f : Nat → Nat → Int32} {x : Int32} {y : Int32} : (dn_about f x y).1 = none ∨ (dn_about f x y).1 = xN ∨ (dn_about f x y).1 = xI := by
  unfold dn_about
  repeat' split
  all_goals first | exact Or.inl rfl | exact Or.inr (Or.inl rfl) | exact Or.inr (Or.inr (rfl))

set_option maxHeartbeats 4000000 in
set_option maxRecDepth 100000 in
theorem w_about (l : Launch) (hls : l.stackTraces = false) (D : va_G) (ka : Nat → ClassId) (al be : Nat → Nat) (f g : Nat → Nat → Int32) (o : Nat) (h : Nat → Int64) (x : Int32) (y : Int32) (gU : 0 ≤ (f 0 0).toInt ∧ (f 0 0).toInt ≤ 10) : fr_Mi l y_w_about (.codeWith y_w_about method_14_code 5 (some FieldType.int) [(0, 10, 13, 35), (0, 10, 17, 13)] :: fr_tbl) { frames := 7, cells := 1, slots := 6, locals := 112 } D vwCl (fr_ty ka) fr_nw [.ref (al 0), .int x, .int y, .ref o] (lw_w ka al f be g o h) (rl_c2 xN (dn_about f x y).1) (lw_w ka al (dn_about f x y).2.2 be g o (lo_h h (dn_about f x y).1 (dn_about f x y).2.1)) 1 6 := by
  refine fr_Mi.ofW (by decide) (Nat.le_of_ble_eq_true rfl) ?_
  intro p e s m below meth c A H locs ls C hP hD hS hl
  obtain ⟨hx, hb, hml, hown, ht, hK, hlocks, hr, hA, hN, hZ, hEx⟩ := id C
  have hl : lv_has ls 5 [(0, .ref (al 0)), (1, .int x), (2, .int y), (3, .ref o)] := hl
  refine lv_aload_n hx hb dW_about_0 rfl (lv_at hl 3 rfl) ?_
  refine lv_iconst (v := 0) hx hb dW_about_1 (by decide) ?_
  refine lv_aload_n hx hb dW_about_2 rfl (lv_at hl 0 rfl) ?_
  refine lv_iload_n hx hb dW_about_3 rfl (lv_at hl 1 rfl) ?_
  refine lv_iload_n hx hb dW_about_4 rfl (lv_at hl 2 rfl) ?_
  rcases ex_about (f := f) (x := x) (y := y) with hx0 | hx0 | hx0
  · refine nW_about hls C hP hD hS hl.1 ⟨Nat.le_of_ble_eq_true rfl, Nat.le_of_ble_eq_true rfl⟩ (Nat.le_of_ble_eq_true rfl) ⟨Nat.le_of_ble_eq_true rfl, Nat.le_of_ble_eq_true rfl⟩ gU dW_about_5 hx0 (fun H locs hP hD hS => ?_)
    refine lv_i2l (v := (dn_about f x y).2.1.toInt64) hx hb dW_about_8 rfl ?_
    refine va_last hx hb hK hP hD hS 40 3 (lw_w_o (f := (dn_about f x y).2.2)) rfl lw_in dW_about_9 (fun H locs hP hD hS => ?_)
    have ho : lo_h h (dn_about f x y).1 (dn_about f x y).2.1 = vp_updL h 0 (dn_about f x y).2.1.toInt64 := if_pos hx0
    rw [lw_w_set] at hP hD
    rw [ho]
    refine lv_goto (tgt := 21) hx hb dW_about_10 (by decide) ?_
    refine lv_iconst (v := 0) hx hb dW_about_21 (by decide) ?_
    exact fr_iret C hP hD hS (by rw [hx0]; rfl) dW_about_22
  · refine tW_about (E := "java/util/NoSuchElementException") (name := "java/util/NoSuchElementException") hls C hP hD hS hl.1 ⟨Nat.le_of_ble_eq_true rfl, Nat.le_of_ble_eq_true rfl⟩ (Nat.le_of_ble_eq_true rfl) ⟨Nat.le_of_ble_eq_true rfl, Nat.le_of_ble_eq_true rfl⟩ gU dW_about_5 [] ⟨0, 10, 13, 35⟩ [⟨0, 10, 17, 13⟩] hx0 rfl (fun z hz => nomatch hz) (by decide) (by decide) (ht _ clk_W_35) (va_Nw.use rfl (hN _ ca_xN).2) (fun q H locs hP hD hS => ?_)
    refine lv_astore (i := 4) (lv' := [(4, .ref q), (0, .ref (al 0)), (1, .int x), (2, .int y), (3, .ref o)]) hx hb dW_about_13 hl (by decide) rfl (fun ls hl => ?_)
    have ho : lo_h h (dn_about f x y).1 (dn_about f x y).2.1 = h := if_neg (by rw [hx0]; exact fun z => by cases z)
    rw [ho]
    refine lv_iconst (v := 1) hx hb dW_about_15 (by decide) ?_
    exact fr_iret C hP hD hS (by rw [hx0]; rfl) dW_about_16
  · refine tW_about (E := "java/lang/IllegalArgumentException") (name := "java/lang/IllegalArgumentException") hls C hP hD hS hl.1 ⟨Nat.le_of_ble_eq_true rfl, Nat.le_of_ble_eq_true rfl⟩ (Nat.le_of_ble_eq_true rfl) ⟨Nat.le_of_ble_eq_true rfl, Nat.le_of_ble_eq_true rfl⟩ gU dW_about_5 [⟨0, 10, 13, 35⟩] ⟨0, 10, 17, 13⟩ [] hx0 rfl (List.forall_mem_cons.mpr ⟨Or.inr ⟨by decide, "java/util/NoSuchElementException", ht _ clk_W_35, va_Nc.of (hN _ nc_xI_xN).2⟩, fun z hz => nomatch hz⟩) (by decide) (by decide) (ht _ clk_W_13) (va_Nw.use rfl (hN _ ca_xI).2) (fun q H locs hP hD hS => ?_)
    refine lv_astore (i := 4) (lv' := [(4, .ref q), (0, .ref (al 0)), (1, .int x), (2, .int y), (3, .ref o)]) hx hb dW_about_17 hl (by decide) rfl (fun ls hl => ?_)
    have ho : lo_h h (dn_about f x y).1 (dn_about f x y).2.1 = h := if_neg (by rw [hx0]; exact fun z => by cases z)
    rw [ho]
    refine lv_iconst (v := 2) hx hb dW_about_19 (by decide) ?_
    exact fr_iret C hP hD hS (by rw [hx0]; rfl) dW_about_20
