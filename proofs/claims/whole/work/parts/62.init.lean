set_option maxHeartbeats 4000000 in
set_option maxRecDepth 100000 in
theorem c_Ui (l : Launch) (D : va_G) (ka : Nat → ClassId) (w : va_W) (k q : Nat) (hk : w[k]? = some (q, .inr (1, [.int 0, .int 0, .int 0]))) : fr_Mv l y_Ui (.code y_Ui prog_4_method_1_code 1 none :: fr_tbl) { frames := 1, cells := 0, slots := 0, locals := 12 } D vwCl (fr_ty ka) fr_nw [.ref q] w w 0 0 := by
  refine fr_Mv.of (by decide) (Nat.le_of_ble_eq_true rfl) ?_
  intro p e s m below meth c A H locs ls C hin hP hD hS hl
  obtain ⟨hx, hb, hml, hown, ht, hK, hlocks, hr, hA, hN, hZ, hEx⟩ := id C
  have hl : lv_has ls 1 [(0, .ref q)] := hl
  have hset : w.set k (q, .inr (1, [.int 0, .int 0, .int 0])) = w := fr_set_self hk
  refine lv_aload_n hx hb dU_init_0 rfl (lv_at hl 0 rfl) ?_
  refine W.objInit hx hb hown (ht _ oi_Ui) (ht _ mi_oinit) (ht _ mc_oinit) rfl (by rw [hml]; exact hl.1) rfl dU_init_1 (Nat.le_of_ble_eq_true rfl) (Nat.le_of_ble_eq_true rfl) ?_
  refine W.eq (g2 := F0 m 4 ls []) rfl ?_
  refine lv_aload_n hx hb dU_init_4 rfl (lv_at hl 0 rfl) ?_
  refine lv_iconst (v := 0) hx hb dU_init_5 (by decide) ?_
  refine va_put (D := D) (ci := 1) (v := .int 0) (ty := .int) (C := "FragileRules$Unit") (T := TXU) (N := 3) C.1 C.2.1 C.2.2.2.2.1 iXU tyXU tokXU nmXU C.2.2.2.1 C.2.2.2.2.2.1 hP hD hS k hk rfl 0 (by decide) (C.2.2.2.2.1 _ fl_U_7) (fun _ h9 => h9) rfl (by decide +kernel) rfl rfl (Nat.le_of_ble_eq_true rfl) dU_init_6 (fun H locs hP hD hS => ?_)
  have hP : va_P D vwCl (w.set k (q, .inr (1, [.int 0, .int 0, .int 0]))) H := hP
  have hD : va_D A (w.set k (q, .inr (1, [.int 0, .int 0, .int 0]))) := hD
  rw [hset] at hP hD
  refine lv_aload_n hx hb dU_init_9 rfl (lv_at hl 0 rfl) ?_
  refine lv_iconst (v := 0) hx hb dU_init_10 (by decide) ?_
  refine va_put (D := D) (ci := 1) (v := .int 0) (ty := .int) (C := "FragileRules$Unit") (T := TXU) (N := 3) C.1 C.2.1 C.2.2.2.2.1 iXU tyXU tokXU nmXU C.2.2.2.1 C.2.2.2.2.2.1 hP hD hS k hk rfl 1 (by decide) (C.2.2.2.2.1 _ fl_U_13) (fun _ h9 => h9) rfl (by decide +kernel) rfl rfl (Nat.le_of_ble_eq_true rfl) dU_init_11 (fun H locs hP hD hS => ?_)
  have hP : va_P D vwCl (w.set k (q, .inr (1, [.int 0, .int 0, .int 0]))) H := hP
  have hD : va_D A (w.set k (q, .inr (1, [.int 0, .int 0, .int 0]))) := hD
  rw [hset] at hP hD
  refine lv_aload_n hx hb dU_init_14 rfl (lv_at hl 0 rfl) ?_
  refine lv_iconst (v := 0) hx hb dU_init_15 (by decide) ?_
  refine va_put (D := D) (ci := 1) (v := .int 0) (ty := .int) (C := "FragileRules$Unit") (T := TXU) (N := 3) C.1 C.2.1 C.2.2.2.2.1 iXU tyXU tokXU nmXU C.2.2.2.1 C.2.2.2.2.2.1 hP hD hS k hk rfl 2 (by decide) (C.2.2.2.2.1 _ fl_U_16) (fun _ h9 => h9) rfl (by decide +kernel) rfl rfl (Nat.le_of_ble_eq_true rfl) dU_init_16 (fun H locs hP hD hS => ?_)
  have hP : va_P D vwCl (w.set k (q, .inr (1, [.int 0, .int 0, .int 0]))) H := hP
  have hD : va_D A (w.set k (q, .inr (1, [.int 0, .int 0, .int 0]))) := hD
  rw [hset] at hP hD
  exact fr_vret C hP hD hS dU_init_19

set_option maxHeartbeats 4000000 in
set_option maxRecDepth 100000 in
theorem c_Ri (l : Launch) (D : va_G) (ka : Nat → ClassId) (w : va_W) (k q : Nat) (hk : w[k]? = some (q, .inr (2, [.int 0, .int 0, .int 0, .int 0]))) : fr_Mv l y_Ri (.code y_Ri prog_2_method_1_code 1 none :: fr_tbl) { frames := 1, cells := 0, slots := 0, locals := 12 } D vwCl (fr_ty ka) fr_nw [.ref q] w w 0 0 := by
  refine fr_Mv.of (by decide) (Nat.le_of_ble_eq_true rfl) ?_
  intro p e s m below meth c A H locs ls C hin hP hD hS hl
  obtain ⟨hx, hb, hml, hown, ht, hK, hlocks, hr, hA, hN, hZ, hEx⟩ := id C
  have hl : lv_has ls 1 [(0, .ref q)] := hl
  have hset : w.set k (q, .inr (2, [.int 0, .int 0, .int 0, .int 0])) = w := fr_set_self hk
  refine lv_aload_n hx hb dR_init_0 rfl (lv_at hl 0 rfl) ?_
  refine W.objInit hx hb hown (ht _ oi_Ri) (ht _ mi_oinit) (ht _ mc_oinit) rfl (by rw [hml]; exact hl.1) rfl dR_init_1 (Nat.le_of_ble_eq_true rfl) (Nat.le_of_ble_eq_true rfl) ?_
  refine W.eq (g2 := F0 m 4 ls []) rfl ?_
  refine lv_aload_n hx hb dR_init_4 rfl (lv_at hl 0 rfl) ?_
  refine lv_iconst (v := 0) hx hb dR_init_5 (by decide) ?_
  refine va_put (D := D) (ci := 2) (v := .int 0) (ty := .int) (C := "FragileRules$Rule") (T := TXR) (N := 4) C.1 C.2.1 C.2.2.2.2.1 iXR tyXR tokXR nmXR C.2.2.2.1 C.2.2.2.2.2.1 hP hD hS k hk rfl 0 (by decide) (C.2.2.2.2.1 _ fl_R_9) (fun _ h9 => h9) rfl (by decide +kernel) rfl rfl (Nat.le_of_ble_eq_true rfl) dR_init_6 (fun H locs hP hD hS => ?_)
  have hP : va_P D vwCl (w.set k (q, .inr (2, [.int 0, .int 0, .int 0, .int 0]))) H := hP
  have hD : va_D A (w.set k (q, .inr (2, [.int 0, .int 0, .int 0, .int 0]))) := hD
  rw [hset] at hP hD
  refine lv_aload_n hx hb dR_init_9 rfl (lv_at hl 0 rfl) ?_
  refine lv_iconst (v := 0) hx hb dR_init_10 (by decide) ?_
  refine va_put (D := D) (ci := 2) (v := .int 0) (ty := .int) (C := "FragileRules$Rule") (T := TXR) (N := 4) C.1 C.2.1 C.2.2.2.2.1 iXR tyXR tokXR nmXR C.2.2.2.1 C.2.2.2.2.2.1 hP hD hS k hk rfl 1 (by decide) (C.2.2.2.2.1 _ fl_R_15) (fun _ h9 => h9) rfl (by decide +kernel) rfl rfl (Nat.le_of_ble_eq_true rfl) dR_init_11 (fun H locs hP hD hS => ?_)
  have hP : va_P D vwCl (w.set k (q, .inr (2, [.int 0, .int 0, .int 0, .int 0]))) H := hP
  have hD : va_D A (w.set k (q, .inr (2, [.int 0, .int 0, .int 0, .int 0]))) := hD
  rw [hset] at hP hD
  refine lv_aload_n hx hb dR_init_14 rfl (lv_at hl 0 rfl) ?_
  refine lv_iconst (v := 0) hx hb dR_init_15 (by decide) ?_
  refine va_put (D := D) (ci := 2) (v := .int 0) (ty := .int) (C := "FragileRules$Rule") (T := TXR) (N := 4) C.1 C.2.1 C.2.2.2.2.1 iXR tyXR tokXR nmXR C.2.2.2.1 C.2.2.2.2.2.1 hP hD hS k hk rfl 2 (by decide) (C.2.2.2.2.1 _ fl_R_18) (fun _ h9 => h9) rfl (by decide +kernel) rfl rfl (Nat.le_of_ble_eq_true rfl) dR_init_16 (fun H locs hP hD hS => ?_)
  have hP : va_P D vwCl (w.set k (q, .inr (2, [.int 0, .int 0, .int 0, .int 0]))) H := hP
  have hD : va_D A (w.set k (q, .inr (2, [.int 0, .int 0, .int 0, .int 0]))) := hD
  rw [hset] at hP hD
  refine lv_aload_n hx hb dR_init_19 rfl (lv_at hl 0 rfl) ?_
  refine lv_iconst (v := 0) hx hb dR_init_20 (by decide) ?_
  refine va_put (D := D) (ci := 2) (v := .int 0) (ty := .int) (C := "FragileRules$Rule") (T := TXR) (N := 4) C.1 C.2.1 C.2.2.2.2.1 iXR tyXR tokXR nmXR C.2.2.2.1 C.2.2.2.2.2.1 hP hD hS k hk rfl 3 (by decide) (C.2.2.2.2.1 _ fl_R_21) (fun _ h9 => h9) rfl (by decide +kernel) rfl rfl (Nat.le_of_ble_eq_true rfl) dR_init_21 (fun H locs hP hD hS => ?_)
  have hP : va_P D vwCl (w.set k (q, .inr (2, [.int 0, .int 0, .int 0, .int 0]))) H := hP
  have hD : va_D A (w.set k (q, .inr (2, [.int 0, .int 0, .int 0, .int 0]))) := hD
  rw [hset] at hP hD
  exact fr_vret C hP hD hS dR_init_24

set_option maxHeartbeats 4000000 in
set_option maxRecDepth 100000 in
theorem c_Ti (l : Launch) (D : va_G) (ka : Nat → ClassId) (w : va_W) (k q : Nat) (hk : w[k]? = some (q, .inr (3, [.null, .int 0]))) : fr_Mk l y_Ti (.code y_Ti prog_3_method_1_code 1 none :: fr_tbl) { frames := 1, cells := 1, slots := 200, locals := 12 } D vwCl (fr_ty ka) fr_nw [.ref q] w (fun _ : Nat => True) (fun a => w.set k (q, .inr (3, [.ref a, .int 0])) ++ [fr_ia (ka 2) 200 a (fun _ => 0)]) 1 200 := by
  refine fr_Mk.of (by decide) (Nat.le_of_ble_eq_true rfl) ?_
  intro p e s m below meth c A H locs ls C hin hP hD hS hl
  obtain ⟨hx, hb, hml, hown, ht, hK, hlocks, hr, hA, hN, hZ, hEx⟩ := id C
  have hl : lv_has ls 1 [(0, .ref q)] := hl
  have hlen : k < w.length := (List.getElem?_eq_some_iff.mp hk).1
  refine lv_aload_n hx hb dT_init_0 rfl (lv_at hl 0 rfl) ?_
  refine W.objInit hx hb hown (ht _ oi_Ti) (ht _ mi_oinit) (ht _ mc_oinit) rfl (by rw [hml]; exact hl.1) rfl dT_init_1 (Nat.le_of_ble_eq_true rfl) (Nat.le_of_ble_eq_true rfl) ?_
  refine W.eq (g2 := F0 m 4 ls []) rfl ?_
  refine lv_aload_n hx hb dT_init_4 rfl (lv_at hl 0 rfl) ?_
  refine lv_sipush (v := 200) hx hb dT_init_5 (by decide) ?_
  refine fr_newi (N' := 200) C ac_int hP hD hS (by decide) (by decide) (by decide) (Nat.le_of_ble_eq_true rfl) (Nat.le_of_ble_eq_true rfl) dT_init_8 (fun a H hP hD hS => ?_)
  have hk1 : (w ++ [fr_ia (ka 2) 200 a (fun _ => 0)])[k]? = some (q, .inr (3, [.null, .int 0])) := by rw [List.getElem?_append_left hlen]; exact hk
  refine va_putF (D := D) (ci := 3) (v := .ref a) (ty := .array .int) (C := "FragileRules$Text") (T := TXT) (N := 2) C.1 C.2.1 C.2.2.2.2.1 iXT tyXT tokXT nmXT C.2.2.2.1 C.2.2.2.2.2.1 hP hD hS k hk1 rfl 0 (by decide) (C.2.2.2.2.1 _ fl_T_9) (fun _ h9 => h9) rfl hin rfl (by decide +kernel) rfl rfl (Nat.le_of_ble_eq_true rfl) dT_init_10 (fun H locs hP hD hS => ?_)
  have es : (w ++ [fr_ia (ka 2) 200 a (fun _ => 0)]).set k (q, .inr (3, [.ref a, .int 0])) = w.set k (q, .inr (3, [.ref a, .int 0])) ++ [fr_ia (ka 2) 200 a (fun _ => 0)] := List.set_append_left _ _ hlen
  have hP : va_P D vwCl ((w ++ [fr_ia (ka 2) 200 a (fun _ => 0)]).set k (q, .inr (3, [.ref a, .int 0]))) H := hP
  have hD : va_D A ((w ++ [fr_ia (ka 2) 200 a (fun _ => 0)]).set k (q, .inr (3, [.ref a, .int 0]))) := hD
  rw [es] at hP hD
  have hk2 : (w.set k (q, .inr (3, [.ref a, .int 0])) ++ [fr_ia (ka 2) 200 a (fun _ => 0)])[k]? = some (q, .inr (3, [.ref a, .int 0])) := by rw [List.getElem?_append_left (by rw [List.length_set]; exact hlen), List.getElem?_set_self hlen]
  have hset := fr_set_self hk2
  refine lv_aload_n hx hb dT_init_13 rfl (lv_at hl 0 rfl) ?_
  refine lv_iconst (v := 0) hx hb dT_init_14 (by decide) ?_
  refine va_put (D := D) (ci := 3) (v := .int 0) (ty := .int) (C := "FragileRules$Text") (T := TXT) (N := 2) C.1 C.2.1 C.2.2.2.2.1 iXT tyXT tokXT nmXT C.2.2.2.1 C.2.2.2.2.2.1 hP hD hS k hk2 rfl 1 (by decide) (C.2.2.2.2.1 _ fl_T_15) (fun _ h9 => h9) rfl (by decide +kernel) rfl rfl (Nat.le_of_ble_eq_true rfl) dT_init_15 (fun H locs hP hD hS => ?_)
  have hP : va_P D vwCl ((w.set k (q, .inr (3, [.ref a, .int 0])) ++ [fr_ia (ka 2) 200 a (fun _ => 0)]).set k (q, .inr (3, [.ref a, .int 0]))) H := hP
  have hD : va_D A ((w.set k (q, .inr (3, [.ref a, .int 0])) ++ [fr_ia (ka 2) 200 a (fun _ => 0)]).set k (q, .inr (3, [.ref a, .int 0]))) := hD
  rw [hset] at hP hD
  exact fr_kret (W' := fun a => w.set k (q, .inr (3, [.ref a, .int 0])) ++ [fr_ia (ka 2) 200 a (fun _ => 0)]) a C hP hD hS trivial dT_init_18

set_option maxHeartbeats 4000000 in
set_option maxRecDepth 100000 in
theorem c_Mi (l : Launch) (D : va_G) (ka : Nat → ClassId) (Z : va_W) (q : Nat) : fr_Mk l y_Mi (.code y_Mi prog_6_method_1_code 1 none :: fr_tbl) { frames := 1, cells := 10, slots := 302, locals := 13 } D vwCl (fr_ty ka) fr_nw [.ref q] ((q, .inr (4, [.int 0, .int 0, .int 0, .int 0, .int 0, .int 0, .null, .null, .null, .null, .null, .null, .null, .null, .null, .null, .int 0, .int 0, .int 0, .int 0, .int 0, .int 0, .int 0, .int 0, .int 0])) :: Z) (fun be : Nat → Nat => be 0 = q) (fun be => fr_mo be fr_f0 :: (Z ++ [fr_ia (ka 2) 10 (be 1) (fun _ => 0), fr_ia (ka 2) 10 (be 2) (fun _ => 0), fr_ia (ka 2) 10 (be 3) (fun _ => 0), fr_ia (ka 2) 12 (be 4) (fun _ => 0), fr_ia (ka 2) 12 (be 5) (fun _ => 0), fr_ia (ka 2) 12 (be 6) (fun _ => 0), fr_ia (ka 2) 12 (be 7) (fun _ => 0), fr_ia (ka 2) 12 (be 8) (fun _ => 0), fr_ia (ka 2) 200 (be 9) (fun _ => 0), fr_ia (ka 2) 12 (be 10) (fun _ => 0)])) 10 302 := by
  refine fr_Mk.of (by decide) (Nat.le_of_ble_eq_true rfl) ?_
  intro p e s m below meth c A H locs ls C hin hP hD hS hl
  obtain ⟨hx, hb, hml, hown, ht, hK, hlocks, hr, hA, hN, hZ, hEx⟩ := id C
  have hl : lv_has ls 1 [(0, .ref q)] := hl
  refine lv_aload_n hx hb dM_init_0 rfl (lv_at hl 0 rfl) ?_
  refine W.objInit hx hb hown (ht _ oi_Mi) (ht _ mi_oinit) (ht _ mc_oinit) rfl (by rw [hml]; exact hl.1) rfl dM_init_1 (Nat.le_of_ble_eq_true rfl) (Nat.le_of_ble_eq_true rfl) ?_
  refine W.eq (g2 := F0 m 4 ls []) rfl ?_
  have hP : va_P D vwCl ((q, .inr (4, [.int 0, .int 0, .int 0, .int 0, .int 0, .int 0, .null, .null, .null, .null, .null, .null, .null, .null, .null, .null, .int 0, .int 0, .int 0, .int 0, .int 0, .int 0, .int 0, .int 0, .int 0])) :: (Z ++ [])) H := by rw [List.append_nil]; exact hP
  have hD : va_D A ((q, .inr (4, [.int 0, .int 0, .int 0, .int 0, .int 0, .int 0, .null, .null, .null, .null, .null, .null, .null, .null, .null, .null, .int 0, .int 0, .int 0, .int 0, .int 0, .int 0, .int 0, .int 0, .int 0])) :: (Z ++ [])) := by rw [List.append_nil]; exact hD
  refine lv_aload_n hx hb dM_init_4 rfl (lv_at hl 0 rfl) ?_
  refine lv_bipush (v := 10) hx hb dM_init_5 (by decide) ?_
  refine fr_newi (N' := 10) C ac_int hP hD hS (by decide) (by decide) (by decide) (Nat.le_of_ble_eq_true rfl) (Nat.le_of_ble_eq_true rfl) dM_init_7 (fun a1 H hP hD hS => ?_)
  have hP : va_P D vwCl ((q, .inr (4, [.int 0, .int 0, .int 0, .int 0, .int 0, .int 0, .null, .null, .null, .null, .null, .null, .null, .null, .null, .null, .int 0, .int 0, .int 0, .int 0, .int 0, .int 0, .int 0, .int 0, .int 0])) :: (Z ++ [fr_ia (ka 2) 10 a1 (fun _ => 0)])) H := by have := hP; rw [List.cons_append, List.append_assoc] at this; exact this
  have hD : va_D A ((q, .inr (4, [.int 0, .int 0, .int 0, .int 0, .int 0, .int 0, .null, .null, .null, .null, .null, .null, .null, .null, .null, .null, .int 0, .int 0, .int 0, .int 0, .int 0, .int 0, .int 0, .int 0, .int 0])) :: (Z ++ [fr_ia (ka 2) 10 a1 (fun _ => 0)])) := by have := hD; rw [List.cons_append, List.append_assoc] at this; exact this
  refine va_putF (D := D) (ci := 4) (v := .ref a1) (ty := .array .int) (C := "FragileRulesModel") (T := TXM) (N := 25) C.1 C.2.1 C.2.2.2.2.1 iXM tyXM tokXM nmXM C.2.2.2.1 C.2.2.2.2.2.1 hP hD hS 0 rfl rfl 6 (by decide) (C.2.2.2.2.1 _ fl_M_7) (fun _ h9 => h9) rfl hin rfl (by decide +kernel) rfl rfl (Nat.le_of_ble_eq_true rfl) dM_init_9 (fun H locs hP hD hS => ?_)
  have hP : va_P D vwCl ((q, .inr (4, [.int 0, .int 0, .int 0, .int 0, .int 0, .int 0, .ref a1, .null, .null, .null, .null, .null, .null, .null, .null, .null, .int 0, .int 0, .int 0, .int 0, .int 0, .int 0, .int 0, .int 0, .int 0])) :: (Z ++ [fr_ia (ka 2) 10 a1 (fun _ => 0)])) H := hP
  have hD : va_D A ((q, .inr (4, [.int 0, .int 0, .int 0, .int 0, .int 0, .int 0, .ref a1, .null, .null, .null, .null, .null, .null, .null, .null, .null, .int 0, .int 0, .int 0, .int 0, .int 0, .int 0, .int 0, .int 0, .int 0])) :: (Z ++ [fr_ia (ka 2) 10 a1 (fun _ => 0)])) := hD
  refine lv_aload_n hx hb dM_init_12 rfl (lv_at hl 0 rfl) ?_
  refine lv_bipush (v := 10) hx hb dM_init_13 (by decide) ?_
  refine fr_newi (N' := 10) C ac_int hP hD hS (by decide) (by decide) (by decide) (Nat.le_of_ble_eq_true rfl) (Nat.le_of_ble_eq_true rfl) dM_init_15 (fun a2 H hP hD hS => ?_)
  have hP : va_P D vwCl ((q, .inr (4, [.int 0, .int 0, .int 0, .int 0, .int 0, .int 0, .ref a1, .null, .null, .null, .null, .null, .null, .null, .null, .null, .int 0, .int 0, .int 0, .int 0, .int 0, .int 0, .int 0, .int 0, .int 0])) :: (Z ++ [fr_ia (ka 2) 10 a1 (fun _ => 0), fr_ia (ka 2) 10 a2 (fun _ => 0)])) H := by have := hP; rw [List.cons_append, List.append_assoc] at this; exact this
  have hD : va_D A ((q, .inr (4, [.int 0, .int 0, .int 0, .int 0, .int 0, .int 0, .ref a1, .null, .null, .null, .null, .null, .null, .null, .null, .null, .int 0, .int 0, .int 0, .int 0, .int 0, .int 0, .int 0, .int 0, .int 0])) :: (Z ++ [fr_ia (ka 2) 10 a1 (fun _ => 0), fr_ia (ka 2) 10 a2 (fun _ => 0)])) := by have := hD; rw [List.cons_append, List.append_assoc] at this; exact this
  refine va_putF (D := D) (ci := 4) (v := .ref a2) (ty := .array .int) (C := "FragileRulesModel") (T := TXM) (N := 25) C.1 C.2.1 C.2.2.2.2.1 iXM tyXM tokXM nmXM C.2.2.2.1 C.2.2.2.2.2.1 hP hD hS 0 rfl rfl 7 (by decide) (C.2.2.2.2.1 _ fl_M_13) (fun _ h9 => h9) rfl hin rfl (by decide +kernel) rfl rfl (Nat.le_of_ble_eq_true rfl) dM_init_17 (fun H locs hP hD hS => ?_)
  have hP : va_P D vwCl ((q, .inr (4, [.int 0, .int 0, .int 0, .int 0, .int 0, .int 0, .ref a1, .ref a2, .null, .null, .null, .null, .null, .null, .null, .null, .int 0, .int 0, .int 0, .int 0, .int 0, .int 0, .int 0, .int 0, .int 0])) :: (Z ++ [fr_ia (ka 2) 10 a1 (fun _ => 0), fr_ia (ka 2) 10 a2 (fun _ => 0)])) H := hP
  have hD : va_D A ((q, .inr (4, [.int 0, .int 0, .int 0, .int 0, .int 0, .int 0, .ref a1, .ref a2, .null, .null, .null, .null, .null, .null, .null, .null, .int 0, .int 0, .int 0, .int 0, .int 0, .int 0, .int 0, .int 0, .int 0])) :: (Z ++ [fr_ia (ka 2) 10 a1 (fun _ => 0), fr_ia (ka 2) 10 a2 (fun _ => 0)])) := hD
  refine lv_aload_n hx hb dM_init_20 rfl (lv_at hl 0 rfl) ?_
  refine lv_bipush (v := 10) hx hb dM_init_21 (by decide) ?_
  refine fr_newi (N' := 10) C ac_int hP hD hS (by decide) (by decide) (by decide) (Nat.le_of_ble_eq_true rfl) (Nat.le_of_ble_eq_true rfl) dM_init_23 (fun a3 H hP hD hS => ?_)
  have hP : va_P D vwCl ((q, .inr (4, [.int 0, .int 0, .int 0, .int 0, .int 0, .int 0, .ref a1, .ref a2, .null, .null, .null, .null, .null, .null, .null, .null, .int 0, .int 0, .int 0, .int 0, .int 0, .int 0, .int 0, .int 0, .int 0])) :: (Z ++ [fr_ia (ka 2) 10 a1 (fun _ => 0), fr_ia (ka 2) 10 a2 (fun _ => 0), fr_ia (ka 2) 10 a3 (fun _ => 0)])) H := by have := hP; rw [List.cons_append, List.append_assoc] at this; exact this
  have hD : va_D A ((q, .inr (4, [.int 0, .int 0, .int 0, .int 0, .int 0, .int 0, .ref a1, .ref a2, .null, .null, .null, .null, .null, .null, .null, .null, .int 0, .int 0, .int 0, .int 0, .int 0, .int 0, .int 0, .int 0, .int 0])) :: (Z ++ [fr_ia (ka 2) 10 a1 (fun _ => 0), fr_ia (ka 2) 10 a2 (fun _ => 0), fr_ia (ka 2) 10 a3 (fun _ => 0)])) := by have := hD; rw [List.cons_append, List.append_assoc] at this; exact this
  refine va_putF (D := D) (ci := 4) (v := .ref a3) (ty := .array .int) (C := "FragileRulesModel") (T := TXM) (N := 25) C.1 C.2.1 C.2.2.2.2.1 iXM tyXM tokXM nmXM C.2.2.2.1 C.2.2.2.2.2.1 hP hD hS 0 rfl rfl 8 (by decide) (C.2.2.2.2.1 _ fl_M_16) (fun _ h9 => h9) rfl hin rfl (by decide +kernel) rfl rfl (Nat.le_of_ble_eq_true rfl) dM_init_25 (fun H locs hP hD hS => ?_)
  have hP : va_P D vwCl ((q, .inr (4, [.int 0, .int 0, .int 0, .int 0, .int 0, .int 0, .ref a1, .ref a2, .ref a3, .null, .null, .null, .null, .null, .null, .null, .int 0, .int 0, .int 0, .int 0, .int 0, .int 0, .int 0, .int 0, .int 0])) :: (Z ++ [fr_ia (ka 2) 10 a1 (fun _ => 0), fr_ia (ka 2) 10 a2 (fun _ => 0), fr_ia (ka 2) 10 a3 (fun _ => 0)])) H := hP
  have hD : va_D A ((q, .inr (4, [.int 0, .int 0, .int 0, .int 0, .int 0, .int 0, .ref a1, .ref a2, .ref a3, .null, .null, .null, .null, .null, .null, .null, .int 0, .int 0, .int 0, .int 0, .int 0, .int 0, .int 0, .int 0, .int 0])) :: (Z ++ [fr_ia (ka 2) 10 a1 (fun _ => 0), fr_ia (ka 2) 10 a2 (fun _ => 0), fr_ia (ka 2) 10 a3 (fun _ => 0)])) := hD
  refine lv_aload_n hx hb dM_init_28 rfl (lv_at hl 0 rfl) ?_
  refine lv_bipush (v := 12) hx hb dM_init_29 (by decide) ?_
  refine fr_newi (N' := 12) C ac_int hP hD hS (by decide) (by decide) (by decide) (Nat.le_of_ble_eq_true rfl) (Nat.le_of_ble_eq_true rfl) dM_init_31 (fun a4 H hP hD hS => ?_)
  have hP : va_P D vwCl ((q, .inr (4, [.int 0, .int 0, .int 0, .int 0, .int 0, .int 0, .ref a1, .ref a2, .ref a3, .null, .null, .null, .null, .null, .null, .null, .int 0, .int 0, .int 0, .int 0, .int 0, .int 0, .int 0, .int 0, .int 0])) :: (Z ++ [fr_ia (ka 2) 10 a1 (fun _ => 0), fr_ia (ka 2) 10 a2 (fun _ => 0), fr_ia (ka 2) 10 a3 (fun _ => 0), fr_ia (ka 2) 12 a4 (fun _ => 0)])) H := by have := hP; rw [List.cons_append, List.append_assoc] at this; exact this
  have hD : va_D A ((q, .inr (4, [.int 0, .int 0, .int 0, .int 0, .int 0, .int 0, .ref a1, .ref a2, .ref a3, .null, .null, .null, .null, .null, .null, .null, .int 0, .int 0, .int 0, .int 0, .int 0, .int 0, .int 0, .int 0, .int 0])) :: (Z ++ [fr_ia (ka 2) 10 a1 (fun _ => 0), fr_ia (ka 2) 10 a2 (fun _ => 0), fr_ia (ka 2) 10 a3 (fun _ => 0), fr_ia (ka 2) 12 a4 (fun _ => 0)])) := by have := hD; rw [List.cons_append, List.append_assoc] at this; exact this
  refine va_putF (D := D) (ci := 4) (v := .ref a4) (ty := .array .int) (C := "FragileRulesModel") (T := TXM) (N := 25) C.1 C.2.1 C.2.2.2.2.1 iXM tyXM tokXM nmXM C.2.2.2.1 C.2.2.2.2.2.1 hP hD hS 0 rfl rfl 9 (by decide) (C.2.2.2.2.1 _ fl_M_19) (fun _ h9 => h9) rfl hin rfl (by decide +kernel) rfl rfl (Nat.le_of_ble_eq_true rfl) dM_init_33 (fun H locs hP hD hS => ?_)
  have hP : va_P D vwCl ((q, .inr (4, [.int 0, .int 0, .int 0, .int 0, .int 0, .int 0, .ref a1, .ref a2, .ref a3, .ref a4, .null, .null, .null, .null, .null, .null, .int 0, .int 0, .int 0, .int 0, .int 0, .int 0, .int 0, .int 0, .int 0])) :: (Z ++ [fr_ia (ka 2) 10 a1 (fun _ => 0), fr_ia (ka 2) 10 a2 (fun _ => 0), fr_ia (ka 2) 10 a3 (fun _ => 0), fr_ia (ka 2) 12 a4 (fun _ => 0)])) H := hP
  have hD : va_D A ((q, .inr (4, [.int 0, .int 0, .int 0, .int 0, .int 0, .int 0, .ref a1, .ref a2, .ref a3, .ref a4, .null, .null, .null, .null, .null, .null, .int 0, .int 0, .int 0, .int 0, .int 0, .int 0, .int 0, .int 0, .int 0])) :: (Z ++ [fr_ia (ka 2) 10 a1 (fun _ => 0), fr_ia (ka 2) 10 a2 (fun _ => 0), fr_ia (ka 2) 10 a3 (fun _ => 0), fr_ia (ka 2) 12 a4 (fun _ => 0)])) := hD
  refine lv_aload_n hx hb dM_init_36 rfl (lv_at hl 0 rfl) ?_
  refine lv_bipush (v := 12) hx hb dM_init_37 (by decide) ?_
  refine fr_newi (N' := 12) C ac_int hP hD hS (by decide) (by decide) (by decide) (Nat.le_of_ble_eq_true rfl) (Nat.le_of_ble_eq_true rfl) dM_init_39 (fun a5 H hP hD hS => ?_)
  have hP : va_P D vwCl ((q, .inr (4, [.int 0, .int 0, .int 0, .int 0, .int 0, .int 0, .ref a1, .ref a2, .ref a3, .ref a4, .null, .null, .null, .null, .null, .null, .int 0, .int 0, .int 0, .int 0, .int 0, .int 0, .int 0, .int 0, .int 0])) :: (Z ++ [fr_ia (ka 2) 10 a1 (fun _ => 0), fr_ia (ka 2) 10 a2 (fun _ => 0), fr_ia (ka 2) 10 a3 (fun _ => 0), fr_ia (ka 2) 12 a4 (fun _ => 0), fr_ia (ka 2) 12 a5 (fun _ => 0)])) H := by have := hP; rw [List.cons_append, List.append_assoc] at this; exact this
  have hD : va_D A ((q, .inr (4, [.int 0, .int 0, .int 0, .int 0, .int 0, .int 0, .ref a1, .ref a2, .ref a3, .ref a4, .null, .null, .null, .null, .null, .null, .int 0, .int 0, .int 0, .int 0, .int 0, .int 0, .int 0, .int 0, .int 0])) :: (Z ++ [fr_ia (ka 2) 10 a1 (fun _ => 0), fr_ia (ka 2) 10 a2 (fun _ => 0), fr_ia (ka 2) 10 a3 (fun _ => 0), fr_ia (ka 2) 12 a4 (fun _ => 0), fr_ia (ka 2) 12 a5 (fun _ => 0)])) := by have := hD; rw [List.cons_append, List.append_assoc] at this; exact this
  refine va_putF (D := D) (ci := 4) (v := .ref a5) (ty := .array .int) (C := "FragileRulesModel") (T := TXM) (N := 25) C.1 C.2.1 C.2.2.2.2.1 iXM tyXM tokXM nmXM C.2.2.2.1 C.2.2.2.2.2.1 hP hD hS 0 rfl rfl 10 (by decide) (C.2.2.2.2.1 _ fl_M_22) (fun _ h9 => h9) rfl hin rfl (by decide +kernel) rfl rfl (Nat.le_of_ble_eq_true rfl) dM_init_41 (fun H locs hP hD hS => ?_)
  have hP : va_P D vwCl ((q, .inr (4, [.int 0, .int 0, .int 0, .int 0, .int 0, .int 0, .ref a1, .ref a2, .ref a3, .ref a4, .ref a5, .null, .null, .null, .null, .null, .int 0, .int 0, .int 0, .int 0, .int 0, .int 0, .int 0, .int 0, .int 0])) :: (Z ++ [fr_ia (ka 2) 10 a1 (fun _ => 0), fr_ia (ka 2) 10 a2 (fun _ => 0), fr_ia (ka 2) 10 a3 (fun _ => 0), fr_ia (ka 2) 12 a4 (fun _ => 0), fr_ia (ka 2) 12 a5 (fun _ => 0)])) H := hP
  have hD : va_D A ((q, .inr (4, [.int 0, .int 0, .int 0, .int 0, .int 0, .int 0, .ref a1, .ref a2, .ref a3, .ref a4, .ref a5, .null, .null, .null, .null, .null, .int 0, .int 0, .int 0, .int 0, .int 0, .int 0, .int 0, .int 0, .int 0])) :: (Z ++ [fr_ia (ka 2) 10 a1 (fun _ => 0), fr_ia (ka 2) 10 a2 (fun _ => 0), fr_ia (ka 2) 10 a3 (fun _ => 0), fr_ia (ka 2) 12 a4 (fun _ => 0), fr_ia (ka 2) 12 a5 (fun _ => 0)])) := hD
  refine lv_aload_n hx hb dM_init_44 rfl (lv_at hl 0 rfl) ?_
  refine lv_bipush (v := 12) hx hb dM_init_45 (by decide) ?_
  refine fr_newi (N' := 12) C ac_int hP hD hS (by decide) (by decide) (by decide) (Nat.le_of_ble_eq_true rfl) (Nat.le_of_ble_eq_true rfl) dM_init_47 (fun a6 H hP hD hS => ?_)
  have hP : va_P D vwCl ((q, .inr (4, [.int 0, .int 0, .int 0, .int 0, .int 0, .int 0, .ref a1, .ref a2, .ref a3, .ref a4, .ref a5, .null, .null, .null, .null, .null, .int 0, .int 0, .int 0, .int 0, .int 0, .int 0, .int 0, .int 0, .int 0])) :: (Z ++ [fr_ia (ka 2) 10 a1 (fun _ => 0), fr_ia (ka 2) 10 a2 (fun _ => 0), fr_ia (ka 2) 10 a3 (fun _ => 0), fr_ia (ka 2) 12 a4 (fun _ => 0), fr_ia (ka 2) 12 a5 (fun _ => 0), fr_ia (ka 2) 12 a6 (fun _ => 0)])) H := by have := hP; rw [List.cons_append, List.append_assoc] at this; exact this
  have hD : va_D A ((q, .inr (4, [.int 0, .int 0, .int 0, .int 0, .int 0, .int 0, .ref a1, .ref a2, .ref a3, .ref a4, .ref a5, .null, .null, .null, .null, .null, .int 0, .int 0, .int 0, .int 0, .int 0, .int 0, .int 0, .int 0, .int 0])) :: (Z ++ [fr_ia (ka 2) 10 a1 (fun _ => 0), fr_ia (ka 2) 10 a2 (fun _ => 0), fr_ia (ka 2) 10 a3 (fun _ => 0), fr_ia (ka 2) 12 a4 (fun _ => 0), fr_ia (ka 2) 12 a5 (fun _ => 0), fr_ia (ka 2) 12 a6 (fun _ => 0)])) := by have := hD; rw [List.cons_append, List.append_assoc] at this; exact this
  refine va_putF (D := D) (ci := 4) (v := .ref a6) (ty := .array .int) (C := "FragileRulesModel") (T := TXM) (N := 25) C.1 C.2.1 C.2.2.2.2.1 iXM tyXM tokXM nmXM C.2.2.2.1 C.2.2.2.2.2.1 hP hD hS 0 rfl rfl 11 (by decide) (C.2.2.2.2.1 _ fl_M_25) (fun _ h9 => h9) rfl hin rfl (by decide +kernel) rfl rfl (Nat.le_of_ble_eq_true rfl) dM_init_49 (fun H locs hP hD hS => ?_)
  have hP : va_P D vwCl ((q, .inr (4, [.int 0, .int 0, .int 0, .int 0, .int 0, .int 0, .ref a1, .ref a2, .ref a3, .ref a4, .ref a5, .ref a6, .null, .null, .null, .null, .int 0, .int 0, .int 0, .int 0, .int 0, .int 0, .int 0, .int 0, .int 0])) :: (Z ++ [fr_ia (ka 2) 10 a1 (fun _ => 0), fr_ia (ka 2) 10 a2 (fun _ => 0), fr_ia (ka 2) 10 a3 (fun _ => 0), fr_ia (ka 2) 12 a4 (fun _ => 0), fr_ia (ka 2) 12 a5 (fun _ => 0), fr_ia (ka 2) 12 a6 (fun _ => 0)])) H := hP
  have hD : va_D A ((q, .inr (4, [.int 0, .int 0, .int 0, .int 0, .int 0, .int 0, .ref a1, .ref a2, .ref a3, .ref a4, .ref a5, .ref a6, .null, .null, .null, .null, .int 0, .int 0, .int 0, .int 0, .int 0, .int 0, .int 0, .int 0, .int 0])) :: (Z ++ [fr_ia (ka 2) 10 a1 (fun _ => 0), fr_ia (ka 2) 10 a2 (fun _ => 0), fr_ia (ka 2) 10 a3 (fun _ => 0), fr_ia (ka 2) 12 a4 (fun _ => 0), fr_ia (ka 2) 12 a5 (fun _ => 0), fr_ia (ka 2) 12 a6 (fun _ => 0)])) := hD
  refine lv_aload_n hx hb dM_init_52 rfl (lv_at hl 0 rfl) ?_
  refine lv_bipush (v := 12) hx hb dM_init_53 (by decide) ?_
  refine fr_newi (N' := 12) C ac_int hP hD hS (by decide) (by decide) (by decide) (Nat.le_of_ble_eq_true rfl) (Nat.le_of_ble_eq_true rfl) dM_init_55 (fun a7 H hP hD hS => ?_)
  have hP : va_P D vwCl ((q, .inr (4, [.int 0, .int 0, .int 0, .int 0, .int 0, .int 0, .ref a1, .ref a2, .ref a3, .ref a4, .ref a5, .ref a6, .null, .null, .null, .null, .int 0, .int 0, .int 0, .int 0, .int 0, .int 0, .int 0, .int 0, .int 0])) :: (Z ++ [fr_ia (ka 2) 10 a1 (fun _ => 0), fr_ia (ka 2) 10 a2 (fun _ => 0), fr_ia (ka 2) 10 a3 (fun _ => 0), fr_ia (ka 2) 12 a4 (fun _ => 0), fr_ia (ka 2) 12 a5 (fun _ => 0), fr_ia (ka 2) 12 a6 (fun _ => 0), fr_ia (ka 2) 12 a7 (fun _ => 0)])) H := by have := hP; rw [List.cons_append, List.append_assoc] at this; exact this
  have hD : va_D A ((q, .inr (4, [.int 0, .int 0, .int 0, .int 0, .int 0, .int 0, .ref a1, .ref a2, .ref a3, .ref a4, .ref a5, .ref a6, .null, .null, .null, .null, .int 0, .int 0, .int 0, .int 0, .int 0, .int 0, .int 0, .int 0, .int 0])) :: (Z ++ [fr_ia (ka 2) 10 a1 (fun _ => 0), fr_ia (ka 2) 10 a2 (fun _ => 0), fr_ia (ka 2) 10 a3 (fun _ => 0), fr_ia (ka 2) 12 a4 (fun _ => 0), fr_ia (ka 2) 12 a5 (fun _ => 0), fr_ia (ka 2) 12 a6 (fun _ => 0), fr_ia (ka 2) 12 a7 (fun _ => 0)])) := by have := hD; rw [List.cons_append, List.append_assoc] at this; exact this
  refine va_putF (D := D) (ci := 4) (v := .ref a7) (ty := .array .int) (C := "FragileRulesModel") (T := TXM) (N := 25) C.1 C.2.1 C.2.2.2.2.1 iXM tyXM tokXM nmXM C.2.2.2.1 C.2.2.2.2.2.1 hP hD hS 0 rfl rfl 12 (by decide) (C.2.2.2.2.1 _ fl_M_28) (fun _ h9 => h9) rfl hin rfl (by decide +kernel) rfl rfl (Nat.le_of_ble_eq_true rfl) dM_init_57 (fun H locs hP hD hS => ?_)
  have hP : va_P D vwCl ((q, .inr (4, [.int 0, .int 0, .int 0, .int 0, .int 0, .int 0, .ref a1, .ref a2, .ref a3, .ref a4, .ref a5, .ref a6, .ref a7, .null, .null, .null, .int 0, .int 0, .int 0, .int 0, .int 0, .int 0, .int 0, .int 0, .int 0])) :: (Z ++ [fr_ia (ka 2) 10 a1 (fun _ => 0), fr_ia (ka 2) 10 a2 (fun _ => 0), fr_ia (ka 2) 10 a3 (fun _ => 0), fr_ia (ka 2) 12 a4 (fun _ => 0), fr_ia (ka 2) 12 a5 (fun _ => 0), fr_ia (ka 2) 12 a6 (fun _ => 0), fr_ia (ka 2) 12 a7 (fun _ => 0)])) H := hP
  have hD : va_D A ((q, .inr (4, [.int 0, .int 0, .int 0, .int 0, .int 0, .int 0, .ref a1, .ref a2, .ref a3, .ref a4, .ref a5, .ref a6, .ref a7, .null, .null, .null, .int 0, .int 0, .int 0, .int 0, .int 0, .int 0, .int 0, .int 0, .int 0])) :: (Z ++ [fr_ia (ka 2) 10 a1 (fun _ => 0), fr_ia (ka 2) 10 a2 (fun _ => 0), fr_ia (ka 2) 10 a3 (fun _ => 0), fr_ia (ka 2) 12 a4 (fun _ => 0), fr_ia (ka 2) 12 a5 (fun _ => 0), fr_ia (ka 2) 12 a6 (fun _ => 0), fr_ia (ka 2) 12 a7 (fun _ => 0)])) := hD
  refine lv_aload_n hx hb dM_init_60 rfl (lv_at hl 0 rfl) ?_
  refine lv_bipush (v := 12) hx hb dM_init_61 (by decide) ?_
  refine fr_newi (N' := 12) C ac_int hP hD hS (by decide) (by decide) (by decide) (Nat.le_of_ble_eq_true rfl) (Nat.le_of_ble_eq_true rfl) dM_init_63 (fun a8 H hP hD hS => ?_)
  have hP : va_P D vwCl ((q, .inr (4, [.int 0, .int 0, .int 0, .int 0, .int 0, .int 0, .ref a1, .ref a2, .ref a3, .ref a4, .ref a5, .ref a6, .ref a7, .null, .null, .null, .int 0, .int 0, .int 0, .int 0, .int 0, .int 0, .int 0, .int 0, .int 0])) :: (Z ++ [fr_ia (ka 2) 10 a1 (fun _ => 0), fr_ia (ka 2) 10 a2 (fun _ => 0), fr_ia (ka 2) 10 a3 (fun _ => 0), fr_ia (ka 2) 12 a4 (fun _ => 0), fr_ia (ka 2) 12 a5 (fun _ => 0), fr_ia (ka 2) 12 a6 (fun _ => 0), fr_ia (ka 2) 12 a7 (fun _ => 0), fr_ia (ka 2) 12 a8 (fun _ => 0)])) H := by have := hP; rw [List.cons_append, List.append_assoc] at this; exact this
  have hD : va_D A ((q, .inr (4, [.int 0, .int 0, .int 0, .int 0, .int 0, .int 0, .ref a1, .ref a2, .ref a3, .ref a4, .ref a5, .ref a6, .ref a7, .null, .null, .null, .int 0, .int 0, .int 0, .int 0, .int 0, .int 0, .int 0, .int 0, .int 0])) :: (Z ++ [fr_ia (ka 2) 10 a1 (fun _ => 0), fr_ia (ka 2) 10 a2 (fun _ => 0), fr_ia (ka 2) 10 a3 (fun _ => 0), fr_ia (ka 2) 12 a4 (fun _ => 0), fr_ia (ka 2) 12 a5 (fun _ => 0), fr_ia (ka 2) 12 a6 (fun _ => 0), fr_ia (ka 2) 12 a7 (fun _ => 0), fr_ia (ka 2) 12 a8 (fun _ => 0)])) := by have := hD; rw [List.cons_append, List.append_assoc] at this; exact this
  refine va_putF (D := D) (ci := 4) (v := .ref a8) (ty := .array .int) (C := "FragileRulesModel") (T := TXM) (N := 25) C.1 C.2.1 C.2.2.2.2.1 iXM tyXM tokXM nmXM C.2.2.2.1 C.2.2.2.2.2.1 hP hD hS 0 rfl rfl 13 (by decide) (C.2.2.2.2.1 _ fl_M_31) (fun _ h9 => h9) rfl hin rfl (by decide +kernel) rfl rfl (Nat.le_of_ble_eq_true rfl) dM_init_65 (fun H locs hP hD hS => ?_)
  have hP : va_P D vwCl ((q, .inr (4, [.int 0, .int 0, .int 0, .int 0, .int 0, .int 0, .ref a1, .ref a2, .ref a3, .ref a4, .ref a5, .ref a6, .ref a7, .ref a8, .null, .null, .int 0, .int 0, .int 0, .int 0, .int 0, .int 0, .int 0, .int 0, .int 0])) :: (Z ++ [fr_ia (ka 2) 10 a1 (fun _ => 0), fr_ia (ka 2) 10 a2 (fun _ => 0), fr_ia (ka 2) 10 a3 (fun _ => 0), fr_ia (ka 2) 12 a4 (fun _ => 0), fr_ia (ka 2) 12 a5 (fun _ => 0), fr_ia (ka 2) 12 a6 (fun _ => 0), fr_ia (ka 2) 12 a7 (fun _ => 0), fr_ia (ka 2) 12 a8 (fun _ => 0)])) H := hP
  have hD : va_D A ((q, .inr (4, [.int 0, .int 0, .int 0, .int 0, .int 0, .int 0, .ref a1, .ref a2, .ref a3, .ref a4, .ref a5, .ref a6, .ref a7, .ref a8, .null, .null, .int 0, .int 0, .int 0, .int 0, .int 0, .int 0, .int 0, .int 0, .int 0])) :: (Z ++ [fr_ia (ka 2) 10 a1 (fun _ => 0), fr_ia (ka 2) 10 a2 (fun _ => 0), fr_ia (ka 2) 10 a3 (fun _ => 0), fr_ia (ka 2) 12 a4 (fun _ => 0), fr_ia (ka 2) 12 a5 (fun _ => 0), fr_ia (ka 2) 12 a6 (fun _ => 0), fr_ia (ka 2) 12 a7 (fun _ => 0), fr_ia (ka 2) 12 a8 (fun _ => 0)])) := hD
  refine lv_aload_n hx hb dM_init_68 rfl (lv_at hl 0 rfl) ?_
  refine lv_sipush (v := 200) hx hb dM_init_69 (by decide) ?_
  refine fr_newi (N' := 200) C ac_int hP hD hS (by decide) (by decide) (by decide) (Nat.le_of_ble_eq_true rfl) (Nat.le_of_ble_eq_true rfl) dM_init_72 (fun a9 H hP hD hS => ?_)
  have hP : va_P D vwCl ((q, .inr (4, [.int 0, .int 0, .int 0, .int 0, .int 0, .int 0, .ref a1, .ref a2, .ref a3, .ref a4, .ref a5, .ref a6, .ref a7, .ref a8, .null, .null, .int 0, .int 0, .int 0, .int 0, .int 0, .int 0, .int 0, .int 0, .int 0])) :: (Z ++ [fr_ia (ka 2) 10 a1 (fun _ => 0), fr_ia (ka 2) 10 a2 (fun _ => 0), fr_ia (ka 2) 10 a3 (fun _ => 0), fr_ia (ka 2) 12 a4 (fun _ => 0), fr_ia (ka 2) 12 a5 (fun _ => 0), fr_ia (ka 2) 12 a6 (fun _ => 0), fr_ia (ka 2) 12 a7 (fun _ => 0), fr_ia (ka 2) 12 a8 (fun _ => 0), fr_ia (ka 2) 200 a9 (fun _ => 0)])) H := by have := hP; rw [List.cons_append, List.append_assoc] at this; exact this
  have hD : va_D A ((q, .inr (4, [.int 0, .int 0, .int 0, .int 0, .int 0, .int 0, .ref a1, .ref a2, .ref a3, .ref a4, .ref a5, .ref a6, .ref a7, .ref a8, .null, .null, .int 0, .int 0, .int 0, .int 0, .int 0, .int 0, .int 0, .int 0, .int 0])) :: (Z ++ [fr_ia (ka 2) 10 a1 (fun _ => 0), fr_ia (ka 2) 10 a2 (fun _ => 0), fr_ia (ka 2) 10 a3 (fun _ => 0), fr_ia (ka 2) 12 a4 (fun _ => 0), fr_ia (ka 2) 12 a5 (fun _ => 0), fr_ia (ka 2) 12 a6 (fun _ => 0), fr_ia (ka 2) 12 a7 (fun _ => 0), fr_ia (ka 2) 12 a8 (fun _ => 0), fr_ia (ka 2) 200 a9 (fun _ => 0)])) := by have := hD; rw [List.cons_append, List.append_assoc] at this; exact this
  refine va_putF (D := D) (ci := 4) (v := .ref a9) (ty := .array .int) (C := "FragileRulesModel") (T := TXM) (N := 25) C.1 C.2.1 C.2.2.2.2.1 iXM tyXM tokXM nmXM C.2.2.2.1 C.2.2.2.2.2.1 hP hD hS 0 rfl rfl 14 (by decide) (C.2.2.2.2.1 _ fl_M_34) (fun _ h9 => h9) rfl hin rfl (by decide +kernel) rfl rfl (Nat.le_of_ble_eq_true rfl) dM_init_74 (fun H locs hP hD hS => ?_)
  have hP : va_P D vwCl ((q, .inr (4, [.int 0, .int 0, .int 0, .int 0, .int 0, .int 0, .ref a1, .ref a2, .ref a3, .ref a4, .ref a5, .ref a6, .ref a7, .ref a8, .ref a9, .null, .int 0, .int 0, .int 0, .int 0, .int 0, .int 0, .int 0, .int 0, .int 0])) :: (Z ++ [fr_ia (ka 2) 10 a1 (fun _ => 0), fr_ia (ka 2) 10 a2 (fun _ => 0), fr_ia (ka 2) 10 a3 (fun _ => 0), fr_ia (ka 2) 12 a4 (fun _ => 0), fr_ia (ka 2) 12 a5 (fun _ => 0), fr_ia (ka 2) 12 a6 (fun _ => 0), fr_ia (ka 2) 12 a7 (fun _ => 0), fr_ia (ka 2) 12 a8 (fun _ => 0), fr_ia (ka 2) 200 a9 (fun _ => 0)])) H := hP
  have hD : va_D A ((q, .inr (4, [.int 0, .int 0, .int 0, .int 0, .int 0, .int 0, .ref a1, .ref a2, .ref a3, .ref a4, .ref a5, .ref a6, .ref a7, .ref a8, .ref a9, .null, .int 0, .int 0, .int 0, .int 0, .int 0, .int 0, .int 0, .int 0, .int 0])) :: (Z ++ [fr_ia (ka 2) 10 a1 (fun _ => 0), fr_ia (ka 2) 10 a2 (fun _ => 0), fr_ia (ka 2) 10 a3 (fun _ => 0), fr_ia (ka 2) 12 a4 (fun _ => 0), fr_ia (ka 2) 12 a5 (fun _ => 0), fr_ia (ka 2) 12 a6 (fun _ => 0), fr_ia (ka 2) 12 a7 (fun _ => 0), fr_ia (ka 2) 12 a8 (fun _ => 0), fr_ia (ka 2) 200 a9 (fun _ => 0)])) := hD
  refine lv_aload_n hx hb dM_init_77 rfl (lv_at hl 0 rfl) ?_
  refine lv_bipush (v := 12) hx hb dM_init_78 (by decide) ?_
  refine fr_newi (N' := 12) C ac_int hP hD hS (by decide) (by decide) (by decide) (Nat.le_of_ble_eq_true rfl) (Nat.le_of_ble_eq_true rfl) dM_init_80 (fun a10 H hP hD hS => ?_)
  have hP : va_P D vwCl ((q, .inr (4, [.int 0, .int 0, .int 0, .int 0, .int 0, .int 0, .ref a1, .ref a2, .ref a3, .ref a4, .ref a5, .ref a6, .ref a7, .ref a8, .ref a9, .null, .int 0, .int 0, .int 0, .int 0, .int 0, .int 0, .int 0, .int 0, .int 0])) :: (Z ++ [fr_ia (ka 2) 10 a1 (fun _ => 0), fr_ia (ka 2) 10 a2 (fun _ => 0), fr_ia (ka 2) 10 a3 (fun _ => 0), fr_ia (ka 2) 12 a4 (fun _ => 0), fr_ia (ka 2) 12 a5 (fun _ => 0), fr_ia (ka 2) 12 a6 (fun _ => 0), fr_ia (ka 2) 12 a7 (fun _ => 0), fr_ia (ka 2) 12 a8 (fun _ => 0), fr_ia (ka 2) 200 a9 (fun _ => 0), fr_ia (ka 2) 12 a10 (fun _ => 0)])) H := by have := hP; rw [List.cons_append, List.append_assoc] at this; exact this
  have hD : va_D A ((q, .inr (4, [.int 0, .int 0, .int 0, .int 0, .int 0, .int 0, .ref a1, .ref a2, .ref a3, .ref a4, .ref a5, .ref a6, .ref a7, .ref a8, .ref a9, .null, .int 0, .int 0, .int 0, .int 0, .int 0, .int 0, .int 0, .int 0, .int 0])) :: (Z ++ [fr_ia (ka 2) 10 a1 (fun _ => 0), fr_ia (ka 2) 10 a2 (fun _ => 0), fr_ia (ka 2) 10 a3 (fun _ => 0), fr_ia (ka 2) 12 a4 (fun _ => 0), fr_ia (ka 2) 12 a5 (fun _ => 0), fr_ia (ka 2) 12 a6 (fun _ => 0), fr_ia (ka 2) 12 a7 (fun _ => 0), fr_ia (ka 2) 12 a8 (fun _ => 0), fr_ia (ka 2) 200 a9 (fun _ => 0), fr_ia (ka 2) 12 a10 (fun _ => 0)])) := by have := hD; rw [List.cons_append, List.append_assoc] at this; exact this
  refine va_putF (D := D) (ci := 4) (v := .ref a10) (ty := .array .int) (C := "FragileRulesModel") (T := TXM) (N := 25) C.1 C.2.1 C.2.2.2.2.1 iXM tyXM tokXM nmXM C.2.2.2.1 C.2.2.2.2.2.1 hP hD hS 0 rfl rfl 15 (by decide) (C.2.2.2.2.1 _ fl_M_37) (fun _ h9 => h9) rfl hin rfl (by decide +kernel) rfl rfl (Nat.le_of_ble_eq_true rfl) dM_init_82 (fun H locs hP hD hS => ?_)
  have hP : va_P D vwCl ((q, .inr (4, [.int 0, .int 0, .int 0, .int 0, .int 0, .int 0, .ref a1, .ref a2, .ref a3, .ref a4, .ref a5, .ref a6, .ref a7, .ref a8, .ref a9, .ref a10, .int 0, .int 0, .int 0, .int 0, .int 0, .int 0, .int 0, .int 0, .int 0])) :: (Z ++ [fr_ia (ka 2) 10 a1 (fun _ => 0), fr_ia (ka 2) 10 a2 (fun _ => 0), fr_ia (ka 2) 10 a3 (fun _ => 0), fr_ia (ka 2) 12 a4 (fun _ => 0), fr_ia (ka 2) 12 a5 (fun _ => 0), fr_ia (ka 2) 12 a6 (fun _ => 0), fr_ia (ka 2) 12 a7 (fun _ => 0), fr_ia (ka 2) 12 a8 (fun _ => 0), fr_ia (ka 2) 200 a9 (fun _ => 0), fr_ia (ka 2) 12 a10 (fun _ => 0)])) H := hP
  have hD : va_D A ((q, .inr (4, [.int 0, .int 0, .int 0, .int 0, .int 0, .int 0, .ref a1, .ref a2, .ref a3, .ref a4, .ref a5, .ref a6, .ref a7, .ref a8, .ref a9, .ref a10, .int 0, .int 0, .int 0, .int 0, .int 0, .int 0, .int 0, .int 0, .int 0])) :: (Z ++ [fr_ia (ka 2) 10 a1 (fun _ => 0), fr_ia (ka 2) 10 a2 (fun _ => 0), fr_ia (ka 2) 10 a3 (fun _ => 0), fr_ia (ka 2) 12 a4 (fun _ => 0), fr_ia (ka 2) 12 a5 (fun _ => 0), fr_ia (ka 2) 12 a6 (fun _ => 0), fr_ia (ka 2) 12 a7 (fun _ => 0), fr_ia (ka 2) 12 a8 (fun _ => 0), fr_ia (ka 2) 200 a9 (fun _ => 0), fr_ia (ka 2) 12 a10 (fun _ => 0)])) := hD
  exact fr_kret (P := fun be : Nat → Nat => be 0 = q) (W' := fun be => fr_mo be fr_f0 :: (Z ++ [fr_ia (ka 2) 10 (be 1) (fun _ => 0), fr_ia (ka 2) 10 (be 2) (fun _ => 0), fr_ia (ka 2) 10 (be 3) (fun _ => 0), fr_ia (ka 2) 12 (be 4) (fun _ => 0), fr_ia (ka 2) 12 (be 5) (fun _ => 0), fr_ia (ka 2) 12 (be 6) (fun _ => 0), fr_ia (ka 2) 12 (be 7) (fun _ => 0), fr_ia (ka 2) 12 (be 8) (fun _ => 0), fr_ia (ka 2) 200 (be 9) (fun _ => 0), fr_ia (ka 2) 12 (be 10) (fun _ => 0)])) (fun k => match k with | 0 => q | 1 => a1 | 2 => a2 | 3 => a3 | 4 => a4 | 5 => a5 | 6 => a6 | 7 => a7 | 8 => a8 | 9 => a9 | 10 => a10 | _ => 0) C hP hD hS rfl dM_init_85

theorem fr_on {j : Nat} (h : j ≤ 12) : (Int32.ofNat j).toInt = (j : Int) := Int32.toInt_ofNat_of_lt (by omega)
theorem fr_on1 {j : Nat} (h : j ≤ 11) : Int32.ofNat j + 1 = Int32.ofNat (j + 1) := by
  apply Int32.toInt_inj.mp
  have h1 := fr_on (j := j) (by omega)
  rw [fr_add1 (by omega) (by omega), h1, fr_on (by omega)]
  omega
set_option maxHeartbeats 4000000 in
set_option maxRecDepth 100000 in
theorem k_Fi_103 {p : Program} {l : Launch} {e : Env} {s : State} {m : MethodId} {below : List Frame} {meth : Method} {c : Code} {D : va_G} {A : Nat → Prop} {ka : Nat → ClassId} {o : Nat} (C : fr_Cx p s m ([.ref o] : List Value).toArray meth c "FragileRules" prog_1_method_1_code 2 none [] fr_tbl fr_nw D vwCl (fr_ty ka) A) : ∀ (n j : Nat) (al : Nat → Nat) (H : Heap) (locs : List Loc) (ls : Array Slot), j + n = 12 → al 0 = o → va_P D vwCl (fr_iw ka al 10 j) H → va_D A (fr_iw ka al 10 j) → va_S A s.heap H locs → lv_has ls 2 [(0, .ref o), (1, .int (Int32.ofNat j))] → W p l e { frames := 2, cells := 28, slots := 326, locals := 33 } s m ([.ref o] : List Value).toArray below meth c H locs (16 + j) (278 + 4 * j) (MQ below (fr_Qk D vwCl (fr_ty ka) (fun al : Nat → Nat => al 0 = o) (fun al => fr_cw ka al fr_f0 []) A) ([.ref o] : List Value).toArray s 28 326 A) (F0 m 103 ls []) := by
  obtain ⟨hx, hb, hml, hown, ht, hK, hlocks, hr, hA, hN, hZ, hEx⟩ := id C
  intro n
  induction n with
  | zero =>
    intro j al H locs ls hj ha hP hD hS hl
    have hj : j = 12 := by omega
    subst hj
    refine lv_iload_n hx hb dF_init_103 rfl (lv_at hl 1 rfl) ?_
    refine lv_bipush (v := 12) hx hb dF_init_104 (by decide) ?_
    refine lv_icmp_ge (tgt := 128) hx hb dF_init_106 (by decide) (fun _ => ?_) (fun z => absurd (by decide) z)
    obtain ⟨hP, hD⟩ := fr_iw_done hP hD
    exact fr_kret (P := fun al : Nat → Nat => al 0 = o) (W' := fun al => fr_cw ka al fr_f0 []) al C hP hD hS ha dF_init_128
  | succ n ih =>
    intro j al H locs ls hj ha hP hD hS hl
    have hji : (Int32.ofNat j).toInt = (j : Int) := fr_on (by omega)
    have hjc : (Int32.ofNat j).toNatClampNeg = j := by have := fr_clamp (x := Int32.ofNat j) (by omega); omega
    refine lv_iload_n hx hb dF_init_103 rfl (lv_at hl 1 rfl) ?_
    refine lv_bipush (v := 12) hx hb dF_init_104 (by decide) ?_
    refine lv_icmp_ge (tgt := 128) hx hb dF_init_106 (by decide) (fun z => absurd (fr_t3 z) (by rw [hji]; have : (12 : Int32).toInt = 12 := rfl; omega)) (fun _ => ?_)
    refine lv_aload_n hx hb dF_init_109 rfl (lv_at hl 0 rfl) ?_
    refine va_get (D := D) (ci := 0) (v := .ref (al 2)) (C := "FragileRules") (T := TXF) (N := 10) C.1 C.2.1 C.2.2.2.2.1 iXF C.2.2.2.1 C.2.2.2.2.2.1 hP 0 (by rw [← ha]; rfl) rfl 2 (by decide) (C.2.2.2.2.1 _ fl_F_21) (fun _ h9 => h9) rfl dF_init_110 ?_
    refine lv_iload_n hx hb dF_init_113 rfl (lv_at hl 1 rfl) ?_
    refine va_new (D := D) (ci := 2) (C := "FragileRules$Rule") (T := TXR) (N := 4) C.1 C.2.1 C.2.2.2.2.1 iXR tyXR tokXR C.2.2.2.1 (C.2.2.2.2.1 _ cl0_F_19) (C.2.2.2.2.1 _ mins_Ri) (C.2.2.2.2.1 _ mini_R) C.2.2.2.2.2.1 hP hD hS C.2.2.2.2.2.2.2.2.1 rfl (fs := [.int 0, .int 0, .int 0, .int 0]) (by decide) (by show (16 + j) + 1 ≤ 28; omega) (by show (278 + 4 * j) + 4 ≤ 326; omega) dF_init_114 (fun q H hP hD hS => ?_)
    refine lv_dup hx hb dF_init_117 rfl ?_
    refine fr_callINv (As := []) (rest := [.ref q, .int (Int32.ofNat j), .ref (al 2)]) C hP hD hS (c_Ri l D ka _ (7 + 10 + j) q fr_iw_at) ⟨va_cnB 0 C.2.2.2.2.1 (fr_good mc_Ri) rfl rfl rfl (C.2.2.2.2.2.2.2.2.2.1 _ nst_F_52).2 (C.2.2.2.2.1 _ mini_R) (by decide +kernel) ⟨Nat.le_of_ble_eq_true rfl, Nat.le_of_ble_eq_true rfl⟩, rfl, C.2.2.2.2.1 _ mi_Ri⟩ rfl hl.1 (Nat.le_of_ble_eq_true rfl) dF_init_118 ⟨by show (16 + j) + 1 + 0 ≤ 28; omega, by show (278 + 4 * j) + 4 + 0 ≤ 326; omega⟩ (fun H locs hP hD hS => ?_)
    refine va_astq (r := ("FragileRules$Rule", TXR, 4)) hx hb hK hP hD hS 2 1 (7 + 10 + j) 2 rfl rfl fr_iw_at rfl (by rw [vp_in_iff]; omega) dF_init_121 (fun H locs hP hD hS => ?_)
    rw [hjc] at hP hD
    rw [fr_iw_r] at hP hD
    refine lv_iinc (v := Int32.ofNat (j + 1)) (lv' := [(1, .int (Int32.ofNat (j + 1))), (0, .ref o)]) hx hb dF_init_122 hl (k := 1) rfl (fr_on1 (by omega)) (by decide) rfl (fun ls hl => ?_)
    refine lv_goto (tgt := 103) hx hb dF_init_125 (by decide) ?_
    refine W.widen (k := 16 + (j + 1)) (n := 278 + 4 * (j + 1)) (by omega) (by omega) ?_
    exact ih (j + 1) _ H locs ls (by omega) (by rw [fr_nx_ne (by omega)]; exact ha) hP hD hS (lv_sub hl [1, 0] rfl)
set_option maxHeartbeats 4000000 in
set_option maxRecDepth 100000 in
theorem k_Fi_76 {p : Program} {l : Launch} {e : Env} {s : State} {m : MethodId} {below : List Frame} {meth : Method} {c : Code} {D : va_G} {A : Nat → Prop} {ka : Nat → ClassId} {o : Nat} (C : fr_Cx p s m ([.ref o] : List Value).toArray meth c "FragileRules" prog_1_method_1_code 2 none [] fr_tbl fr_nw D vwCl (fr_ty ka) A) : ∀ (n j : Nat) (al : Nat → Nat) (H : Heap) (locs : List Loc) (ls : Array Slot), j + n = 10 → al 0 = o → va_P D vwCl (fr_iw ka al j 0) H → va_D A (fr_iw ka al j 0) → va_S A s.heap H locs → lv_has ls 2 [(0, .ref o), (1, .int (Int32.ofNat j))] → W p l e { frames := 2, cells := 28, slots := 326, locals := 33 } s m ([.ref o] : List Value).toArray below meth c H locs (6 + j) (248 + 3 * j) (MQ below (fr_Qk D vwCl (fr_ty ka) (fun al : Nat → Nat => al 0 = o) (fun al => fr_cw ka al fr_f0 []) A) ([.ref o] : List Value).toArray s 28 326 A) (F0 m 76 ls []) := by
  obtain ⟨hx, hb, hml, hown, ht, hK, hlocks, hr, hA, hN, hZ, hEx⟩ := id C
  intro n
  induction n with
  | zero =>
    intro j al H locs ls hj ha hP hD hS hl
    have hj : j = 10 := by omega
    subst hj
    refine lv_iload_n hx hb dF_init_76 rfl (lv_at hl 1 rfl) ?_
    refine lv_bipush (v := 10) hx hb dF_init_77 (by decide) ?_
    refine lv_icmp_ge (tgt := 101) hx hb dF_init_79 (by decide) (fun _ => ?_) (fun z => absurd (by decide) z)
    refine lv_iconst (v := 0) hx hb dF_init_101 (by decide) ?_
    refine lv_istore_n (lv' := [(1, .int 0), (0, .ref o)]) hx hb dF_init_102 rfl hl (by decide) rfl (fun ls hl => ?_)
    exact k_Fi_103 C 12 0 al H locs ls rfl ha hP hD hS (lv_sub hl [1, 0] rfl)
  | succ n ih =>
    intro j al H locs ls hj ha hP hD hS hl
    have hji : (Int32.ofNat j).toInt = (j : Int) := fr_on (by omega)
    have hjc : (Int32.ofNat j).toNatClampNeg = j := by have := fr_clamp (x := Int32.ofNat j) (by omega); omega
    refine lv_iload_n hx hb dF_init_76 rfl (lv_at hl 1 rfl) ?_
    refine lv_bipush (v := 10) hx hb dF_init_77 (by decide) ?_
    refine lv_icmp_ge (tgt := 101) hx hb dF_init_79 (by decide) (fun z => absurd (fr_t3 z) (by rw [hji]; have : (10 : Int32).toInt = 10 := rfl; omega)) (fun _ => ?_)
    refine lv_aload_n hx hb dF_init_82 rfl (lv_at hl 0 rfl) ?_
    refine va_get (D := D) (ci := 0) (v := .ref (al 1)) (C := "FragileRules") (T := TXF) (N := 10) C.1 C.2.1 C.2.2.2.2.1 iXF C.2.2.2.1 C.2.2.2.2.2.1 hP 0 (by rw [← ha]; rfl) rfl 0 (by decide) (C.2.2.2.2.1 _ fl_F_11) (fun _ h9 => h9) rfl dF_init_83 ?_
    refine lv_iload_n hx hb dF_init_86 rfl (lv_at hl 1 rfl) ?_
    refine va_new (D := D) (ci := 1) (C := "FragileRules$Unit") (T := TXU) (N := 3) C.1 C.2.1 C.2.2.2.2.1 iXU tyXU tokXU C.2.2.2.1 (C.2.2.2.2.1 _ cl0_F_9) (C.2.2.2.2.1 _ mins_Ui) (C.2.2.2.2.1 _ mini_U) C.2.2.2.2.2.1 hP hD hS C.2.2.2.2.2.2.2.2.1 rfl (fs := [.int 0, .int 0, .int 0]) (by decide) (by show (6 + j) + 1 ≤ 28; omega) (by show (248 + 3 * j) + 3 ≤ 326; omega) dF_init_87 (fun q H hP hD hS => ?_)
    refine lv_dup hx hb dF_init_90 rfl ?_
    refine fr_callINv (As := []) (rest := [.ref q, .int (Int32.ofNat j), .ref (al 1)]) C hP hD hS (c_Ui l D ka _ (7 + j + 0) q fr_iw_at) ⟨va_cnB 0 C.2.2.2.2.1 (fr_good mc_Ui) rfl rfl rfl (C.2.2.2.2.2.2.2.2.2.1 _ nst_F_51).2 (C.2.2.2.2.1 _ mini_U) (by decide +kernel) ⟨Nat.le_of_ble_eq_true rfl, Nat.le_of_ble_eq_true rfl⟩, rfl, C.2.2.2.2.1 _ mi_Ui⟩ rfl hl.1 (Nat.le_of_ble_eq_true rfl) dF_init_91 ⟨by show (6 + j) + 1 + 0 ≤ 28; omega, by show (248 + 3 * j) + 3 + 0 ≤ 326; omega⟩ (fun H locs hP hD hS => ?_)
    refine va_astq (r := ("FragileRules$Unit", TXU, 3)) hx hb hK hP hD hS 1 0 (7 + j + 0) 1 rfl rfl fr_iw_at rfl (by rw [vp_in_iff]; omega) dF_init_94 (fun H locs hP hD hS => ?_)
    rw [hjc] at hP hD
    rw [fr_iw_u] at hP hD
    refine lv_iinc (v := Int32.ofNat (j + 1)) (lv' := [(1, .int (Int32.ofNat (j + 1))), (0, .ref o)]) hx hb dF_init_95 hl (k := 1) rfl (fr_on1 (by omega)) (by decide) rfl (fun ls hl => ?_)
    refine lv_goto (tgt := 76) hx hb dF_init_98 (by decide) ?_
    refine W.widen (k := 6 + (j + 1)) (n := 248 + 3 * (j + 1)) (by omega) (by omega) ?_
    exact ih (j + 1) _ H locs ls (by omega) (by rw [fr_nx_ne (by omega)]; exact ha) hP hD hS (lv_sub hl [1, 0] rfl)

set_option maxHeartbeats 4000000 in
set_option maxRecDepth 100000 in
theorem c_Fi (l : Launch) (D : va_G) (ka : Nat → ClassId) (o : Nat) : fr_Mk l y_Fi (.code y_Fi prog_1_method_1_code 2 none :: fr_tbl) { frames := 2, cells := 28, slots := 326, locals := 33 } D vwCl (fr_ty ka) fr_nw [.ref o] [(o, .inr (0, [.null, .int 0, .null, .int 0, .null, .null, .int 0, .null, .int 0, .int 0]))] (fun al : Nat → Nat => al 0 = o) (fun al => fr_cw ka al fr_f0 []) 28 326 := by
  refine fr_Mk.of (by decide) (Nat.le_of_ble_eq_true rfl) ?_
  intro p e s m below meth c A H locs ls C hin hP hD hS hl
  obtain ⟨hx, hb, hml, hown, ht, hK, hlocks, hr, hA, hN, hZ, hEx⟩ := id C
  have hl : lv_has ls 2 [(0, .ref o)] := hl
  refine lv_aload_n hx hb dF_init_0 rfl (lv_at hl 0 rfl) ?_
  refine W.objInit hx hb hown (ht _ oi_Fi) (ht _ mi_oinit) (ht _ mc_oinit) rfl (by rw [hml]; exact hl.1) rfl dF_init_1 (Nat.le_of_ble_eq_true rfl) (Nat.le_of_ble_eq_true rfl) ?_
  refine W.eq (g2 := F0 m 4 ls []) rfl ?_
  refine lv_aload_n hx hb dF_init_4 rfl (lv_at hl 0 rfl) ?_
  refine lv_bipush (v := 10) hx hb dF_init_5 (by decide) ?_
  refine fr_newq (N' := 10) (j := 0) C rfl (by decide) cl0_F_9 av_U hP hD hS (by decide) (by decide) (by decide) (Nat.le_of_ble_eq_true rfl) (Nat.le_of_ble_eq_true rfl) dF_init_7 (fun a1 H hP hD hS => ?_)
  have hP : va_P D vwCl [(o, .inr (0, [.null, .int 0, .null, .int 0, .null, .null, .int 0, .null, .int 0, .int 0])), fr_qa (ka 0) 10 a1 (fun _ => none)] H := hP
  have hD : va_D A [(o, .inr (0, [.null, .int 0, .null, .int 0, .null, .null, .int 0, .null, .int 0, .int 0])), fr_qa (ka 0) 10 a1 (fun _ => none)] := hD
  refine va_putF (D := D) (ci := 0) (v := .ref a1) (ty := .array (.object "FragileRules$Unit")) (C := "FragileRules") (T := TXF) (N := 10) C.1 C.2.1 C.2.2.2.2.1 iXF tyXF tokXF nmXF C.2.2.2.1 C.2.2.2.2.2.1 hP hD hS 0 rfl rfl 0 (by decide) (C.2.2.2.2.1 _ fl_F_11) (fun _ h9 => h9) rfl hin rfl (by decide +kernel) rfl rfl (Nat.le_of_ble_eq_true rfl) dF_init_10 (fun H locs hP hD hS => ?_)
  have hP : va_P D vwCl [(o, .inr (0, [.ref a1, .int 0, .null, .int 0, .null, .null, .int 0, .null, .int 0, .int 0])), fr_qa (ka 0) 10 a1 (fun _ => none)] H := hP
  have hD : va_D A [(o, .inr (0, [.ref a1, .int 0, .null, .int 0, .null, .null, .int 0, .null, .int 0, .int 0])), fr_qa (ka 0) 10 a1 (fun _ => none)] := hD
  refine lv_aload_n hx hb dF_init_13 rfl (lv_at hl 0 rfl) ?_
  refine lv_iconst (v := 0) hx hb dF_init_14 (by decide) ?_
  refine va_put (D := D) (ci := 0) (v := .int 0) (ty := .int) (C := "FragileRules") (T := TXF) (N := 10) C.1 C.2.1 C.2.2.2.2.1 iXF tyXF tokXF nmXF C.2.2.2.1 C.2.2.2.2.2.1 hP hD hS 0 rfl rfl 1 (by decide) (C.2.2.2.2.1 _ fl_F_15) (fun _ h9 => h9) rfl (by decide +kernel) rfl rfl (Nat.le_of_ble_eq_true rfl) dF_init_15 (fun H locs hP hD hS => ?_)
  have hP : va_P D vwCl [(o, .inr (0, [.ref a1, .int 0, .null, .int 0, .null, .null, .int 0, .null, .int 0, .int 0])), fr_qa (ka 0) 10 a1 (fun _ => none)] H := hP
  have hD : va_D A [(o, .inr (0, [.ref a1, .int 0, .null, .int 0, .null, .null, .int 0, .null, .int 0, .int 0])), fr_qa (ka 0) 10 a1 (fun _ => none)] := hD
  refine lv_aload_n hx hb dF_init_18 rfl (lv_at hl 0 rfl) ?_
  refine lv_bipush (v := 12) hx hb dF_init_19 (by decide) ?_
  refine fr_newq (N' := 12) (j := 1) C rfl (by decide) cl0_F_19 av_R hP hD hS (by decide) (by decide) (by decide) (Nat.le_of_ble_eq_true rfl) (Nat.le_of_ble_eq_true rfl) dF_init_21 (fun a2 H hP hD hS => ?_)
  have hP : va_P D vwCl [(o, .inr (0, [.ref a1, .int 0, .null, .int 0, .null, .null, .int 0, .null, .int 0, .int 0])), fr_qa (ka 0) 10 a1 (fun _ => none), fr_qa (ka 1) 12 a2 (fun _ => none)] H := hP
  have hD : va_D A [(o, .inr (0, [.ref a1, .int 0, .null, .int 0, .null, .null, .int 0, .null, .int 0, .int 0])), fr_qa (ka 0) 10 a1 (fun _ => none), fr_qa (ka 1) 12 a2 (fun _ => none)] := hD
  refine va_putF (D := D) (ci := 0) (v := .ref a2) (ty := .array (.object "FragileRules$Rule")) (C := "FragileRules") (T := TXF) (N := 10) C.1 C.2.1 C.2.2.2.2.1 iXF tyXF tokXF nmXF C.2.2.2.1 C.2.2.2.2.2.1 hP hD hS 0 rfl rfl 2 (by decide) (C.2.2.2.2.1 _ fl_F_21) (fun _ h9 => h9) rfl hin rfl (by decide +kernel) rfl rfl (Nat.le_of_ble_eq_true rfl) dF_init_24 (fun H locs hP hD hS => ?_)
  have hP : va_P D vwCl [(o, .inr (0, [.ref a1, .int 0, .ref a2, .int 0, .null, .null, .int 0, .null, .int 0, .int 0])), fr_qa (ka 0) 10 a1 (fun _ => none), fr_qa (ka 1) 12 a2 (fun _ => none)] H := hP
  have hD : va_D A [(o, .inr (0, [.ref a1, .int 0, .ref a2, .int 0, .null, .null, .int 0, .null, .int 0, .int 0])), fr_qa (ka 0) 10 a1 (fun _ => none), fr_qa (ka 1) 12 a2 (fun _ => none)] := hD
  refine lv_aload_n hx hb dF_init_27 rfl (lv_at hl 0 rfl) ?_
  refine lv_iconst (v := 0) hx hb dF_init_28 (by decide) ?_
  refine va_put (D := D) (ci := 0) (v := .int 0) (ty := .int) (C := "FragileRules") (T := TXF) (N := 10) C.1 C.2.1 C.2.2.2.2.1 iXF tyXF tokXF nmXF C.2.2.2.1 C.2.2.2.2.2.1 hP hD hS 0 rfl rfl 3 (by decide) (C.2.2.2.2.1 _ fl_F_25) (fun _ h9 => h9) rfl (by decide +kernel) rfl rfl (Nat.le_of_ble_eq_true rfl) dF_init_29 (fun H locs hP hD hS => ?_)
  have hP : va_P D vwCl [(o, .inr (0, [.ref a1, .int 0, .ref a2, .int 0, .null, .null, .int 0, .null, .int 0, .int 0])), fr_qa (ka 0) 10 a1 (fun _ => none), fr_qa (ka 1) 12 a2 (fun _ => none)] H := hP
  have hD : va_D A [(o, .inr (0, [.ref a1, .int 0, .ref a2, .int 0, .null, .null, .int 0, .null, .int 0, .int 0])), fr_qa (ka 0) 10 a1 (fun _ => none), fr_qa (ka 1) 12 a2 (fun _ => none)] := hD
  refine lv_aload_n hx hb dF_init_32 rfl (lv_at hl 0 rfl) ?_
  refine lv_bipush (v := 12) hx hb dF_init_33 (by decide) ?_
  refine fr_newi (N' := 12) C ac_int hP hD hS (by decide) (by decide) (by decide) (Nat.le_of_ble_eq_true rfl) (Nat.le_of_ble_eq_true rfl) dF_init_35 (fun a3 H hP hD hS => ?_)
  have hP : va_P D vwCl [(o, .inr (0, [.ref a1, .int 0, .ref a2, .int 0, .null, .null, .int 0, .null, .int 0, .int 0])), fr_qa (ka 0) 10 a1 (fun _ => none), fr_qa (ka 1) 12 a2 (fun _ => none), fr_ia (ka 2) 12 a3 (fun _ => 0)] H := hP
  have hD : va_D A [(o, .inr (0, [.ref a1, .int 0, .ref a2, .int 0, .null, .null, .int 0, .null, .int 0, .int 0])), fr_qa (ka 0) 10 a1 (fun _ => none), fr_qa (ka 1) 12 a2 (fun _ => none), fr_ia (ka 2) 12 a3 (fun _ => 0)] := hD
  refine va_putF (D := D) (ci := 0) (v := .ref a3) (ty := .array .int) (C := "FragileRules") (T := TXF) (N := 10) C.1 C.2.1 C.2.2.2.2.1 iXF tyXF tokXF nmXF C.2.2.2.1 C.2.2.2.2.2.1 hP hD hS 0 rfl rfl 4 (by decide) (C.2.2.2.2.1 _ fl_F_28) (fun _ h9 => h9) rfl hin rfl (by decide +kernel) rfl rfl (Nat.le_of_ble_eq_true rfl) dF_init_37 (fun H locs hP hD hS => ?_)
  have hP : va_P D vwCl [(o, .inr (0, [.ref a1, .int 0, .ref a2, .int 0, .ref a3, .null, .int 0, .null, .int 0, .int 0])), fr_qa (ka 0) 10 a1 (fun _ => none), fr_qa (ka 1) 12 a2 (fun _ => none), fr_ia (ka 2) 12 a3 (fun _ => 0)] H := hP
  have hD : va_D A [(o, .inr (0, [.ref a1, .int 0, .ref a2, .int 0, .ref a3, .null, .int 0, .null, .int 0, .int 0])), fr_qa (ka 0) 10 a1 (fun _ => none), fr_qa (ka 1) 12 a2 (fun _ => none), fr_ia (ka 2) 12 a3 (fun _ => 0)] := hD
  refine lv_aload_n hx hb dF_init_40 rfl (lv_at hl 0 rfl) ?_
  refine lv_bipush (v := 12) hx hb dF_init_41 (by decide) ?_
  refine fr_newi (N' := 12) C ac_int hP hD hS (by decide) (by decide) (by decide) (Nat.le_of_ble_eq_true rfl) (Nat.le_of_ble_eq_true rfl) dF_init_43 (fun a4 H hP hD hS => ?_)
  have hP : va_P D vwCl [(o, .inr (0, [.ref a1, .int 0, .ref a2, .int 0, .ref a3, .null, .int 0, .null, .int 0, .int 0])), fr_qa (ka 0) 10 a1 (fun _ => none), fr_qa (ka 1) 12 a2 (fun _ => none), fr_ia (ka 2) 12 a3 (fun _ => 0), fr_ia (ka 2) 12 a4 (fun _ => 0)] H := hP
  have hD : va_D A [(o, .inr (0, [.ref a1, .int 0, .ref a2, .int 0, .ref a3, .null, .int 0, .null, .int 0, .int 0])), fr_qa (ka 0) 10 a1 (fun _ => none), fr_qa (ka 1) 12 a2 (fun _ => none), fr_ia (ka 2) 12 a3 (fun _ => 0), fr_ia (ka 2) 12 a4 (fun _ => 0)] := hD
  refine va_putF (D := D) (ci := 0) (v := .ref a4) (ty := .array .int) (C := "FragileRules") (T := TXF) (N := 10) C.1 C.2.1 C.2.2.2.2.1 iXF tyXF tokXF nmXF C.2.2.2.1 C.2.2.2.2.2.1 hP hD hS 0 rfl rfl 5 (by decide) (C.2.2.2.2.1 _ fl_F_32) (fun _ h9 => h9) rfl hin rfl (by decide +kernel) rfl rfl (Nat.le_of_ble_eq_true rfl) dF_init_45 (fun H locs hP hD hS => ?_)
  have hP : va_P D vwCl [(o, .inr (0, [.ref a1, .int 0, .ref a2, .int 0, .ref a3, .ref a4, .int 0, .null, .int 0, .int 0])), fr_qa (ka 0) 10 a1 (fun _ => none), fr_qa (ka 1) 12 a2 (fun _ => none), fr_ia (ka 2) 12 a3 (fun _ => 0), fr_ia (ka 2) 12 a4 (fun _ => 0)] H := hP
  have hD : va_D A [(o, .inr (0, [.ref a1, .int 0, .ref a2, .int 0, .ref a3, .ref a4, .int 0, .null, .int 0, .int 0])), fr_qa (ka 0) 10 a1 (fun _ => none), fr_qa (ka 1) 12 a2 (fun _ => none), fr_ia (ka 2) 12 a3 (fun _ => 0), fr_ia (ka 2) 12 a4 (fun _ => 0)] := hD
  refine lv_aload_n hx hb dF_init_48 rfl (lv_at hl 0 rfl) ?_
  refine lv_iconst (v := 0) hx hb dF_init_49 (by decide) ?_
  refine va_put (D := D) (ci := 0) (v := .int 0) (ty := .int) (C := "FragileRules") (T := TXF) (N := 10) C.1 C.2.1 C.2.2.2.2.1 iXF tyXF tokXF nmXF C.2.2.2.1 C.2.2.2.2.2.1 hP hD hS 0 rfl rfl 6 (by decide) (C.2.2.2.2.1 _ fl_F_35) (fun _ h9 => h9) rfl (by decide +kernel) rfl rfl (Nat.le_of_ble_eq_true rfl) dF_init_50 (fun H locs hP hD hS => ?_)
  have hP : va_P D vwCl [(o, .inr (0, [.ref a1, .int 0, .ref a2, .int 0, .ref a3, .ref a4, .int 0, .null, .int 0, .int 0])), fr_qa (ka 0) 10 a1 (fun _ => none), fr_qa (ka 1) 12 a2 (fun _ => none), fr_ia (ka 2) 12 a3 (fun _ => 0), fr_ia (ka 2) 12 a4 (fun _ => 0)] H := hP
  have hD : va_D A [(o, .inr (0, [.ref a1, .int 0, .ref a2, .int 0, .ref a3, .ref a4, .int 0, .null, .int 0, .int 0])), fr_qa (ka 0) 10 a1 (fun _ => none), fr_qa (ka 1) 12 a2 (fun _ => none), fr_ia (ka 2) 12 a3 (fun _ => 0), fr_ia (ka 2) 12 a4 (fun _ => 0)] := hD
  refine lv_aload_n hx hb dF_init_53 rfl (lv_at hl 0 rfl) ?_
  refine va_new (D := D) (ci := 3) (C := "FragileRules$Text") (T := TXT) (N := 2) C.1 C.2.1 C.2.2.2.2.1 iXT tyXT tokXT C.2.2.2.1 (C.2.2.2.2.1 _ cl0_F_38) (C.2.2.2.2.1 _ mins_Ti) (C.2.2.2.2.1 _ mini_T) C.2.2.2.2.2.1 hP hD hS C.2.2.2.2.2.2.2.2.1 rfl (fs := [.null, .int 0]) (by decide) (Nat.le_of_ble_eq_true rfl) (Nat.le_of_ble_eq_true rfl) dF_init_54 (fun a5 H hP hD hS => ?_)
  refine lv_dup hx hb dF_init_57 rfl ?_
  have hP : va_P D vwCl [(o, .inr (0, [.ref a1, .int 0, .ref a2, .int 0, .ref a3, .ref a4, .int 0, .null, .int 0, .int 0])), fr_qa (ka 0) 10 a1 (fun _ => none), fr_qa (ka 1) 12 a2 (fun _ => none), fr_ia (ka 2) 12 a3 (fun _ => 0), fr_ia (ka 2) 12 a4 (fun _ => 0), (a5, .inr (3, [.null, .int 0]))] H := hP
  have hD : va_D A [(o, .inr (0, [.ref a1, .int 0, .ref a2, .int 0, .ref a3, .ref a4, .int 0, .null, .int 0, .int 0])), fr_qa (ka 0) 10 a1 (fun _ => none), fr_qa (ka 1) 12 a2 (fun _ => none), fr_ia (ka 2) 12 a3 (fun _ => 0), fr_ia (ka 2) 12 a4 (fun _ => 0), (a5, .inr (3, [.null, .int 0]))] := hD
  refine fr_callINk (As := []) (rest := [.ref a5, .ref o]) C hP hD hS (c_Ti l D ka _ 5 a5 rfl) ⟨va_cnB 0 C.2.2.2.2.1 (fr_good mc_Ti) rfl rfl rfl (C.2.2.2.2.2.2.2.2.2.1 _ nst_F_40).2 (C.2.2.2.2.1 _ mini_T) (by decide +kernel) ⟨Nat.le_of_ble_eq_true rfl, Nat.le_of_ble_eq_true rfl⟩, rfl, C.2.2.2.2.1 _ mi_Ti⟩ rfl hl.1 (Nat.le_of_ble_eq_true rfl) dF_init_58 ⟨Nat.le_of_ble_eq_true rfl, Nat.le_of_ble_eq_true rfl⟩ (fun a6 H locs _ hP hD hS => ?_)
  have hP : va_P D vwCl [(o, .inr (0, [.ref a1, .int 0, .ref a2, .int 0, .ref a3, .ref a4, .int 0, .null, .int 0, .int 0])), fr_qa (ka 0) 10 a1 (fun _ => none), fr_qa (ka 1) 12 a2 (fun _ => none), fr_ia (ka 2) 12 a3 (fun _ => 0), fr_ia (ka 2) 12 a4 (fun _ => 0), (a5, .inr (3, [.ref a6, .int 0])), fr_ia (ka 2) 200 a6 (fun _ => 0)] H := hP
  have hD : va_D A [(o, .inr (0, [.ref a1, .int 0, .ref a2, .int 0, .ref a3, .ref a4, .int 0, .null, .int 0, .int 0])), fr_qa (ka 0) 10 a1 (fun _ => none), fr_qa (ka 1) 12 a2 (fun _ => none), fr_ia (ka 2) 12 a3 (fun _ => 0), fr_ia (ka 2) 12 a4 (fun _ => 0), (a5, .inr (3, [.ref a6, .int 0])), fr_ia (ka 2) 200 a6 (fun _ => 0)] := hD
  refine va_putF (D := D) (ci := 0) (v := .ref a5) (ty := .object "FragileRules$Text") (C := "FragileRules") (T := TXF) (N := 10) C.1 C.2.1 C.2.2.2.2.1 iXF tyXF tokXF nmXF C.2.2.2.1 C.2.2.2.2.2.1 hP hD hS 0 rfl rfl 7 (by decide) (C.2.2.2.2.1 _ fl_F_41) (fun _ h9 => h9) rfl hin rfl (by decide +kernel) rfl rfl (Nat.le_of_ble_eq_true rfl) dF_init_61 (fun H locs hP hD hS => ?_)
  have hP : va_P D vwCl [(o, .inr (0, [.ref a1, .int 0, .ref a2, .int 0, .ref a3, .ref a4, .int 0, .ref a5, .int 0, .int 0])), fr_qa (ka 0) 10 a1 (fun _ => none), fr_qa (ka 1) 12 a2 (fun _ => none), fr_ia (ka 2) 12 a3 (fun _ => 0), fr_ia (ka 2) 12 a4 (fun _ => 0), (a5, .inr (3, [.ref a6, .int 0])), fr_ia (ka 2) 200 a6 (fun _ => 0)] H := hP
  have hD : va_D A [(o, .inr (0, [.ref a1, .int 0, .ref a2, .int 0, .ref a3, .ref a4, .int 0, .ref a5, .int 0, .int 0])), fr_qa (ka 0) 10 a1 (fun _ => none), fr_qa (ka 1) 12 a2 (fun _ => none), fr_ia (ka 2) 12 a3 (fun _ => 0), fr_ia (ka 2) 12 a4 (fun _ => 0), (a5, .inr (3, [.ref a6, .int 0])), fr_ia (ka 2) 200 a6 (fun _ => 0)] := hD
  refine lv_aload_n hx hb dF_init_64 rfl (lv_at hl 0 rfl) ?_
  refine lv_iconst (v := 0) hx hb dF_init_65 (by decide) ?_
  refine va_put (D := D) (ci := 0) (v := .int 0) (ty := .int) (C := "FragileRules") (T := TXF) (N := 10) C.1 C.2.1 C.2.2.2.2.1 iXF tyXF tokXF nmXF C.2.2.2.1 C.2.2.2.2.2.1 hP hD hS 0 rfl rfl 8 (by decide) (C.2.2.2.2.1 _ fl_F_45) (fun _ h9 => h9) rfl (by decide +kernel) rfl rfl (Nat.le_of_ble_eq_true rfl) dF_init_66 (fun H locs hP hD hS => ?_)
  have hP : va_P D vwCl [(o, .inr (0, [.ref a1, .int 0, .ref a2, .int 0, .ref a3, .ref a4, .int 0, .ref a5, .int 0, .int 0])), fr_qa (ka 0) 10 a1 (fun _ => none), fr_qa (ka 1) 12 a2 (fun _ => none), fr_ia (ka 2) 12 a3 (fun _ => 0), fr_ia (ka 2) 12 a4 (fun _ => 0), (a5, .inr (3, [.ref a6, .int 0])), fr_ia (ka 2) 200 a6 (fun _ => 0)] H := hP
  have hD : va_D A [(o, .inr (0, [.ref a1, .int 0, .ref a2, .int 0, .ref a3, .ref a4, .int 0, .ref a5, .int 0, .int 0])), fr_qa (ka 0) 10 a1 (fun _ => none), fr_qa (ka 1) 12 a2 (fun _ => none), fr_ia (ka 2) 12 a3 (fun _ => 0), fr_ia (ka 2) 12 a4 (fun _ => 0), (a5, .inr (3, [.ref a6, .int 0])), fr_ia (ka 2) 200 a6 (fun _ => 0)] := hD
  refine lv_aload_n hx hb dF_init_69 rfl (lv_at hl 0 rfl) ?_
  refine lv_iconst (v := 0) hx hb dF_init_70 (by decide) ?_
  refine va_put (D := D) (ci := 0) (v := .int 0) (ty := .int) (C := "FragileRules") (T := TXF) (N := 10) C.1 C.2.1 C.2.2.2.2.1 iXF tyXF tokXF nmXF C.2.2.2.1 C.2.2.2.2.2.1 hP hD hS 0 rfl rfl 9 (by decide) (C.2.2.2.2.1 _ fl_F_48) (fun _ h9 => h9) rfl (by decide +kernel) rfl rfl (Nat.le_of_ble_eq_true rfl) dF_init_71 (fun H locs hP hD hS => ?_)
  have hP : va_P D vwCl [(o, .inr (0, [.ref a1, .int 0, .ref a2, .int 0, .ref a3, .ref a4, .int 0, .ref a5, .int 0, .int 0])), fr_qa (ka 0) 10 a1 (fun _ => none), fr_qa (ka 1) 12 a2 (fun _ => none), fr_ia (ka 2) 12 a3 (fun _ => 0), fr_ia (ka 2) 12 a4 (fun _ => 0), (a5, .inr (3, [.ref a6, .int 0])), fr_ia (ka 2) 200 a6 (fun _ => 0)] H := hP
  have hD : va_D A [(o, .inr (0, [.ref a1, .int 0, .ref a2, .int 0, .ref a3, .ref a4, .int 0, .ref a5, .int 0, .int 0])), fr_qa (ka 0) 10 a1 (fun _ => none), fr_qa (ka 1) 12 a2 (fun _ => none), fr_ia (ka 2) 12 a3 (fun _ => 0), fr_ia (ka 2) 12 a4 (fun _ => 0), (a5, .inr (3, [.ref a6, .int 0])), fr_ia (ka 2) 200 a6 (fun _ => 0)] := hD
  refine lv_iconst (v := 0) hx hb dF_init_74 (by decide) ?_
  refine lv_istore_n (lv' := [(1, .int 0), (0, .ref o)]) hx hb dF_init_75 rfl hl (by decide) rfl (fun ls hl => ?_)
  exact k_Fi_76 C 10 0 (fun k => match k with | 0 => o | 1 => a1 | 2 => a2 | 3 => a3 | 4 => a4 | 5 => a5 | 6 => a6 | _ => 0) H locs ls rfl rfl hP hD hS (lv_sub hl [1, 0] rfl)
