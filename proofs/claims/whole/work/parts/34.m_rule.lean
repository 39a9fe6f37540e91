theorem cl_M_98 {p : Program} {l : Launch} {e : Env} {R : Room} {s : State} {m : MethodId} {args : Array Value} {below : List Frame} {meth : Method} {c : Code} {H : Heap} {locs : List Loc} {cells slots : Nat} {Q : State → Prop} {D : va_G} {A : Nat → Prop} {cc : ByteArray} {nL pc : Nat} {ret : Option FieldType} {hh : List ExceptionTableEntry} {ls : Array Slot} {rest : List Value} {ka : Nat → ClassId} {al : Nat → Nat} {f : Nat → Nat → Int32} {Z : va_W} {x : Int32} {y : Int32} {k : Int32} (C : fr_Cx p s m args meth c "FragileRulesModel" cc nL ret hh fr_tbl fr_nw D vwCl (fr_ty ka) A) (hP : va_P D vwCl (fr_mw ka al f Z) H) (hD : va_D A (fr_mw ka al f Z)) (hS : va_S A s.heap H locs) (hsz : ls.size = nL) (hR : 1 + 1 ≤ R.frames ∧ 8 + (4 + 11) + 22 ≤ R.locals) (hw : (rest.map fun v => v.category).sum ≤ 8) (hf : cells + 0 ≤ R.cells ∧ slots + 0 ≤ R.slots) (hdg : decode cc pc = .ok (.invokestatic 98, 3)) (kk : ∀ (H : Heap) (locs : List Loc), va_P D vwCl (fr_mw ka al f Z) H → va_D A (fr_mw ka al f Z) → va_S A s.heap H locs → W p l e R s m args below meth c H locs (cells + 0) (slots + 0) Q (F0 m (pc + 3) ls (.int (dn_m_isRule x y k) :: rest))) : W p l e R s m args below meth c H locs cells slots Q (F0 m pc ls (.int k :: .int y :: .int x :: rest)) :=
  fr_callSi (As := [.int x, .int y, .int k]) C hP hD hS (c_m_isRule l D ka al Z f x y k) (cwS 3 C.2.2.2.2.1 (fr_goodS ml_M_98 mst_m_isRule mini_M mc_m_isRule) rfl rfl rfl (by decide +kernel) hR) rfl hsz hw hdg hf kk
theorem cl_M_101 {p : Program} {l : Launch} {e : Env} {R : Room} {s : State} {m : MethodId} {args : Array Value} {below : List Frame} {meth : Method} {c : Code} {H : Heap} {locs : List Loc} {cells slots : Nat} {Q : State → Prop} {D : va_G} {A : Nat → Prop} {cc : ByteArray} {nL pc : Nat} {ret : Option FieldType} {hh : List ExceptionTableEntry} {ls : Array Slot} {rest : List Value} {ka : Nat → ClassId} {al : Nat → Nat} {f : Nat → Nat → Int32} {Z : va_W} {x : Int32} {y : Int32} {k : Int32} (C : fr_Cx p s m args meth c "FragileRulesModel" cc nL ret hh fr_tbl fr_nw D vwCl (fr_ty ka) A) (hP : va_P D vwCl (fr_mw ka al f Z) H) (hD : va_D A (fr_mw ka al f Z)) (hS : va_S A s.heap H locs) (hsz : ls.size = nL) (hR : 0 + 1 ≤ R.frames ∧ 8 + (4 + 11) + 0 ≤ R.locals) (hw : (rest.map fun v => v.category).sum ≤ 8) (hf : cells + 0 ≤ R.cells ∧ slots + 0 ≤ R.slots) (gR : 0 ≤ (f 0 1).toInt ∧ (f 0 1).toInt < 12) (hdg : decode cc pc = .ok (.invokevirtual 101, 3)) (kk : ∀ (H : Heap) (locs : List Loc), va_P D vwCl (fr_mw ka al (dn_m_add f x y k) Z) H → va_D A (fr_mw ka al (dn_m_add f x y k) Z) → va_S A s.heap H locs → W p l e R s m args below meth c H locs (cells + 0) (slots + 0) Q (F0 m (pc + 3) ls rest)) : W p l e R s m args below meth c H locs cells slots Q (F0 m pc ls (.int k :: .int y :: .int x :: .ref (al 0) :: rest)) :=
  fr_callVv (As := [.int x, .int y, .int k]) C hP hD hS (c_m_add l D ka al Z f x y k gR) (cwV 3 C.2.2.2.2.1 (fr_goodV ml_M_101 mi_m_add msel_m_add mini_M mc_m_add) rfl rfl rfl (by decide +kernel) hR) (va_recv C.2.2.2.2.2.1 hP (ci := 4) (q0 := 0) rfl rfl) rfl hsz hw hdg hf kk
def dn_m_rule (f : Nat → Nat → Int32) (x : Int32) (y : Int32) (k : Int32) : Int32 × (Nat → Nat → Int32) := if (dn_m_isRule x y k) = 0 then (0, fr_up f 0 5 1) else (if (f 0 1) = 12 then (0, fr_up f 0 5 2) else ((dn_m_add (fr_up f 0 5 0) x y k) 0 1, dn_m_add (fr_up f 0 5 0) x y k))
set_option maxHeartbeats 4000000 in
set_option maxRecDepth 100000 in
theorem c_m_rule (l : Launch) (D : va_G) (ka : Nat → ClassId) (al : Nat → Nat) (Z : va_W) (f : Nat → Nat → Int32) (x : Int32) (y : Int32) (k : Int32) (gR : 0 ≤ (f 0 1).toInt ∧ (f 0 1).toInt ≤ 12) : fr_Mi l y_m_rule (.code y_m_rule prog_6_method_14_code 4 (some .int) :: fr_tbl) { frames := 2, cells := 0, slots := 0, locals := 45 } D vwCl (fr_ty ka) fr_nw [.ref (al 0), .int x, .int y, .int k] (fr_mw ka al f Z) ((dn_m_rule f x y k).1) (fr_mw ka al ((dn_m_rule f x y k).2) Z) 0 0 := by
  refine fr_Mi.of (by decide) (Nat.le_of_ble_eq_true rfl) ?_
  intro p e s m below meth c A H locs ls C hP hD hS hl
  obtain ⟨hx, hb, hml, hown, ht, hK, hlocks, hr, hA, hN, hZ, hEx⟩ := id C
  have hl : lv_has ls 4 [(0, .ref (al 0)), (1, .int x), (2, .int y), (3, .int k)] := hl
  refine lv_aload_n hx hb dM_rule_0 rfl (lv_at hl 0 rfl) ?_
  refine lv_iload_n hx hb dM_rule_1 rfl (lv_at hl 1 rfl) ?_
  refine lv_iload_n hx hb dM_rule_2 rfl (lv_at hl 2 rfl) ?_
  refine lv_iload_n hx hb dM_rule_3 rfl (lv_at hl 3 rfl) ?_
  refine cl_M_98 C hP hD hS hl.1 ⟨Nat.le_of_ble_eq_true rfl, Nat.le_of_ble_eq_true rfl⟩ (Nat.le_of_ble_eq_true rfl) ⟨Nat.le_of_ble_eq_true rfl, Nat.le_of_ble_eq_true rfl⟩ dM_rule_4 (fun H locs hP hD hS => ?_)
  refine lv_if_ne (tgt := 14) hx hb dM_rule_7 (by decide) (fun c_7 => ?_) (fun c_7 => ?_)
  · skip
    refine lv_aload_n hx hb dM_rule_14 rfl (lv_at hl 0 rfl) ?_
    refine gf_M_72 C hP dM_rule_15 ?_
    refine lv_bipush (v := 12) hx hb dM_rule_18 (by decide) ?_
    refine lv_icmp_ne (tgt := 27) hx hb dM_rule_20 (by decide) (fun c_20 => ?_) (fun c_20 => ?_)
    · skip
      refine lv_iconst (v := 0) hx hb dM_rule_27 (by decide) ?_
      refine pf_M_40 C hP hD hS dM_rule_28 (fun H locs hP hD hS => ?_)
      refine lv_aload_n hx hb dM_rule_31 rfl (lv_at hl 0 rfl) ?_
      refine gf_M_40 C hP dM_rule_32 ?_
      refine W.eq (g2 := F0 m 35 ls [.int 0]) (by first | rfl | simp [fr_up, fr_row]) ?_
      refine lv_if_eq (tgt := 40) hx hb dM_rule_35 (by decide) (fun c_35 => ?_) (fun c_35 => absurd c_35 (by decide))
      refine lv_aload_n hx hb dM_rule_40 rfl (lv_at hl 0 rfl) ?_
      refine lv_iload_n hx hb dM_rule_41 rfl (lv_at hl 1 rfl) ?_
      refine lv_iload_n hx hb dM_rule_42 rfl (lv_at hl 2 rfl) ?_
      refine lv_iload_n hx hb dM_rule_43 rfl (lv_at hl 3 rfl) ?_
      refine cl_M_101 C hP hD hS hl.1 ⟨Nat.le_of_ble_eq_true rfl, Nat.le_of_ble_eq_true rfl⟩ (Nat.le_of_ble_eq_true rfl) ⟨Nat.le_of_ble_eq_true rfl, Nat.le_of_ble_eq_true rfl⟩ (mo_r1 gR c_20) dM_rule_44 (fun H locs hP hD hS => ?_)
      refine lv_aload_n hx hb dM_rule_47 rfl (lv_at hl 0 rfl) ?_
      refine gf_M_72 C hP dM_rule_48 ?_
      have hd_ : dn_m_rule f x y k = ((dn_m_add (fr_up f 0 5 0) x y k) 0 1, dn_m_add (fr_up f 0 5 0) x y k) := by rw [dn_m_rule, if_neg c_7, if_neg c_20]
      rw [hd_]
      exact fr_iret C hP hD hS rfl dM_rule_51
    · skip
      refine lv_iconst (v := 2) hx hb dM_rule_23 (by decide) ?_
      refine lv_goto (tgt := 28) hx hb dM_rule_24 (by decide) ?_
      refine pf_M_40 C hP hD hS dM_rule_28 (fun H locs hP hD hS => ?_)
      refine lv_aload_n hx hb dM_rule_31 rfl (lv_at hl 0 rfl) ?_
      refine gf_M_40 C hP dM_rule_32 ?_
      refine W.eq (g2 := F0 m 35 ls [.int 2]) (by first | rfl | simp [fr_up, fr_row]) ?_
      refine lv_if_eq (tgt := 40) hx hb dM_rule_35 (by decide) (fun c_35 => absurd c_35 (by decide)) (fun c_35 => ?_)
      refine lv_iconst (v := 0) hx hb dM_rule_38 (by decide) ?_
      have hd_ : dn_m_rule f x y k = (0, fr_up f 0 5 2) := by rw [dn_m_rule, if_neg c_7, if_pos c_20]
      rw [hd_]
      exact fr_iret C hP hD hS rfl dM_rule_39
  · skip
    refine lv_iconst (v := 1) hx hb dM_rule_10 (by decide) ?_
    refine lv_goto (tgt := 28) hx hb dM_rule_11 (by decide) ?_
    refine pf_M_40 C hP hD hS dM_rule_28 (fun H locs hP hD hS => ?_)
    refine lv_aload_n hx hb dM_rule_31 rfl (lv_at hl 0 rfl) ?_
    refine gf_M_40 C hP dM_rule_32 ?_
    refine W.eq (g2 := F0 m 35 ls [.int 1]) (by first | rfl | simp [fr_up, fr_row]) ?_
    refine lv_if_eq (tgt := 40) hx hb dM_rule_35 (by decide) (fun c_35 => absurd c_35 (by decide)) (fun c_35 => ?_)
    refine lv_iconst (v := 0) hx hb dM_rule_38 (by decide) ?_
    have hd_ : dn_m_rule f x y k = (0, fr_up f 0 5 1) := by rw [dn_m_rule, if_pos c_7]
    rw [hd_]
    exact fr_iret C hP hD hS rfl dM_rule_39

def dn_m_own (f : Nat → Nat → Int32) (x : Int32) (y : Int32) : Int32 × (Nat → Nat → Int32) := if (dn_m_within x 0 3) = 0 then (0, fr_up f 0 5 1) else (if (f 0 1) = 12 then (0, fr_up f 0 5 2) else (if y = 0 then ((dn_m_add (fr_up f 0 5 0) 5 x 0) 0 1, dn_m_add (fr_up f 0 5 0) 5 x 0) else ((dn_m_add (fr_up f 0 5 0) 5 x 1) 0 1, dn_m_add (fr_up f 0 5 0) 5 x 1)))
set_option maxHeartbeats 4000000 in
set_option maxRecDepth 100000 in
theorem c_m_own (l : Launch) (D : va_G) (ka : Nat → ClassId) (al : Nat → Nat) (Z : va_W) (f : Nat → Nat → Int32) (x : Int32) (y : Int32) (gR : 0 ≤ (f 0 1).toInt ∧ (f 0 1).toInt ≤ 12) : fr_Mi l y_m_own (.code y_m_own prog_6_method_15_code 3 (some .int) :: fr_tbl) { frames := 1, cells := 0, slots := 0, locals := 23 } D vwCl (fr_ty ka) fr_nw [.ref (al 0), .int x, .int y] (fr_mw ka al f Z) ((dn_m_own f x y).1) (fr_mw ka al ((dn_m_own f x y).2) Z) 0 0 := by
  refine fr_Mi.of (by decide) (Nat.le_of_ble_eq_true rfl) ?_
  intro p e s m below meth c A H locs ls C hP hD hS hl
  obtain ⟨hx, hb, hml, hown, ht, hK, hlocks, hr, hA, hN, hZ, hEx⟩ := id C
  have hl : lv_has ls 3 [(0, .ref (al 0)), (1, .int x), (2, .int y)] := hl
  refine lv_aload_n hx hb dM_own_0 rfl (lv_at hl 0 rfl) ?_
  refine lv_iload_n hx hb dM_own_1 rfl (lv_at hl 1 rfl) ?_
  refine lv_iconst (v := 0) hx hb dM_own_2 (by decide) ?_
  refine lv_iconst (v := 3) hx hb dM_own_3 (by decide) ?_
  refine cl_M_91 C hP hD hS hl.1 ⟨Nat.le_of_ble_eq_true rfl, Nat.le_of_ble_eq_true rfl⟩ (Nat.le_of_ble_eq_true rfl) ⟨Nat.le_of_ble_eq_true rfl, Nat.le_of_ble_eq_true rfl⟩ dM_own_4 (fun H locs hP hD hS => ?_)
  refine lv_if_ne (tgt := 14) hx hb dM_own_7 (by decide) (fun c_7 => ?_) (fun c_7 => ?_)
  · skip
    refine lv_aload_n hx hb dM_own_14 rfl (lv_at hl 0 rfl) ?_
    refine gf_M_72 C hP dM_own_15 ?_
    refine lv_bipush (v := 12) hx hb dM_own_18 (by decide) ?_
    refine lv_icmp_ne (tgt := 27) hx hb dM_own_20 (by decide) (fun c_20 => ?_) (fun c_20 => ?_)
    · skip
      refine lv_iconst (v := 0) hx hb dM_own_27 (by decide) ?_
      refine pf_M_40 C hP hD hS dM_own_28 (fun H locs hP hD hS => ?_)
      refine lv_aload_n hx hb dM_own_31 rfl (lv_at hl 0 rfl) ?_
      refine gf_M_40 C hP dM_own_32 ?_
      refine W.eq (g2 := F0 m 35 ls [.int 0]) (by first | rfl | simp [fr_up, fr_row]) ?_
      refine lv_if_eq (tgt := 40) hx hb dM_own_35 (by decide) (fun c_35 => ?_) (fun c_35 => absurd c_35 (by decide))
      refine lv_aload_n hx hb dM_own_40 rfl (lv_at hl 0 rfl) ?_
      refine lv_iconst (v := 5) hx hb dM_own_41 (by decide) ?_
      refine lv_iload_n hx hb dM_own_42 rfl (lv_at hl 1 rfl) ?_
      refine lv_iload_n hx hb dM_own_43 rfl (lv_at hl 2 rfl) ?_
      refine lv_if_eq (tgt := 51) hx hb dM_own_44 (by decide) (fun c_44 => ?_) (fun c_44 => ?_)
      · skip
        refine lv_iconst (v := 0) hx hb dM_own_51 (by decide) ?_
        refine cl_M_101 C hP hD hS hl.1 ⟨Nat.le_of_ble_eq_true rfl, Nat.le_of_ble_eq_true rfl⟩ (Nat.le_of_ble_eq_true rfl) ⟨Nat.le_of_ble_eq_true rfl, Nat.le_of_ble_eq_true rfl⟩ (mo_r1 gR c_20) dM_own_52 (fun H locs hP hD hS => ?_)
        refine lv_aload_n hx hb dM_own_55 rfl (lv_at hl 0 rfl) ?_
        refine gf_M_72 C hP dM_own_56 ?_
        have hd_ : dn_m_own f x y = ((dn_m_add (fr_up f 0 5 0) 5 x 0) 0 1, dn_m_add (fr_up f 0 5 0) 5 x 0) := by rw [dn_m_own, if_neg c_7, if_neg c_20, if_pos c_44]
        rw [hd_]
        exact fr_iret C hP hD hS rfl dM_own_59
      · skip
        refine lv_iconst (v := 1) hx hb dM_own_47 (by decide) ?_
        refine lv_goto (tgt := 52) hx hb dM_own_48 (by decide) ?_
        refine cl_M_101 C hP hD hS hl.1 ⟨Nat.le_of_ble_eq_true rfl, Nat.le_of_ble_eq_true rfl⟩ (Nat.le_of_ble_eq_true rfl) ⟨Nat.le_of_ble_eq_true rfl, Nat.le_of_ble_eq_true rfl⟩ (mo_r1 gR c_20) dM_own_52 (fun H locs hP hD hS => ?_)
        refine lv_aload_n hx hb dM_own_55 rfl (lv_at hl 0 rfl) ?_
        refine gf_M_72 C hP dM_own_56 ?_
        have hd_ : dn_m_own f x y = ((dn_m_add (fr_up f 0 5 0) 5 x 1) 0 1, dn_m_add (fr_up f 0 5 0) 5 x 1) := by rw [dn_m_own, if_neg c_7, if_neg c_20, if_neg c_44]
        rw [hd_]
        exact fr_iret C hP hD hS rfl dM_own_59
    · skip
      refine lv_iconst (v := 2) hx hb dM_own_23 (by decide) ?_
      refine lv_goto (tgt := 28) hx hb dM_own_24 (by decide) ?_
      refine pf_M_40 C hP hD hS dM_own_28 (fun H locs hP hD hS => ?_)
      refine lv_aload_n hx hb dM_own_31 rfl (lv_at hl 0 rfl) ?_
      refine gf_M_40 C hP dM_own_32 ?_
      refine W.eq (g2 := F0 m 35 ls [.int 2]) (by first | rfl | simp [fr_up, fr_row]) ?_
      refine lv_if_eq (tgt := 40) hx hb dM_own_35 (by decide) (fun c_35 => absurd c_35 (by decide)) (fun c_35 => ?_)
      refine lv_iconst (v := 0) hx hb dM_own_38 (by decide) ?_
      have hd_ : dn_m_own f x y = (0, fr_up f 0 5 2) := by rw [dn_m_own, if_neg c_7, if_pos c_20]
      rw [hd_]
      exact fr_iret C hP hD hS rfl dM_own_39
  · skip
    refine lv_iconst (v := 1) hx hb dM_own_10 (by decide) ?_
    refine lv_goto (tgt := 28) hx hb dM_own_11 (by decide) ?_
    refine pf_M_40 C hP hD hS dM_own_28 (fun H locs hP hD hS => ?_)
    refine lv_aload_n hx hb dM_own_31 rfl (lv_at hl 0 rfl) ?_
    refine gf_M_40 C hP dM_own_32 ?_
    refine W.eq (g2 := F0 m 35 ls [.int 1]) (by first | rfl | simp [fr_up, fr_row]) ?_
    refine lv_if_eq (tgt := 40) hx hb dM_own_35 (by decide) (fun c_35 => absurd c_35 (by decide)) (fun c_35 => ?_)
    refine lv_iconst (v := 0) hx hb dM_own_38 (by decide) ?_
    have hd_ : dn_m_own f x y = (0, fr_up f 0 5 1) := by rw [dn_m_own, if_pos c_7]
    rw [hd_]
    exact fr_iret C hP hD hS rfl dM_own_39

def dn_m_sign (f : Nat → Nat → Int32) (x : Int32) : Nat → Nat → Int32 := if x = 10 then (if (f 0 2) = 200 then (fr_up f 0 5 2) else (fr_up (fr_up (fr_up f 0 5 0) 9 ((f 0 2).toNatClampNeg) x) 0 2 ((f 0 2) + 1))) else (if (dn_m_within x 32 126) = 0 then (fr_up f 0 5 1) else (if (f 0 2) = 200 then (fr_up f 0 5 2) else (fr_up (fr_up (fr_up f 0 5 0) 9 ((f 0 2).toNatClampNeg) x) 0 2 ((f 0 2) + 1))))
set_option maxHeartbeats 4000000 in
set_option maxRecDepth 100000 in
theorem c_m_sign (l : Launch) (D : va_G) (ka : Nat → ClassId) (al : Nat → Nat) (Z : va_W) (f : Nat → Nat → Int32) (x : Int32) (gS : 0 ≤ (f 0 2).toInt ∧ (f 0 2).toInt ≤ 200) : fr_Mv l y_m_sign (.code y_m_sign prog_6_method_16_code 2 none :: fr_tbl) { frames := 1, cells := 0, slots := 0, locals := 22 } D vwCl (fr_ty ka) fr_nw [.ref (al 0), .int x] (fr_mw ka al f Z) (fr_mw ka al (dn_m_sign f x) Z) 0 0 := by
  refine fr_Mv.of (by decide) (Nat.le_of_ble_eq_true rfl) ?_
  intro p e s m below meth c A H locs ls C hinit hP hD hS hl
  obtain ⟨hx, hb, hml, hown, ht, hK, hlocks, hr, hA, hN, hZ, hEx⟩ := id C
  have hl : lv_has ls 2 [(0, .ref (al 0)), (1, .int x)] := hl
  refine lv_aload_n hx hb dM_sign_0 rfl (lv_at hl 0 rfl) ?_
  refine lv_iload_n hx hb dM_sign_1 rfl (lv_at hl 1 rfl) ?_
  refine lv_bipush (v := 10) hx hb dM_sign_2 (by decide) ?_
  refine lv_icmp_eq (tgt := 22) hx hb dM_sign_4 (by decide) (fun c_4 => ?_) (fun c_4 => ?_)
  · skip
    refine lv_aload_n hx hb dM_sign_22 rfl (lv_at hl 0 rfl) ?_
    refine gf_M_105 C hP dM_sign_23 ?_
    refine lv_sipush (v := 200) hx hb dM_sign_26 (by decide) ?_
    refine lv_icmp_ne (tgt := 36) hx hb dM_sign_29 (by decide) (fun c_29 => ?_) (fun c_29 => ?_)
    · skip
      refine lv_iconst (v := 0) hx hb dM_sign_36 (by decide) ?_
      refine pf_M_40 C hP hD hS dM_sign_37 (fun H locs hP hD hS => ?_)
      refine lv_aload_n hx hb dM_sign_40 rfl (lv_at hl 0 rfl) ?_
      refine gf_M_40 C hP dM_sign_41 ?_
      refine W.eq (g2 := F0 m 44 ls [.int 0]) (by first | rfl | simp [fr_up, fr_row]) ?_
      refine lv_if_eq (tgt := 48) hx hb dM_sign_44 (by decide) (fun c_44 => ?_) (fun c_44 => absurd c_44 (by decide))
      refine lv_aload_n hx hb dM_sign_48 rfl (lv_at hl 0 rfl) ?_
      refine gf_M_34 C hP dM_sign_49 ?_
      refine lv_aload_n hx hb dM_sign_52 rfl (lv_at hl 0 rfl) ?_
      refine gf_M_105 C hP dM_sign_53 ?_
      refine W.eq (g2 := F0 m 56 ls [.int (f 0 2), .ref (al 9)]) (by first | rfl | simp [fr_up, fr_row]) ?_
      refine lv_iload_n hx hb dM_sign_56 rfl (lv_at hl 1 rfl) ?_
      have hin_57 : vp_in (f 0 2) 200 := by have q0 := fr_t5 c_4; have q1 := fr_t6 c_29; have z0 : (10 : Int32).toInt = 10 := rfl; have z1 : (200 : Int32).toInt = 200 := rfl; have e0 := gS; skip; rw [vp_in_iff]; omega
      refine mast_9 C hP hD hS hin_57 dM_sign_57 (fun H locs hP hD hS => ?_)
      refine lv_aload_n hx hb dM_sign_58 rfl (lv_at hl 0 rfl) ?_
      refine lv_dup hx hb dM_sign_59 rfl ?_
      refine gf_M_105 C hP dM_sign_60 ?_
      refine W.eq (g2 := F0 m 63 ls [.int (f 0 2), .ref (al 0)]) (by first | rfl | simp [fr_up, fr_row]) ?_
      refine lv_iconst (v := 1) hx hb dM_sign_63 (by decide) ?_
      refine lv_iadd hx hb dM_sign_64 ?_
      refine pf_M_105 C hP hD hS dM_sign_65 (fun H locs hP hD hS => ?_)
      have hd_ : dn_m_sign f x = fr_up (fr_up (fr_up f 0 5 0) 9 ((f 0 2).toNatClampNeg) x) 0 2 ((f 0 2) + 1) := by rw [dn_m_sign, if_pos c_4, if_neg c_29]
      rw [hd_]
      exact fr_vret C hP hD hS dM_sign_68
    · skip
      refine lv_iconst (v := 2) hx hb dM_sign_32 (by decide) ?_
      refine lv_goto (tgt := 37) hx hb dM_sign_33 (by decide) ?_
      refine pf_M_40 C hP hD hS dM_sign_37 (fun H locs hP hD hS => ?_)
      refine lv_aload_n hx hb dM_sign_40 rfl (lv_at hl 0 rfl) ?_
      refine gf_M_40 C hP dM_sign_41 ?_
      refine W.eq (g2 := F0 m 44 ls [.int 2]) (by first | rfl | simp [fr_up, fr_row]) ?_
      refine lv_if_eq (tgt := 48) hx hb dM_sign_44 (by decide) (fun c_44 => absurd c_44 (by decide)) (fun c_44 => ?_)
      have hd_ : dn_m_sign f x = fr_up f 0 5 2 := by rw [dn_m_sign, if_pos c_4, if_pos c_29]
      rw [hd_]
      exact fr_vret C hP hD hS dM_sign_47
  · skip
    refine lv_iload_n hx hb dM_sign_7 rfl (lv_at hl 1 rfl) ?_
    refine lv_bipush (v := 32) hx hb dM_sign_8 (by decide) ?_
    refine lv_bipush (v := 126) hx hb dM_sign_10 (by decide) ?_
    refine cl_M_91 C hP hD hS hl.1 ⟨Nat.le_of_ble_eq_true rfl, Nat.le_of_ble_eq_true rfl⟩ (Nat.le_of_ble_eq_true rfl) ⟨Nat.le_of_ble_eq_true rfl, Nat.le_of_ble_eq_true rfl⟩ dM_sign_12 (fun H locs hP hD hS => ?_)
    refine lv_if_ne (tgt := 22) hx hb dM_sign_15 (by decide) (fun c_15 => ?_) (fun c_15 => ?_)
    · skip
      refine lv_aload_n hx hb dM_sign_22 rfl (lv_at hl 0 rfl) ?_
      refine gf_M_105 C hP dM_sign_23 ?_
      refine lv_sipush (v := 200) hx hb dM_sign_26 (by decide) ?_
      refine lv_icmp_ne (tgt := 36) hx hb dM_sign_29 (by decide) (fun c_29 => ?_) (fun c_29 => ?_)
      · skip
        refine lv_iconst (v := 0) hx hb dM_sign_36 (by decide) ?_
        refine pf_M_40 C hP hD hS dM_sign_37 (fun H locs hP hD hS => ?_)
        refine lv_aload_n hx hb dM_sign_40 rfl (lv_at hl 0 rfl) ?_
        refine gf_M_40 C hP dM_sign_41 ?_
        refine W.eq (g2 := F0 m 44 ls [.int 0]) (by first | rfl | simp [fr_up, fr_row]) ?_
        refine lv_if_eq (tgt := 48) hx hb dM_sign_44 (by decide) (fun c_44 => ?_) (fun c_44 => absurd c_44 (by decide))
        refine lv_aload_n hx hb dM_sign_48 rfl (lv_at hl 0 rfl) ?_
        refine gf_M_34 C hP dM_sign_49 ?_
        refine lv_aload_n hx hb dM_sign_52 rfl (lv_at hl 0 rfl) ?_
        refine gf_M_105 C hP dM_sign_53 ?_
        refine W.eq (g2 := F0 m 56 ls [.int (f 0 2), .ref (al 9)]) (by first | rfl | simp [fr_up, fr_row]) ?_
        refine lv_iload_n hx hb dM_sign_56 rfl (lv_at hl 1 rfl) ?_
        have hin_57 : vp_in (f 0 2) 200 := by have q0 := fr_t6 c_4; have q1 := fr_t6 c_15; have q2 := fr_t6 c_29; have z0 : (0 : Int32).toInt = 0 := rfl; have z1 : (10 : Int32).toInt = 10 := rfl; have z2 : (200 : Int32).toInt = 200 := rfl; have e0 := gS; skip; rw [vp_in_iff]; omega
        refine mast_9 C hP hD hS hin_57 dM_sign_57 (fun H locs hP hD hS => ?_)
        refine lv_aload_n hx hb dM_sign_58 rfl (lv_at hl 0 rfl) ?_
        refine lv_dup hx hb dM_sign_59 rfl ?_
        refine gf_M_105 C hP dM_sign_60 ?_
        refine W.eq (g2 := F0 m 63 ls [.int (f 0 2), .ref (al 0)]) (by first | rfl | simp [fr_up, fr_row]) ?_
        refine lv_iconst (v := 1) hx hb dM_sign_63 (by decide) ?_
        refine lv_iadd hx hb dM_sign_64 ?_
        refine pf_M_105 C hP hD hS dM_sign_65 (fun H locs hP hD hS => ?_)
        have hd_ : dn_m_sign f x = fr_up (fr_up (fr_up f 0 5 0) 9 ((f 0 2).toNatClampNeg) x) 0 2 ((f 0 2) + 1) := by rw [dn_m_sign, if_neg c_4, if_neg c_15, if_neg c_29]
        rw [hd_]
        exact fr_vret C hP hD hS dM_sign_68
      · skip
        refine lv_iconst (v := 2) hx hb dM_sign_32 (by decide) ?_
        refine lv_goto (tgt := 37) hx hb dM_sign_33 (by decide) ?_
        refine pf_M_40 C hP hD hS dM_sign_37 (fun H locs hP hD hS => ?_)
        refine lv_aload_n hx hb dM_sign_40 rfl (lv_at hl 0 rfl) ?_
        refine gf_M_40 C hP dM_sign_41 ?_
        refine W.eq (g2 := F0 m 44 ls [.int 2]) (by first | rfl | simp [fr_up, fr_row]) ?_
        refine lv_if_eq (tgt := 48) hx hb dM_sign_44 (by decide) (fun c_44 => absurd c_44 (by decide)) (fun c_44 => ?_)
        have hd_ : dn_m_sign f x = fr_up f 0 5 2 := by rw [dn_m_sign, if_neg c_4, if_neg c_15, if_pos c_29]
        rw [hd_]
        exact fr_vret C hP hD hS dM_sign_47
    · skip
      refine lv_iconst (v := 1) hx hb dM_sign_18 (by decide) ?_
      refine lv_goto (tgt := 37) hx hb dM_sign_19 (by decide) ?_
      refine pf_M_40 C hP hD hS dM_sign_37 (fun H locs hP hD hS => ?_)
      refine lv_aload_n hx hb dM_sign_40 rfl (lv_at hl 0 rfl) ?_
      refine gf_M_40 C hP dM_sign_41 ?_
      refine W.eq (g2 := F0 m 44 ls [.int 1]) (by first | rfl | simp [fr_up, fr_row]) ?_
      refine lv_if_eq (tgt := 48) hx hb dM_sign_44 (by decide) (fun c_44 => absurd c_44 (by decide)) (fun c_44 => ?_)
      have hd_ : dn_m_sign f x = fr_up f 0 5 1 := by rw [dn_m_sign, if_neg c_4, if_pos c_15]
      rw [hd_]
      exact fr_vret C hP hD hS dM_sign_47

theorem cl_M_139 {p : Program} {l : Launch} {e : Env} {R : Room} {s : State} {m : MethodId} {args : Array Value} {below : List Frame} {meth : Method} {c : Code} {H : Heap} {locs : List Loc} {cells slots : Nat} {Q : State → Prop} {D : va_G} {A : Nat → Prop} {cc : ByteArray} {nL pc : Nat} {ret : Option FieldType} {hh : List ExceptionTableEntry} {ls : Array Slot} {rest : List Value} {ka : Nat → ClassId} {al : Nat → Nat} {f : Nat → Nat → Int32} {Z : va_W} {x : Int32} (C : fr_Cx p s m args meth c "FragileRulesModel" cc nL ret hh fr_tbl fr_nw D vwCl (fr_ty ka) A) (hP : va_P D vwCl (fr_mw ka al f Z) H) (hD : va_D A (fr_mw ka al f Z)) (hS : va_S A s.heap H locs) (hsz : ls.size = nL) (hR : 0 + 1 ≤ R.frames ∧ 8 + (2 + 11) + 0 ≤ R.locals) (hw : (rest.map fun v => v.category).sum ≤ 8) (hf : cells + 0 ≤ R.cells ∧ slots + 0 ≤ R.slots) (hdg : decode cc pc = .ok (.invokevirtual 139, 3)) (kk : ∀ (H : Heap) (locs : List Loc), va_P D vwCl (fr_mw ka al f Z) H → va_D A (fr_mw ka al f Z) → va_S A s.heap H locs → W p l e R s m args below meth c H locs (cells + 0) (slots + 0) Q (F0 m (pc + 3) ls (.int (dn_m_isUnit f x) :: rest))) : W p l e R s m args below meth c H locs cells slots Q (F0 m pc ls (.int x :: .ref (al 0) :: rest)) :=
  fr_callVi (As := [.int x]) C hP hD hS (c_m_isUnit l D ka al Z f x) (cwV 1 C.2.2.2.2.1 (fr_goodV ml_M_139 mi_m_isUnit msel_m_isUnit mini_M mc_m_isUnit) rfl rfl rfl (by decide +kernel) hR) (va_recv C.2.2.2.2.2.1 hP (ci := 4) (q0 := 0) rfl rfl) rfl hsz hw hdg hf kk
theorem cl_M_142 {p : Program} {l : Launch} {e : Env} {R : Room} {s : State} {m : MethodId} {args : Array Value} {below : List Frame} {meth : Method} {c : Code} {H : Heap} {locs : List Loc} {cells slots : Nat} {Q : State → Prop} {D : va_G} {A : Nat → Prop} {cc : ByteArray} {nL pc : Nat} {ret : Option FieldType} {hh : List ExceptionTableEntry} {ls : Array Slot} {rest : List Value} {ka : Nat → ClassId} {al : Nat → Nat} {f : Nat → Nat → Int32} {Z : va_W}  (C : fr_Cx p s m args meth c "FragileRulesModel" cc nL ret hh fr_tbl fr_nw D vwCl (fr_ty ka) A) (hP : va_P D vwCl (fr_mw ka al f Z) H) (hD : va_D A (fr_mw ka al f Z)) (hS : va_S A s.heap H locs) (hsz : ls.size = nL) (hR : 3 + 1 ≤ R.frames ∧ 8 + (2 + 11) + 67 ≤ R.locals) (hw : (rest.map fun v => v.category).sum ≤ 8) (hf : cells + 0 ≤ R.cells ∧ slots + 0 ≤ R.slots) (gR : 0 ≤ (f 0 1).toInt ∧ (f 0 1).toInt ≤ 12) (gO : mo_ord f) (gB : mo_B f) (hdg : decode cc pc = .ok (.invokevirtual 142, 3)) (kk : ∀ (H : Heap) (locs : List Loc), va_P D vwCl (fr_mw ka al ((dn_m_verdict f).2) Z) H → va_D A (fr_mw ka al ((dn_m_verdict f).2) Z) → va_S A s.heap H locs → W p l e R s m args below meth c H locs (cells + 0) (slots + 0) Q (F0 m (pc + 3) ls (.int ((dn_m_verdict f).1) :: rest))) : W p l e R s m args below meth c H locs cells slots Q (F0 m pc ls (.ref (al 0) :: rest)) :=
  fr_callVi (As := []) C hP hD hS (c_m_verdict l D ka al Z f gR gO gB) (cwV 0 C.2.2.2.2.1 (fr_goodV ml_M_142 mi_m_verdict msel_m_verdict mini_M mc_m_verdict) rfl rfl rfl (by decide +kernel) hR) (va_recv C.2.2.2.2.2.1 hP (ci := 4) (q0 := 0) rfl rfl) rfl hsz hw hdg hf kk
def dn_m_may (f : Nat → Nat → Int32) (x : Int32) (y : Int32) (k : Int32) : Int32 × (Nat → Nat → Int32) := if (dn_m_isUnit f x) = 0 then (0, fr_up f 0 5 1) else (if (dn_m_isUnit f y) = 0 then (0, fr_up f 0 5 1) else (if (dn_m_within k 0 9) = 0 then (0, fr_up f 0 5 2) else (if x = y then (0, fr_up f 0 5 3) else ((dn_m_verdict (fr_up (fr_up (fr_up (fr_up (fr_up f 0 5 0) 0 7 0) 0 8 x) 0 9 y) 0 10 k)).1, (dn_m_verdict (fr_up (fr_up (fr_up (fr_up (fr_up f 0 5 0) 0 7 0) 0 8 x) 0 9 y) 0 10 k)).2))))
set_option maxHeartbeats 4000000 in
set_option maxRecDepth 100000 in
theorem c_m_may (l : Launch) (D : va_G) (ka : Nat → ClassId) (al : Nat → Nat) (Z : va_W) (f : Nat → Nat → Int32) (x : Int32) (y : Int32) (k : Int32) (gU : 0 ≤ (f 0 0).toInt ∧ (f 0 0).toInt ≤ 10) (gR : 0 ≤ (f 0 1).toInt ∧ (f 0 1).toInt ≤ 12) (gO : mo_ord f) : fr_Mi l y_m_may (.code y_m_may prog_6_method_25_code 4 (some .int) :: fr_tbl) { frames := 4, cells := 0, slots := 0, locals := 88 } D vwCl (fr_ty ka) fr_nw [.ref (al 0), .int x, .int y, .int k] (fr_mw ka al f Z) ((dn_m_may f x y k).1) (fr_mw ka al ((dn_m_may f x y k).2) Z) 0 0 := by
  refine fr_Mi.of (by decide) (Nat.le_of_ble_eq_true rfl) ?_
  intro p e s m below meth c A H locs ls C hP hD hS hl
  obtain ⟨hx, hb, hml, hown, ht, hK, hlocks, hr, hA, hN, hZ, hEx⟩ := id C
  have hl : lv_has ls 4 [(0, .ref (al 0)), (1, .int x), (2, .int y), (3, .int k)] := hl
  refine lv_aload_n hx hb dM_may_0 rfl (lv_at hl 0 rfl) ?_
  refine lv_aload_n hx hb dM_may_1 rfl (lv_at hl 0 rfl) ?_
  refine lv_iload_n hx hb dM_may_2 rfl (lv_at hl 1 rfl) ?_
  refine cl_M_139 C hP hD hS hl.1 ⟨Nat.le_of_ble_eq_true rfl, Nat.le_of_ble_eq_true rfl⟩ (Nat.le_of_ble_eq_true rfl) ⟨Nat.le_of_ble_eq_true rfl, Nat.le_of_ble_eq_true rfl⟩ dM_may_3 (fun H locs hP hD hS => ?_)
  refine lv_if_eq (tgt := 17) hx hb dM_may_6 (by decide) (fun c_6 => ?_) (fun c_6 => ?_)
  · skip
    refine lv_iconst (v := 1) hx hb dM_may_17 (by decide) ?_
    refine lv_goto (tgt := 45) hx hb dM_may_18 (by decide) ?_
    refine pf_M_40 C hP hD hS dM_may_45 (fun H locs hP hD hS => ?_)
    refine lv_aload_n hx hb dM_may_48 rfl (lv_at hl 0 rfl) ?_
    refine gf_M_40 C hP dM_may_49 ?_
    refine W.eq (g2 := F0 m 52 ls [.int 1]) (by first | rfl | simp [fr_up, fr_row]) ?_
    refine lv_if_eq (tgt := 57) hx hb dM_may_52 (by decide) (fun c_52 => absurd c_52 (by decide)) (fun c_52 => ?_)
    refine lv_iconst (v := 0) hx hb dM_may_55 (by decide) ?_
    have hd_ : dn_m_may f x y k = (0, fr_up f 0 5 1) := by rw [dn_m_may, if_pos c_6]
    rw [hd_]
    exact fr_iret C hP hD hS rfl dM_may_56
  · skip
    refine lv_aload_n hx hb dM_may_9 rfl (lv_at hl 0 rfl) ?_
    refine lv_iload_n hx hb dM_may_10 rfl (lv_at hl 2 rfl) ?_
    refine cl_M_139 C hP hD hS hl.1 ⟨Nat.le_of_ble_eq_true rfl, Nat.le_of_ble_eq_true rfl⟩ (Nat.le_of_ble_eq_true rfl) ⟨Nat.le_of_ble_eq_true rfl, Nat.le_of_ble_eq_true rfl⟩ dM_may_11 (fun H locs hP hD hS => ?_)
    refine lv_if_ne (tgt := 21) hx hb dM_may_14 (by decide) (fun c_14 => ?_) (fun c_14 => ?_)
    · skip
      refine lv_iload_n hx hb dM_may_21 rfl (lv_at hl 3 rfl) ?_
      refine lv_iconst (v := 0) hx hb dM_may_22 (by decide) ?_
      refine lv_bipush (v := 9) hx hb dM_may_23 (by decide) ?_
      refine cl_M_91 C hP hD hS hl.1 ⟨Nat.le_of_ble_eq_true rfl, Nat.le_of_ble_eq_true rfl⟩ (Nat.le_of_ble_eq_true rfl) ⟨Nat.le_of_ble_eq_true rfl, Nat.le_of_ble_eq_true rfl⟩ dM_may_25 (fun H locs hP hD hS => ?_)
      refine lv_if_ne (tgt := 35) hx hb dM_may_28 (by decide) (fun c_28 => ?_) (fun c_28 => ?_)
      · skip
        refine lv_iload_n hx hb dM_may_35 rfl (lv_at hl 1 rfl) ?_
        refine lv_iload_n hx hb dM_may_36 rfl (lv_at hl 2 rfl) ?_
        refine lv_icmp_ne (tgt := 44) hx hb dM_may_37 (by decide) (fun c_37 => ?_) (fun c_37 => ?_)
        · skip
          refine lv_iconst (v := 0) hx hb dM_may_44 (by decide) ?_
          refine pf_M_40 C hP hD hS dM_may_45 (fun H locs hP hD hS => ?_)
          refine lv_aload_n hx hb dM_may_48 rfl (lv_at hl 0 rfl) ?_
          refine gf_M_40 C hP dM_may_49 ?_
          refine W.eq (g2 := F0 m 52 ls [.int 0]) (by first | rfl | simp [fr_up, fr_row]) ?_
          refine lv_if_eq (tgt := 57) hx hb dM_may_52 (by decide) (fun c_52 => ?_) (fun c_52 => absurd c_52 (by decide))
          refine lv_aload_n hx hb dM_may_57 rfl (lv_at hl 0 rfl) ?_
          refine lv_iconst (v := 0) hx hb dM_may_58 (by decide) ?_
          refine pf_M_47 C hP hD hS dM_may_59 (fun H locs hP hD hS => ?_)
          refine lv_aload_n hx hb dM_may_62 rfl (lv_at hl 0 rfl) ?_
          refine lv_iload_n hx hb dM_may_63 rfl (lv_at hl 1 rfl) ?_
          refine pf_M_50 C hP hD hS dM_may_64 (fun H locs hP hD hS => ?_)
          refine lv_aload_n hx hb dM_may_67 rfl (lv_at hl 0 rfl) ?_
          refine lv_iload_n hx hb dM_may_68 rfl (lv_at hl 2 rfl) ?_
          refine pf_M_53 C hP hD hS dM_may_69 (fun H locs hP hD hS => ?_)
          refine lv_aload_n hx hb dM_may_72 rfl (lv_at hl 0 rfl) ?_
          refine lv_iload_n hx hb dM_may_73 rfl (lv_at hl 3 rfl) ?_
          refine pf_M_56 C hP hD hS dM_may_74 (fun H locs hP hD hS => ?_)
          refine lv_aload_n hx hb dM_may_77 rfl (lv_at hl 0 rfl) ?_
          refine cl_M_142 C hP hD hS hl.1 ⟨Nat.le_of_ble_eq_true rfl, Nat.le_of_ble_eq_true rfl⟩ (Nat.le_of_ble_eq_true rfl) ⟨Nat.le_of_ble_eq_true rfl, Nat.le_of_ble_eq_true rfl⟩ gR gO (mo_uu gU c_6 c_14) dM_may_78 (fun H locs hP hD hS => ?_)
          have hd_ : dn_m_may f x y k = ((dn_m_verdict (fr_up (fr_up (fr_up (fr_up (fr_up f 0 5 0) 0 7 0) 0 8 x) 0 9 y) 0 10 k)).1, (dn_m_verdict (fr_up (fr_up (fr_up (fr_up (fr_up f 0 5 0) 0 7 0) 0 8 x) 0 9 y) 0 10 k)).2) := by rw [dn_m_may, if_neg c_6, if_neg c_14, if_neg c_28, if_neg c_37]
          rw [hd_]
          exact fr_iret C hP hD hS rfl dM_may_81
        · skip
          refine lv_iconst (v := 3) hx hb dM_may_40 (by decide) ?_
          refine lv_goto (tgt := 45) hx hb dM_may_41 (by decide) ?_
          refine pf_M_40 C hP hD hS dM_may_45 (fun H locs hP hD hS => ?_)
          refine lv_aload_n hx hb dM_may_48 rfl (lv_at hl 0 rfl) ?_
          refine gf_M_40 C hP dM_may_49 ?_
          refine W.eq (g2 := F0 m 52 ls [.int 3]) (by first | rfl | simp [fr_up, fr_row]) ?_
          refine lv_if_eq (tgt := 57) hx hb dM_may_52 (by decide) (fun c_52 => absurd c_52 (by decide)) (fun c_52 => ?_)
          refine lv_iconst (v := 0) hx hb dM_may_55 (by decide) ?_
          have hd_ : dn_m_may f x y k = (0, fr_up f 0 5 3) := by rw [dn_m_may, if_neg c_6, if_neg c_14, if_neg c_28, if_pos c_37]
          rw [hd_]
          exact fr_iret C hP hD hS rfl dM_may_56
      · skip
        refine lv_iconst (v := 2) hx hb dM_may_31 (by decide) ?_
        refine lv_goto (tgt := 45) hx hb dM_may_32 (by decide) ?_
        refine pf_M_40 C hP hD hS dM_may_45 (fun H locs hP hD hS => ?_)
        refine lv_aload_n hx hb dM_may_48 rfl (lv_at hl 0 rfl) ?_
        refine gf_M_40 C hP dM_may_49 ?_
        refine W.eq (g2 := F0 m 52 ls [.int 2]) (by first | rfl | simp [fr_up, fr_row]) ?_
        refine lv_if_eq (tgt := 57) hx hb dM_may_52 (by decide) (fun c_52 => absurd c_52 (by decide)) (fun c_52 => ?_)
        refine lv_iconst (v := 0) hx hb dM_may_55 (by decide) ?_
        have hd_ : dn_m_may f x y k = (0, fr_up f 0 5 2) := by rw [dn_m_may, if_neg c_6, if_neg c_14, if_pos c_28]
        rw [hd_]
        exact fr_iret C hP hD hS rfl dM_may_56
    · skip
      refine lv_iconst (v := 1) hx hb dM_may_17 (by decide) ?_
      refine lv_goto (tgt := 45) hx hb dM_may_18 (by decide) ?_
      refine pf_M_40 C hP hD hS dM_may_45 (fun H locs hP hD hS => ?_)
      refine lv_aload_n hx hb dM_may_48 rfl (lv_at hl 0 rfl) ?_
      refine gf_M_40 C hP dM_may_49 ?_
      refine W.eq (g2 := F0 m 52 ls [.int 1]) (by first | rfl | simp [fr_up, fr_row]) ?_
      refine lv_if_eq (tgt := 57) hx hb dM_may_52 (by decide) (fun c_52 => absurd c_52 (by decide)) (fun c_52 => ?_)
      refine lv_iconst (v := 0) hx hb dM_may_55 (by decide) ?_
      have hd_ : dn_m_may f x y k = (0, fr_up f 0 5 1) := by rw [dn_m_may, if_neg c_6, if_pos c_14]
      rw [hd_]
      exact fr_iret C hP hD hS rfl dM_may_56

def dn_m_together (f : Nat → Nat → Int32) (x : Int32) (y : Int32) : Int32 × (Nat → Nat → Int32) := if (dn_m_isUnit f x) = 0 then (0, fr_up f 0 5 1) else (if (dn_m_isUnit f y) = 0 then (0, fr_up f 0 5 1) else (if x = y then (0, fr_up f 0 5 2) else ((dn_m_verdict (fr_up (fr_up (fr_up (fr_up f 0 5 0) 0 7 1) 0 8 x) 0 9 y)).1, (dn_m_verdict (fr_up (fr_up (fr_up (fr_up f 0 5 0) 0 7 1) 0 8 x) 0 9 y)).2)))
set_option maxHeartbeats 4000000 in
set_option maxRecDepth 100000 in
theorem c_m_together (l : Launch) (D : va_G) (ka : Nat → ClassId) (al : Nat → Nat) (Z : va_W) (f : Nat → Nat → Int32) (x : Int32) (y : Int32) (gU : 0 ≤ (f 0 0).toInt ∧ (f 0 0).toInt ≤ 10) (gR : 0 ≤ (f 0 1).toInt ∧ (f 0 1).toInt ≤ 12) (gO : mo_ord f) : fr_Mi l y_m_together (.code y_m_together prog_6_method_26_code 3 (some .int) :: fr_tbl) { frames := 4, cells := 0, slots := 0, locals := 88 } D vwCl (fr_ty ka) fr_nw [.ref (al 0), .int x, .int y] (fr_mw ka al f Z) ((dn_m_together f x y).1) (fr_mw ka al ((dn_m_together f x y).2) Z) 0 0 := by
  refine fr_Mi.of (by decide) (Nat.le_of_ble_eq_true rfl) ?_
  intro p e s m below meth c A H locs ls C hP hD hS hl
  obtain ⟨hx, hb, hml, hown, ht, hK, hlocks, hr, hA, hN, hZ, hEx⟩ := id C
  have hl : lv_has ls 3 [(0, .ref (al 0)), (1, .int x), (2, .int y)] := hl
  refine lv_aload_n hx hb dM_together_0 rfl (lv_at hl 0 rfl) ?_
  refine lv_aload_n hx hb dM_together_1 rfl (lv_at hl 0 rfl) ?_
  refine lv_iload_n hx hb dM_together_2 rfl (lv_at hl 1 rfl) ?_
  refine cl_M_139 C hP hD hS hl.1 ⟨Nat.le_of_ble_eq_true rfl, Nat.le_of_ble_eq_true rfl⟩ (Nat.le_of_ble_eq_true rfl) ⟨Nat.le_of_ble_eq_true rfl, Nat.le_of_ble_eq_true rfl⟩ dM_together_3 (fun H locs hP hD hS => ?_)
  refine lv_if_eq (tgt := 17) hx hb dM_together_6 (by decide) (fun c_6 => ?_) (fun c_6 => ?_)
  · skip
    refine lv_iconst (v := 1) hx hb dM_together_17 (by decide) ?_
    refine lv_goto (tgt := 31) hx hb dM_together_18 (by decide) ?_
    refine pf_M_40 C hP hD hS dM_together_31 (fun H locs hP hD hS => ?_)
    refine lv_aload_n hx hb dM_together_34 rfl (lv_at hl 0 rfl) ?_
    refine gf_M_40 C hP dM_together_35 ?_
    refine W.eq (g2 := F0 m 38 ls [.int 1]) (by first | rfl | simp [fr_up, fr_row]) ?_
    refine lv_if_eq (tgt := 43) hx hb dM_together_38 (by decide) (fun c_38 => absurd c_38 (by decide)) (fun c_38 => ?_)
    refine lv_iconst (v := 0) hx hb dM_together_41 (by decide) ?_
    have hd_ : dn_m_together f x y = (0, fr_up f 0 5 1) := by rw [dn_m_together, if_pos c_6]
    rw [hd_]
    exact fr_iret C hP hD hS rfl dM_together_42
  · skip
    refine lv_aload_n hx hb dM_together_9 rfl (lv_at hl 0 rfl) ?_
    refine lv_iload_n hx hb dM_together_10 rfl (lv_at hl 2 rfl) ?_
    refine cl_M_139 C hP hD hS hl.1 ⟨Nat.le_of_ble_eq_true rfl, Nat.le_of_ble_eq_true rfl⟩ (Nat.le_of_ble_eq_true rfl) ⟨Nat.le_of_ble_eq_true rfl, Nat.le_of_ble_eq_true rfl⟩ dM_together_11 (fun H locs hP hD hS => ?_)
    refine lv_if_ne (tgt := 21) hx hb dM_together_14 (by decide) (fun c_14 => ?_) (fun c_14 => ?_)
    · skip
      refine lv_iload_n hx hb dM_together_21 rfl (lv_at hl 1 rfl) ?_
      refine lv_iload_n hx hb dM_together_22 rfl (lv_at hl 2 rfl) ?_
      refine lv_icmp_ne (tgt := 30) hx hb dM_together_23 (by decide) (fun c_23 => ?_) (fun c_23 => ?_)
      · skip
        refine lv_iconst (v := 0) hx hb dM_together_30 (by decide) ?_
        refine pf_M_40 C hP hD hS dM_together_31 (fun H locs hP hD hS => ?_)
        refine lv_aload_n hx hb dM_together_34 rfl (lv_at hl 0 rfl) ?_
        refine gf_M_40 C hP dM_together_35 ?_
        refine W.eq (g2 := F0 m 38 ls [.int 0]) (by first | rfl | simp [fr_up, fr_row]) ?_
        refine lv_if_eq (tgt := 43) hx hb dM_together_38 (by decide) (fun c_38 => ?_) (fun c_38 => absurd c_38 (by decide))
        refine lv_aload_n hx hb dM_together_43 rfl (lv_at hl 0 rfl) ?_
        refine lv_iconst (v := 1) hx hb dM_together_44 (by decide) ?_
        refine pf_M_47 C hP hD hS dM_together_45 (fun H locs hP hD hS => ?_)
        refine lv_aload_n hx hb dM_together_48 rfl (lv_at hl 0 rfl) ?_
        refine lv_iload_n hx hb dM_together_49 rfl (lv_at hl 1 rfl) ?_
        refine pf_M_50 C hP hD hS dM_together_50 (fun H locs hP hD hS => ?_)
        refine lv_aload_n hx hb dM_together_53 rfl (lv_at hl 0 rfl) ?_
        refine lv_iload_n hx hb dM_together_54 rfl (lv_at hl 2 rfl) ?_
        refine pf_M_53 C hP hD hS dM_together_55 (fun H locs hP hD hS => ?_)
        refine lv_aload_n hx hb dM_together_58 rfl (lv_at hl 0 rfl) ?_
        refine cl_M_142 C hP hD hS hl.1 ⟨Nat.le_of_ble_eq_true rfl, Nat.le_of_ble_eq_true rfl⟩ (Nat.le_of_ble_eq_true rfl) ⟨Nat.le_of_ble_eq_true rfl, Nat.le_of_ble_eq_true rfl⟩ gR gO (mo_uu gU c_6 c_14) dM_together_59 (fun H locs hP hD hS => ?_)
        have hd_ : dn_m_together f x y = ((dn_m_verdict (fr_up (fr_up (fr_up (fr_up f 0 5 0) 0 7 1) 0 8 x) 0 9 y)).1, (dn_m_verdict (fr_up (fr_up (fr_up (fr_up f 0 5 0) 0 7 1) 0 8 x) 0 9 y)).2) := by rw [dn_m_together, if_neg c_6, if_neg c_14, if_neg c_23]
        rw [hd_]
        exact fr_iret C hP hD hS rfl dM_together_62
      · skip
        refine lv_iconst (v := 2) hx hb dM_together_26 (by decide) ?_
        refine lv_goto (tgt := 31) hx hb dM_together_27 (by decide) ?_
        refine pf_M_40 C hP hD hS dM_together_31 (fun H locs hP hD hS => ?_)
        refine lv_aload_n hx hb dM_together_34 rfl (lv_at hl 0 rfl) ?_
        refine gf_M_40 C hP dM_together_35 ?_
        refine W.eq (g2 := F0 m 38 ls [.int 2]) (by first | rfl | simp [fr_up, fr_row]) ?_
        refine lv_if_eq (tgt := 43) hx hb dM_together_38 (by decide) (fun c_38 => absurd c_38 (by decide)) (fun c_38 => ?_)
        refine lv_iconst (v := 0) hx hb dM_together_41 (by decide) ?_
        have hd_ : dn_m_together f x y = (0, fr_up f 0 5 2) := by rw [dn_m_together, if_neg c_6, if_neg c_14, if_pos c_23]
        rw [hd_]
        exact fr_iret C hP hD hS rfl dM_together_42
    · skip
      refine lv_iconst (v := 1) hx hb dM_together_17 (by decide) ?_
      refine lv_goto (tgt := 31) hx hb dM_together_18 (by decide) ?_
      refine pf_M_40 C hP hD hS dM_together_31 (fun H locs hP hD hS => ?_)
      refine lv_aload_n hx hb dM_together_34 rfl (lv_at hl 0 rfl) ?_
      refine gf_M_40 C hP dM_together_35 ?_
      refine W.eq (g2 := F0 m 38 ls [.int 1]) (by first | rfl | simp [fr_up, fr_row]) ?_
      refine lv_if_eq (tgt := 43) hx hb dM_together_38 (by decide) (fun c_38 => absurd c_38 (by decide)) (fun c_38 => ?_)
      refine lv_iconst (v := 0) hx hb dM_together_41 (by decide) ?_
      have hd_ : dn_m_together f x y = (0, fr_up f 0 5 1) := by rw [dn_m_together, if_neg c_6, if_pos c_14]
      rw [hd_]
      exact fr_iret C hP hD hS rfl dM_together_42

def dn_m_mark (f : Nat → Nat → Int32) (x : Int32) (y : Int32) : Int32 × (Nat → Nat → Int32) := if (dn_m_isUnit f x) = 0 then (0, fr_up f 0 5 1) else (if (dn_m_isMark y) = 0 then (0, fr_up f 0 5 2) else (if ((f 3 x.toNatClampNeg) &&& y) = 0 then (if ((dn_m_verdict (fr_up (fr_up (fr_up (fr_up f 0 5 0) 0 7 2) 0 11 y) 0 12 (f 3 x.toNatClampNeg))).1) = 0 then ((dn_m_verdict (fr_up (fr_up (fr_up (fr_up f 0 5 0) 0 7 2) 0 11 y) 0 12 (f 3 x.toNatClampNeg))).1, fr_up ((dn_m_verdict (fr_up (fr_up (fr_up (fr_up f 0 5 0) 0 7 2) 0 11 y) 0 12 (f 3 x.toNatClampNeg))).2) 3 x.toNatClampNeg ((((dn_m_verdict (fr_up (fr_up (fr_up (fr_up f 0 5 0) 0 7 2) 0 11 y) 0 12 (f 3 x.toNatClampNeg))).2) 3 x.toNatClampNeg) ||| y)) else ((dn_m_verdict (fr_up (fr_up (fr_up (fr_up f 0 5 0) 0 7 2) 0 11 y) 0 12 (f 3 x.toNatClampNeg))).1, (dn_m_verdict (fr_up (fr_up (fr_up (fr_up f 0 5 0) 0 7 2) 0 11 y) 0 12 (f 3 x.toNatClampNeg))).2)) else (0, fr_up f 0 5 3)))
set_option maxHeartbeats 4000000 in
set_option maxRecDepth 100000 in
theorem c_m_mark (l : Launch) (D : va_G) (ka : Nat → ClassId) (al : Nat → Nat) (Z : va_W) (f : Nat → Nat → Int32) (x : Int32) (y : Int32) (gU : 0 ≤ (f 0 0).toInt ∧ (f 0 0).toInt ≤ 10) (gR : 0 ≤ (f 0 1).toInt ∧ (f 0 1).toInt ≤ 12) (gO : mo_ord f) (gB : mo_B f) : fr_Mi l y_m_mark (.code y_m_mark prog_6_method_27_code 4 (some .int) :: fr_tbl) { frames := 4, cells := 0, slots := 0, locals := 88 } D vwCl (fr_ty ka) fr_nw [.ref (al 0), .int x, .int y] (fr_mw ka al f Z) ((dn_m_mark f x y).1) (fr_mw ka al ((dn_m_mark f x y).2) Z) 0 0 := by
  refine fr_Mi.of (by decide) (Nat.le_of_ble_eq_true rfl) ?_
  intro p e s m below meth c A H locs ls C hP hD hS hl
  obtain ⟨hx, hb, hml, hown, ht, hK, hlocks, hr, hA, hN, hZ, hEx⟩ := id C
  have hl : lv_has ls 4 [(0, .ref (al 0)), (1, .int x), (2, .int y)] := hl
  refine lv_aload_n hx hb dM_mark_0 rfl (lv_at hl 0 rfl) ?_
  refine lv_aload_n hx hb dM_mark_1 rfl (lv_at hl 0 rfl) ?_
  refine lv_iload_n hx hb dM_mark_2 rfl (lv_at hl 1 rfl) ?_
  refine cl_M_139 C hP hD hS hl.1 ⟨Nat.le_of_ble_eq_true rfl, Nat.le_of_ble_eq_true rfl⟩ (Nat.le_of_ble_eq_true rfl) ⟨Nat.le_of_ble_eq_true rfl, Nat.le_of_ble_eq_true rfl⟩ dM_mark_3 (fun H locs hP hD hS => ?_)
  refine lv_if_ne (tgt := 13) hx hb dM_mark_6 (by decide) (fun c_6 => ?_) (fun c_6 => ?_)
  · skip
    refine lv_iload_n hx hb dM_mark_13 rfl (lv_at hl 2 rfl) ?_
    refine cl_M_95 C hP hD hS hl.1 ⟨Nat.le_of_ble_eq_true rfl, Nat.le_of_ble_eq_true rfl⟩ (Nat.le_of_ble_eq_true rfl) ⟨Nat.le_of_ble_eq_true rfl, Nat.le_of_ble_eq_true rfl⟩ dM_mark_14 (fun H locs hP hD hS => ?_)
    refine lv_if_ne (tgt := 24) hx hb dM_mark_17 (by decide) (fun c_17 => ?_) (fun c_17 => ?_)
    · skip
      refine lv_aload_n hx hb dM_mark_24 rfl (lv_at hl 0 rfl) ?_
      refine gf_M_16 C hP dM_mark_25 ?_
      refine lv_iload_n hx hb dM_mark_28 rfl (lv_at hl 1 rfl) ?_
      have hin_29 : vp_in x 10 := by have q0 := fr_t6 c_6; have q1 := fr_t6 c_17; have z0 : (0 : Int32).toInt = 0 := rfl; have e0 := mo_isU c_6; have e1 := gU; skip; rw [vp_in_iff]; omega
      refine mald_3 C hP hin_29 dM_mark_29 ?_
      refine lv_iload_n hx hb dM_mark_30 rfl (lv_at hl 2 rfl) ?_
      refine lv_iand hx hb dM_mark_31 ?_
      refine lv_if_eq (tgt := 39) hx hb dM_mark_32 (by decide) (fun c_32 => ?_) (fun c_32 => ?_)
      · skip
        refine lv_iconst (v := 0) hx hb dM_mark_39 (by decide) ?_
        refine pf_M_40 C hP hD hS dM_mark_40 (fun H locs hP hD hS => ?_)
        refine lv_aload_n hx hb dM_mark_43 rfl (lv_at hl 0 rfl) ?_
        refine gf_M_40 C hP dM_mark_44 ?_
        refine W.eq (g2 := F0 m 47 ls [.int 0]) (by first | rfl | simp [fr_up, fr_row]) ?_
        refine lv_if_eq (tgt := 52) hx hb dM_mark_47 (by decide) (fun c_47 => ?_) (fun c_47 => absurd c_47 (by decide))
        refine lv_aload_n hx hb dM_mark_52 rfl (lv_at hl 0 rfl) ?_
        refine lv_iconst (v := 2) hx hb dM_mark_53 (by decide) ?_
        refine pf_M_47 C hP hD hS dM_mark_54 (fun H locs hP hD hS => ?_)
        refine lv_aload_n hx hb dM_mark_57 rfl (lv_at hl 0 rfl) ?_
        refine lv_iload_n hx hb dM_mark_58 rfl (lv_at hl 2 rfl) ?_
        refine pf_M_59 C hP hD hS dM_mark_59 (fun H locs hP hD hS => ?_)
        refine lv_aload_n hx hb dM_mark_62 rfl (lv_at hl 0 rfl) ?_
        refine lv_aload_n hx hb dM_mark_63 rfl (lv_at hl 0 rfl) ?_
        refine gf_M_16 C hP dM_mark_64 ?_
        refine lv_iload_n hx hb dM_mark_67 rfl (lv_at hl 1 rfl) ?_
        have hin_68 : vp_in x 10 := by have q0 := fr_t6 c_6; have q1 := fr_t6 c_17; have q2 := fr_t5 c_32; have z0 : (0 : Int32).toInt = 0 := rfl; have e0 := mo_isU c_6; have e1 := gU; skip; rw [vp_in_iff]; omega
        refine mald_3 C hP hin_68 dM_mark_68 ?_
        refine W.eq (g2 := F0 m 69 ls [.int (f 3 x.toNatClampNeg), .ref (al 0)]) (by first | rfl | simp [fr_up, fr_row]) ?_
        refine pf_M_62 C hP hD hS dM_mark_69 (fun H locs hP hD hS => ?_)
        refine lv_aload_n hx hb dM_mark_72 rfl (lv_at hl 0 rfl) ?_
        refine cl_M_142 C hP hD hS hl.1 ⟨Nat.le_of_ble_eq_true rfl, Nat.le_of_ble_eq_true rfl⟩ (Nat.le_of_ble_eq_true rfl) ⟨Nat.le_of_ble_eq_true rfl, Nat.le_of_ble_eq_true rfl⟩ gR gO gB dM_mark_73 (fun H locs hP hD hS => ?_)
        refine lv_istore_n (lv' := [(3, .int ((dn_m_verdict (fr_up (fr_up (fr_up (fr_up f 0 5 0) 0 7 2) 0 11 y) 0 12 (f 3 x.toNatClampNeg))).1)), (0, .ref (al 0)), (1, .int x), (2, .int y)]) hx hb dM_mark_76 rfl hl (by decide) rfl (fun ls hl => ?_)
        refine lv_iload_n hx hb dM_mark_77 rfl (lv_at hl 0 rfl) ?_
        refine lv_if_ne (tgt := 91) hx hb dM_mark_78 (by decide) (fun c_78 => ?_) (fun c_78 => ?_)
        · skip
          refine lv_iload_n hx hb dM_mark_91 rfl (lv_at hl 0 rfl) ?_
          have hd_ : dn_m_mark f x y = ((dn_m_verdict (fr_up (fr_up (fr_up (fr_up f 0 5 0) 0 7 2) 0 11 y) 0 12 (f 3 x.toNatClampNeg))).1, (dn_m_verdict (fr_up (fr_up (fr_up (fr_up f 0 5 0) 0 7 2) 0 11 y) 0 12 (f 3 x.toNatClampNeg))).2) := by rw [dn_m_mark, if_neg c_6, if_neg c_17, if_pos c_32, if_neg c_78]
          rw [hd_]
          exact fr_iret C hP hD hS rfl dM_mark_92
        · skip
          refine lv_aload_n hx hb dM_mark_81 rfl (lv_at hl 1 rfl) ?_
          refine gf_M_16 C hP dM_mark_82 ?_
          refine lv_iload_n hx hb dM_mark_85 rfl (lv_at hl 2 rfl) ?_
          refine lv_dup2_11 hx hb dM_mark_86 rfl rfl ?_
          have hin_87 : vp_in x 10 := by have q0 := fr_t6 c_6; have q1 := fr_t6 c_17; have q2 := fr_t5 c_32; have q3 := fr_t5 c_78; have z0 : (0 : Int32).toInt = 0 := rfl; have e0 := mo_isU c_6; have e1 := gU; skip; rw [vp_in_iff]; omega
          refine mald_3 C hP hin_87 dM_mark_87 ?_
          refine lv_iload_n hx hb dM_mark_88 rfl (lv_at hl 3 rfl) ?_
          refine lv_ior hx hb dM_mark_89 ?_
          have hin_90 : vp_in x 10 := by have q0 := fr_t6 c_6; have q1 := fr_t6 c_17; have q2 := fr_t5 c_32; have q3 := fr_t5 c_78; have z0 : (0 : Int32).toInt = 0 := rfl; have e0 := mo_isU c_6; have e1 := gU; skip; rw [vp_in_iff]; omega
          refine mast_3 C hP hD hS hin_90 dM_mark_90 (fun H locs hP hD hS => ?_)
          refine lv_iload_n hx hb dM_mark_91 rfl (lv_at hl 0 rfl) ?_
          have hd_ : dn_m_mark f x y = ((dn_m_verdict (fr_up (fr_up (fr_up (fr_up f 0 5 0) 0 7 2) 0 11 y) 0 12 (f 3 x.toNatClampNeg))).1, fr_up ((dn_m_verdict (fr_up (fr_up (fr_up (fr_up f 0 5 0) 0 7 2) 0 11 y) 0 12 (f 3 x.toNatClampNeg))).2) 3 x.toNatClampNeg ((((dn_m_verdict (fr_up (fr_up (fr_up (fr_up f 0 5 0) 0 7 2) 0 11 y) 0 12 (f 3 x.toNatClampNeg))).2) 3 x.toNatClampNeg) ||| y)) := by rw [dn_m_mark, if_neg c_6, if_neg c_17, if_pos c_32, if_pos c_78]
          rw [hd_]
          exact fr_iret C hP hD hS rfl dM_mark_92
      · skip
        refine lv_iconst (v := 3) hx hb dM_mark_35 (by decide) ?_
        refine lv_goto (tgt := 40) hx hb dM_mark_36 (by decide) ?_
        refine pf_M_40 C hP hD hS dM_mark_40 (fun H locs hP hD hS => ?_)
        refine lv_aload_n hx hb dM_mark_43 rfl (lv_at hl 0 rfl) ?_
        refine gf_M_40 C hP dM_mark_44 ?_
        refine W.eq (g2 := F0 m 47 ls [.int 3]) (by first | rfl | simp [fr_up, fr_row]) ?_
        refine lv_if_eq (tgt := 52) hx hb dM_mark_47 (by decide) (fun c_47 => absurd c_47 (by decide)) (fun c_47 => ?_)
        refine lv_iconst (v := 0) hx hb dM_mark_50 (by decide) ?_
        have hd_ : dn_m_mark f x y = (0, fr_up f 0 5 3) := by rw [dn_m_mark, if_neg c_6, if_neg c_17, if_neg c_32]
        rw [hd_]
        exact fr_iret C hP hD hS rfl dM_mark_51
    · skip
      refine lv_iconst (v := 2) hx hb dM_mark_20 (by decide) ?_
      refine lv_goto (tgt := 40) hx hb dM_mark_21 (by decide) ?_
      refine pf_M_40 C hP hD hS dM_mark_40 (fun H locs hP hD hS => ?_)
      refine lv_aload_n hx hb dM_mark_43 rfl (lv_at hl 0 rfl) ?_
      refine gf_M_40 C hP dM_mark_44 ?_
      refine W.eq (g2 := F0 m 47 ls [.int 2]) (by first | rfl | simp [fr_up, fr_row]) ?_
      refine lv_if_eq (tgt := 52) hx hb dM_mark_47 (by decide) (fun c_47 => absurd c_47 (by decide)) (fun c_47 => ?_)
      refine lv_iconst (v := 0) hx hb dM_mark_50 (by decide) ?_
      have hd_ : dn_m_mark f x y = (0, fr_up f 0 5 2) := by rw [dn_m_mark, if_neg c_6, if_pos c_17]
      rw [hd_]
      exact fr_iret C hP hD hS rfl dM_mark_51
  · skip
    refine lv_iconst (v := 1) hx hb dM_mark_9 (by decide) ?_
    refine lv_goto (tgt := 40) hx hb dM_mark_10 (by decide) ?_
    refine pf_M_40 C hP hD hS dM_mark_40 (fun H locs hP hD hS => ?_)
    refine lv_aload_n hx hb dM_mark_43 rfl (lv_at hl 0 rfl) ?_
    refine gf_M_40 C hP dM_mark_44 ?_
    refine W.eq (g2 := F0 m 47 ls [.int 1]) (by first | rfl | simp [fr_up, fr_row]) ?_
    refine lv_if_eq (tgt := 52) hx hb dM_mark_47 (by decide) (fun c_47 => absurd c_47 (by decide)) (fun c_47 => ?_)
    refine lv_iconst (v := 0) hx hb dM_mark_50 (by decide) ?_
    have hd_ : dn_m_mark f x y = (0, fr_up f 0 5 1) := by rw [dn_m_mark, if_pos c_6]
    rw [hd_]
    exact fr_iret C hP hD hS rfl dM_mark_51

def dn_m_asked (f : Nat → Nat → Int32) (x : Int32) : Int32 × (Nat → Nat → Int32) := if x < 0 then ((-1), fr_up f 0 5 0) else (if x < (f 0 6) then (f 10 x.toNatClampNeg, fr_up f 0 5 0) else ((-1), fr_up f 0 5 0))
set_option maxHeartbeats 4000000 in
set_option maxRecDepth 100000 in
theorem c_m_asked (l : Launch) (D : va_G) (ka : Nat → ClassId) (al : Nat → Nat) (Z : va_W) (f : Nat → Nat → Int32) (x : Int32) (gA : 0 ≤ (f 0 6).toInt ∧ (f 0 6).toInt ≤ 12) : fr_Mi l y_m_asked (.code y_m_asked prog_6_method_28_code 2 (some .int) :: fr_tbl) { frames := 0, cells := 0, slots := 0, locals := 0 } D vwCl (fr_ty ka) fr_nw [.ref (al 0), .int x] (fr_mw ka al f Z) ((dn_m_asked f x).1) (fr_mw ka al ((dn_m_asked f x).2) Z) 0 0 := by
  refine fr_Mi.of (by decide) (Nat.le_of_ble_eq_true rfl) ?_
  intro p e s m below meth c A H locs ls C hP hD hS hl
  obtain ⟨hx, hb, hml, hown, ht, hK, hlocks, hr, hA, hN, hZ, hEx⟩ := id C
  have hl : lv_has ls 2 [(0, .ref (al 0)), (1, .int x)] := hl
  refine lv_aload_n hx hb dM_asked_0 rfl (lv_at hl 0 rfl) ?_
  refine lv_iconst (v := 0) hx hb dM_asked_1 (by decide) ?_
  refine pf_M_40 C hP hD hS dM_asked_2 (fun H locs hP hD hS => ?_)
  refine lv_iload_n hx hb dM_asked_5 rfl (lv_at hl 1 rfl) ?_
  refine lv_if_lt (tgt := 17) hx hb dM_asked_6 (by decide) (fun c_6 => ?_) (fun c_6 => ?_)
  · skip
    refine lv_iconst (v := (-1)) hx hb dM_asked_17 (by decide) ?_
    refine lv_goto (tgt := 27) hx hb dM_asked_18 (by decide) ?_
    have hd_ : dn_m_asked f x = ((-1), fr_up f 0 5 0) := by rw [dn_m_asked, if_pos c_6]
    rw [hd_]
    exact fr_iret C hP hD hS rfl dM_asked_27
  · skip
    refine lv_iload_n hx hb dM_asked_9 rfl (lv_at hl 1 rfl) ?_
    refine lv_aload_n hx hb dM_asked_10 rfl (lv_at hl 0 rfl) ?_
    refine gf_M_69 C hP dM_asked_11 ?_
    refine W.eq (g2 := F0 m 14 ls [.int (f 0 6), .int x]) (by first | rfl | simp [fr_up, fr_row]) ?_
    refine lv_icmp_lt (tgt := 21) hx hb dM_asked_14 (by decide) (fun c_14 => ?_) (fun c_14 => ?_)
    · skip
      refine lv_aload_n hx hb dM_asked_21 rfl (lv_at hl 0 rfl) ?_
      refine gf_M_37 C hP dM_asked_22 ?_
      refine lv_iload_n hx hb dM_asked_25 rfl (lv_at hl 1 rfl) ?_
      have hin_26 : vp_in x 12 := by have q0 := fr_t2 c_6; have q1 := fr_t1 c_14; have z0 : (0 : Int32).toInt = 0 := rfl; skip; rw [vp_in_iff]; omega
      refine mald_10 C hP hin_26 dM_asked_26 ?_
      refine W.eq (g2 := F0 m 27 ls [.int (f 10 x.toNatClampNeg)]) (by first | rfl | simp [fr_up, fr_row]) ?_
      have hd_ : dn_m_asked f x = (f 10 x.toNatClampNeg, fr_up f 0 5 0) := by rw [dn_m_asked, if_neg c_6, if_pos c_14]
      rw [hd_]
      exact fr_iret C hP hD hS rfl dM_asked_27
    · skip
      refine lv_iconst (v := (-1)) hx hb dM_asked_17 (by decide) ?_
      refine lv_goto (tgt := 27) hx hb dM_asked_18 (by decide) ?_
      have hd_ : dn_m_asked f x = ((-1), fr_up f 0 5 0) := by rw [dn_m_asked, if_neg c_6, if_neg c_14]
      rw [hd_]
      exact fr_iret C hP hD hS rfl dM_asked_27

def dn_m_never_26 : Nat → (Int32) → (Nat → Nat → Int32) → (Int32) → (Int32) → Int32 × (Nat → Nat → Int32)
  | 0, _, _, _, _ => (0, fun _ _ => 0)
  | n + 1, x, g, x2, x3 => if (g 0 1) ≤ x3 then ((-1), g) else (if (g 7 x3.toNatClampNeg) = 0 then (if x2 = x then (x3 + 1, g) else (dn_m_never_26 n x g (x2 + 1) (x3 + 1))) else (dn_m_never_26 n x g x2 (x3 + 1)))
set_option maxHeartbeats 4000000 in
set_option maxRecDepth 100000 in
theorem k_m_never_26 {p : Program} {l : Launch} {e : Env} {s : State} {m : MethodId} {below : List Frame} {meth : Method} {c : Code} {D : va_G} {A : Nat → Prop} {ka : Nat → ClassId} {al : Nat → Nat} {Z : va_W} {f : Nat → Nat → Int32} {x : Int32} (C : fr_Cx p s m ([.ref (al 0), .int x] : List Value).toArray meth c "FragileRulesModel" prog_6_method_29_code 4 (some .int) [] fr_tbl fr_nw D vwCl (fr_ty ka) A) (gR : 0 ≤ (f 0 1).toInt ∧ (f 0 1).toInt ≤ 12) :
    ∀ (n : Nat) (g : Nat → Nat → Int32) (x2 : Int32) (x3 : Int32) (H : Heap) (locs : List Loc) (ls : Array Slot), 0 ≤ (g 0 1).toInt ∧ (g 0 1).toInt ≤ 12 → 0 ≤ x3.toInt ∧ x3.toInt ≤ (g 0 1).toInt ∧ (g 0 1).toInt < x3.toInt + n → va_P D vwCl (fr_mw ka al g Z) H → va_D A (fr_mw ka al g Z) → va_S A s.heap H locs → lv_has ls 4 [(0, .ref (al 0)), (1, .int x), (2, .int x2), (3, .int x3)] → W p l e { frames := 0, cells := 0, slots := 0, locals := 0 } s m ([.ref (al 0), .int x] : List Value).toArray below meth c H locs 0 0 (MQ below (fr_Qi D vwCl (fr_ty ka) (dn_m_never_26 n x g x2 x3).1 (fr_mw ka al ((dn_m_never_26 n x g x2 x3).2) Z) A) ([.ref (al 0), .int x] : List Value).toArray s 0 0 A) (F0 m 26 ls []) := by
  obtain ⟨hx, hb, hml, hown, ht, hK, hlocks, hr, hA, hN, hZ, hEx⟩ := id C
  intro n
  induction n with
  | zero =>
    intro g x2 x3 H locs ls hq hm hP hD hS hl
    exact absurd hm (by omega)
  | succ n ih =>
    intro g x2 x3 H locs ls hq hm hP hD hS hl
    refine lv_iload_n hx hb dM_never_26 rfl (lv_at hl 3 rfl) ?_
    refine lv_aload_n hx hb dM_never_27 rfl (lv_at hl 0 rfl) ?_
    refine gf_M_72 C hP dM_never_28 ?_
    refine lv_icmp_ge (tgt := 61) hx hb dM_never_31 (by decide) (fun c_31 => ?_) (fun c_31 => ?_)
    · skip
      refine lv_iconst (v := (-1)) hx hb dM_never_61 (by decide) ?_
      have hd_ : dn_m_never_26 (n + 1) x g x2 x3 = ((-1), g) := by rw [dn_m_never_26, if_pos c_31]
      rw [hd_]
      exact fr_iret C hP hD hS rfl dM_never_62
    · skip
      refine lv_aload_n hx hb dM_never_34 rfl (lv_at hl 0 rfl) ?_
      refine gf_M_28 C hP dM_never_35 ?_
      refine lv_iload_n hx hb dM_never_38 rfl (lv_at hl 3 rfl) ?_
      have hin_39 : vp_in x3 12 := by have q0 := fr_t4 c_31; have e0 := hm; have e1 := hq; skip; rw [vp_in_iff]; omega
      refine mald_7 C hP hin_39 dM_never_39 ?_
      refine lv_if_ne (tgt := 55) hx hb dM_never_40 (by decide) (fun c_40 => ?_) (fun c_40 => ?_)
      · skip
        refine lv_iinc (v := x3 + 1) (lv' := [(3, .int (x3 + 1)), (0, .ref (al 0)), (1, .int x), (2, .int x2)]) hx hb dM_never_55 hl (k := 3) rfl rfl (by decide) rfl (fun ls hl => ?_)
        refine lv_goto (tgt := 26) hx hb dM_never_58 (by decide) ?_
        have hd_ : dn_m_never_26 (n + 1) x g x2 x3 = dn_m_never_26 n x g x2 (x3 + 1) := by rw [dn_m_never_26, if_neg c_31, if_neg c_40]
        rw [hd_]
        exact ih g x2 (x3 + 1) H locs ls hq (fr_step rfl c_31 hm) hP hD hS (lv_sub hl [1, 2, 3, 0] rfl)
      · skip
        refine lv_iload_n hx hb dM_never_43 rfl (lv_at hl 2 rfl) ?_
        refine lv_iload_n hx hb dM_never_44 rfl (lv_at hl 1 rfl) ?_
        refine lv_icmp_ne (tgt := 52) hx hb dM_never_45 (by decide) (fun c_45 => ?_) (fun c_45 => ?_)
        · skip
          refine lv_iinc (v := x2 + 1) (lv' := [(2, .int (x2 + 1)), (0, .ref (al 0)), (1, .int x), (3, .int x3)]) hx hb dM_never_52 hl (k := 2) rfl rfl (by decide) rfl (fun ls hl => ?_)
          refine lv_iinc (v := x3 + 1) (lv' := [(3, .int (x3 + 1)), (2, .int (x2 + 1)), (0, .ref (al 0)), (1, .int x)]) hx hb dM_never_55 hl (k := 3) rfl rfl (by decide) rfl (fun ls hl => ?_)
          refine lv_goto (tgt := 26) hx hb dM_never_58 (by decide) ?_
          have hd_ : dn_m_never_26 (n + 1) x g x2 x3 = dn_m_never_26 n x g (x2 + 1) (x3 + 1) := by rw [dn_m_never_26, if_neg c_31, if_pos c_40, if_neg c_45]
          rw [hd_]
          exact ih g (x2 + 1) (x3 + 1) H locs ls hq (fr_step rfl c_31 hm) hP hD hS (lv_sub hl [2, 3, 1, 0] rfl)
        · skip
          refine lv_iload_n hx hb dM_never_48 rfl (lv_at hl 3 rfl) ?_
          refine lv_iconst (v := 1) hx hb dM_never_49 (by decide) ?_
          refine lv_iadd hx hb dM_never_50 ?_
          have hd_ : dn_m_never_26 (n + 1) x g x2 x3 = (x3 + 1, g) := by rw [dn_m_never_26, if_neg c_31, if_pos c_40, if_pos c_45]
          rw [hd_]
          exact fr_iret C hP hD hS rfl dM_never_51
def dn_m_never (f : Nat → Nat → Int32) (x : Int32) : Int32 × (Nat → Nat → Int32) := if 0 ≤ x then (dn_m_never_26 13 x (fr_up f 0 5 0) 0 0) else (0, fr_up f 0 5 1)
set_option maxHeartbeats 4000000 in
set_option maxRecDepth 100000 in
theorem c_m_never (l : Launch) (D : va_G) (ka : Nat → ClassId) (al : Nat → Nat) (Z : va_W) (f : Nat → Nat → Int32) (x : Int32) (gR : 0 ≤ (f 0 1).toInt ∧ (f 0 1).toInt ≤ 12) : fr_Mi l y_m_never (.code y_m_never prog_6_method_29_code 4 (some .int) :: fr_tbl) { frames := 0, cells := 0, slots := 0, locals := 0 } D vwCl (fr_ty ka) fr_nw [.ref (al 0), .int x] (fr_mw ka al f Z) ((dn_m_never f x).1) (fr_mw ka al ((dn_m_never f x).2) Z) 0 0 := by
  refine fr_Mi.of (by decide) (Nat.le_of_ble_eq_true rfl) ?_
  intro p e s m below meth c A H locs ls C hP hD hS hl
  obtain ⟨hx, hb, hml, hown, ht, hK, hlocks, hr, hA, hN, hZ, hEx⟩ := id C
  have hl : lv_has ls 4 [(0, .ref (al 0)), (1, .int x)] := hl
  refine lv_aload_n hx hb dM_never_0 rfl (lv_at hl 0 rfl) ?_
  refine lv_iload_n hx hb dM_never_1 rfl (lv_at hl 1 rfl) ?_
  refine lv_if_ge (tgt := 9) hx hb dM_never_2 (by decide) (fun c_2 => ?_) (fun c_2 => ?_)
  · skip
    refine lv_iconst (v := 0) hx hb dM_never_9 (by decide) ?_
    refine pf_M_40 C hP hD hS dM_never_10 (fun H locs hP hD hS => ?_)
    refine lv_aload_n hx hb dM_never_13 rfl (lv_at hl 0 rfl) ?_
    refine gf_M_40 C hP dM_never_14 ?_
    refine W.eq (g2 := F0 m 17 ls [.int 0]) (by first | rfl | simp [fr_up, fr_row]) ?_
    refine lv_if_eq (tgt := 22) hx hb dM_never_17 (by decide) (fun c_17 => ?_) (fun c_17 => absurd c_17 (by decide))
    refine lv_iconst (v := 0) hx hb dM_never_22 (by decide) ?_
    refine lv_istore_n (lv' := [(2, .int 0), (0, .ref (al 0)), (1, .int x)]) hx hb dM_never_23 rfl hl (by decide) rfl (fun ls hl => ?_)
    refine lv_iconst (v := 0) hx hb dM_never_24 (by decide) ?_
    refine lv_istore_n (lv' := [(3, .int 0), (2, .int 0), (0, .ref (al 0)), (1, .int x)]) hx hb dM_never_25 rfl hl (by decide) rfl (fun ls hl => ?_)
    have hd_ : dn_m_never f x = dn_m_never_26 13 x (fr_up f 0 5 0) 0 0 := by rw [dn_m_never, if_pos c_2]
    rw [hd_]
    exact k_m_never_26 C gR 13 (fr_up f 0 5 0) 0 0 H locs ls gR (fr_start (B := f 0 1) gR (by decide)) hP hD hS (lv_sub hl [2, 3, 1, 0] rfl)
  · skip
    refine lv_iconst (v := 1) hx hb dM_never_5 (by decide) ?_
    refine lv_goto (tgt := 10) hx hb dM_never_6 (by decide) ?_
    refine pf_M_40 C hP hD hS dM_never_10 (fun H locs hP hD hS => ?_)
    refine lv_aload_n hx hb dM_never_13 rfl (lv_at hl 0 rfl) ?_
    refine gf_M_40 C hP dM_never_14 ?_
    refine W.eq (g2 := F0 m 17 ls [.int 1]) (by first | rfl | simp [fr_up, fr_row]) ?_
    refine lv_if_eq (tgt := 22) hx hb dM_never_17 (by decide) (fun c_17 => absurd c_17 (by decide)) (fun c_17 => ?_)
    refine lv_iconst (v := 0) hx hb dM_never_20 (by decide) ?_
    have hd_ : dn_m_never f x = (0, fr_up f 0 5 1) := by rw [dn_m_never, if_neg c_2]
    rw [hd_]
    exact fr_iret C hP hD hS rfl dM_never_21

def dn_m_placeOf_2 : Nat → (Nat → Nat → Int32) → (Int32) → (Int32) → Int32
  | 0, _, _, _ => 0
  | n + 1, f, x, x2 => if (f 8 x2.toNatClampNeg) = x then x2 else (dn_m_placeOf_2 n f x (x2 + 1))
set_option maxHeartbeats 4000000 in
set_option maxRecDepth 100000 in
theorem k_m_placeOf_2 {p : Program} {l : Launch} {e : Env} {s : State} {m : MethodId} {below : List Frame} {meth : Method} {c : Code} {D : va_G} {A : Nat → Prop} {ka : Nat → ClassId} {al : Nat → Nat} {Z : va_W} {f : Nat → Nat → Int32} {x : Int32} (C : fr_Cx p s m ([.ref (al 0), .int x] : List Value).toArray meth c "FragileRulesModel" prog_6_method_30_code 3 (some .int) [] fr_tbl fr_nw D vwCl (fr_ty ka) A) (gE : mo_has f x) :
    ∀ (n : Nat) (x2 : Int32) (H : Heap) (locs : List Loc) (ls : Array Slot), mo_pl f x x2 n → va_P D vwCl (fr_mw ka al f Z) H → va_D A (fr_mw ka al f Z) → va_S A s.heap H locs → lv_has ls 3 [(0, .ref (al 0)), (1, .int x), (2, .int x2)] → W p l e { frames := 0, cells := 0, slots := 0, locals := 0 } s m ([.ref (al 0), .int x] : List Value).toArray below meth c H locs 0 0 (MQ below (fr_Qi D vwCl (fr_ty ka) (dn_m_placeOf_2 n f x x2) (fr_mw ka al f Z) A) ([.ref (al 0), .int x] : List Value).toArray s 0 0 A) (F0 m 2 ls []) := by
  obtain ⟨hx, hb, hml, hown, ht, hK, hlocks, hr, hA, hN, hZ, hEx⟩ := id C
  intro n
  induction n with
  | zero =>
    intro x2 H locs ls hm hP hD hS hl
    exact mo_pl_0 hm
  | succ n ih =>
    intro x2 H locs ls hm hP hD hS hl
    refine lv_aload_n hx hb dM_placeOf_2 rfl (lv_at hl 0 rfl) ?_
    refine gf_M_31 C hP dM_placeOf_3 ?_
    refine lv_iload_n hx hb dM_placeOf_6 rfl (lv_at hl 2 rfl) ?_
    have hin_7 : vp_in x2 12 := by have e0 := mo_pl_k hm; skip; rw [vp_in_iff]; omega
    refine mald_8 C hP hin_7 dM_placeOf_7 ?_
    refine lv_iload_n hx hb dM_placeOf_8 rfl (lv_at hl 1 rfl) ?_
    refine lv_icmp_eq (tgt := 18) hx hb dM_placeOf_9 (by decide) (fun c_9 => ?_) (fun c_9 => ?_)
    · skip
      refine lv_iload_n hx hb dM_placeOf_18 rfl (lv_at hl 2 rfl) ?_
      have hd_ : dn_m_placeOf_2 (n + 1) f x x2 = x2 := by rw [dn_m_placeOf_2, if_pos c_9]
      exact fr_iret C hP hD hS hd_.symm dM_placeOf_19
    · skip
      refine lv_iinc (v := x2 + 1) (lv' := [(2, .int (x2 + 1)), (0, .ref (al 0)), (1, .int x)]) hx hb dM_placeOf_12 hl (k := 2) rfl rfl (by decide) rfl (fun ls hl => ?_)
      refine lv_goto (tgt := 2) hx hb dM_placeOf_15 (by decide) ?_
      have hd_ : dn_m_placeOf_2 (n + 1) f x x2 = dn_m_placeOf_2 n f x (x2 + 1) := by rw [dn_m_placeOf_2, if_neg c_9]
      rw [hd_]
      exact ih (x2 + 1) H locs ls (mo_pl_b hm c_9) hP hD hS (lv_sub hl [1, 2, 0] rfl)
def dn_m_placeOf (f : Nat → Nat → Int32) (x : Int32) : Int32 := dn_m_placeOf_2 12 f x 0
set_option maxHeartbeats 4000000 in
set_option maxRecDepth 100000 in
theorem c_m_placeOf (l : Launch) (D : va_G) (ka : Nat → ClassId) (al : Nat → Nat) (Z : va_W) (f : Nat → Nat → Int32) (x : Int32) (gE : mo_has f x) : fr_Mi l y_m_placeOf (.code y_m_placeOf prog_6_method_30_code 3 (some .int) :: fr_tbl) { frames := 0, cells := 0, slots := 0, locals := 0 } D vwCl (fr_ty ka) fr_nw [.ref (al 0), .int x] (fr_mw ka al f Z) (dn_m_placeOf f x) (fr_mw ka al f Z) 0 0 := by
  refine fr_Mi.of (by decide) (Nat.le_of_ble_eq_true rfl) ?_
  intro p e s m below meth c A H locs ls C hP hD hS hl
  obtain ⟨hx, hb, hml, hown, ht, hK, hlocks, hr, hA, hN, hZ, hEx⟩ := id C
  have hl : lv_has ls 3 [(0, .ref (al 0)), (1, .int x)] := hl
  refine lv_iconst (v := 0) hx hb dM_placeOf_0 (by decide) ?_
  refine lv_istore_n (lv' := [(2, .int 0), (0, .ref (al 0)), (1, .int x)]) hx hb dM_placeOf_1 rfl hl (by decide) rfl (fun ls hl => ?_)
  have hd_ : dn_m_placeOf f x = dn_m_placeOf_2 12 f x 0 := by rw [dn_m_placeOf]
  rw [hd_]
  exact k_m_placeOf_2 C gE 12 0 H locs ls (mo_pl_in gE) hP hD hS (lv_sub hl [1, 2, 0] rfl)
theorem mo_plb2 {f : Nat → Nat → Int32} {x : Int32} : ∀ (n : Nat) (x2 : Int32), mo_pl f x x2 n → 0 ≤ (dn_m_placeOf_2 n f x x2).toInt ∧ (dn_m_placeOf_2 n f x x2).toInt < 12 := by
  intro n
  induction n with
  | zero => intro x2 hm; exact mo_pl_0 hm
  | succ n ih =>
    intro x2 hm
    rw [dn_m_placeOf_2]
    split
    · exact mo_pl_k hm
    · rename_i c1
      exact ih _ (mo_pl_b hm c1)
theorem mo_plb {f : Nat → Nat → Int32} {x : Int32} (h : mo_has f x) : 0 ≤ (dn_m_placeOf f x).toInt ∧ (dn_m_placeOf f x).toInt < 12 := by
  rw [dn_m_placeOf]
  exact mo_plb2 12 0 (mo_pl_in h)
theorem mo_oy {f : Nat → Nat → Int32} {y : Int32} (gR : 0 ≤ (f 0 1).toInt ∧ (f 0 1).toInt ≤ 12) (h1 : ¬ y < 0) (h2 : y < f 0 1) : 0 ≤ y.toInt ∧ y.toInt < 12 := by
  have q1 := fr_t2 h1
  have q2 := fr_t1 h2
  have z : (0 : Int32).toInt = 0 := rfl
  omega
theorem mo_dec {x : Int32} : x + (-1) = x - 1 := by
  rw [Int32.sub_eq_add_neg]
