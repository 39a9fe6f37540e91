theorem cl_F_78 {p : Program} {l : Launch} {e : Env} {R : Room} {s : State} {m : MethodId} {args : Array Value} {below : List Frame} {meth : Method} {c : Code} {H : Heap} {locs : List Loc} {cells slots : Nat} {Q : State → Prop} {D : va_G} {A : Nat → Prop} {cc : ByteArray} {nL pc : Nat} {ret : Option FieldType} {hh : List ExceptionTableEntry} {ls : Array Slot} {rest : List Value} {ka : Nat → ClassId} {al : Nat → Nat} {f : Nat → Nat → Int32} {Z : va_W} {u : Nat} (C : fr_Cx p s m args meth c "FragileRules" cc nL ret hh fr_tbl fr_nw D vwCl (fr_ty ka) A) (hP : va_P D vwCl (fr_cw ka al f Z) H) (hD : va_D A (fr_cw ka al f Z)) (hS : va_S A s.heap H locs) (hsz : ls.size = nL) (hR : 4 + 1 ≤ R.frames ∧ 8 + (4 + 11) + 94 ≤ R.locals) (hw : (rest.map fun v => v.category).sum ≤ 8) (hf : cells + 0 ≤ R.cells ∧ slots + 0 ≤ R.slots) (hu : u < 10) (gR : 0 ≤ (f 0 1).toInt ∧ (f 0 1).toInt ≤ 12) (gO : fr_ord f) (hdg : decode cc pc = .ok (.invokevirtual 78, 3)) (kk : ∀ (H : Heap) (locs : List Loc), va_P D vwCl (fr_cw ka al ((dn_marks f u).2) Z) H → va_D A (fr_cw ka al ((dn_marks f u).2) Z) → va_S A s.heap H locs → W p l e R s m args below meth c H locs (cells + 0) (slots + 0) Q (F0 m (pc + 3) ls (.int ((dn_marks f u).1) :: rest))) : W p l e R s m args below meth c H locs cells slots Q (F0 m pc ls (.ref (al (7 + u)) :: .ref (al 0) :: rest)) :=
  fr_callVi (As := [.ref (al (7 + u))]) C hP hD hS (c_marks l D ka al Z f u hu gR gO) (cwV 1 C.2.2.2.2.1 (fr_goodV ml_F_78 mi_marks msel_marks mini_F mc_marks) rfl rfl rfl (by decide +kernel) hR) (va_recv C.2.2.2.2.2.1 hP (ci := 0) (q0 := 0) rfl rfl) rfl hsz hw hdg hf kk
def dn_unit (f : Nat → Nat → Int32) (x : Int32) (y : Int32) (k : Int32) : Option String × Int32 × (Nat → Nat → Int32) := if (dn_within x 7) = 0 then (some "java/lang/IllegalArgumentException", 0, f) else (if (dn_within y 1000) = 0 then (some "java/lang/IllegalArgumentException", 0, f) else (if (dn_within k 31) = 0 then (some "java/lang/IllegalArgumentException", 0, f) else (if (f 0 0) < 10 then (if ((dn_marks (fr_up (fr_up (fr_up f 1 ((f 0 0).toNatClampNeg) x) 2 ((f 0 0).toNatClampNeg) y) 3 ((f 0 0).toNatClampNeg) k) ((f 0 0).toNatClampNeg)).1) = 0 then (none, ((((dn_marks (fr_up (fr_up (fr_up f 1 ((f 0 0).toNatClampNeg) x) 2 ((f 0 0).toNatClampNeg) y) 3 ((f 0 0).toNatClampNeg) k) ((f 0 0).toNatClampNeg)).2) 0 0) + 1) - 1, fr_up (fr_up ((dn_marks (fr_up (fr_up (fr_up f 1 ((f 0 0).toNatClampNeg) x) 2 ((f 0 0).toNatClampNeg) y) 3 ((f 0 0).toNatClampNeg) k) ((f 0 0).toNatClampNeg)).2) 0 2 0) 0 0 ((((dn_marks (fr_up (fr_up (fr_up f 1 ((f 0 0).toNatClampNeg) x) 2 ((f 0 0).toNatClampNeg) y) 3 ((f 0 0).toNatClampNeg) k) ((f 0 0).toNatClampNeg)).2) 0 0) + 1)) else (none, (-1) - ((dn_marks (fr_up (fr_up (fr_up f 1 ((f 0 0).toNatClampNeg) x) 2 ((f 0 0).toNatClampNeg) y) 3 ((f 0 0).toNatClampNeg) k) ((f 0 0).toNatClampNeg)).1), fr_up ((dn_marks (fr_up (fr_up (fr_up f 1 ((f 0 0).toNatClampNeg) x) 2 ((f 0 0).toNatClampNeg) y) 3 ((f 0 0).toNatClampNeg) k) ((f 0 0).toNatClampNeg)).2) 0 2 0)) else (some "java/lang/UnsupportedOperationException", 0, f))))
set_option maxHeartbeats 4000000 in
set_option maxRecDepth 100000 in
theorem c_unit (l : Launch) (hls : l.stackTraces = false) (D : va_G) (ka : Nat → ClassId) (al : Nat → Nat) (Z : va_W) (f : Nat → Nat → Int32) (x : Int32) (y : Int32) (k : Int32) (gU : 0 ≤ (f 0 0).toInt ∧ (f 0 0).toInt ≤ 10) (gR : 0 ≤ (f 0 1).toInt ∧ (f 0 1).toInt ≤ 12) (gO : fr_ord f) : fr_Mx (fr_Qi D vwCl (fr_ty ka)) l y_unit (.code y_unit prog_1_method_2_code 6 (some .int) :: fr_tbl) { frames := 6, cells := 1, slots := 6, locals := 117 } D vwCl (fr_ty ka) fr_nw [.ref (al 0), .int x, .int y, .int k] (fr_cw ka al f Z) (dn_unit f x y k).1 (dn_unit f x y k).2.1 (fr_cw ka al ((dn_unit f x y k).2.2) Z) 1 6 := by
  refine fr_Mx.of (by decide) (Nat.le_of_ble_eq_true rfl) ?_
  intro p e s m below meth c A H locs ls C hP hD hS hl
  obtain ⟨hx, hb, hml, hown, ht, hK, hlocks, hr, hA, hN, hZ, hEx⟩ := id C
  have hl : lv_has ls 6 [(0, .ref (al 0)), (1, .int x), (2, .int y), (3, .int k)] := hl
  refine lv_iload_n hx hb dF_unit_0 rfl (lv_at hl 1 rfl) ?_
  refine lv_bipush (v := 7) hx hb dF_unit_1 (by decide) ?_
  refine cl_F_53 C hP hD hS hl.1 ⟨Nat.le_of_ble_eq_true rfl, Nat.le_of_ble_eq_true rfl⟩ (Nat.le_of_ble_eq_true rfl) ⟨Nat.le_of_ble_eq_true rfl, Nat.le_of_ble_eq_true rfl⟩ dF_unit_3 (fun H locs hP hD hS => ?_)
  refine lv_if_eq (tgt := 28) hx hb dF_unit_6 (by decide) (fun c_6 => ?_) (fun c_6 => ?_)
  · skip
    have hd_ : dn_unit f x y k = (some "java/lang/IllegalArgumentException", 0, f) := by rw [dn_unit, if_pos c_6]
    rw [hd_]
    obtain ⟨sa, hsa⟩ := fr_str hown (hN _ str_F_59).2
    exact th_IAE C hl.1 hls hS hsa (Nat.le_of_ble_eq_true rfl) (Nat.le_of_ble_eq_true rfl) (Nat.le_of_ble_eq_true rfl) (Nat.le_of_ble_eq_true rfl) dF_unit_28 dF_unit_31 dF_unit_32 dF_unit_34 dF_unit_37 (fr_xthrow rfl hK hP hD hS rfl rfl)
  · skip
    refine lv_iload_n hx hb dF_unit_9 rfl (lv_at hl 2 rfl) ?_
    refine lv_sipush (v := 1000) hx hb dF_unit_10 (by decide) ?_
    refine cl_F_53 C hP hD hS hl.1 ⟨Nat.le_of_ble_eq_true rfl, Nat.le_of_ble_eq_true rfl⟩ (Nat.le_of_ble_eq_true rfl) ⟨Nat.le_of_ble_eq_true rfl, Nat.le_of_ble_eq_true rfl⟩ dF_unit_13 (fun H locs hP hD hS => ?_)
    refine lv_if_eq (tgt := 28) hx hb dF_unit_16 (by decide) (fun c_16 => ?_) (fun c_16 => ?_)
    · skip
      have hd_ : dn_unit f x y k = (some "java/lang/IllegalArgumentException", 0, f) := by rw [dn_unit, if_neg c_6, if_pos c_16]
      rw [hd_]
      obtain ⟨sa, hsa⟩ := fr_str hown (hN _ str_F_59).2
      exact th_IAE C hl.1 hls hS hsa (Nat.le_of_ble_eq_true rfl) (Nat.le_of_ble_eq_true rfl) (Nat.le_of_ble_eq_true rfl) (Nat.le_of_ble_eq_true rfl) dF_unit_28 dF_unit_31 dF_unit_32 dF_unit_34 dF_unit_37 (fr_xthrow rfl hK hP hD hS rfl rfl)
    · skip
      refine lv_iload_n hx hb dF_unit_19 rfl (lv_at hl 3 rfl) ?_
      refine lv_bipush (v := 31) hx hb dF_unit_20 (by decide) ?_
      refine cl_F_53 C hP hD hS hl.1 ⟨Nat.le_of_ble_eq_true rfl, Nat.le_of_ble_eq_true rfl⟩ (Nat.le_of_ble_eq_true rfl) ⟨Nat.le_of_ble_eq_true rfl, Nat.le_of_ble_eq_true rfl⟩ dF_unit_22 (fun H locs hP hD hS => ?_)
      refine lv_if_ne (tgt := 38) hx hb dF_unit_25 (by decide) (fun c_25 => ?_) (fun c_25 => ?_)
      · skip
        refine lv_aload_n hx hb dF_unit_38 rfl (lv_at hl 0 rfl) ?_
        refine gf_F_15 C hP dF_unit_39 ?_
        refine lv_bipush (v := 10) hx hb dF_unit_42 (by decide) ?_
        refine lv_icmp_lt (tgt := 57) hx hb dF_unit_44 (by decide) (fun c_44 => ?_) (fun c_44 => ?_)
        · skip
          refine lv_aload_n hx hb dF_unit_57 rfl (lv_at hl 0 rfl) ?_
          refine gf_F_11 C hP dF_unit_58 ?_
          refine lv_aload_n hx hb dF_unit_61 rfl (lv_at hl 0 rfl) ?_
          refine gf_F_15 C hP dF_unit_62 ?_
          have hin_65 : vp_in (f 0 0) 10 := by have q0 := fr_t6 c_6; have q1 := fr_t6 c_16; have q2 := fr_t6 c_25; have q3 := fr_t1 c_44; have z0 : (0 : Int32).toInt = 0 := rfl; have z1 : (10 : Int32).toInt = 10 := rfl; have e0 := gU; skip; rw [vp_in_iff]; omega
          refine ald_aU C hP hin_65 dF_unit_65 ?_
          refine lv_astore (lv' := [(4, .ref (al (7 + ((f 0 0).toNatClampNeg)))), (0, .ref (al 0)), (1, .int x), (2, .int y), (3, .int k)]) hx hb dF_unit_66 hl (by decide) rfl (fun ls hl => ?_)
          refine lv_aload hx hb dF_unit_68 (lv_at hl 0 rfl) ?_
          refine lv_iload_n hx hb dF_unit_70 rfl (lv_at hl 2 rfl) ?_
          refine pf_F_69 C hP hD hS (fr_lt hin_65) dF_unit_71 (fun H locs hP hD hS => ?_)
          refine lv_aload hx hb dF_unit_74 (lv_at hl 0 rfl) ?_
          refine lv_iload_n hx hb dF_unit_76 rfl (lv_at hl 3 rfl) ?_
          refine pf_F_72 C hP hD hS (fr_lt hin_65) dF_unit_77 (fun H locs hP hD hS => ?_)
          refine lv_aload hx hb dF_unit_80 (lv_at hl 0 rfl) ?_
          refine lv_iload_n hx hb dF_unit_82 rfl (lv_at hl 4 rfl) ?_
          refine pf_F_75 C hP hD hS (fr_lt hin_65) dF_unit_83 (fun H locs hP hD hS => ?_)
          refine lv_aload_n hx hb dF_unit_86 rfl (lv_at hl 1 rfl) ?_
          refine lv_aload hx hb dF_unit_87 (lv_at hl 0 rfl) ?_
          refine cl_F_78 C hP hD hS hl.1 ⟨Nat.le_of_ble_eq_true rfl, Nat.le_of_ble_eq_true rfl⟩ (Nat.le_of_ble_eq_true rfl) ⟨Nat.le_of_ble_eq_true rfl, Nat.le_of_ble_eq_true rfl⟩ (fr_lt hin_65) gR gO dF_unit_89 (fun H locs hP hD hS => ?_)
          refine lv_istore (lv' := [(5, .int ((dn_marks (fr_up (fr_up (fr_up f 1 ((f 0 0).toNatClampNeg) x) 2 ((f 0 0).toNatClampNeg) y) 3 ((f 0 0).toNatClampNeg) k) ((f 0 0).toNatClampNeg)).1)), (4, .ref (al (7 + ((f 0 0).toNatClampNeg)))), (0, .ref (al 0)), (1, .int x), (2, .int y), (3, .int k)]) hx hb dF_unit_92 hl (by decide) rfl (fun ls hl => ?_)
          refine lv_aload_n hx hb dF_unit_94 rfl (lv_at hl 2 rfl) ?_
          refine lv_iconst (v := 0) hx hb dF_unit_95 (by decide) ?_
          refine pf_F_35 C hP hD hS dF_unit_96 (fun H locs hP hD hS => ?_)
          refine lv_iload hx hb dF_unit_99 (lv_at hl 0 rfl) ?_
          refine lv_if_eq (tgt := 109) hx hb dF_unit_101 (by decide) (fun c_101 => ?_) (fun c_101 => ?_)
          · skip
            refine lv_aload_n hx hb dF_unit_109 rfl (lv_at hl 2 rfl) ?_
            refine lv_dup hx hb dF_unit_110 rfl ?_
            refine gf_F_15 C hP dF_unit_111 ?_
            refine W.eq (g2 := F0 m 114 ls [.int (((dn_marks (fr_up (fr_up (fr_up f 1 ((f 0 0).toNatClampNeg) x) 2 ((f 0 0).toNatClampNeg) y) 3 ((f 0 0).toNatClampNeg) k) ((f 0 0).toNatClampNeg)).2) 0 0), .ref (al 0)]) (by first | rfl | simp [fr_up, fr_row]) ?_
            refine lv_iconst (v := 1) hx hb dF_unit_114 (by decide) ?_
            refine lv_iadd hx hb dF_unit_115 ?_
            refine pf_F_15 C hP hD hS dF_unit_116 (fun H locs hP hD hS => ?_)
            refine lv_aload_n hx hb dF_unit_119 rfl (lv_at hl 2 rfl) ?_
            refine gf_F_15 C hP dF_unit_120 ?_
            refine W.eq (g2 := F0 m 123 ls [.int ((((dn_marks (fr_up (fr_up (fr_up f 1 ((f 0 0).toNatClampNeg) x) 2 ((f 0 0).toNatClampNeg) y) 3 ((f 0 0).toNatClampNeg) k) ((f 0 0).toNatClampNeg)).2) 0 0) + 1)]) (by first | rfl | simp [fr_up, fr_row]) ?_
            refine lv_iconst (v := 1) hx hb dF_unit_123 (by decide) ?_
            refine lv_isub hx hb dF_unit_124 ?_
            have hd_ : dn_unit f x y k = (none, ((((dn_marks (fr_up (fr_up (fr_up f 1 ((f 0 0).toNatClampNeg) x) 2 ((f 0 0).toNatClampNeg) y) 3 ((f 0 0).toNatClampNeg) k) ((f 0 0).toNatClampNeg)).2) 0 0) + 1) - 1, fr_up (fr_up ((dn_marks (fr_up (fr_up (fr_up f 1 ((f 0 0).toNatClampNeg) x) 2 ((f 0 0).toNatClampNeg) y) 3 ((f 0 0).toNatClampNeg) k) ((f 0 0).toNatClampNeg)).2) 0 2 0) 0 0 ((((dn_marks (fr_up (fr_up (fr_up f 1 ((f 0 0).toNatClampNeg) x) 2 ((f 0 0).toNatClampNeg) y) 3 ((f 0 0).toNatClampNeg) k) ((f 0 0).toNatClampNeg)).2) 0 0) + 1)) := by rw [dn_unit, if_neg c_6, if_neg c_16, if_neg c_25, if_pos c_44, if_pos c_101]
            rw [hd_]
            refine fr_xret rfl ?_
            refine W.widen (k := 1) (n := 6) (by decide) (by decide) ?_
            exact fr_iret C hP hD hS rfl dF_unit_125
          · skip
            refine lv_iconst (v := (-1)) hx hb dF_unit_104 (by decide) ?_
            refine lv_iload hx hb dF_unit_105 (lv_at hl 0 rfl) ?_
            refine lv_isub hx hb dF_unit_107 ?_
            have hd_ : dn_unit f x y k = (none, (-1) - ((dn_marks (fr_up (fr_up (fr_up f 1 ((f 0 0).toNatClampNeg) x) 2 ((f 0 0).toNatClampNeg) y) 3 ((f 0 0).toNatClampNeg) k) ((f 0 0).toNatClampNeg)).1), fr_up ((dn_marks (fr_up (fr_up (fr_up f 1 ((f 0 0).toNatClampNeg) x) 2 ((f 0 0).toNatClampNeg) y) 3 ((f 0 0).toNatClampNeg) k) ((f 0 0).toNatClampNeg)).2) 0 2 0) := by rw [dn_unit, if_neg c_6, if_neg c_16, if_neg c_25, if_pos c_44, if_neg c_101]
            rw [hd_]
            refine fr_xret rfl ?_
            refine W.widen (k := 1) (n := 6) (by decide) (by decide) ?_
            exact fr_iret C hP hD hS rfl dF_unit_108
        · skip
          have hd_ : dn_unit f x y k = (some "java/lang/UnsupportedOperationException", 0, f) := by rw [dn_unit, if_neg c_6, if_neg c_16, if_neg c_25, if_neg c_44]
          rw [hd_]
          obtain ⟨sa, hsa⟩ := fr_str hown (hN _ str_F_66).2
          exact th_UOE C hl.1 hls hS hsa (Nat.le_of_ble_eq_true rfl) (Nat.le_of_ble_eq_true rfl) (Nat.le_of_ble_eq_true rfl) (Nat.le_of_ble_eq_true rfl) dF_unit_47 dF_unit_50 dF_unit_51 dF_unit_53 dF_unit_56 (fr_xthrow rfl hK hP hD hS rfl rfl)
      · skip
        have hd_ : dn_unit f x y k = (some "java/lang/IllegalArgumentException", 0, f) := by rw [dn_unit, if_neg c_6, if_neg c_16, if_pos c_25]
        rw [hd_]
        obtain ⟨sa, hsa⟩ := fr_str hown (hN _ str_F_59).2
        exact th_IAE C hl.1 hls hS hsa (Nat.le_of_ble_eq_true rfl) (Nat.le_of_ble_eq_true rfl) (Nat.le_of_ble_eq_true rfl) (Nat.le_of_ble_eq_true rfl) dF_unit_28 dF_unit_31 dF_unit_32 dF_unit_34 dF_unit_37 (fr_xthrow rfl hK hP hD hS rfl rfl)

theorem cl_F_82 {p : Program} {l : Launch} {e : Env} {R : Room} {s : State} {m : MethodId} {args : Array Value} {below : List Frame} {meth : Method} {c : Code} {H : Heap} {locs : List Loc} {cells slots : Nat} {Q : State → Prop} {D : va_G} {A : Nat → Prop} {cc : ByteArray} {nL pc : Nat} {ret : Option FieldType} {hh : List ExceptionTableEntry} {ls : Array Slot} {rest : List Value} {ka : Nat → ClassId} {al : Nat → Nat} {f : Nat → Nat → Int32} {Z : va_W} {x : Int32} {y : Int32} {k : Int32} (C : fr_Cx p s m args meth c "FragileRules" cc nL ret hh fr_tbl fr_nw D vwCl (fr_ty ka) A) (hP : va_P D vwCl (fr_cw ka al f Z) H) (hD : va_D A (fr_cw ka al f Z)) (hS : va_S A s.heap H locs) (hsz : ls.size = nL) (hR : 2 + 1 ≤ R.frames ∧ 8 + (3 + 11) + 41 ≤ R.locals) (hw : (rest.map fun v => v.category).sum ≤ 8) (hf : cells + 0 ≤ R.cells ∧ slots + 0 ≤ R.slots) (hdg : decode cc pc = .ok (.invokestatic 82, 3)) (kk : ∀ (H : Heap) (locs : List Loc), va_P D vwCl (fr_cw ka al f Z) H → va_D A (fr_cw ka al f Z) → va_S A s.heap H locs → W p l e R s m args below meth c H locs (cells + 0) (slots + 0) Q (F0 m (pc + 3) ls (.int (dn_isRule x y k) :: rest))) : W p l e R s m args below meth c H locs cells slots Q (F0 m pc ls (.int k :: .int y :: .int x :: rest)) :=
  fr_callSi (As := [.int x, .int y, .int k]) C hP hD hS (c_isRule l D ka al Z f x y k) (cwS 3 C.2.2.2.2.1 (fr_goodS ml_F_82 mst_isRule mini_F mc_isRule) rfl rfl rfl (by decide +kernel) hR) rfl hsz hw hdg hf kk
def dn_rule (f : Nat → Nat → Int32) (x : Int32) (y : Int32) (k : Int32) : Option String × Int32 × (Nat → Nat → Int32) := if (dn_isRule x y k) = 0 then (some "java/lang/IllegalArgumentException", 0, f) else (if (f 0 1) < 12 then (none, (dn_addRule f x y k).1, (dn_addRule f x y k).2) else (some "java/lang/UnsupportedOperationException", 0, f))
set_option maxHeartbeats 4000000 in
set_option maxRecDepth 100000 in
theorem c_rule (l : Launch) (hls : l.stackTraces = false) (D : va_G) (ka : Nat → ClassId) (al : Nat → Nat) (Z : va_W) (f : Nat → Nat → Int32) (x : Int32) (y : Int32) (k : Int32) (gR : 0 ≤ (f 0 1).toInt ∧ (f 0 1).toInt ≤ 12) : fr_Mx (fr_Qi D vwCl (fr_ty ka)) l y_rule (.code y_rule prog_1_method_3_code 4 (some .int) :: fr_tbl) { frames := 6, cells := 1, slots := 6, locals := 90 } D vwCl (fr_ty ka) fr_nw [.ref (al 0), .int x, .int y, .int k] (fr_cw ka al f Z) (dn_rule f x y k).1 (dn_rule f x y k).2.1 (fr_cw ka al ((dn_rule f x y k).2.2) Z) 1 6 := by
  refine fr_Mx.of (by decide) (Nat.le_of_ble_eq_true rfl) ?_
  intro p e s m below meth c A H locs ls C hP hD hS hl
  obtain ⟨hx, hb, hml, hown, ht, hK, hlocks, hr, hA, hN, hZ, hEx⟩ := id C
  have hl : lv_has ls 4 [(0, .ref (al 0)), (1, .int x), (2, .int y), (3, .int k)] := hl
  refine lv_iload_n hx hb dF_rule_0 rfl (lv_at hl 1 rfl) ?_
  refine lv_iload_n hx hb dF_rule_1 rfl (lv_at hl 2 rfl) ?_
  refine lv_iload_n hx hb dF_rule_2 rfl (lv_at hl 3 rfl) ?_
  refine cl_F_82 C hP hD hS hl.1 ⟨Nat.le_of_ble_eq_true rfl, Nat.le_of_ble_eq_true rfl⟩ (Nat.le_of_ble_eq_true rfl) ⟨Nat.le_of_ble_eq_true rfl, Nat.le_of_ble_eq_true rfl⟩ dF_rule_3 (fun H locs hP hD hS => ?_)
  refine lv_if_ne (tgt := 19) hx hb dF_rule_6 (by decide) (fun c_6 => ?_) (fun c_6 => ?_)
  · skip
    refine lv_aload_n hx hb dF_rule_19 rfl (lv_at hl 0 rfl) ?_
    refine gf_F_25 C hP dF_rule_20 ?_
    refine lv_bipush (v := 12) hx hb dF_rule_23 (by decide) ?_
    refine lv_icmp_lt (tgt := 38) hx hb dF_rule_25 (by decide) (fun c_25 => ?_) (fun c_25 => ?_)
    · skip
      refine lv_aload_n hx hb dF_rule_38 rfl (lv_at hl 0 rfl) ?_
      refine lv_iload_n hx hb dF_rule_39 rfl (lv_at hl 1 rfl) ?_
      refine lv_iload_n hx hb dF_rule_40 rfl (lv_at hl 2 rfl) ?_
      refine lv_iload_n hx hb dF_rule_41 rfl (lv_at hl 3 rfl) ?_
      refine cl_F_90 C hP hD hS hl.1 ⟨Nat.le_of_ble_eq_true rfl, Nat.le_of_ble_eq_true rfl⟩ (Nat.le_of_ble_eq_true rfl) ⟨Nat.le_of_ble_eq_true rfl, Nat.le_of_ble_eq_true rfl⟩ (by have q := fr_t1 c_25; have z : (12 : Int32).toInt = 12 := rfl; omega) dF_rule_42 (fun H locs hP hD hS => ?_)
      have hd_ : dn_rule f x y k = (none, (dn_addRule f x y k).1, (dn_addRule f x y k).2) := by rw [dn_rule, if_neg c_6, if_pos c_25]
      rw [hd_]
      refine fr_xret rfl ?_
      refine W.widen (k := 1) (n := 6) (by decide) (by decide) ?_
      exact fr_iret C hP hD hS rfl dF_rule_45
    · skip
      have hd_ : dn_rule f x y k = (some "java/lang/UnsupportedOperationException", 0, f) := by rw [dn_rule, if_neg c_6, if_neg c_25]
      rw [hd_]
      obtain ⟨sa, hsa⟩ := fr_str hown (hN _ str_F_88).2
      exact th_UOE C hl.1 hls hS hsa (Nat.le_of_ble_eq_true rfl) (Nat.le_of_ble_eq_true rfl) (Nat.le_of_ble_eq_true rfl) (Nat.le_of_ble_eq_true rfl) dF_rule_28 dF_rule_31 dF_rule_32 dF_rule_34 dF_rule_37 (fr_xthrow rfl hK hP hD hS rfl rfl)
  · skip
    have hd_ : dn_rule f x y k = (some "java/lang/IllegalArgumentException", 0, f) := by rw [dn_rule, if_pos c_6]
    rw [hd_]
    obtain ⟨sa, hsa⟩ := fr_str hown (hN _ str_F_86).2
    exact th_IAE C hl.1 hls hS hsa (Nat.le_of_ble_eq_true rfl) (Nat.le_of_ble_eq_true rfl) (Nat.le_of_ble_eq_true rfl) (Nat.le_of_ble_eq_true rfl) dF_rule_9 dF_rule_12 dF_rule_13 dF_rule_15 dF_rule_18 (fr_xthrow rfl hK hP hD hS rfl rfl)

def dn_own (f : Nat → Nat → Int32) (x : Int32) (y : Int32) : Option String × Int32 × (Nat → Nat → Int32) := if (dn_within x 3) = 0 then (some "java/lang/IllegalArgumentException", 0, f) else (if (f 0 1) < 12 then (if y = 0 then (none, (dn_addRule f 5 x 0).1, (dn_addRule f 5 x 0).2) else (none, (dn_addRule f 5 x 1).1, (dn_addRule f 5 x 1).2)) else (some "java/lang/UnsupportedOperationException", 0, f))
set_option maxHeartbeats 4000000 in
set_option maxRecDepth 100000 in
theorem c_own (l : Launch) (hls : l.stackTraces = false) (D : va_G) (ka : Nat → ClassId) (al : Nat → Nat) (Z : va_W) (f : Nat → Nat → Int32) (x : Int32) (y : Int32) (gR : 0 ≤ (f 0 1).toInt ∧ (f 0 1).toInt ≤ 12) : fr_Mx (fr_Qi D vwCl (fr_ty ka)) l y_own (.code y_own prog_1_method_4_code 3 (some .int) :: fr_tbl) { frames := 6, cells := 1, slots := 6, locals := 90 } D vwCl (fr_ty ka) fr_nw [.ref (al 0), .int x, .int y] (fr_cw ka al f Z) (dn_own f x y).1 (dn_own f x y).2.1 (fr_cw ka al ((dn_own f x y).2.2) Z) 1 6 := by
  refine fr_Mx.of (by decide) (Nat.le_of_ble_eq_true rfl) ?_
  intro p e s m below meth c A H locs ls C hP hD hS hl
  obtain ⟨hx, hb, hml, hown, ht, hK, hlocks, hr, hA, hN, hZ, hEx⟩ := id C
  have hl : lv_has ls 3 [(0, .ref (al 0)), (1, .int x), (2, .int y)] := hl
  refine lv_iload_n hx hb dF_own_0 rfl (lv_at hl 1 rfl) ?_
  refine lv_iconst (v := 3) hx hb dF_own_1 (by decide) ?_
  refine cl_F_53 C hP hD hS hl.1 ⟨Nat.le_of_ble_eq_true rfl, Nat.le_of_ble_eq_true rfl⟩ (Nat.le_of_ble_eq_true rfl) ⟨Nat.le_of_ble_eq_true rfl, Nat.le_of_ble_eq_true rfl⟩ dF_own_2 (fun H locs hP hD hS => ?_)
  refine lv_if_ne (tgt := 18) hx hb dF_own_5 (by decide) (fun c_5 => ?_) (fun c_5 => ?_)
  · skip
    refine lv_aload_n hx hb dF_own_18 rfl (lv_at hl 0 rfl) ?_
    refine gf_F_25 C hP dF_own_19 ?_
    refine lv_bipush (v := 12) hx hb dF_own_22 (by decide) ?_
    refine lv_icmp_lt (tgt := 37) hx hb dF_own_24 (by decide) (fun c_24 => ?_) (fun c_24 => ?_)
    · skip
      refine lv_aload_n hx hb dF_own_37 rfl (lv_at hl 0 rfl) ?_
      refine lv_iconst (v := 5) hx hb dF_own_38 (by decide) ?_
      refine lv_iload_n hx hb dF_own_39 rfl (lv_at hl 1 rfl) ?_
      refine lv_iload_n hx hb dF_own_40 rfl (lv_at hl 2 rfl) ?_
      refine lv_if_eq (tgt := 48) hx hb dF_own_41 (by decide) (fun c_41 => ?_) (fun c_41 => ?_)
      · skip
        refine lv_iconst (v := 0) hx hb dF_own_48 (by decide) ?_
        refine cl_F_90 C hP hD hS hl.1 ⟨Nat.le_of_ble_eq_true rfl, Nat.le_of_ble_eq_true rfl⟩ (Nat.le_of_ble_eq_true rfl) ⟨Nat.le_of_ble_eq_true rfl, Nat.le_of_ble_eq_true rfl⟩ (by have q := fr_t1 c_24; have z : (12 : Int32).toInt = 12 := rfl; omega) dF_own_49 (fun H locs hP hD hS => ?_)
        have hd_ : dn_own f x y = (none, (dn_addRule f 5 x 0).1, (dn_addRule f 5 x 0).2) := by rw [dn_own, if_neg c_5, if_pos c_24, if_pos c_41]
        rw [hd_]
        refine fr_xret rfl ?_
        refine W.widen (k := 1) (n := 6) (by decide) (by decide) ?_
        exact fr_iret C hP hD hS rfl dF_own_52
      · skip
        refine lv_iconst (v := 1) hx hb dF_own_44 (by decide) ?_
        refine lv_goto (tgt := 49) hx hb dF_own_45 (by decide) ?_
        refine cl_F_90 C hP hD hS hl.1 ⟨Nat.le_of_ble_eq_true rfl, Nat.le_of_ble_eq_true rfl⟩ (Nat.le_of_ble_eq_true rfl) ⟨Nat.le_of_ble_eq_true rfl, Nat.le_of_ble_eq_true rfl⟩ (by have q := fr_t1 c_24; have z : (12 : Int32).toInt = 12 := rfl; omega) dF_own_49 (fun H locs hP hD hS => ?_)
        have hd_ : dn_own f x y = (none, (dn_addRule f 5 x 1).1, (dn_addRule f 5 x 1).2) := by rw [dn_own, if_neg c_5, if_pos c_24, if_neg c_41]
        rw [hd_]
        refine fr_xret rfl ?_
        refine W.widen (k := 1) (n := 6) (by decide) (by decide) ?_
        exact fr_iret C hP hD hS rfl dF_own_52
    · skip
      have hd_ : dn_own f x y = (some "java/lang/UnsupportedOperationException", 0, f) := by rw [dn_own, if_neg c_5, if_neg c_24]
      rw [hd_]
      obtain ⟨sa, hsa⟩ := fr_str hown (hN _ str_F_88).2
      exact th_UOE C hl.1 hls hS hsa (Nat.le_of_ble_eq_true rfl) (Nat.le_of_ble_eq_true rfl) (Nat.le_of_ble_eq_true rfl) (Nat.le_of_ble_eq_true rfl) dF_own_27 dF_own_30 dF_own_31 dF_own_33 dF_own_36 (fr_xthrow rfl hK hP hD hS rfl rfl)
  · skip
    have hd_ : dn_own f x y = (some "java/lang/IllegalArgumentException", 0, f) := by rw [dn_own, if_pos c_5]
    rw [hd_]
    obtain ⟨sa, hsa⟩ := fr_str hown (hN _ str_F_94).2
    exact th_IAE C hl.1 hls hS hsa (Nat.le_of_ble_eq_true rfl) (Nat.le_of_ble_eq_true rfl) (Nat.le_of_ble_eq_true rfl) (Nat.le_of_ble_eq_true rfl) dF_own_8 dF_own_11 dF_own_12 dF_own_14 dF_own_17 (fr_xthrow rfl hK hP hD hS rfl rfl)

def dn_sign (f : Nat → Nat → Int32) (x : Int32) : Option String × Int32 × (Nat → Nat → Int32) := if x = 10 then (if (f 0 5) < 200 then (none, 0, fr_up (fr_up f 10 ((f 0 5).toNatClampNeg) x) 0 5 ((f 0 5) + 1)) else (some "java/lang/UnsupportedOperationException", 0, f)) else (if x < 32 then (some "java/lang/IllegalArgumentException", 0, f) else (if x ≤ 126 then (if (f 0 5) < 200 then (none, 0, fr_up (fr_up f 10 ((f 0 5).toNatClampNeg) x) 0 5 ((f 0 5) + 1)) else (some "java/lang/UnsupportedOperationException", 0, f)) else (some "java/lang/IllegalArgumentException", 0, f)))
set_option maxHeartbeats 4000000 in
set_option maxRecDepth 100000 in
theorem c_sign (l : Launch) (hls : l.stackTraces = false) (D : va_G) (ka : Nat → ClassId) (al : Nat → Nat) (Z : va_W) (f : Nat → Nat → Int32) (x : Int32) (gT : 0 ≤ (f 0 5).toInt ∧ (f 0 5).toInt ≤ 200) : fr_Mx (fun _ => fr_Qv D vwCl (fr_ty ka)) l y_sign (.code y_sign prog_1_method_5_code 2 none :: fr_tbl) { frames := 6, cells := 1, slots := 6, locals := 90 } D vwCl (fr_ty ka) fr_nw [.ref (al 0), .int x] (fr_cw ka al f Z) (dn_sign f x).1 (dn_sign f x).2.1 (fr_cw ka al ((dn_sign f x).2.2) Z) 1 6 := by
  refine fr_Mx.of (by decide) (Nat.le_of_ble_eq_true rfl) ?_
  intro p e s m below meth c A H locs ls C hP hD hS hl
  obtain ⟨hx, hb, hml, hown, ht, hK, hlocks, hr, hA, hN, hZ, hEx⟩ := id C
  have hl : lv_has ls 2 [(0, .ref (al 0)), (1, .int x)] := hl
  refine lv_iload_n hx hb dF_sign_0 rfl (lv_at hl 1 rfl) ?_
  refine lv_bipush (v := 10) hx hb dF_sign_1 (by decide) ?_
  refine lv_icmp_eq (tgt := 28) hx hb dF_sign_3 (by decide) (fun c_3 => ?_) (fun c_3 => ?_)
  · skip
    refine lv_aload_n hx hb dF_sign_28 rfl (lv_at hl 0 rfl) ?_
    refine gf_F_41 C hP dF_sign_29 ?_
    refine gf_F_98 C hP dF_sign_32 ?_
    refine lv_sipush (v := 200) hx hb dF_sign_35 (by decide) ?_
    refine lv_icmp_lt (tgt := 51) hx hb dF_sign_38 (by decide) (fun c_38 => ?_) (fun c_38 => ?_)
    · skip
      refine lv_aload_n hx hb dF_sign_51 rfl (lv_at hl 0 rfl) ?_
      refine gf_F_41 C hP dF_sign_52 ?_
      refine gf_F_103 C hP dF_sign_55 ?_
      refine lv_aload_n hx hb dF_sign_58 rfl (lv_at hl 0 rfl) ?_
      refine gf_F_41 C hP dF_sign_59 ?_
      refine gf_F_98 C hP dF_sign_62 ?_
      refine lv_iload_n hx hb dF_sign_65 rfl (lv_at hl 1 rfl) ?_
      have hin_66 : vp_in (f 0 5) 200 := by have q0 := fr_t5 c_3; have q1 := fr_t1 c_38; have z0 : (10 : Int32).toInt = 10 := rfl; have z1 : (200 : Int32).toInt = 200 := rfl; have e0 := gT; skip; rw [vp_in_iff]; omega
      refine ast_10 C hP hD hS hin_66 dF_sign_66 (fun H locs hP hD hS => ?_)
      refine lv_aload_n hx hb dF_sign_67 rfl (lv_at hl 0 rfl) ?_
      refine gf_F_41 C hP dF_sign_68 ?_
      refine lv_dup hx hb dF_sign_71 rfl ?_
      refine gf_F_98 C hP dF_sign_72 ?_
      refine W.eq (g2 := F0 m 75 ls [.int (f 0 5), .ref (al 5)]) (by first | rfl | simp [fr_up, fr_row]) ?_
      refine lv_iconst (v := 1) hx hb dF_sign_75 (by decide) ?_
      refine lv_iadd hx hb dF_sign_76 ?_
      refine pf_F_98 C hP hD hS dF_sign_77 (fun H locs hP hD hS => ?_)
      have hd_ : dn_sign f x = (none, 0, fr_up (fr_up f 10 ((f 0 5).toNatClampNeg) x) 0 5 ((f 0 5) + 1)) := by rw [dn_sign, if_pos c_3, if_pos c_38]
      rw [hd_]
      refine fr_xret rfl ?_
      refine W.widen (k := 1) (n := 6) (by decide) (by decide) ?_
      exact fr_vret C hP hD hS dF_sign_80
    · skip
      have hd_ : dn_sign f x = (some "java/lang/UnsupportedOperationException", 0, f) := by rw [dn_sign, if_pos c_3, if_neg c_38]
      rw [hd_]
      obtain ⟨sa, hsa⟩ := fr_str hown (hN _ str_F_101).2
      exact th_UOE C hl.1 hls hS hsa (Nat.le_of_ble_eq_true rfl) (Nat.le_of_ble_eq_true rfl) (Nat.le_of_ble_eq_true rfl) (Nat.le_of_ble_eq_true rfl) dF_sign_41 dF_sign_44 dF_sign_45 dF_sign_47 dF_sign_50 (fr_xthrow rfl hK hP hD hS rfl rfl)
  · skip
    refine lv_iload_n hx hb dF_sign_6 rfl (lv_at hl 1 rfl) ?_
    refine lv_bipush (v := 32) hx hb dF_sign_7 (by decide) ?_
    refine lv_icmp_lt (tgt := 18) hx hb dF_sign_9 (by decide) (fun c_9 => ?_) (fun c_9 => ?_)
    · skip
      have hd_ : dn_sign f x = (some "java/lang/IllegalArgumentException", 0, f) := by rw [dn_sign, if_neg c_3, if_pos c_9]
      rw [hd_]
      obtain ⟨sa, hsa⟩ := fr_str hown (hN _ str_F_96).2
      exact th_IAE C hl.1 hls hS hsa (Nat.le_of_ble_eq_true rfl) (Nat.le_of_ble_eq_true rfl) (Nat.le_of_ble_eq_true rfl) (Nat.le_of_ble_eq_true rfl) dF_sign_18 dF_sign_21 dF_sign_22 dF_sign_24 dF_sign_27 (fr_xthrow rfl hK hP hD hS rfl rfl)
    · skip
      refine lv_iload_n hx hb dF_sign_12 rfl (lv_at hl 1 rfl) ?_
      refine lv_bipush (v := 126) hx hb dF_sign_13 (by decide) ?_
      refine lv_icmp_le (tgt := 28) hx hb dF_sign_15 (by decide) (fun c_15 => ?_) (fun c_15 => ?_)
      · skip
        refine lv_aload_n hx hb dF_sign_28 rfl (lv_at hl 0 rfl) ?_
        refine gf_F_41 C hP dF_sign_29 ?_
        refine gf_F_98 C hP dF_sign_32 ?_
        refine lv_sipush (v := 200) hx hb dF_sign_35 (by decide) ?_
        refine lv_icmp_lt (tgt := 51) hx hb dF_sign_38 (by decide) (fun c_38 => ?_) (fun c_38 => ?_)
        · skip
          refine lv_aload_n hx hb dF_sign_51 rfl (lv_at hl 0 rfl) ?_
          refine gf_F_41 C hP dF_sign_52 ?_
          refine gf_F_103 C hP dF_sign_55 ?_
          refine lv_aload_n hx hb dF_sign_58 rfl (lv_at hl 0 rfl) ?_
          refine gf_F_41 C hP dF_sign_59 ?_
          refine gf_F_98 C hP dF_sign_62 ?_
          refine lv_iload_n hx hb dF_sign_65 rfl (lv_at hl 1 rfl) ?_
          have hin_66 : vp_in (f 0 5) 200 := by have q0 := fr_t6 c_3; have q1 := fr_t2 c_9; have q2 := fr_t3 c_15; have q3 := fr_t1 c_38; have z0 : (10 : Int32).toInt = 10 := rfl; have z1 : (32 : Int32).toInt = 32 := rfl; have z2 : (126 : Int32).toInt = 126 := rfl; have z3 : (200 : Int32).toInt = 200 := rfl; have e0 := gT; skip; rw [vp_in_iff]; omega
          refine ast_10 C hP hD hS hin_66 dF_sign_66 (fun H locs hP hD hS => ?_)
          refine lv_aload_n hx hb dF_sign_67 rfl (lv_at hl 0 rfl) ?_
          refine gf_F_41 C hP dF_sign_68 ?_
          refine lv_dup hx hb dF_sign_71 rfl ?_
          refine gf_F_98 C hP dF_sign_72 ?_
          refine W.eq (g2 := F0 m 75 ls [.int (f 0 5), .ref (al 5)]) (by first | rfl | simp [fr_up, fr_row]) ?_
          refine lv_iconst (v := 1) hx hb dF_sign_75 (by decide) ?_
          refine lv_iadd hx hb dF_sign_76 ?_
          refine pf_F_98 C hP hD hS dF_sign_77 (fun H locs hP hD hS => ?_)
          have hd_ : dn_sign f x = (none, 0, fr_up (fr_up f 10 ((f 0 5).toNatClampNeg) x) 0 5 ((f 0 5) + 1)) := by rw [dn_sign, if_neg c_3, if_neg c_9, if_pos c_15, if_pos c_38]
          rw [hd_]
          refine fr_xret rfl ?_
          refine W.widen (k := 1) (n := 6) (by decide) (by decide) ?_
          exact fr_vret C hP hD hS dF_sign_80
        · skip
          have hd_ : dn_sign f x = (some "java/lang/UnsupportedOperationException", 0, f) := by rw [dn_sign, if_neg c_3, if_neg c_9, if_pos c_15, if_neg c_38]
          rw [hd_]
          obtain ⟨sa, hsa⟩ := fr_str hown (hN _ str_F_101).2
          exact th_UOE C hl.1 hls hS hsa (Nat.le_of_ble_eq_true rfl) (Nat.le_of_ble_eq_true rfl) (Nat.le_of_ble_eq_true rfl) (Nat.le_of_ble_eq_true rfl) dF_sign_41 dF_sign_44 dF_sign_45 dF_sign_47 dF_sign_50 (fr_xthrow rfl hK hP hD hS rfl rfl)
      · skip
        have hd_ : dn_sign f x = (some "java/lang/IllegalArgumentException", 0, f) := by rw [dn_sign, if_neg c_3, if_neg c_9, if_neg c_15]
        rw [hd_]
        obtain ⟨sa, hsa⟩ := fr_str hown (hN _ str_F_96).2
        exact th_IAE C hl.1 hls hS hsa (Nat.le_of_ble_eq_true rfl) (Nat.le_of_ble_eq_true rfl) (Nat.le_of_ble_eq_true rfl) (Nat.le_of_ble_eq_true rfl) dF_sign_18 dF_sign_21 dF_sign_22 dF_sign_24 dF_sign_27 (fr_xthrow rfl hK hP hD hS rfl rfl)

theorem cl_F_106 {p : Program} {l : Launch} {e : Env} {R : Room} {s : State} {m : MethodId} {args : Array Value} {below : List Frame} {meth : Method} {c : Code} {H : Heap} {locs : List Loc} {cells slots : Nat} {Q : State → Prop} {D : va_G} {A : Nat → Prop} {cc : ByteArray} {nL pc : Nat} {ret : Option FieldType} {hh : List ExceptionTableEntry} {ls : Array Slot} {rest : List Value} {ka : Nat → ClassId} {al : Nat → Nat} {f : Nat → Nat → Int32} {Z : va_W}  (C : fr_Cx p s m args meth c "FragileRules" cc nL ret hh fr_tbl fr_nw D vwCl (fr_ty ka) A) (hP : va_P D vwCl (fr_cw ka al f Z) H) (hD : va_D A (fr_cw ka al f Z)) (hS : va_S A s.heap H locs) (hsz : ls.size = nL) (hR : 3 + 1 ≤ R.frames ∧ 8 + (4 + 11) + 68 ≤ R.locals) (hw : (rest.map fun v => v.category).sum ≤ 8) (hf : cells + 0 ≤ R.cells ∧ slots + 0 ≤ R.slots) (gT : 0 ≤ (f 0 5).toInt ∧ (f 0 5).toInt ≤ 200) (hdg : decode cc pc = .ok (.invokevirtual 106, 3)) (kk : ∀ (H : Heap) (locs : List Loc), va_P D vwCl (fr_cw ka al f Z) H → va_D A (fr_cw ka al f Z) → va_S A s.heap H locs → W p l e R s m args below meth c H locs (cells + 0) (slots + 0) Q (F0 m (pc + 3) ls (.int (dn_wrongPlace f) :: rest))) : W p l e R s m args below meth c H locs cells slots Q (F0 m pc ls (.ref (al 5) :: rest)) :=
  fr_callVi (As := []) C hP hD hS (c_wrongPlace l D ka al Z f gT) (cwV 0 C.2.2.2.2.1 (fr_goodV ml_F_106 mi_wrongPlace msel_wrongPlace mini_T mc_wrongPlace) rfl rfl rfl (by decide +kernel) hR) (va_recv C.2.2.2.2.2.1 hP (ci := 3) (q0 := 5) rfl rfl) rfl hsz hw hdg hf kk
theorem cl_F_110 {p : Program} {l : Launch} {e : Env} {R : Room} {s : State} {m : MethodId} {args : Array Value} {below : List Frame} {meth : Method} {c : Code} {H : Heap} {locs : List Loc} {cells slots : Nat} {Q : State → Prop} {D : va_G} {A : Nat → Prop} {cc : ByteArray} {nL pc : Nat} {ret : Option FieldType} {hh : List ExceptionTableEntry} {ls : Array Slot} {rest : List Value} {ka : Nat → ClassId} {al : Nat → Nat} {f : Nat → Nat → Int32} {Z : va_W}  (C : fr_Cx p s m args meth c "FragileRules" cc nL ret hh fr_tbl fr_nw D vwCl (fr_ty ka) A) (hP : va_P D vwCl (fr_cw ka al f Z) H) (hD : va_D A (fr_cw ka al f Z)) (hS : va_S A s.heap H locs) (hsz : ls.size = nL) (hR : 0 + 1 ≤ R.frames ∧ 8 + (3 + 11) + 0 ≤ R.locals) (hw : (rest.map fun v => v.category).sum ≤ 8) (hf : cells + 0 ≤ R.cells ∧ slots + 0 ≤ R.slots) (gT : 0 ≤ (f 0 5).toInt ∧ (f 0 5).toInt ≤ 200) (hdg : decode cc pc = .ok (.invokevirtual 110, 3)) (kk : ∀ (H : Heap) (locs : List Loc), va_P D vwCl (fr_cw ka al f Z) H → va_D A (fr_cw ka al f Z) → va_S A s.heap H locs → W p l e R s m args below meth c H locs (cells + 0) (slots + 0) Q (F0 m (pc + 3) ls (.int (dn_lineCount f) :: rest))) : W p l e R s m args below meth c H locs cells slots Q (F0 m pc ls (.ref (al 5) :: rest)) :=
  fr_callVi (As := []) C hP hD hS (c_lineCount l D ka al Z f gT) (cwV 0 C.2.2.2.2.1 (fr_goodV ml_F_110 mi_lineCount msel_lineCount mini_T mc_lineCount) rfl rfl rfl (by decide +kernel) hR) (va_recv C.2.2.2.2.2.1 hP (ci := 3) (q0 := 5) rfl rfl) rfl hsz hw hdg hf kk
theorem cl_F_113 {p : Program} {l : Launch} {e : Env} {R : Room} {s : State} {m : MethodId} {args : Array Value} {below : List Frame} {meth : Method} {c : Code} {H : Heap} {locs : List Loc} {cells slots : Nat} {Q : State → Prop} {D : va_G} {A : Nat → Prop} {cc : ByteArray} {nL pc : Nat} {ret : Option FieldType} {hh : List ExceptionTableEntry} {ls : Array Slot} {rest : List Value} {ka : Nat → ClassId} {al : Nat → Nat} {f : Nat → Nat → Int32} {Z : va_W} {x : Int32} (C : fr_Cx p s m args meth c "FragileRules" cc nL ret hh fr_tbl fr_nw D vwCl (fr_ty ka) A) (hP : va_P D vwCl (fr_cw ka al f Z) H) (hD : va_D A (fr_cw ka al f Z)) (hS : va_S A s.heap H locs) (hsz : ls.size = nL) (hR : 3 + 1 ≤ R.frames ∧ 8 + (4 + 11) + 68 ≤ R.locals) (hw : (rest.map fun v => v.category).sum ≤ 8) (hf : cells + 0 ≤ R.cells ∧ slots + 0 ≤ R.slots) (gT : 0 ≤ (f 0 5).toInt ∧ (f 0 5).toInt ≤ 200) (gR : 0 ≤ (f 0 1).toInt ∧ (f 0 1).toInt + x.toInt ≤ 12 ∧ 0 ≤ x.toInt) (hdg : decode cc pc = .ok (.invokevirtual 113, 3)) (kk : ∀ (H : Heap) (locs : List Loc), va_P D vwCl (fr_cw ka al (dn_addLines f x) Z) H → va_D A (fr_cw ka al (dn_addLines f x) Z) → va_S A s.heap H locs → W p l e R s m args below meth c H locs (cells + 0) (slots + 0) Q (F0 m (pc + 3) ls rest)) : W p l e R s m args below meth c H locs cells slots Q (F0 m pc ls (.int x :: .ref (al 0) :: rest)) :=
  fr_callVv (As := [.int x]) C hP hD hS (c_addLines l D ka al Z f x gT gR) (cwV 1 C.2.2.2.2.1 (fr_goodV ml_F_113 mi_addLines msel_addLines mini_F mc_addLines) rfl rfl rfl (by decide +kernel) hR) (va_recv C.2.2.2.2.2.1 hP (ci := 0) (q0 := 0) rfl rfl) rfl hsz hw hdg hf kk
def dn_read (f : Nat → Nat → Int32)  : Option String × Int32 × (Nat → Nat → Int32) := if (12 - (f 0 1)) < (dn_lineCount f) then (if (dn_wrongPlace f) = (-1) then (some "java/lang/UnsupportedOperationException", 0, fr_up f 0 5 0) else (none, (-1) - (dn_wrongPlace f), fr_up f 0 5 0)) else (if (dn_wrongPlace f) = (-1) then (none, (dn_addLines f (dn_lineCount f)) 0 1, fr_up (dn_addLines f (dn_lineCount f)) 0 5 0) else (none, (-1) - (dn_wrongPlace f), fr_up f 0 5 0))
set_option maxHeartbeats 4000000 in
set_option maxRecDepth 100000 in
theorem c_read (l : Launch) (hls : l.stackTraces = false) (D : va_G) (ka : Nat → ClassId) (al : Nat → Nat) (Z : va_W) (f : Nat → Nat → Int32)  (gT : 0 ≤ (f 0 5).toInt ∧ (f 0 5).toInt ≤ 200) (gR : 0 ≤ (f 0 1).toInt ∧ (f 0 1).toInt ≤ 12) : fr_Mx (fr_Qi D vwCl (fr_ty ka)) l y_read (.code y_read prog_1_method_6_code 4 (some .int) :: fr_tbl) { frames := 6, cells := 1, slots := 6, locals := 91 } D vwCl (fr_ty ka) fr_nw [.ref (al 0)] (fr_cw ka al f Z) (dn_read f).1 (dn_read f).2.1 (fr_cw ka al ((dn_read f).2.2) Z) 1 6 := by
  refine fr_Mx.of (by decide) (Nat.le_of_ble_eq_true rfl) ?_
  intro p e s m below meth c A H locs ls C hP hD hS hl
  obtain ⟨hx, hb, hml, hown, ht, hK, hlocks, hr, hA, hN, hZ, hEx⟩ := id C
  have hl : lv_has ls 4 [(0, .ref (al 0))] := hl
  refine lv_aload_n hx hb dF_read_0 rfl (lv_at hl 0 rfl) ?_
  refine gf_F_41 C hP dF_read_1 ?_
  refine cl_F_106 C hP hD hS hl.1 ⟨Nat.le_of_ble_eq_true rfl, Nat.le_of_ble_eq_true rfl⟩ (Nat.le_of_ble_eq_true rfl) ⟨Nat.le_of_ble_eq_true rfl, Nat.le_of_ble_eq_true rfl⟩ gT dF_read_4 (fun H locs hP hD hS => ?_)
  refine lv_istore_n (lv' := [(1, .int (dn_wrongPlace f)), (0, .ref (al 0))]) hx hb dF_read_7 rfl hl (by decide) rfl (fun ls hl => ?_)
  refine lv_aload_n hx hb dF_read_8 rfl (lv_at hl 1 rfl) ?_
  refine gf_F_41 C hP dF_read_9 ?_
  refine cl_F_110 C hP hD hS hl.1 ⟨Nat.le_of_ble_eq_true rfl, Nat.le_of_ble_eq_true rfl⟩ (Nat.le_of_ble_eq_true rfl) ⟨Nat.le_of_ble_eq_true rfl, Nat.le_of_ble_eq_true rfl⟩ gT dF_read_12 (fun H locs hP hD hS => ?_)
  refine lv_istore_n (lv' := [(2, .int (dn_lineCount f)), (1, .int (dn_wrongPlace f)), (0, .ref (al 0))]) hx hb dF_read_15 rfl hl (by decide) rfl (fun ls hl => ?_)
  refine lv_iload_n hx hb dF_read_16 rfl (lv_at hl 0 rfl) ?_
  refine lv_bipush (v := 12) hx hb dF_read_17 (by decide) ?_
  refine lv_aload_n hx hb dF_read_19 rfl (lv_at hl 2 rfl) ?_
  refine gf_F_25 C hP dF_read_20 ?_
  refine lv_isub hx hb dF_read_23 ?_
  refine lv_icmp_gt (tgt := 31) hx hb dF_read_24 (by decide) (fun c_24 => ?_) (fun c_24 => ?_)
  · skip
    refine lv_iconst (v := 0) hx hb dF_read_31 (by decide) ?_
    refine lv_istore_n (lv' := [(3, .int 0), (2, .int (dn_lineCount f)), (1, .int (dn_wrongPlace f)), (0, .ref (al 0))]) hx hb dF_read_32 rfl hl (by decide) rfl (fun ls hl => ?_)
    refine lv_iload_n hx hb dF_read_33 rfl (lv_at hl 2 rfl) ?_
    refine lv_iconst (v := (-1)) hx hb dF_read_34 (by decide) ?_
    refine lv_icmp_ne (tgt := 47) hx hb dF_read_35 (by decide) (fun c_35 => ?_) (fun c_35 => ?_)
    · skip
      refine lv_aload_n hx hb dF_read_47 rfl (lv_at hl 3 rfl) ?_
      refine gf_F_41 C hP dF_read_48 ?_
      refine lv_iconst (v := 0) hx hb dF_read_51 (by decide) ?_
      refine pf_F_98 C hP hD hS dF_read_52 (fun H locs hP hD hS => ?_)
      refine lv_iload_n hx hb dF_read_55 rfl (lv_at hl 2 rfl) ?_
      refine lv_iconst (v := (-1)) hx hb dF_read_56 (by decide) ?_
      refine lv_icmp_eq (tgt := 64) hx hb dF_read_57 (by decide) (fun c_57 => fr_no c_57 c_35) (fun c_57 => ?_)
      refine lv_iconst (v := (-1)) hx hb dF_read_60 (by decide) ?_
      refine lv_iload_n hx hb dF_read_61 rfl (lv_at hl 2 rfl) ?_
      refine lv_isub hx hb dF_read_62 ?_
      have hd_ : dn_read f = (none, (-1) - (dn_wrongPlace f), fr_up f 0 5 0) := by rw [dn_read, if_pos c_24, if_neg c_35]
      rw [hd_]
      refine fr_xret rfl ?_
      refine W.widen (k := 1) (n := 6) (by decide) (by decide) ?_
      exact fr_iret C hP hD hS rfl dF_read_63
    · skip
      refine lv_iload_n hx hb dF_read_38 rfl (lv_at hl 0 rfl) ?_
      refine lv_if_eq (tgt := 47) hx hb dF_read_39 (by decide) (fun c_39 => ?_) (fun c_39 => absurd c_39 (by decide))
      refine lv_aload_n hx hb dF_read_47 rfl (lv_at hl 3 rfl) ?_
      refine gf_F_41 C hP dF_read_48 ?_
      refine lv_iconst (v := 0) hx hb dF_read_51 (by decide) ?_
      refine pf_F_98 C hP hD hS dF_read_52 (fun H locs hP hD hS => ?_)
      refine lv_iload_n hx hb dF_read_55 rfl (lv_at hl 2 rfl) ?_
      refine lv_iconst (v := (-1)) hx hb dF_read_56 (by decide) ?_
      refine lv_icmp_eq (tgt := 64) hx hb dF_read_57 (by decide) (fun c_57 => ?_) (fun c_57 => fr_no c_35 c_57)
      refine lv_iload_n hx hb dF_read_64 rfl (lv_at hl 0 rfl) ?_
      refine lv_if_ne (tgt := 78) hx hb dF_read_65 (by decide) (fun c_65 => absurd c_65 (by decide)) (fun c_65 => ?_)
      have hd_ : dn_read f = (some "java/lang/UnsupportedOperationException", 0, fr_up f 0 5 0) := by rw [dn_read, if_pos c_24, if_pos c_35]
      rw [hd_]
      obtain ⟨sa, hsa⟩ := fr_str hown (hN _ str_F_117).2
      exact th_UOE C hl.1 hls hS hsa (Nat.le_of_ble_eq_true rfl) (Nat.le_of_ble_eq_true rfl) (Nat.le_of_ble_eq_true rfl) (Nat.le_of_ble_eq_true rfl) dF_read_68 dF_read_71 dF_read_72 dF_read_74 dF_read_77 (fr_xthrow rfl hK hP hD hS rfl rfl)
  · skip
    refine lv_iconst (v := 1) hx hb dF_read_27 (by decide) ?_
    refine lv_goto (tgt := 32) hx hb dF_read_28 (by decide) ?_
    refine lv_istore_n (lv' := [(3, .int 1), (2, .int (dn_lineCount f)), (1, .int (dn_wrongPlace f)), (0, .ref (al 0))]) hx hb dF_read_32 rfl hl (by decide) rfl (fun ls hl => ?_)
    refine lv_iload_n hx hb dF_read_33 rfl (lv_at hl 2 rfl) ?_
    refine lv_iconst (v := (-1)) hx hb dF_read_34 (by decide) ?_
    refine lv_icmp_ne (tgt := 47) hx hb dF_read_35 (by decide) (fun c_35 => ?_) (fun c_35 => ?_)
    · skip
      refine lv_aload_n hx hb dF_read_47 rfl (lv_at hl 3 rfl) ?_
      refine gf_F_41 C hP dF_read_48 ?_
      refine lv_iconst (v := 0) hx hb dF_read_51 (by decide) ?_
      refine pf_F_98 C hP hD hS dF_read_52 (fun H locs hP hD hS => ?_)
      refine lv_iload_n hx hb dF_read_55 rfl (lv_at hl 2 rfl) ?_
      refine lv_iconst (v := (-1)) hx hb dF_read_56 (by decide) ?_
      refine lv_icmp_eq (tgt := 64) hx hb dF_read_57 (by decide) (fun c_57 => fr_no c_57 c_35) (fun c_57 => ?_)
      refine lv_iconst (v := (-1)) hx hb dF_read_60 (by decide) ?_
      refine lv_iload_n hx hb dF_read_61 rfl (lv_at hl 2 rfl) ?_
      refine lv_isub hx hb dF_read_62 ?_
      have hd_ : dn_read f = (none, (-1) - (dn_wrongPlace f), fr_up f 0 5 0) := by rw [dn_read, if_neg c_24, if_neg c_35]
      rw [hd_]
      refine fr_xret rfl ?_
      refine W.widen (k := 1) (n := 6) (by decide) (by decide) ?_
      exact fr_iret C hP hD hS rfl dF_read_63
    · skip
      refine lv_iload_n hx hb dF_read_38 rfl (lv_at hl 0 rfl) ?_
      refine lv_if_eq (tgt := 47) hx hb dF_read_39 (by decide) (fun c_39 => absurd c_39 (by decide)) (fun c_39 => ?_)
      refine lv_aload_n hx hb dF_read_42 rfl (lv_at hl 3 rfl) ?_
      refine lv_iload_n hx hb dF_read_43 rfl (lv_at hl 1 rfl) ?_
      refine cl_F_113 C hP hD hS hl.1 ⟨Nat.le_of_ble_eq_true rfl, Nat.le_of_ble_eq_true rfl⟩ (Nat.le_of_ble_eq_true rfl) ⟨Nat.le_of_ble_eq_true rfl, Nat.le_of_ble_eq_true rfl⟩ gT (fr_rd gT gR c_24) dF_read_44 (fun H locs hP hD hS => ?_)
      refine lv_aload_n hx hb dF_read_47 rfl (lv_at hl 3 rfl) ?_
      refine gf_F_41 C hP dF_read_48 ?_
      refine lv_iconst (v := 0) hx hb dF_read_51 (by decide) ?_
      refine pf_F_98 C hP hD hS dF_read_52 (fun H locs hP hD hS => ?_)
      refine lv_iload_n hx hb dF_read_55 rfl (lv_at hl 2 rfl) ?_
      refine lv_iconst (v := (-1)) hx hb dF_read_56 (by decide) ?_
      refine lv_icmp_eq (tgt := 64) hx hb dF_read_57 (by decide) (fun c_57 => ?_) (fun c_57 => fr_no c_35 c_57)
      refine lv_iload_n hx hb dF_read_64 rfl (lv_at hl 0 rfl) ?_
      refine lv_if_ne (tgt := 78) hx hb dF_read_65 (by decide) (fun c_65 => ?_) (fun c_65 => absurd c_65 (by decide))
      refine lv_aload_n hx hb dF_read_78 rfl (lv_at hl 3 rfl) ?_
      refine gf_F_25 C hP dF_read_79 ?_
      refine W.eq (g2 := F0 m 82 ls [.int ((dn_addLines f (dn_lineCount f)) 0 1)]) (by first | rfl | simp [fr_up, fr_row]) ?_
      have hd_ : dn_read f = (none, (dn_addLines f (dn_lineCount f)) 0 1, fr_up (dn_addLines f (dn_lineCount f)) 0 5 0) := by rw [dn_read, if_neg c_24, if_pos c_35]
      rw [hd_]
      refine fr_xret rfl ?_
      refine W.widen (k := 1) (n := 6) (by decide) (by decide) ?_
      exact fr_iret C hP hD hS rfl dF_read_82

theorem cl_F_119 {p : Program} {l : Launch} {e : Env} {R : Room} {s : State} {m : MethodId} {args : Array Value} {below : List Frame} {meth : Method} {c : Code} {H : Heap} {locs : List Loc} {cells slots : Nat} {Q : State → Prop} {D : va_G} {A : Nat → Prop} {cc : ByteArray} {nL pc : Nat} {ret : Option FieldType} {hh : List ExceptionTableEntry} {ls : Array Slot} {rest : List Value} {ka : Nat → ClassId} {al : Nat → Nat} {f : Nat → Nat → Int32} {Z : va_W} {x : Int32} (C : fr_Cx p s m args meth c "FragileRules" cc nL ret hh fr_tbl fr_nw D vwCl (fr_ty ka) A) (hP : va_P D vwCl (fr_cw ka al f Z) H) (hD : va_D A (fr_cw ka al f Z)) (hS : va_S A s.heap H locs) (hsz : ls.size = nL) (hR : 0 + 1 ≤ R.frames ∧ 8 + (2 + 11) + 0 ≤ R.locals) (hw : (rest.map fun v => v.category).sum ≤ 8) (hf : cells + 0 ≤ R.cells ∧ slots + 0 ≤ R.slots) (hdg : decode cc pc = .ok (.invokevirtual 119, 3)) (kk : ∀ (H : Heap) (locs : List Loc), va_P D vwCl (fr_cw ka al f Z) H → va_D A (fr_cw ka al f Z) → va_S A s.heap H locs → W p l e R s m args below meth c H locs (cells + 0) (slots + 0) Q (F0 m (pc + 3) ls (.int (dn_isUnit f x) :: rest))) : W p l e R s m args below meth c H locs cells slots Q (F0 m pc ls (.int x :: .ref (al 0) :: rest)) :=
  fr_callVi (As := [.int x]) C hP hD hS (c_isUnit l D ka al Z f x) (cwV 1 C.2.2.2.2.1 (fr_goodV ml_F_119 mi_isUnit msel_isUnit mini_F mc_isUnit) rfl rfl rfl (by decide +kernel) hR) (va_recv C.2.2.2.2.2.1 hP (ci := 0) (q0 := 0) rfl rfl) rfl hsz hw hdg hf kk
theorem cl_F_135 {p : Program} {l : Launch} {e : Env} {R : Room} {s : State} {m : MethodId} {args : Array Value} {below : List Frame} {meth : Method} {c : Code} {H : Heap} {locs : List Loc} {cells slots : Nat} {Q : State → Prop} {D : va_G} {A : Nat → Prop} {cc : ByteArray} {nL pc : Nat} {ret : Option FieldType} {hh : List ExceptionTableEntry} {ls : Array Slot} {rest : List Value} {ka : Nat → ClassId} {al : Nat → Nat} {f : Nat → Nat → Int32} {Z : va_W} {y : Int32} {u : Nat} {v : Nat} {x : Int32} (C : fr_Cx p s m args meth c "FragileRules" cc nL ret hh fr_tbl fr_nw D vwCl (fr_ty ka) A) (hP : va_P D vwCl (fr_cw ka al f Z) H) (hD : va_D A (fr_cw ka al f Z)) (hS : va_S A s.heap H locs) (hsz : ls.size = nL) (hR : 4 + 1 ≤ R.frames ∧ 8 + (6 + 11) + 94 ≤ R.locals) (hw : (rest.map fun v => v.category).sum ≤ 8) (hf : cells + 0 ≤ R.cells ∧ slots + 0 ≤ R.slots) (hu : u < 10) (hv : v < 10) (gR : 0 ≤ (f 0 1).toInt ∧ (f 0 1).toInt ≤ 12) (gO : fr_ord f) (hdg : decode cc pc = .ok (.invokevirtual 135, 3)) (kk : ∀ (H : Heap) (locs : List Loc), va_P D vwCl (fr_cw ka al ((dn_verdict f y u v x).2) Z) H → va_D A (fr_cw ka al ((dn_verdict f y u v x).2) Z) → va_S A s.heap H locs → W p l e R s m args below meth c H locs (cells + 0) (slots + 0) Q (F0 m (pc + 3) ls (.int ((dn_verdict f y u v x).1) :: rest))) : W p l e R s m args below meth c H locs cells slots Q (F0 m pc ls (.int x :: .ref (al (7 + v)) :: .ref (al (7 + u)) :: .int y :: .ref (al 0) :: rest)) :=
  fr_callVi (As := [.int y, .ref (al (7 + u)), .ref (al (7 + v)), .int x]) C hP hD hS (c_verdict l D ka al Z f y u v x hu hv gR gO) (cwV 4 C.2.2.2.2.1 (fr_goodV ml_F_135 mi_verdict msel_verdict mini_F mc_verdict) rfl rfl rfl (by decide +kernel) hR) (va_recv C.2.2.2.2.2.1 hP (ci := 0) (q0 := 0) rfl rfl) rfl hsz hw hdg hf kk
def dn_may (f : Nat → Nat → Int32) (x : Int32) (y : Int32) (k : Int32) : Option String × Int32 × (Nat → Nat → Int32) := if (dn_isUnit f x) = 0 then (some "java/util/NoSuchElementException", 0, f) else (if (dn_isUnit f y) = 0 then (some "java/util/NoSuchElementException", 0, f) else (if (dn_within k 9) = 0 then (some "java/lang/IllegalArgumentException", 0, f) else (if x = y then (some "java/lang/IllegalStateException", 0, f) else (none, (dn_verdict f 0 x.toNatClampNeg y.toNatClampNeg k).1, (dn_verdict f 0 x.toNatClampNeg y.toNatClampNeg k).2))))
set_option maxHeartbeats 4000000 in
set_option maxRecDepth 100000 in
theorem c_may (l : Launch) (hls : l.stackTraces = false) (D : va_G) (ka : Nat → ClassId) (al : Nat → Nat) (Z : va_W) (f : Nat → Nat → Int32) (x : Int32) (y : Int32) (k : Int32) (gU : 0 ≤ (f 0 0).toInt ∧ (f 0 0).toInt ≤ 10) (gR : 0 ≤ (f 0 1).toInt ∧ (f 0 1).toInt ≤ 12) (gO : fr_ord f) : fr_Mx (fr_Qi D vwCl (fr_ty ka)) l y_may (.code y_may prog_1_method_7_code 4 (some .int) :: fr_tbl) { frames := 6, cells := 1, slots := 6, locals := 119 } D vwCl (fr_ty ka) fr_nw [.ref (al 0), .int x, .int y, .int k] (fr_cw ka al f Z) (dn_may f x y k).1 (dn_may f x y k).2.1 (fr_cw ka al ((dn_may f x y k).2.2) Z) 1 6 := by
  refine fr_Mx.of (by decide) (Nat.le_of_ble_eq_true rfl) ?_
  intro p e s m below meth c A H locs ls C hP hD hS hl
  obtain ⟨hx, hb, hml, hown, ht, hK, hlocks, hr, hA, hN, hZ, hEx⟩ := id C
  have hl : lv_has ls 4 [(0, .ref (al 0)), (1, .int x), (2, .int y), (3, .int k)] := hl
  refine lv_aload_n hx hb dF_may_0 rfl (lv_at hl 0 rfl) ?_
  refine lv_iload_n hx hb dF_may_1 rfl (lv_at hl 1 rfl) ?_
  refine cl_F_119 C hP hD hS hl.1 ⟨Nat.le_of_ble_eq_true rfl, Nat.le_of_ble_eq_true rfl⟩ (Nat.le_of_ble_eq_true rfl) ⟨Nat.le_of_ble_eq_true rfl, Nat.le_of_ble_eq_true rfl⟩ dF_may_2 (fun H locs hP hD hS => ?_)
  refine lv_if_eq (tgt := 16) hx hb dF_may_5 (by decide) (fun c_5 => ?_) (fun c_5 => ?_)
  · skip
    have hd_ : dn_may f x y k = (some "java/util/NoSuchElementException", 0, f) := by rw [dn_may, if_pos c_5]
    rw [hd_]
    obtain ⟨sa, hsa⟩ := fr_str hown (hN _ str_F_125).2
    exact th_NSE C hl.1 hls hS hsa (Nat.le_of_ble_eq_true rfl) (Nat.le_of_ble_eq_true rfl) (Nat.le_of_ble_eq_true rfl) (Nat.le_of_ble_eq_true rfl) dF_may_16 dF_may_19 dF_may_20 dF_may_22 dF_may_25 (fr_xthrow rfl hK hP hD hS rfl rfl)
  · skip
    refine lv_aload_n hx hb dF_may_8 rfl (lv_at hl 0 rfl) ?_
    refine lv_iload_n hx hb dF_may_9 rfl (lv_at hl 2 rfl) ?_
    refine cl_F_119 C hP hD hS hl.1 ⟨Nat.le_of_ble_eq_true rfl, Nat.le_of_ble_eq_true rfl⟩ (Nat.le_of_ble_eq_true rfl) ⟨Nat.le_of_ble_eq_true rfl, Nat.le_of_ble_eq_true rfl⟩ dF_may_10 (fun H locs hP hD hS => ?_)
    refine lv_if_ne (tgt := 26) hx hb dF_may_13 (by decide) (fun c_13 => ?_) (fun c_13 => ?_)
    · skip
      refine lv_iload_n hx hb dF_may_26 rfl (lv_at hl 3 rfl) ?_
      refine lv_bipush (v := 9) hx hb dF_may_27 (by decide) ?_
      refine cl_F_53 C hP hD hS hl.1 ⟨Nat.le_of_ble_eq_true rfl, Nat.le_of_ble_eq_true rfl⟩ (Nat.le_of_ble_eq_true rfl) ⟨Nat.le_of_ble_eq_true rfl, Nat.le_of_ble_eq_true rfl⟩ dF_may_29 (fun H locs hP hD hS => ?_)
      refine lv_if_ne (tgt := 45) hx hb dF_may_32 (by decide) (fun c_32 => ?_) (fun c_32 => ?_)
      · skip
        refine lv_iload_n hx hb dF_may_45 rfl (lv_at hl 1 rfl) ?_
        refine lv_iload_n hx hb dF_may_46 rfl (lv_at hl 2 rfl) ?_
        refine lv_icmp_ne (tgt := 60) hx hb dF_may_47 (by decide) (fun c_47 => ?_) (fun c_47 => ?_)
        · skip
          refine lv_aload_n hx hb dF_may_60 rfl (lv_at hl 0 rfl) ?_
          refine lv_iconst (v := 0) hx hb dF_may_61 (by decide) ?_
          refine lv_aload_n hx hb dF_may_62 rfl (lv_at hl 0 rfl) ?_
          refine gf_F_11 C hP dF_may_63 ?_
          refine lv_iload_n hx hb dF_may_66 rfl (lv_at hl 1 rfl) ?_
          have hin_67 : vp_in x 10 := by have q0 := fr_t6 c_5; have q1 := fr_t6 c_13; have q2 := fr_t6 c_32; have q3 := fr_t6 c_47; have z0 : (0 : Int32).toInt = 0 := rfl; have e0 := fr_isU c_5; have e1 := gU; skip; rw [vp_in_iff]; omega
          refine ald_aU C hP hin_67 dF_may_67 ?_
          refine lv_aload_n hx hb dF_may_68 rfl (lv_at hl 0 rfl) ?_
          refine gf_F_11 C hP dF_may_69 ?_
          refine lv_iload_n hx hb dF_may_72 rfl (lv_at hl 2 rfl) ?_
          have hin_73 : vp_in y 10 := by have q0 := fr_t6 c_5; have q1 := fr_t6 c_13; have q2 := fr_t6 c_32; have q3 := fr_t6 c_47; have z0 : (0 : Int32).toInt = 0 := rfl; have e0 := fr_isU c_13; have e1 := gU; skip; rw [vp_in_iff]; omega
          refine ald_aU C hP hin_73 dF_may_73 ?_
          refine lv_iload_n hx hb dF_may_74 rfl (lv_at hl 3 rfl) ?_
          refine cl_F_135 C hP hD hS hl.1 ⟨Nat.le_of_ble_eq_true rfl, Nat.le_of_ble_eq_true rfl⟩ (Nat.le_of_ble_eq_true rfl) ⟨Nat.le_of_ble_eq_true rfl, Nat.le_of_ble_eq_true rfl⟩ (fr_lt hin_67) (fr_lt hin_73) gR gO dF_may_75 (fun H locs hP hD hS => ?_)
          have hd_ : dn_may f x y k = (none, (dn_verdict f 0 x.toNatClampNeg y.toNatClampNeg k).1, (dn_verdict f 0 x.toNatClampNeg y.toNatClampNeg k).2) := by rw [dn_may, if_neg c_5, if_neg c_13, if_neg c_32, if_neg c_47]
          rw [hd_]
          refine fr_xret rfl ?_
          refine W.widen (k := 1) (n := 6) (by decide) (by decide) ?_
          exact fr_iret C hP hD hS rfl dF_may_78
        · skip
          have hd_ : dn_may f x y k = (some "java/lang/IllegalStateException", 0, f) := by rw [dn_may, if_neg c_5, if_neg c_13, if_neg c_32, if_pos c_47]
          rw [hd_]
          obtain ⟨sa, hsa⟩ := fr_str hown (hN _ str_F_132).2
          exact th_ISE C hl.1 hls hS hsa (Nat.le_of_ble_eq_true rfl) (Nat.le_of_ble_eq_true rfl) (Nat.le_of_ble_eq_true rfl) (Nat.le_of_ble_eq_true rfl) dF_may_50 dF_may_53 dF_may_54 dF_may_56 dF_may_59 (fr_xthrow rfl hK hP hD hS rfl rfl)
      · skip
        have hd_ : dn_may f x y k = (some "java/lang/IllegalArgumentException", 0, f) := by rw [dn_may, if_neg c_5, if_neg c_13, if_pos c_32]
        rw [hd_]
        obtain ⟨sa, hsa⟩ := fr_str hown (hN _ str_F_128).2
        exact th_IAE C hl.1 hls hS hsa (Nat.le_of_ble_eq_true rfl) (Nat.le_of_ble_eq_true rfl) (Nat.le_of_ble_eq_true rfl) (Nat.le_of_ble_eq_true rfl) dF_may_35 dF_may_38 dF_may_39 dF_may_41 dF_may_44 (fr_xthrow rfl hK hP hD hS rfl rfl)
    · skip
      have hd_ : dn_may f x y k = (some "java/util/NoSuchElementException", 0, f) := by rw [dn_may, if_neg c_5, if_pos c_13]
      rw [hd_]
      obtain ⟨sa, hsa⟩ := fr_str hown (hN _ str_F_125).2
      exact th_NSE C hl.1 hls hS hsa (Nat.le_of_ble_eq_true rfl) (Nat.le_of_ble_eq_true rfl) (Nat.le_of_ble_eq_true rfl) (Nat.le_of_ble_eq_true rfl) dF_may_16 dF_may_19 dF_may_20 dF_may_22 dF_may_25 (fr_xthrow rfl hK hP hD hS rfl rfl)

def dn_together (f : Nat → Nat → Int32) (x : Int32) (y : Int32) : Option String × Int32 × (Nat → Nat → Int32) := if (dn_isUnit f x) = 0 then (some "java/util/NoSuchElementException", 0, f) else (if (dn_isUnit f y) = 0 then (some "java/util/NoSuchElementException", 0, f) else (if x = y then (some "java/lang/IllegalStateException", 0, f) else (none, (dn_verdict f 1 x.toNatClampNeg y.toNatClampNeg 0).1, (dn_verdict f 1 x.toNatClampNeg y.toNatClampNeg 0).2)))
set_option maxHeartbeats 4000000 in
set_option maxRecDepth 100000 in
theorem c_together (l : Launch) (hls : l.stackTraces = false) (D : va_G) (ka : Nat → ClassId) (al : Nat → Nat) (Z : va_W) (f : Nat → Nat → Int32) (x : Int32) (y : Int32) (gU : 0 ≤ (f 0 0).toInt ∧ (f 0 0).toInt ≤ 10) (gR : 0 ≤ (f 0 1).toInt ∧ (f 0 1).toInt ≤ 12) (gO : fr_ord f) : fr_Mx (fr_Qi D vwCl (fr_ty ka)) l y_together (.code y_together prog_1_method_8_code 3 (some .int) :: fr_tbl) { frames := 6, cells := 1, slots := 6, locals := 119 } D vwCl (fr_ty ka) fr_nw [.ref (al 0), .int x, .int y] (fr_cw ka al f Z) (dn_together f x y).1 (dn_together f x y).2.1 (fr_cw ka al ((dn_together f x y).2.2) Z) 1 6 := by
  refine fr_Mx.of (by decide) (Nat.le_of_ble_eq_true rfl) ?_
  intro p e s m below meth c A H locs ls C hP hD hS hl
  obtain ⟨hx, hb, hml, hown, ht, hK, hlocks, hr, hA, hN, hZ, hEx⟩ := id C
  have hl : lv_has ls 3 [(0, .ref (al 0)), (1, .int x), (2, .int y)] := hl
  refine lv_aload_n hx hb dF_together_0 rfl (lv_at hl 0 rfl) ?_
  refine lv_iload_n hx hb dF_together_1 rfl (lv_at hl 1 rfl) ?_
  refine cl_F_119 C hP hD hS hl.1 ⟨Nat.le_of_ble_eq_true rfl, Nat.le_of_ble_eq_true rfl⟩ (Nat.le_of_ble_eq_true rfl) ⟨Nat.le_of_ble_eq_true rfl, Nat.le_of_ble_eq_true rfl⟩ dF_together_2 (fun H locs hP hD hS => ?_)
  refine lv_if_eq (tgt := 16) hx hb dF_together_5 (by decide) (fun c_5 => ?_) (fun c_5 => ?_)
  · skip
    have hd_ : dn_together f x y = (some "java/util/NoSuchElementException", 0, f) := by rw [dn_together, if_pos c_5]
    rw [hd_]
    obtain ⟨sa, hsa⟩ := fr_str hown (hN _ str_F_125).2
    exact th_NSE C hl.1 hls hS hsa (Nat.le_of_ble_eq_true rfl) (Nat.le_of_ble_eq_true rfl) (Nat.le_of_ble_eq_true rfl) (Nat.le_of_ble_eq_true rfl) dF_together_16 dF_together_19 dF_together_20 dF_together_22 dF_together_25 (fr_xthrow rfl hK hP hD hS rfl rfl)
  · skip
    refine lv_aload_n hx hb dF_together_8 rfl (lv_at hl 0 rfl) ?_
    refine lv_iload_n hx hb dF_together_9 rfl (lv_at hl 2 rfl) ?_
    refine cl_F_119 C hP hD hS hl.1 ⟨Nat.le_of_ble_eq_true rfl, Nat.le_of_ble_eq_true rfl⟩ (Nat.le_of_ble_eq_true rfl) ⟨Nat.le_of_ble_eq_true rfl, Nat.le_of_ble_eq_true rfl⟩ dF_together_10 (fun H locs hP hD hS => ?_)
    refine lv_if_ne (tgt := 26) hx hb dF_together_13 (by decide) (fun c_13 => ?_) (fun c_13 => ?_)
    · skip
      refine lv_iload_n hx hb dF_together_26 rfl (lv_at hl 1 rfl) ?_
      refine lv_iload_n hx hb dF_together_27 rfl (lv_at hl 2 rfl) ?_
      refine lv_icmp_ne (tgt := 41) hx hb dF_together_28 (by decide) (fun c_28 => ?_) (fun c_28 => ?_)
      · skip
        refine lv_aload_n hx hb dF_together_41 rfl (lv_at hl 0 rfl) ?_
        refine lv_iconst (v := 1) hx hb dF_together_42 (by decide) ?_
        refine lv_aload_n hx hb dF_together_43 rfl (lv_at hl 0 rfl) ?_
        refine gf_F_11 C hP dF_together_44 ?_
        refine lv_iload_n hx hb dF_together_47 rfl (lv_at hl 1 rfl) ?_
        have hin_48 : vp_in x 10 := by have q0 := fr_t6 c_5; have q1 := fr_t6 c_13; have q2 := fr_t6 c_28; have z0 : (0 : Int32).toInt = 0 := rfl; have e0 := fr_isU c_5; have e1 := gU; skip; rw [vp_in_iff]; omega
        refine ald_aU C hP hin_48 dF_together_48 ?_
        refine lv_aload_n hx hb dF_together_49 rfl (lv_at hl 0 rfl) ?_
        refine gf_F_11 C hP dF_together_50 ?_
        refine lv_iload_n hx hb dF_together_53 rfl (lv_at hl 2 rfl) ?_
        have hin_54 : vp_in y 10 := by have q0 := fr_t6 c_5; have q1 := fr_t6 c_13; have q2 := fr_t6 c_28; have z0 : (0 : Int32).toInt = 0 := rfl; have e0 := fr_isU c_13; have e1 := gU; skip; rw [vp_in_iff]; omega
        refine ald_aU C hP hin_54 dF_together_54 ?_
        refine lv_iconst (v := 0) hx hb dF_together_55 (by decide) ?_
        refine cl_F_135 C hP hD hS hl.1 ⟨Nat.le_of_ble_eq_true rfl, Nat.le_of_ble_eq_true rfl⟩ (Nat.le_of_ble_eq_true rfl) ⟨Nat.le_of_ble_eq_true rfl, Nat.le_of_ble_eq_true rfl⟩ (fr_lt hin_48) (fr_lt hin_54) gR gO dF_together_56 (fun H locs hP hD hS => ?_)
        have hd_ : dn_together f x y = (none, (dn_verdict f 1 x.toNatClampNeg y.toNatClampNeg 0).1, (dn_verdict f 1 x.toNatClampNeg y.toNatClampNeg 0).2) := by rw [dn_together, if_neg c_5, if_neg c_13, if_neg c_28]
        rw [hd_]
        refine fr_xret rfl ?_
        refine W.widen (k := 1) (n := 6) (by decide) (by decide) ?_
        exact fr_iret C hP hD hS rfl dF_together_59
      · skip
        have hd_ : dn_together f x y = (some "java/lang/IllegalStateException", 0, f) := by rw [dn_together, if_neg c_5, if_neg c_13, if_pos c_28]
        rw [hd_]
        obtain ⟨sa, hsa⟩ := fr_str hown (hN _ str_F_132).2
        exact th_ISE C hl.1 hls hS hsa (Nat.le_of_ble_eq_true rfl) (Nat.le_of_ble_eq_true rfl) (Nat.le_of_ble_eq_true rfl) (Nat.le_of_ble_eq_true rfl) dF_together_31 dF_together_34 dF_together_35 dF_together_37 dF_together_40 (fr_xthrow rfl hK hP hD hS rfl rfl)
    · skip
      have hd_ : dn_together f x y = (some "java/util/NoSuchElementException", 0, f) := by rw [dn_together, if_neg c_5, if_pos c_13]
      rw [hd_]
      obtain ⟨sa, hsa⟩ := fr_str hown (hN _ str_F_125).2
      exact th_NSE C hl.1 hls hS hsa (Nat.le_of_ble_eq_true rfl) (Nat.le_of_ble_eq_true rfl) (Nat.le_of_ble_eq_true rfl) (Nat.le_of_ble_eq_true rfl) dF_together_16 dF_together_19 dF_together_20 dF_together_22 dF_together_25 (fr_xthrow rfl hK hP hD hS rfl rfl)

def dn_mark (f : Nat → Nat → Int32) (x : Int32) (y : Int32) : Option String × Int32 × (Nat → Nat → Int32) := if (dn_isUnit f x) = 0 then (some "java/util/NoSuchElementException", 0, f) else (if (dn_isMark y) = 0 then (some "java/lang/IllegalArgumentException", 0, f) else (if (dn_has f x.toNatClampNeg y) = 0 then (if ((dn_verdict f 2 x.toNatClampNeg x.toNatClampNeg y).1) = 0 then (none, (dn_verdict f 2 x.toNatClampNeg x.toNatClampNeg y).1, fr_up ((dn_verdict f 2 x.toNatClampNeg x.toNatClampNeg y).2) 3 x.toNatClampNeg ((((dn_verdict f 2 x.toNatClampNeg x.toNatClampNeg y).2) 3 x.toNatClampNeg) ||| y)) else (none, (dn_verdict f 2 x.toNatClampNeg x.toNatClampNeg y).1, (dn_verdict f 2 x.toNatClampNeg x.toNatClampNeg y).2)) else (some "java/lang/IllegalStateException", 0, f)))
set_option maxHeartbeats 4000000 in
set_option maxRecDepth 100000 in
theorem c_mark (l : Launch) (hls : l.stackTraces = false) (D : va_G) (ka : Nat → ClassId) (al : Nat → Nat) (Z : va_W) (f : Nat → Nat → Int32) (x : Int32) (y : Int32) (gU : 0 ≤ (f 0 0).toInt ∧ (f 0 0).toInt ≤ 10) (gR : 0 ≤ (f 0 1).toInt ∧ (f 0 1).toInt ≤ 12) (gO : fr_ord f) : fr_Mx (fr_Qi D vwCl (fr_ty ka)) l y_mark (.code y_mark prog_1_method_9_code 5 (some .int) :: fr_tbl) { frames := 6, cells := 1, slots := 6, locals := 119 } D vwCl (fr_ty ka) fr_nw [.ref (al 0), .int x, .int y] (fr_cw ka al f Z) (dn_mark f x y).1 (dn_mark f x y).2.1 (fr_cw ka al ((dn_mark f x y).2.2) Z) 1 6 := by
  refine fr_Mx.of (by decide) (Nat.le_of_ble_eq_true rfl) ?_
  intro p e s m below meth c A H locs ls C hP hD hS hl
  obtain ⟨hx, hb, hml, hown, ht, hK, hlocks, hr, hA, hN, hZ, hEx⟩ := id C
  have hl : lv_has ls 5 [(0, .ref (al 0)), (1, .int x), (2, .int y)] := hl
  refine lv_aload_n hx hb dF_mark_0 rfl (lv_at hl 0 rfl) ?_
  refine lv_iload_n hx hb dF_mark_1 rfl (lv_at hl 1 rfl) ?_
  refine cl_F_119 C hP hD hS hl.1 ⟨Nat.le_of_ble_eq_true rfl, Nat.le_of_ble_eq_true rfl⟩ (Nat.le_of_ble_eq_true rfl) ⟨Nat.le_of_ble_eq_true rfl, Nat.le_of_ble_eq_true rfl⟩ dF_mark_2 (fun H locs hP hD hS => ?_)
  refine lv_if_ne (tgt := 18) hx hb dF_mark_5 (by decide) (fun c_5 => ?_) (fun c_5 => ?_)
  · skip
    refine lv_iload_n hx hb dF_mark_18 rfl (lv_at hl 2 rfl) ?_
    refine cl_F_139 C hP hD hS hl.1 ⟨Nat.le_of_ble_eq_true rfl, Nat.le_of_ble_eq_true rfl⟩ (Nat.le_of_ble_eq_true rfl) ⟨Nat.le_of_ble_eq_true rfl, Nat.le_of_ble_eq_true rfl⟩ dF_mark_19 (fun H locs hP hD hS => ?_)
    refine lv_if_ne (tgt := 35) hx hb dF_mark_22 (by decide) (fun c_22 => ?_) (fun c_22 => ?_)
    · skip
      refine lv_aload_n hx hb dF_mark_35 rfl (lv_at hl 0 rfl) ?_
      refine gf_F_11 C hP dF_mark_36 ?_
      refine lv_iload_n hx hb dF_mark_39 rfl (lv_at hl 1 rfl) ?_
      have hin_40 : vp_in x 10 := by have q0 := fr_t6 c_5; have q1 := fr_t6 c_22; have z0 : (0 : Int32).toInt = 0 := rfl; have e0 := fr_isU c_5; have e1 := gU; skip; rw [vp_in_iff]; omega
      refine ald_aU C hP hin_40 dF_mark_40 ?_
      refine lv_astore_n (lv' := [(3, .ref (al (7 + x.toNatClampNeg))), (0, .ref (al 0)), (1, .int x), (2, .int y)]) hx hb dF_mark_41 rfl hl (by decide) rfl (fun ls hl => ?_)
      refine lv_aload_n hx hb dF_mark_42 rfl (lv_at hl 0 rfl) ?_
      refine lv_iload_n hx hb dF_mark_43 rfl (lv_at hl 3 rfl) ?_
      refine cl_F_144 C hP hD hS hl.1 ⟨Nat.le_of_ble_eq_true rfl, Nat.le_of_ble_eq_true rfl⟩ (Nat.le_of_ble_eq_true rfl) ⟨Nat.le_of_ble_eq_true rfl, Nat.le_of_ble_eq_true rfl⟩ (fr_lt hin_40) dF_mark_44 (fun H locs hP hD hS => ?_)
      refine lv_if_eq (tgt := 60) hx hb dF_mark_47 (by decide) (fun c_47 => ?_) (fun c_47 => ?_)
      · skip
        refine lv_aload_n hx hb dF_mark_60 rfl (lv_at hl 1 rfl) ?_
        refine lv_iconst (v := 2) hx hb dF_mark_61 (by decide) ?_
        refine lv_aload_n hx hb dF_mark_62 rfl (lv_at hl 0 rfl) ?_
        refine lv_aload_n hx hb dF_mark_63 rfl (lv_at hl 0 rfl) ?_
        refine lv_iload_n hx hb dF_mark_64 rfl (lv_at hl 3 rfl) ?_
        refine cl_F_135 C hP hD hS hl.1 ⟨Nat.le_of_ble_eq_true rfl, Nat.le_of_ble_eq_true rfl⟩ (Nat.le_of_ble_eq_true rfl) ⟨Nat.le_of_ble_eq_true rfl, Nat.le_of_ble_eq_true rfl⟩ (fr_lt hin_40) (fr_lt hin_40) gR gO dF_mark_65 (fun H locs hP hD hS => ?_)
        refine lv_istore (lv' := [(4, .int ((dn_verdict f 2 x.toNatClampNeg x.toNatClampNeg y).1)), (3, .ref (al (7 + x.toNatClampNeg))), (0, .ref (al 0)), (1, .int x), (2, .int y)]) hx hb dF_mark_68 hl (by decide) rfl (fun ls hl => ?_)
        refine lv_iload hx hb dF_mark_70 (lv_at hl 0 rfl) ?_
        refine lv_if_ne (tgt := 85) hx hb dF_mark_72 (by decide) (fun c_72 => ?_) (fun c_72 => ?_)
        · skip
          refine lv_iload hx hb dF_mark_85 (lv_at hl 0 rfl) ?_
          have hd_ : dn_mark f x y = (none, (dn_verdict f 2 x.toNatClampNeg x.toNatClampNeg y).1, (dn_verdict f 2 x.toNatClampNeg x.toNatClampNeg y).2) := by rw [dn_mark, if_neg c_5, if_neg c_22, if_pos c_47, if_neg c_72]
          rw [hd_]
          refine fr_xret rfl ?_
          refine W.widen (k := 1) (n := 6) (by decide) (by decide) ?_
          exact fr_iret C hP hD hS rfl dF_mark_87
        · skip
          refine lv_aload_n hx hb dF_mark_75 rfl (lv_at hl 1 rfl) ?_
          refine lv_dup hx hb dF_mark_76 rfl ?_
          refine gf_F_75 C hP (fr_lt hin_40) dF_mark_77 ?_
          refine lv_iload_n hx hb dF_mark_80 rfl (lv_at hl 4 rfl) ?_
          refine lv_ior hx hb dF_mark_81 ?_
          refine pf_F_75 C hP hD hS (fr_lt hin_40) dF_mark_82 (fun H locs hP hD hS => ?_)
          refine lv_iload hx hb dF_mark_85 (lv_at hl 0 rfl) ?_
          have hd_ : dn_mark f x y = (none, (dn_verdict f 2 x.toNatClampNeg x.toNatClampNeg y).1, fr_up ((dn_verdict f 2 x.toNatClampNeg x.toNatClampNeg y).2) 3 x.toNatClampNeg ((((dn_verdict f 2 x.toNatClampNeg x.toNatClampNeg y).2) 3 x.toNatClampNeg) ||| y)) := by rw [dn_mark, if_neg c_5, if_neg c_22, if_pos c_47, if_pos c_72]
          rw [hd_]
          refine fr_xret rfl ?_
          refine W.widen (k := 1) (n := 6) (by decide) (by decide) ?_
          exact fr_iret C hP hD hS rfl dF_mark_87
      · skip
        have hd_ : dn_mark f x y = (some "java/lang/IllegalStateException", 0, f) := by rw [dn_mark, if_neg c_5, if_neg c_22, if_neg c_47]
        rw [hd_]
        obtain ⟨sa, hsa⟩ := fr_str hown (hN _ str_F_147).2
        exact th_ISE C hl.1 hls hS hsa (Nat.le_of_ble_eq_true rfl) (Nat.le_of_ble_eq_true rfl) (Nat.le_of_ble_eq_true rfl) (Nat.le_of_ble_eq_true rfl) dF_mark_50 dF_mark_53 dF_mark_54 dF_mark_56 dF_mark_59 (fr_xthrow rfl hK hP hD hS rfl rfl)
    · skip
      have hd_ : dn_mark f x y = (some "java/lang/IllegalArgumentException", 0, f) := by rw [dn_mark, if_neg c_5, if_pos c_22]
      rw [hd_]
      obtain ⟨sa, hsa⟩ := fr_str hown (hN _ str_F_142).2
      exact th_IAE C hl.1 hls hS hsa (Nat.le_of_ble_eq_true rfl) (Nat.le_of_ble_eq_true rfl) (Nat.le_of_ble_eq_true rfl) (Nat.le_of_ble_eq_true rfl) dF_mark_25 dF_mark_28 dF_mark_29 dF_mark_31 dF_mark_34 (fr_xthrow rfl hK hP hD hS rfl rfl)
  · skip
    have hd_ : dn_mark f x y = (some "java/util/NoSuchElementException", 0, f) := by rw [dn_mark, if_pos c_5]
    rw [hd_]
    obtain ⟨sa, hsa⟩ := fr_str hown (hN _ str_F_125).2
    exact th_NSE C hl.1 hls hS hsa (Nat.le_of_ble_eq_true rfl) (Nat.le_of_ble_eq_true rfl) (Nat.le_of_ble_eq_true rfl) (Nat.le_of_ble_eq_true rfl) dF_mark_8 dF_mark_11 dF_mark_12 dF_mark_14 dF_mark_17 (fr_xthrow rfl hK hP hD hS rfl rfl)
