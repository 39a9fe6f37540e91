def dn_m_isNumber (f : Nat → Nat → Int32) (x : Int32) : Int32 := if x < 1 then 0 else (if (f 0 1) < x then 0 else 1)
set_option maxHeartbeats 4000000 in
set_option maxRecDepth 100000 in
theorem c_m_isNumber (l : Launch) (D : va_G) (ka : Nat → ClassId) (al : Nat → Nat) (Z : va_W) (f : Nat → Nat → Int32) (x : Int32) : fr_Mi l y_m_isNumber (.code y_m_isNumber prog_6_method_31_code 2 (some .boolean) :: fr_tbl) { frames := 0, cells := 0, slots := 0, locals := 0 } D vwCl (fr_ty ka) fr_nw [.ref (al 0), .int x] (fr_mw ka al f Z) (dn_m_isNumber f x) (fr_mw ka al f Z) 0 0 := by
  refine fr_Mi.of (by decide) (Nat.le_of_ble_eq_true rfl) ?_
  intro p e s m below meth c A H locs ls C hP hD hS hl
  obtain ⟨hx, hb, hml, hown, ht, hK, hlocks, hr, hA, hN, hZ, hEx⟩ := id C
  have hl : lv_has ls 2 [(0, .ref (al 0)), (1, .int x)] := hl
  refine lv_iload_n hx hb dM_isNumber_0 rfl (lv_at hl 1 rfl) ?_
  refine lv_iconst (v := 1) hx hb dM_isNumber_1 (by decide) ?_
  refine lv_icmp_lt (tgt := 17) hx hb dM_isNumber_2 (by decide) (fun c_2 => ?_) (fun c_2 => ?_)
  · skip
    refine lv_iconst (v := 0) hx hb dM_isNumber_17 (by decide) ?_
    have hd_ : dn_m_isNumber f x = 0 := by rw [dn_m_isNumber, if_pos c_2]
    exact fr_zret C hP hD hS hd_.symm (Or.inl rfl) dM_isNumber_18
  · skip
    refine lv_iload_n hx hb dM_isNumber_5 rfl (lv_at hl 1 rfl) ?_
    refine lv_aload_n hx hb dM_isNumber_6 rfl (lv_at hl 0 rfl) ?_
    refine gf_M_72 C hP dM_isNumber_7 ?_
    refine lv_icmp_gt (tgt := 17) hx hb dM_isNumber_10 (by decide) (fun c_10 => ?_) (fun c_10 => ?_)
    · skip
      refine lv_iconst (v := 0) hx hb dM_isNumber_17 (by decide) ?_
      have hd_ : dn_m_isNumber f x = 0 := by rw [dn_m_isNumber, if_neg c_2, if_pos c_10]
      exact fr_zret C hP hD hS hd_.symm (Or.inl rfl) dM_isNumber_18
    · skip
      refine lv_iconst (v := 1) hx hb dM_isNumber_13 (by decide) ?_
      refine lv_goto (tgt := 18) hx hb dM_isNumber_14 (by decide) ?_
      have hd_ : dn_m_isNumber f x = 1 := by rw [dn_m_isNumber, if_neg c_2, if_neg c_10]
      exact fr_zret C hP hD hS hd_.symm (Or.inr rfl) dM_isNumber_18
theorem bz_m_isNumber {f : Nat → Nat → Int32} {x : Int32} : dn_m_isNumber f x = 0 ∨ dn_m_isNumber f x = 1 := by
  unfold dn_m_isNumber
  repeat' split
  all_goals first | exact Or.inl rfl | exact Or.inr rfl | exact bz_m_ownRefuses
theorem mo_isN {f : Nat → Nat → Int32} {x : Int32} (h : ¬ dn_m_isNumber f x = 0) : 1 ≤ x.toInt ∧ x.toInt ≤ (f 0 1).toInt := by
  unfold dn_m_isNumber at h
  split at h
  · exact absurd rfl h
  · rename_i h1
    split at h
    · exact absurd rfl h
    · rename_i h2
      have q1 := fr_t2 h1
      have q2 := fr_t2 h2
      have z : (1 : Int32).toInt = 1 := rfl
      omega
theorem mo_at {f : Nat → Nat → Int32} {x : Int32} (gR : 0 ≤ (f 0 1).toInt ∧ (f 0 1).toInt ≤ 12) (gE : mo_all f) (h : ¬ dn_m_isNumber f x = 0) : mo_has f (x - 1) := by
  have h1 := mo_isN h
  have h2 := fr_sub1 h1.1
  exact gE _ (by omega) (by omega)

theorem cl_M_145 {p : Program} {l : Launch} {e : Env} {R : Room} {s : State} {m : MethodId} {args : Array Value} {below : List Frame} {meth : Method} {c : Code} {H : Heap} {locs : List Loc} {cells slots : Nat} {Q : State → Prop} {D : va_G} {A : Nat → Prop} {cc : ByteArray} {nL pc : Nat} {ret : Option FieldType} {hh : List ExceptionTableEntry} {ls : Array Slot} {rest : List Value} {ka : Nat → ClassId} {al : Nat → Nat} {f : Nat → Nat → Int32} {Z : va_W} {x : Int32} (C : fr_Cx p s m args meth c "FragileRulesModel" cc nL ret hh fr_tbl fr_nw D vwCl (fr_ty ka) A) (hP : va_P D vwCl (fr_mw ka al f Z) H) (hD : va_D A (fr_mw ka al f Z)) (hS : va_S A s.heap H locs) (hsz : ls.size = nL) (hR : 0 + 1 ≤ R.frames ∧ 8 + (2 + 11) + 0 ≤ R.locals) (hw : (rest.map fun v => v.category).sum ≤ 8) (hf : cells + 0 ≤ R.cells ∧ slots + 0 ≤ R.slots) (hdg : decode cc pc = .ok (.invokevirtual 145, 3)) (kk : ∀ (H : Heap) (locs : List Loc), va_P D vwCl (fr_mw ka al f Z) H → va_D A (fr_mw ka al f Z) → va_S A s.heap H locs → W p l e R s m args below meth c H locs (cells + 0) (slots + 0) Q (F0 m (pc + 3) ls (.int (dn_m_isNumber f x) :: rest))) : W p l e R s m args below meth c H locs cells slots Q (F0 m pc ls (.int x :: .ref (al 0) :: rest)) :=
  fr_callVi (As := [.int x]) C hP hD hS (c_m_isNumber l D ka al Z f x) (cwV 1 C.2.2.2.2.1 (fr_goodV ml_M_145 mi_m_isNumber msel_m_isNumber mini_M mc_m_isNumber) rfl rfl rfl (by decide +kernel) hR) (va_recv C.2.2.2.2.2.1 hP (ci := 4) (q0 := 0) rfl rfl) rfl hsz hw hdg hf kk
theorem cl_M_148 {p : Program} {l : Launch} {e : Env} {R : Room} {s : State} {m : MethodId} {args : Array Value} {below : List Frame} {meth : Method} {c : Code} {H : Heap} {locs : List Loc} {cells slots : Nat} {Q : State → Prop} {D : va_G} {A : Nat → Prop} {cc : ByteArray} {nL pc : Nat} {ret : Option FieldType} {hh : List ExceptionTableEntry} {ls : Array Slot} {rest : List Value} {ka : Nat → ClassId} {al : Nat → Nat} {f : Nat → Nat → Int32} {Z : va_W} {x : Int32} (C : fr_Cx p s m args meth c "FragileRulesModel" cc nL ret hh fr_tbl fr_nw D vwCl (fr_ty ka) A) (hP : va_P D vwCl (fr_mw ka al f Z) H) (hD : va_D A (fr_mw ka al f Z)) (hS : va_S A s.heap H locs) (hsz : ls.size = nL) (hR : 0 + 1 ≤ R.frames ∧ 8 + (3 + 11) + 0 ≤ R.locals) (hw : (rest.map fun v => v.category).sum ≤ 8) (hf : cells + 0 ≤ R.cells ∧ slots + 0 ≤ R.slots) (gE : mo_has f x) (hdg : decode cc pc = .ok (.invokevirtual 148, 3)) (kk : ∀ (H : Heap) (locs : List Loc), va_P D vwCl (fr_mw ka al f Z) H → va_D A (fr_mw ka al f Z) → va_S A s.heap H locs → W p l e R s m args below meth c H locs (cells + 0) (slots + 0) Q (F0 m (pc + 3) ls (.int (dn_m_placeOf f x) :: rest))) : W p l e R s m args below meth c H locs cells slots Q (F0 m pc ls (.int x :: .ref (al 0) :: rest)) :=
  fr_callVi (As := [.int x]) C hP hD hS (c_m_placeOf l D ka al Z f x gE) (cwV 1 C.2.2.2.2.1 (fr_goodV ml_M_148 mi_m_placeOf msel_m_placeOf mini_M mc_m_placeOf) rfl rfl rfl (by decide +kernel) hR) (va_recv C.2.2.2.2.2.1 hP (ci := 4) (q0 := 0) rfl rfl) rfl hsz hw hdg hf kk
def dn_m_told (f : Nat → Nat → Int32) (x : Int32) (y : Int32) : Int32 × (Nat → Nat → Int32) := if (dn_m_isNumber f x) = 0 then (0, fr_up f 0 5 1) else (if (dn_m_within y 0 4) = 0 then (0, fr_up f 0 5 2) else (if y = 0 then (f 4 ((x - 1).toNatClampNeg), fr_up f 0 5 0) else (if y = 1 then (f 5 ((x - 1).toNatClampNeg), fr_up f 0 5 0) else (if y = 2 then (f 6 ((x - 1).toNatClampNeg), fr_up f 0 5 0) else (if y = 3 then (dn_m_placeOf (fr_up f 0 5 0) (x - 1), fr_up f 0 5 0) else (f 7 ((x - 1).toNatClampNeg), fr_up f 0 5 0))))))
set_option maxHeartbeats 4000000 in
set_option maxRecDepth 100000 in
theorem c_m_told (l : Launch) (D : va_G) (ka : Nat → ClassId) (al : Nat → Nat) (Z : va_W) (f : Nat → Nat → Int32) (x : Int32) (y : Int32) (gR : 0 ≤ (f 0 1).toInt ∧ (f 0 1).toInt ≤ 12) (gE : mo_all f) : fr_Mi l y_m_told (.code y_m_told prog_6_method_33_code 3 (some .int) :: fr_tbl) { frames := 1, cells := 0, slots := 0, locals := 22 } D vwCl (fr_ty ka) fr_nw [.ref (al 0), .int x, .int y] (fr_mw ka al f Z) ((dn_m_told f x y).1) (fr_mw ka al ((dn_m_told f x y).2) Z) 0 0 := by
  refine fr_Mi.of (by decide) (Nat.le_of_ble_eq_true rfl) ?_
  intro p e s m below meth c A H locs ls C hP hD hS hl
  obtain ⟨hx, hb, hml, hown, ht, hK, hlocks, hr, hA, hN, hZ, hEx⟩ := id C
  have hl : lv_has ls 3 [(0, .ref (al 0)), (1, .int x), (2, .int y)] := hl
  refine lv_aload_n hx hb dM_told_0 rfl (lv_at hl 0 rfl) ?_
  refine lv_aload_n hx hb dM_told_1 rfl (lv_at hl 0 rfl) ?_
  refine lv_iload_n hx hb dM_told_2 rfl (lv_at hl 1 rfl) ?_
  refine cl_M_145 C hP hD hS hl.1 ⟨Nat.le_of_ble_eq_true rfl, Nat.le_of_ble_eq_true rfl⟩ (Nat.le_of_ble_eq_true rfl) ⟨Nat.le_of_ble_eq_true rfl, Nat.le_of_ble_eq_true rfl⟩ dM_told_3 (fun H locs hP hD hS => ?_)
  refine lv_if_ne (tgt := 13) hx hb dM_told_6 (by decide) (fun c_6 => ?_) (fun c_6 => ?_)
  · skip
    refine lv_iload_n hx hb dM_told_13 rfl (lv_at hl 2 rfl) ?_
    refine lv_iconst (v := 0) hx hb dM_told_14 (by decide) ?_
    refine lv_iconst (v := 4) hx hb dM_told_15 (by decide) ?_
    refine cl_M_91 C hP hD hS hl.1 ⟨Nat.le_of_ble_eq_true rfl, Nat.le_of_ble_eq_true rfl⟩ (Nat.le_of_ble_eq_true rfl) ⟨Nat.le_of_ble_eq_true rfl, Nat.le_of_ble_eq_true rfl⟩ dM_told_16 (fun H locs hP hD hS => ?_)
    refine lv_if_ne (tgt := 26) hx hb dM_told_19 (by decide) (fun c_19 => ?_) (fun c_19 => ?_)
    · skip
      refine lv_iconst (v := 0) hx hb dM_told_26 (by decide) ?_
      refine pf_M_40 C hP hD hS dM_told_27 (fun H locs hP hD hS => ?_)
      refine lv_aload_n hx hb dM_told_30 rfl (lv_at hl 0 rfl) ?_
      refine gf_M_40 C hP dM_told_31 ?_
      refine W.eq (g2 := F0 m 34 ls [.int 0]) (by first | rfl | simp [fr_up, fr_row]) ?_
      refine lv_if_eq (tgt := 39) hx hb dM_told_34 (by decide) (fun c_34 => ?_) (fun c_34 => absurd c_34 (by decide))
      refine lv_iload_n hx hb dM_told_39 rfl (lv_at hl 2 rfl) ?_
      by_cases c_40_0 : y = 0
      · skip
        refine lv_tableIn (tgt := 72) hx hb dM_told_40 (by rw [c_40_0]; decide) (by rw [c_40_0]; decide) (by rw [c_40_0] <;> rfl) (by decide) ?_
        refine lv_aload_n hx hb dM_told_72 rfl (lv_at hl 0 rfl) ?_
        refine gf_M_19 C hP dM_told_73 ?_
        refine lv_iload_n hx hb dM_told_76 rfl (lv_at hl 1 rfl) ?_
        refine lv_iconst (v := 1) hx hb dM_told_77 (by decide) ?_
        refine lv_isub hx hb dM_told_78 ?_
        have hin_79 : vp_in (x - 1) 12 := by have q0 := fr_t6 c_6; have q1 := fr_t6 c_19; have q2 := fr_t5 c_40_0; have z0 : (0 : Int32).toInt = 0 := rfl; have e0 := mo_isN c_6; have e1 := fr_sub1 (mo_isN c_6).1; have e2 := gR; skip; rw [vp_in_iff]; omega
        refine mald_4 C hP hin_79 dM_told_79 ?_
        refine W.eq (g2 := F0 m 80 ls [.int (f 4 ((x - 1).toNatClampNeg))]) (by first | rfl | simp [fr_up, fr_row]) ?_
        have hd_ : dn_m_told f x y = (f 4 ((x - 1).toNatClampNeg), fr_up f 0 5 0) := by rw [dn_m_told, if_neg c_6, if_neg c_19, if_pos c_40_0]
        rw [hd_]
        exact fr_iret C hP hD hS rfl dM_told_80
      · skip
        by_cases c_40_1 : y = 1
        · skip
          refine lv_tableIn (tgt := 81) hx hb dM_told_40 (by rw [c_40_1]; decide) (by rw [c_40_1]; decide) (by rw [c_40_1] <;> rfl) (by decide) ?_
          refine lv_aload_n hx hb dM_told_81 rfl (lv_at hl 0 rfl) ?_
          refine gf_M_22 C hP dM_told_82 ?_
          refine lv_iload_n hx hb dM_told_85 rfl (lv_at hl 1 rfl) ?_
          refine lv_iconst (v := 1) hx hb dM_told_86 (by decide) ?_
          refine lv_isub hx hb dM_told_87 ?_
          have hin_88 : vp_in (x - 1) 12 := by have q0 := fr_t6 c_6; have q1 := fr_t6 c_19; have q2 := fr_t6 c_40_0; have q3 := fr_t5 c_40_1; have z0 : (0 : Int32).toInt = 0 := rfl; have z1 : (1 : Int32).toInt = 1 := rfl; have e0 := mo_isN c_6; have e1 := fr_sub1 (mo_isN c_6).1; have e2 := gR; skip; rw [vp_in_iff]; omega
          refine mald_5 C hP hin_88 dM_told_88 ?_
          refine W.eq (g2 := F0 m 89 ls [.int (f 5 ((x - 1).toNatClampNeg))]) (by first | rfl | simp [fr_up, fr_row]) ?_
          have hd_ : dn_m_told f x y = (f 5 ((x - 1).toNatClampNeg), fr_up f 0 5 0) := by rw [dn_m_told, if_neg c_6, if_neg c_19, if_neg c_40_0, if_pos c_40_1]
          rw [hd_]
          exact fr_iret C hP hD hS rfl dM_told_89
        · skip
          by_cases c_40_2 : y = 2
          · skip
            refine lv_tableIn (tgt := 90) hx hb dM_told_40 (by rw [c_40_2]; decide) (by rw [c_40_2]; decide) (by rw [c_40_2] <;> rfl) (by decide) ?_
            refine lv_aload_n hx hb dM_told_90 rfl (lv_at hl 0 rfl) ?_
            refine gf_M_25 C hP dM_told_91 ?_
            refine lv_iload_n hx hb dM_told_94 rfl (lv_at hl 1 rfl) ?_
            refine lv_iconst (v := 1) hx hb dM_told_95 (by decide) ?_
            refine lv_isub hx hb dM_told_96 ?_
            have hin_97 : vp_in (x - 1) 12 := by have q0 := fr_t6 c_6; have q1 := fr_t6 c_19; have q2 := fr_t6 c_40_0; have q3 := fr_t6 c_40_1; have q4 := fr_t5 c_40_2; have z0 : (0 : Int32).toInt = 0 := rfl; have z1 : (1 : Int32).toInt = 1 := rfl; have z2 : (2 : Int32).toInt = 2 := rfl; have e0 := mo_isN c_6; have e1 := fr_sub1 (mo_isN c_6).1; have e2 := gR; skip; rw [vp_in_iff]; omega
            refine mald_6 C hP hin_97 dM_told_97 ?_
            refine W.eq (g2 := F0 m 98 ls [.int (f 6 ((x - 1).toNatClampNeg))]) (by first | rfl | simp [fr_up, fr_row]) ?_
            have hd_ : dn_m_told f x y = (f 6 ((x - 1).toNatClampNeg), fr_up f 0 5 0) := by rw [dn_m_told, if_neg c_6, if_neg c_19, if_neg c_40_0, if_neg c_40_1, if_pos c_40_2]
            rw [hd_]
            exact fr_iret C hP hD hS rfl dM_told_98
          · skip
            by_cases c_40_3 : y = 3
            · skip
              refine lv_tableIn (tgt := 99) hx hb dM_told_40 (by rw [c_40_3]; decide) (by rw [c_40_3]; decide) (by rw [c_40_3] <;> rfl) (by decide) ?_
              refine lv_aload_n hx hb dM_told_99 rfl (lv_at hl 0 rfl) ?_
              refine lv_iload_n hx hb dM_told_100 rfl (lv_at hl 1 rfl) ?_
              refine lv_iconst (v := 1) hx hb dM_told_101 (by decide) ?_
              refine lv_isub hx hb dM_told_102 ?_
              refine cl_M_148 C hP hD hS hl.1 ⟨Nat.le_of_ble_eq_true rfl, Nat.le_of_ble_eq_true rfl⟩ (Nat.le_of_ble_eq_true rfl) ⟨Nat.le_of_ble_eq_true rfl, Nat.le_of_ble_eq_true rfl⟩ (mo_at gR gE c_6) dM_told_103 (fun H locs hP hD hS => ?_)
              have hd_ : dn_m_told f x y = (dn_m_placeOf (fr_up f 0 5 0) (x - 1), fr_up f 0 5 0) := by rw [dn_m_told, if_neg c_6, if_neg c_19, if_neg c_40_0, if_neg c_40_1, if_neg c_40_2, if_pos c_40_3]
              rw [hd_]
              exact fr_iret C hP hD hS rfl dM_told_106
            · skip
              refine lv_tableOut (tgt := 107) hx hb dM_told_40 (by have h0 := fr_ne (k := 0) (a := 0) rfl c_40_0; have h1 := fr_ne (k := 1) (a := 1) rfl c_40_1; have h2 := fr_ne (k := 2) (a := 2) rfl c_40_2; have h3 := fr_ne (k := 3) (a := 3) rfl c_40_3; omega) (by decide) ?_
              refine lv_aload_n hx hb dM_told_107 rfl (lv_at hl 0 rfl) ?_
              refine gf_M_28 C hP dM_told_108 ?_
              refine lv_iload_n hx hb dM_told_111 rfl (lv_at hl 1 rfl) ?_
              refine lv_iconst (v := 1) hx hb dM_told_112 (by decide) ?_
              refine lv_isub hx hb dM_told_113 ?_
              have hin_114 : vp_in (x - 1) 12 := by have q0 := fr_t6 c_6; have q1 := fr_t6 c_19; have q2 := fr_t6 c_40_0; have q3 := fr_t6 c_40_1; have q4 := fr_t6 c_40_2; have q5 := fr_t6 c_40_3; have z0 : (0 : Int32).toInt = 0 := rfl; have z1 : (1 : Int32).toInt = 1 := rfl; have z2 : (2 : Int32).toInt = 2 := rfl; have z3 : (3 : Int32).toInt = 3 := rfl; have e0 := mo_isN c_6; have e1 := fr_sub1 (mo_isN c_6).1; have e2 := gR; skip; rw [vp_in_iff]; omega
              refine mald_7 C hP hin_114 dM_told_114 ?_
              refine W.eq (g2 := F0 m 115 ls [.int (f 7 ((x - 1).toNatClampNeg))]) (by first | rfl | simp [fr_up, fr_row]) ?_
              have hd_ : dn_m_told f x y = (f 7 ((x - 1).toNatClampNeg), fr_up f 0 5 0) := by rw [dn_m_told, if_neg c_6, if_neg c_19, if_neg c_40_0, if_neg c_40_1, if_neg c_40_2, if_neg c_40_3]
              rw [hd_]
              exact fr_iret C hP hD hS rfl dM_told_115
    · skip
      refine lv_iconst (v := 2) hx hb dM_told_22 (by decide) ?_
      refine lv_goto (tgt := 27) hx hb dM_told_23 (by decide) ?_
      refine pf_M_40 C hP hD hS dM_told_27 (fun H locs hP hD hS => ?_)
      refine lv_aload_n hx hb dM_told_30 rfl (lv_at hl 0 rfl) ?_
      refine gf_M_40 C hP dM_told_31 ?_
      refine W.eq (g2 := F0 m 34 ls [.int 2]) (by first | rfl | simp [fr_up, fr_row]) ?_
      refine lv_if_eq (tgt := 39) hx hb dM_told_34 (by decide) (fun c_34 => absurd c_34 (by decide)) (fun c_34 => ?_)
      refine lv_iconst (v := 0) hx hb dM_told_37 (by decide) ?_
      have hd_ : dn_m_told f x y = (0, fr_up f 0 5 2) := by rw [dn_m_told, if_neg c_6, if_pos c_19]
      rw [hd_]
      exact fr_iret C hP hD hS rfl dM_told_38
  · skip
    refine lv_iconst (v := 1) hx hb dM_told_9 (by decide) ?_
    refine lv_goto (tgt := 27) hx hb dM_told_10 (by decide) ?_
    refine pf_M_40 C hP hD hS dM_told_27 (fun H locs hP hD hS => ?_)
    refine lv_aload_n hx hb dM_told_30 rfl (lv_at hl 0 rfl) ?_
    refine gf_M_40 C hP dM_told_31 ?_
    refine W.eq (g2 := F0 m 34 ls [.int 1]) (by first | rfl | simp [fr_up, fr_row]) ?_
    refine lv_if_eq (tgt := 39) hx hb dM_told_34 (by decide) (fun c_34 => absurd c_34 (by decide)) (fun c_34 => ?_)
    refine lv_iconst (v := 0) hx hb dM_told_37 (by decide) ?_
    have hd_ : dn_m_told f x y = (0, fr_up f 0 5 1) := by rw [dn_m_told, if_pos c_6]
    rw [hd_]
    exact fr_iret C hP hD hS rfl dM_told_38

def dn_m_about (f : Nat → Nat → Int32) (x : Int32) (y : Int32) : Int32 × (Nat → Nat → Int32) := if (dn_m_isUnit f x) = 0 then (0, fr_up f 0 5 1) else (if (dn_m_within y 0 2) = 0 then (0, fr_up f 0 5 2) else (if y = 0 then (f 1 x.toNatClampNeg, fr_up f 0 5 0) else (if y = 1 then (f 2 x.toNatClampNeg, fr_up f 0 5 0) else (f 3 x.toNatClampNeg, fr_up f 0 5 0))))
set_option maxHeartbeats 4000000 in
set_option maxRecDepth 100000 in
theorem c_m_about (l : Launch) (D : va_G) (ka : Nat → ClassId) (al : Nat → Nat) (Z : va_W) (f : Nat → Nat → Int32) (x : Int32) (y : Int32) (gU : 0 ≤ (f 0 0).toInt ∧ (f 0 0).toInt ≤ 10) : fr_Mi l y_m_about (.code y_m_about prog_6_method_34_code 3 (some .int) :: fr_tbl) { frames := 1, cells := 0, slots := 0, locals := 22 } D vwCl (fr_ty ka) fr_nw [.ref (al 0), .int x, .int y] (fr_mw ka al f Z) ((dn_m_about f x y).1) (fr_mw ka al ((dn_m_about f x y).2) Z) 0 0 := by
  refine fr_Mi.of (by decide) (Nat.le_of_ble_eq_true rfl) ?_
  intro p e s m below meth c A H locs ls C hP hD hS hl
  obtain ⟨hx, hb, hml, hown, ht, hK, hlocks, hr, hA, hN, hZ, hEx⟩ := id C
  have hl : lv_has ls 3 [(0, .ref (al 0)), (1, .int x), (2, .int y)] := hl
  refine lv_aload_n hx hb dM_about_0 rfl (lv_at hl 0 rfl) ?_
  refine lv_aload_n hx hb dM_about_1 rfl (lv_at hl 0 rfl) ?_
  refine lv_iload_n hx hb dM_about_2 rfl (lv_at hl 1 rfl) ?_
  refine cl_M_139 C hP hD hS hl.1 ⟨Nat.le_of_ble_eq_true rfl, Nat.le_of_ble_eq_true rfl⟩ (Nat.le_of_ble_eq_true rfl) ⟨Nat.le_of_ble_eq_true rfl, Nat.le_of_ble_eq_true rfl⟩ dM_about_3 (fun H locs hP hD hS => ?_)
  refine lv_if_ne (tgt := 13) hx hb dM_about_6 (by decide) (fun c_6 => ?_) (fun c_6 => ?_)
  · skip
    refine lv_iload_n hx hb dM_about_13 rfl (lv_at hl 2 rfl) ?_
    refine lv_iconst (v := 0) hx hb dM_about_14 (by decide) ?_
    refine lv_iconst (v := 2) hx hb dM_about_15 (by decide) ?_
    refine cl_M_91 C hP hD hS hl.1 ⟨Nat.le_of_ble_eq_true rfl, Nat.le_of_ble_eq_true rfl⟩ (Nat.le_of_ble_eq_true rfl) ⟨Nat.le_of_ble_eq_true rfl, Nat.le_of_ble_eq_true rfl⟩ dM_about_16 (fun H locs hP hD hS => ?_)
    refine lv_if_ne (tgt := 26) hx hb dM_about_19 (by decide) (fun c_19 => ?_) (fun c_19 => ?_)
    · skip
      refine lv_iconst (v := 0) hx hb dM_about_26 (by decide) ?_
      refine pf_M_40 C hP hD hS dM_about_27 (fun H locs hP hD hS => ?_)
      refine lv_aload_n hx hb dM_about_30 rfl (lv_at hl 0 rfl) ?_
      refine gf_M_40 C hP dM_about_31 ?_
      refine W.eq (g2 := F0 m 34 ls [.int 0]) (by first | rfl | simp [fr_up, fr_row]) ?_
      refine lv_if_eq (tgt := 39) hx hb dM_about_34 (by decide) (fun c_34 => ?_) (fun c_34 => absurd c_34 (by decide))
      refine lv_iload_n hx hb dM_about_39 rfl (lv_at hl 2 rfl) ?_
      refine lv_if_ne (tgt := 52) hx hb dM_about_40 (by decide) (fun c_40 => ?_) (fun c_40 => ?_)
      · skip
        refine lv_iload_n hx hb dM_about_52 rfl (lv_at hl 2 rfl) ?_
        refine lv_iconst (v := 1) hx hb dM_about_53 (by decide) ?_
        refine lv_icmp_ne (tgt := 66) hx hb dM_about_54 (by decide) (fun c_54 => ?_) (fun c_54 => ?_)
        · skip
          refine lv_aload_n hx hb dM_about_66 rfl (lv_at hl 0 rfl) ?_
          refine gf_M_16 C hP dM_about_67 ?_
          refine lv_iload_n hx hb dM_about_70 rfl (lv_at hl 1 rfl) ?_
          have hin_71 : vp_in x 10 := by have q0 := fr_t6 c_6; have q1 := fr_t6 c_19; have q2 := fr_t6 c_40; have q3 := fr_t6 c_54; have z0 : (0 : Int32).toInt = 0 := rfl; have z1 : (1 : Int32).toInt = 1 := rfl; have e0 := mo_isU c_6; have e1 := gU; skip; rw [vp_in_iff]; omega
          refine mald_3 C hP hin_71 dM_about_71 ?_
          refine W.eq (g2 := F0 m 72 ls [.int (f 3 x.toNatClampNeg)]) (by first | rfl | simp [fr_up, fr_row]) ?_
          have hd_ : dn_m_about f x y = (f 3 x.toNatClampNeg, fr_up f 0 5 0) := by rw [dn_m_about, if_neg c_6, if_neg c_19, if_neg c_40, if_neg c_54]
          rw [hd_]
          exact fr_iret C hP hD hS rfl dM_about_72
        · skip
          refine lv_aload_n hx hb dM_about_57 rfl (lv_at hl 0 rfl) ?_
          refine gf_M_13 C hP dM_about_58 ?_
          refine lv_iload_n hx hb dM_about_61 rfl (lv_at hl 1 rfl) ?_
          have hin_62 : vp_in x 10 := by have q0 := fr_t6 c_6; have q1 := fr_t6 c_19; have q2 := fr_t6 c_40; have q3 := fr_t5 c_54; have z0 : (0 : Int32).toInt = 0 := rfl; have z1 : (1 : Int32).toInt = 1 := rfl; have e0 := mo_isU c_6; have e1 := gU; skip; rw [vp_in_iff]; omega
          refine mald_2 C hP hin_62 dM_about_62 ?_
          refine W.eq (g2 := F0 m 63 ls [.int (f 2 x.toNatClampNeg)]) (by first | rfl | simp [fr_up, fr_row]) ?_
          refine lv_goto (tgt := 72) hx hb dM_about_63 (by decide) ?_
          have hd_ : dn_m_about f x y = (f 2 x.toNatClampNeg, fr_up f 0 5 0) := by rw [dn_m_about, if_neg c_6, if_neg c_19, if_neg c_40, if_pos c_54]
          rw [hd_]
          exact fr_iret C hP hD hS rfl dM_about_72
      · skip
        refine lv_aload_n hx hb dM_about_43 rfl (lv_at hl 0 rfl) ?_
        refine gf_M_7 C hP dM_about_44 ?_
        refine lv_iload_n hx hb dM_about_47 rfl (lv_at hl 1 rfl) ?_
        have hin_48 : vp_in x 10 := by have q0 := fr_t6 c_6; have q1 := fr_t6 c_19; have q2 := fr_t5 c_40; have z0 : (0 : Int32).toInt = 0 := rfl; have e0 := mo_isU c_6; have e1 := gU; skip; rw [vp_in_iff]; omega
        refine mald_1 C hP hin_48 dM_about_48 ?_
        refine W.eq (g2 := F0 m 49 ls [.int (f 1 x.toNatClampNeg)]) (by first | rfl | simp [fr_up, fr_row]) ?_
        refine lv_goto (tgt := 72) hx hb dM_about_49 (by decide) ?_
        have hd_ : dn_m_about f x y = (f 1 x.toNatClampNeg, fr_up f 0 5 0) := by rw [dn_m_about, if_neg c_6, if_neg c_19, if_pos c_40]
        rw [hd_]
        exact fr_iret C hP hD hS rfl dM_about_72
    · skip
      refine lv_iconst (v := 2) hx hb dM_about_22 (by decide) ?_
      refine lv_goto (tgt := 27) hx hb dM_about_23 (by decide) ?_
      refine pf_M_40 C hP hD hS dM_about_27 (fun H locs hP hD hS => ?_)
      refine lv_aload_n hx hb dM_about_30 rfl (lv_at hl 0 rfl) ?_
      refine gf_M_40 C hP dM_about_31 ?_
      refine W.eq (g2 := F0 m 34 ls [.int 2]) (by first | rfl | simp [fr_up, fr_row]) ?_
      refine lv_if_eq (tgt := 39) hx hb dM_about_34 (by decide) (fun c_34 => absurd c_34 (by decide)) (fun c_34 => ?_)
      refine lv_iconst (v := 0) hx hb dM_about_37 (by decide) ?_
      have hd_ : dn_m_about f x y = (0, fr_up f 0 5 2) := by rw [dn_m_about, if_neg c_6, if_pos c_19]
      rw [hd_]
      exact fr_iret C hP hD hS rfl dM_about_38
  · skip
    refine lv_iconst (v := 1) hx hb dM_about_9 (by decide) ?_
    refine lv_goto (tgt := 27) hx hb dM_about_10 (by decide) ?_
    refine pf_M_40 C hP hD hS dM_about_27 (fun H locs hP hD hS => ?_)
    refine lv_aload_n hx hb dM_about_30 rfl (lv_at hl 0 rfl) ?_
    refine gf_M_40 C hP dM_about_31 ?_
    refine W.eq (g2 := F0 m 34 ls [.int 1]) (by first | rfl | simp [fr_up, fr_row]) ?_
    refine lv_if_eq (tgt := 39) hx hb dM_about_34 (by decide) (fun c_34 => absurd c_34 (by decide)) (fun c_34 => ?_)
    refine lv_iconst (v := 0) hx hb dM_about_37 (by decide) ?_
    have hd_ : dn_m_about f x y = (0, fr_up f 0 5 1) := by rw [dn_m_about, if_pos c_6]
    rw [hd_]
    exact fr_iret C hP hD hS rfl dM_about_38

def dn_m_count (f : Nat → Nat → Int32) (x : Int32) : Int32 × (Nat → Nat → Int32) := if x = 0 then (f 0 0, fr_up f 0 5 0) else (if x = 1 then (f 0 1, fr_up f 0 5 0) else (if x = 2 then (f 0 2, fr_up f 0 5 0) else (if x = 3 then (f 0 3, fr_up f 0 5 0) else (if x = 4 then (f 0 4, fr_up f 0 5 0) else ((-1), fr_up f 0 5 0)))))
set_option maxHeartbeats 4000000 in
set_option maxRecDepth 100000 in
theorem c_m_count (l : Launch) (D : va_G) (ka : Nat → ClassId) (al : Nat → Nat) (Z : va_W) (f : Nat → Nat → Int32) (x : Int32) : fr_Mi l y_m_count (.code y_m_count prog_6_method_35_code 2 (some .int) :: fr_tbl) { frames := 0, cells := 0, slots := 0, locals := 0 } D vwCl (fr_ty ka) fr_nw [.ref (al 0), .int x] (fr_mw ka al f Z) ((dn_m_count f x).1) (fr_mw ka al ((dn_m_count f x).2) Z) 0 0 := by
  refine fr_Mi.of (by decide) (Nat.le_of_ble_eq_true rfl) ?_
  intro p e s m below meth c A H locs ls C hP hD hS hl
  obtain ⟨hx, hb, hml, hown, ht, hK, hlocks, hr, hA, hN, hZ, hEx⟩ := id C
  have hl : lv_has ls 2 [(0, .ref (al 0)), (1, .int x)] := hl
  refine lv_aload_n hx hb dM_count_0 rfl (lv_at hl 0 rfl) ?_
  refine lv_iconst (v := 0) hx hb dM_count_1 (by decide) ?_
  refine pf_M_40 C hP hD hS dM_count_2 (fun H locs hP hD hS => ?_)
  refine lv_iload_n hx hb dM_count_5 rfl (lv_at hl 1 rfl) ?_
  by_cases c_6_0 : x = 0
  · skip
    refine lv_tableIn (tgt := 40) hx hb dM_count_6 (by rw [c_6_0]; decide) (by rw [c_6_0]; decide) (by rw [c_6_0] <;> rfl) (by decide) ?_
    refine lv_aload_n hx hb dM_count_40 rfl (lv_at hl 0 rfl) ?_
    refine gf_M_44 C hP dM_count_41 ?_
    refine W.eq (g2 := F0 m 44 ls [.int (f 0 0)]) (by first | rfl | simp [fr_up, fr_row]) ?_
    have hd_ : dn_m_count f x = (f 0 0, fr_up f 0 5 0) := by rw [dn_m_count, if_pos c_6_0]
    rw [hd_]
    exact fr_iret C hP hD hS rfl dM_count_44
  · skip
    by_cases c_6_1 : x = 1
    · skip
      refine lv_tableIn (tgt := 45) hx hb dM_count_6 (by rw [c_6_1]; decide) (by rw [c_6_1]; decide) (by rw [c_6_1] <;> rfl) (by decide) ?_
      refine lv_aload_n hx hb dM_count_45 rfl (lv_at hl 0 rfl) ?_
      refine gf_M_72 C hP dM_count_46 ?_
      refine W.eq (g2 := F0 m 49 ls [.int (f 0 1)]) (by first | rfl | simp [fr_up, fr_row]) ?_
      have hd_ : dn_m_count f x = (f 0 1, fr_up f 0 5 0) := by rw [dn_m_count, if_neg c_6_0, if_pos c_6_1]
      rw [hd_]
      exact fr_iret C hP hD hS rfl dM_count_49
    · skip
      by_cases c_6_2 : x = 2
      · skip
        refine lv_tableIn (tgt := 50) hx hb dM_count_6 (by rw [c_6_2]; decide) (by rw [c_6_2]; decide) (by rw [c_6_2] <;> rfl) (by decide) ?_
        refine lv_aload_n hx hb dM_count_50 rfl (lv_at hl 0 rfl) ?_
        refine gf_M_105 C hP dM_count_51 ?_
        refine W.eq (g2 := F0 m 54 ls [.int (f 0 2)]) (by first | rfl | simp [fr_up, fr_row]) ?_
        have hd_ : dn_m_count f x = (f 0 2, fr_up f 0 5 0) := by rw [dn_m_count, if_neg c_6_0, if_neg c_6_1, if_pos c_6_2]
        rw [hd_]
        exact fr_iret C hP hD hS rfl dM_count_54
      · skip
        by_cases c_6_3 : x = 3
        · skip
          refine lv_tableIn (tgt := 55) hx hb dM_count_6 (by rw [c_6_3]; decide) (by rw [c_6_3]; decide) (by rw [c_6_3] <;> rfl) (by decide) ?_
          refine lv_aload_n hx hb dM_count_55 rfl (lv_at hl 0 rfl) ?_
          refine gf_M_85 C hP dM_count_56 ?_
          refine W.eq (g2 := F0 m 59 ls [.int (f 0 3)]) (by first | rfl | simp [fr_up, fr_row]) ?_
          have hd_ : dn_m_count f x = (f 0 3, fr_up f 0 5 0) := by rw [dn_m_count, if_neg c_6_0, if_neg c_6_1, if_neg c_6_2, if_pos c_6_3]
          rw [hd_]
          exact fr_iret C hP hD hS rfl dM_count_59
        · skip
          by_cases c_6_4 : x = 4
          · skip
            refine lv_tableIn (tgt := 60) hx hb dM_count_6 (by rw [c_6_4]; decide) (by rw [c_6_4]; decide) (by rw [c_6_4] <;> rfl) (by decide) ?_
            refine lv_aload_n hx hb dM_count_60 rfl (lv_at hl 0 rfl) ?_
            refine gf_M_88 C hP dM_count_61 ?_
            refine W.eq (g2 := F0 m 64 ls [.int (f 0 4)]) (by first | rfl | simp [fr_up, fr_row]) ?_
            have hd_ : dn_m_count f x = (f 0 4, fr_up f 0 5 0) := by rw [dn_m_count, if_neg c_6_0, if_neg c_6_1, if_neg c_6_2, if_neg c_6_3, if_pos c_6_4]
            rw [hd_]
            exact fr_iret C hP hD hS rfl dM_count_64
          · skip
            refine lv_tableOut (tgt := 65) hx hb dM_count_6 (by have h0 := fr_ne (k := 0) (a := 0) rfl c_6_0; have h1 := fr_ne (k := 1) (a := 1) rfl c_6_1; have h2 := fr_ne (k := 2) (a := 2) rfl c_6_2; have h3 := fr_ne (k := 3) (a := 3) rfl c_6_3; have h4 := fr_ne (k := 4) (a := 4) rfl c_6_4; omega) (by decide) ?_
            refine lv_iconst (v := (-1)) hx hb dM_count_65 (by decide) ?_
            have hd_ : dn_m_count f x = ((-1), fr_up f 0 5 0) := by rw [dn_m_count, if_neg c_6_0, if_neg c_6_1, if_neg c_6_2, if_neg c_6_3, if_neg c_6_4]
            rw [hd_]
            exact fr_iret C hP hD hS rfl dM_count_66

def dn_m_look (f : Nat → Nat → Int32)  : Int32 := if (f 0 2) ≤ (f 0 13) then (-1) else (f 9 ((f 0 13).toNatClampNeg))
set_option maxHeartbeats 4000000 in
set_option maxRecDepth 100000 in
theorem c_m_look (l : Launch) (D : va_G) (ka : Nat → ClassId) (al : Nat → Nat) (Z : va_W) (f : Nat → Nat → Int32)  (gS : 0 ≤ (f 0 2).toInt ∧ (f 0 2).toInt ≤ 200) (gP : 0 ≤ (f 0 13).toInt ∧ (f 0 13).toInt ≤ 1000) : fr_Mi l y_m_look (.code y_m_look prog_6_method_17_code 1 (some .int) :: fr_tbl) { frames := 0, cells := 0, slots := 0, locals := 0 } D vwCl (fr_ty ka) fr_nw [.ref (al 0)] (fr_mw ka al f Z) (dn_m_look f) (fr_mw ka al f Z) 0 0 := by
  refine fr_Mi.of (by decide) (Nat.le_of_ble_eq_true rfl) ?_
  intro p e s m below meth c A H locs ls C hP hD hS hl
  obtain ⟨hx, hb, hml, hown, ht, hK, hlocks, hr, hA, hN, hZ, hEx⟩ := id C
  have hl : lv_has ls 1 [(0, .ref (al 0))] := hl
  refine lv_aload_n hx hb dM_look_0 rfl (lv_at hl 0 rfl) ?_
  refine gf_M_108 C hP dM_look_1 ?_
  refine lv_aload_n hx hb dM_look_4 rfl (lv_at hl 0 rfl) ?_
  refine gf_M_105 C hP dM_look_5 ?_
  refine lv_icmp_ge (tgt := 23) hx hb dM_look_8 (by decide) (fun c_8 => ?_) (fun c_8 => ?_)
  · skip
    refine lv_iconst (v := (-1)) hx hb dM_look_23 (by decide) ?_
    have hd_ : dn_m_look f = (-1) := by rw [dn_m_look, if_pos c_8]
    exact fr_iret C hP hD hS hd_.symm dM_look_24
  · skip
    refine lv_aload_n hx hb dM_look_11 rfl (lv_at hl 0 rfl) ?_
    refine gf_M_34 C hP dM_look_12 ?_
    refine lv_aload_n hx hb dM_look_15 rfl (lv_at hl 0 rfl) ?_
    refine gf_M_108 C hP dM_look_16 ?_
    have hin_19 : vp_in (f 0 13) 200 := by have q0 := fr_t4 c_8; skip; rw [vp_in_iff]; omega
    refine mald_9 C hP hin_19 dM_look_19 ?_
    refine lv_goto (tgt := 24) hx hb dM_look_20 (by decide) ?_
    have hd_ : dn_m_look f = f 9 ((f 0 13).toNatClampNeg) := by rw [dn_m_look, if_neg c_8]
    exact fr_iret C hP hD hS hd_.symm dM_look_24

def dn_m_fail (f : Nat → Nat → Int32)  : Nat → Nat → Int32 := if 0 ≤ (f 0 14) then f else (fr_up f 0 14 (f 0 13))
set_option maxHeartbeats 4000000 in
set_option maxRecDepth 100000 in
theorem c_m_fail (l : Launch) (D : va_G) (ka : Nat → ClassId) (al : Nat → Nat) (Z : va_W) (f : Nat → Nat → Int32)  : fr_Mv l y_m_fail (.code y_m_fail prog_6_method_18_code 1 none :: fr_tbl) { frames := 0, cells := 0, slots := 0, locals := 0 } D vwCl (fr_ty ka) fr_nw [.ref (al 0)] (fr_mw ka al f Z) (fr_mw ka al (dn_m_fail f) Z) 0 0 := by
  refine fr_Mv.of (by decide) (Nat.le_of_ble_eq_true rfl) ?_
  intro p e s m below meth c A H locs ls C hinit hP hD hS hl
  obtain ⟨hx, hb, hml, hown, ht, hK, hlocks, hr, hA, hN, hZ, hEx⟩ := id C
  have hl : lv_has ls 1 [(0, .ref (al 0))] := hl
  refine lv_aload_n hx hb dM_fail_0 rfl (lv_at hl 0 rfl) ?_
  refine gf_M_111 C hP dM_fail_1 ?_
  refine lv_if_ge (tgt := 15) hx hb dM_fail_4 (by decide) (fun c_4 => ?_) (fun c_4 => ?_)
  · skip
    have hd_ : dn_m_fail f = f := by rw [dn_m_fail, if_pos c_4]
    rw [hd_]
    exact fr_vret C hP hD hS dM_fail_15
  · skip
    refine lv_aload_n hx hb dM_fail_7 rfl (lv_at hl 0 rfl) ?_
    refine lv_aload_n hx hb dM_fail_8 rfl (lv_at hl 0 rfl) ?_
    refine gf_M_108 C hP dM_fail_9 ?_
    refine pf_M_111 C hP hD hS dM_fail_12 (fun H locs hP hD hS => ?_)
    have hd_ : dn_m_fail f = fr_up f 0 14 (f 0 13) := by rw [dn_m_fail, if_neg c_4]
    rw [hd_]
    exact fr_vret C hP hD hS dM_fail_15
/-- the reading's numbers: the signs, the place, and room for a rule where one may come -/
def mo_t (g : Nat → Nat → Int32) (b : Int) (x : Int32) : Prop := (0 ≤ (g 0 2).toInt ∧ (g 0 2).toInt ≤ 200) ∧ (0 ≤ (g 0 13).toInt ∧ (g 0 13).toInt ≤ b) ∧ (¬ x = 0 → 0 ≤ (g 0 1).toInt ∧ (g 0 1).toInt < 12)
theorem mo_t_s {g : Nat → Nat → Int32} {b : Int} {x : Int32} (h : mo_t g b x) : 0 ≤ (g 0 2).toInt ∧ (g 0 2).toInt ≤ 200 := h.1
theorem mo_t_p {g : Nat → Nat → Int32} {b : Int} {x : Int32} (h : mo_t g b x) (hb : b ≤ 1000) : 0 ≤ (g 0 13).toInt ∧ (g 0 13).toInt ≤ 1000 := by
  obtain ⟨-, h1, -⟩ := h
  omega
theorem mo_t_w {g : Nat → Nat → Int32} {b b' : Int} {x : Int32} (h : mo_t g b x) (hb : b ≤ b') : mo_t g b' x := ⟨h.1, ⟨h.2.1.1, Int.le_trans h.2.1.2 hb⟩, h.2.2⟩
theorem mo_t_inc {g : Nat → Nat → Int32} {b : Int} {x : Int32} (h : mo_t g b x) (hb : b ≤ 1000) : mo_t (fr_up g 0 13 (g 0 13 + 1)) (b + 1) x := by
  obtain ⟨h1, h2, h3⟩ := h
  have h4 := fr_add1 (x := g 0 13) h2.1 (by omega)
  refine ⟨h1, ?_, h3⟩
  show 0 ≤ (g 0 13 + 1).toInt ∧ (g 0 13 + 1).toInt ≤ b + 1
  omega
theorem mo_t_fail {g : Nat → Nat → Int32} {b : Int} {x : Int32} (h : mo_t g b x) : mo_t (dn_m_fail g) b x := by
  unfold dn_m_fail
  split
  · exact h
  · exact h

theorem cl_M_114 {p : Program} {l : Launch} {e : Env} {R : Room} {s : State} {m : MethodId} {args : Array Value} {below : List Frame} {meth : Method} {c : Code} {H : Heap} {locs : List Loc} {cells slots : Nat} {Q : State → Prop} {D : va_G} {A : Nat → Prop} {cc : ByteArray} {nL pc : Nat} {ret : Option FieldType} {hh : List ExceptionTableEntry} {ls : Array Slot} {rest : List Value} {ka : Nat → ClassId} {al : Nat → Nat} {f : Nat → Nat → Int32} {Z : va_W}  (C : fr_Cx p s m args meth c "FragileRulesModel" cc nL ret hh fr_tbl fr_nw D vwCl (fr_ty ka) A) (hP : va_P D vwCl (fr_mw ka al f Z) H) (hD : va_D A (fr_mw ka al f Z)) (hS : va_S A s.heap H locs) (hsz : ls.size = nL) (hR : 0 + 1 ≤ R.frames ∧ 8 + (1 + 11) + 0 ≤ R.locals) (hw : (rest.map fun v => v.category).sum ≤ 8) (hf : cells + 0 ≤ R.cells ∧ slots + 0 ≤ R.slots) (gS : 0 ≤ (f 0 2).toInt ∧ (f 0 2).toInt ≤ 200) (gP : 0 ≤ (f 0 13).toInt ∧ (f 0 13).toInt ≤ 1000) (hdg : decode cc pc = .ok (.invokevirtual 114, 3)) (kk : ∀ (H : Heap) (locs : List Loc), va_P D vwCl (fr_mw ka al f Z) H → va_D A (fr_mw ka al f Z) → va_S A s.heap H locs → W p l e R s m args below meth c H locs (cells + 0) (slots + 0) Q (F0 m (pc + 3) ls (.int (dn_m_look f) :: rest))) : W p l e R s m args below meth c H locs cells slots Q (F0 m pc ls (.ref (al 0) :: rest)) :=
  fr_callVi (As := []) C hP hD hS (c_m_look l D ka al Z f gS gP) (cwV 0 C.2.2.2.2.1 (fr_goodV ml_M_114 mi_m_look msel_m_look mini_M mc_m_look) rfl rfl rfl (by decide +kernel) hR) (va_recv C.2.2.2.2.2.1 hP (ci := 4) (q0 := 0) rfl rfl) rfl hsz hw hdg hf kk
theorem cl_M_117 {p : Program} {l : Launch} {e : Env} {R : Room} {s : State} {m : MethodId} {args : Array Value} {below : List Frame} {meth : Method} {c : Code} {H : Heap} {locs : List Loc} {cells slots : Nat} {Q : State → Prop} {D : va_G} {A : Nat → Prop} {cc : ByteArray} {nL pc : Nat} {ret : Option FieldType} {hh : List ExceptionTableEntry} {ls : Array Slot} {rest : List Value} {ka : Nat → ClassId} {al : Nat → Nat} {f : Nat → Nat → Int32} {Z : va_W}  (C : fr_Cx p s m args meth c "FragileRulesModel" cc nL ret hh fr_tbl fr_nw D vwCl (fr_ty ka) A) (hP : va_P D vwCl (fr_mw ka al f Z) H) (hD : va_D A (fr_mw ka al f Z)) (hS : va_S A s.heap H locs) (hsz : ls.size = nL) (hR : 0 + 1 ≤ R.frames ∧ 8 + (1 + 11) + 0 ≤ R.locals) (hw : (rest.map fun v => v.category).sum ≤ 8) (hf : cells + 0 ≤ R.cells ∧ slots + 0 ≤ R.slots) (hdg : decode cc pc = .ok (.invokevirtual 117, 3)) (kk : ∀ (H : Heap) (locs : List Loc), va_P D vwCl (fr_mw ka al (dn_m_fail f) Z) H → va_D A (fr_mw ka al (dn_m_fail f) Z) → va_S A s.heap H locs → W p l e R s m args below meth c H locs (cells + 0) (slots + 0) Q (F0 m (pc + 3) ls rest)) : W p l e R s m args below meth c H locs cells slots Q (F0 m pc ls (.ref (al 0) :: rest)) :=
  fr_callVv (As := []) C hP hD hS (c_m_fail l D ka al Z f ) (cwV 0 C.2.2.2.2.1 (fr_goodV ml_M_117 mi_m_fail msel_m_fail mini_M mc_m_fail) rfl rfl rfl (by decide +kernel) hR) (va_recv C.2.2.2.2.2.1 hP (ci := 4) (q0 := 0) rfl rfl) rfl hsz hw hdg hf kk
def dn_m_take (f : Nat → Nat → Int32) (x : Int32) : Nat → Nat → Int32 := if (f 0 14) < 0 then (if (dn_m_look f) = x then (fr_up f 0 13 ((f 0 13) + 1)) else (dn_m_fail f)) else f
set_option maxHeartbeats 4000000 in
set_option maxRecDepth 100000 in
theorem c_m_take (l : Launch) (D : va_G) (ka : Nat → ClassId) (al : Nat → Nat) (Z : va_W) (f : Nat → Nat → Int32) (x : Int32) (gS : 0 ≤ (f 0 2).toInt ∧ (f 0 2).toInt ≤ 200) (gP : 0 ≤ (f 0 13).toInt ∧ (f 0 13).toInt ≤ 1000) : fr_Mv l y_m_take (.code y_m_take prog_6_method_19_code 2 none :: fr_tbl) { frames := 1, cells := 0, slots := 0, locals := 20 } D vwCl (fr_ty ka) fr_nw [.ref (al 0), .int x] (fr_mw ka al f Z) (fr_mw ka al (dn_m_take f x) Z) 0 0 := by
  refine fr_Mv.of (by decide) (Nat.le_of_ble_eq_true rfl) ?_
  intro p e s m below meth c A H locs ls C hinit hP hD hS hl
  obtain ⟨hx, hb, hml, hown, ht, hK, hlocks, hr, hA, hN, hZ, hEx⟩ := id C
  have hl : lv_has ls 2 [(0, .ref (al 0)), (1, .int x)] := hl
  refine lv_aload_n hx hb dM_take_0 rfl (lv_at hl 0 rfl) ?_
  refine gf_M_111 C hP dM_take_1 ?_
  refine lv_if_lt (tgt := 8) hx hb dM_take_4 (by decide) (fun c_4 => ?_) (fun c_4 => ?_)
  · skip
    refine lv_aload_n hx hb dM_take_8 rfl (lv_at hl 0 rfl) ?_
    refine cl_M_114 C hP hD hS hl.1 ⟨Nat.le_of_ble_eq_true rfl, Nat.le_of_ble_eq_true rfl⟩ (Nat.le_of_ble_eq_true rfl) ⟨Nat.le_of_ble_eq_true rfl, Nat.le_of_ble_eq_true rfl⟩ gS gP dM_take_9 (fun H locs hP hD hS => ?_)
    refine lv_iload_n hx hb dM_take_12 rfl (lv_at hl 1 rfl) ?_
    refine lv_icmp_ne (tgt := 29) hx hb dM_take_13 (by decide) (fun c_13 => ?_) (fun c_13 => ?_)
    · skip
      refine lv_aload_n hx hb dM_take_29 rfl (lv_at hl 0 rfl) ?_
      refine cl_M_117 C hP hD hS hl.1 ⟨Nat.le_of_ble_eq_true rfl, Nat.le_of_ble_eq_true rfl⟩ (Nat.le_of_ble_eq_true rfl) ⟨Nat.le_of_ble_eq_true rfl, Nat.le_of_ble_eq_true rfl⟩ dM_take_30 (fun H locs hP hD hS => ?_)
      have hd_ : dn_m_take f x = dn_m_fail f := by rw [dn_m_take, if_pos c_4, if_neg c_13]
      rw [hd_]
      exact fr_vret C hP hD hS dM_take_33
    · skip
      refine lv_aload_n hx hb dM_take_16 rfl (lv_at hl 0 rfl) ?_
      refine lv_dup hx hb dM_take_17 rfl ?_
      refine gf_M_108 C hP dM_take_18 ?_
      refine lv_iconst (v := 1) hx hb dM_take_21 (by decide) ?_
      refine lv_iadd hx hb dM_take_22 ?_
      refine pf_M_108 C hP hD hS dM_take_23 (fun H locs hP hD hS => ?_)
      refine lv_goto (tgt := 33) hx hb dM_take_26 (by decide) ?_
      have hd_ : dn_m_take f x = fr_up f 0 13 ((f 0 13) + 1) := by rw [dn_m_take, if_pos c_4, if_pos c_13]
      rw [hd_]
      exact fr_vret C hP hD hS dM_take_33
  · skip
    have hd_ : dn_m_take f x = f := by rw [dn_m_take, if_neg c_4]
    rw [hd_]
    exact fr_vret C hP hD hS dM_take_7
theorem mo_t_take {g : Nat → Nat → Int32} {b : Int} {x c : Int32} (h : mo_t g b x) (hb : b ≤ 1000) : mo_t (dn_m_take g c) (b + 1) x := by
  unfold dn_m_take
  split
  · split
    · exact mo_t_inc h hb
    · exact mo_t_w (mo_t_fail h) (by omega)
  · exact mo_t_w h (by omega)

def dn_m_digit (f : Nat → Nat → Int32) (x : Int32) : Int32 × (Nat → Nat → Int32) := if (f 0 14) < 0 then (if (dn_m_look f) = (-1) then ((-1), dn_m_fail f) else (if (dn_m_within ((dn_m_look f) - 48) 0 x) = 0 then ((-1), dn_m_fail f) else ((dn_m_look f) - 48, fr_up f 0 13 ((f 0 13) + 1)))) else ((-1), f)
set_option maxHeartbeats 4000000 in
set_option maxRecDepth 100000 in
theorem c_m_digit (l : Launch) (D : va_G) (ka : Nat → ClassId) (al : Nat → Nat) (Z : va_W) (f : Nat → Nat → Int32) (x : Int32) (gS : 0 ≤ (f 0 2).toInt ∧ (f 0 2).toInt ≤ 200) (gP : 0 ≤ (f 0 13).toInt ∧ (f 0 13).toInt ≤ 1000) : fr_Mi l y_m_digit (.code y_m_digit prog_6_method_20_code 3 (some .int) :: fr_tbl) { frames := 1, cells := 0, slots := 0, locals := 22 } D vwCl (fr_ty ka) fr_nw [.ref (al 0), .int x] (fr_mw ka al f Z) ((dn_m_digit f x).1) (fr_mw ka al ((dn_m_digit f x).2) Z) 0 0 := by
  refine fr_Mi.of (by decide) (Nat.le_of_ble_eq_true rfl) ?_
  intro p e s m below meth c A H locs ls C hP hD hS hl
  obtain ⟨hx, hb, hml, hown, ht, hK, hlocks, hr, hA, hN, hZ, hEx⟩ := id C
  have hl : lv_has ls 3 [(0, .ref (al 0)), (1, .int x)] := hl
  refine lv_aload_n hx hb dM_digit_0 rfl (lv_at hl 0 rfl) ?_
  refine gf_M_111 C hP dM_digit_1 ?_
  refine lv_if_lt (tgt := 9) hx hb dM_digit_4 (by decide) (fun c_4 => ?_) (fun c_4 => ?_)
  · skip
    refine lv_aload_n hx hb dM_digit_9 rfl (lv_at hl 0 rfl) ?_
    refine cl_M_114 C hP hD hS hl.1 ⟨Nat.le_of_ble_eq_true rfl, Nat.le_of_ble_eq_true rfl⟩ (Nat.le_of_ble_eq_true rfl) ⟨Nat.le_of_ble_eq_true rfl, Nat.le_of_ble_eq_true rfl⟩ gS gP dM_digit_10 (fun H locs hP hD hS => ?_)
    refine lv_bipush (v := 48) hx hb dM_digit_13 (by decide) ?_
    refine lv_isub hx hb dM_digit_15 ?_
    refine lv_istore_n (lv' := [(2, .int ((dn_m_look f) - 48)), (0, .ref (al 0)), (1, .int x)]) hx hb dM_digit_16 rfl hl (by decide) rfl (fun ls hl => ?_)
    refine lv_aload_n hx hb dM_digit_17 rfl (lv_at hl 1 rfl) ?_
    refine cl_M_114 C hP hD hS hl.1 ⟨Nat.le_of_ble_eq_true rfl, Nat.le_of_ble_eq_true rfl⟩ (Nat.le_of_ble_eq_true rfl) ⟨Nat.le_of_ble_eq_true rfl, Nat.le_of_ble_eq_true rfl⟩ gS gP dM_digit_18 (fun H locs hP hD hS => ?_)
    refine lv_iconst (v := (-1)) hx hb dM_digit_21 (by decide) ?_
    refine lv_icmp_eq (tgt := 34) hx hb dM_digit_22 (by decide) (fun c_22 => ?_) (fun c_22 => ?_)
    · skip
      refine lv_aload_n hx hb dM_digit_34 rfl (lv_at hl 1 rfl) ?_
      refine cl_M_117 C hP hD hS hl.1 ⟨Nat.le_of_ble_eq_true rfl, Nat.le_of_ble_eq_true rfl⟩ (Nat.le_of_ble_eq_true rfl) ⟨Nat.le_of_ble_eq_true rfl, Nat.le_of_ble_eq_true rfl⟩ dM_digit_35 (fun H locs hP hD hS => ?_)
      refine lv_iconst (v := (-1)) hx hb dM_digit_38 (by decide) ?_
      have hd_ : dn_m_digit f x = ((-1), dn_m_fail f) := by rw [dn_m_digit, if_pos c_4, if_pos c_22]
      rw [hd_]
      exact fr_iret C hP hD hS rfl dM_digit_39
    · skip
      refine lv_iload_n hx hb dM_digit_25 rfl (lv_at hl 0 rfl) ?_
      refine lv_iconst (v := 0) hx hb dM_digit_26 (by decide) ?_
      refine lv_iload_n hx hb dM_digit_27 rfl (lv_at hl 2 rfl) ?_
      refine cl_M_91 C hP hD hS hl.1 ⟨Nat.le_of_ble_eq_true rfl, Nat.le_of_ble_eq_true rfl⟩ (Nat.le_of_ble_eq_true rfl) ⟨Nat.le_of_ble_eq_true rfl, Nat.le_of_ble_eq_true rfl⟩ dM_digit_28 (fun H locs hP hD hS => ?_)
      refine lv_if_ne (tgt := 40) hx hb dM_digit_31 (by decide) (fun c_31 => ?_) (fun c_31 => ?_)
      · skip
        refine lv_aload_n hx hb dM_digit_40 rfl (lv_at hl 1 rfl) ?_
        refine lv_dup hx hb dM_digit_41 rfl ?_
        refine gf_M_108 C hP dM_digit_42 ?_
        refine lv_iconst (v := 1) hx hb dM_digit_45 (by decide) ?_
        refine lv_iadd hx hb dM_digit_46 ?_
        refine pf_M_108 C hP hD hS dM_digit_47 (fun H locs hP hD hS => ?_)
        refine lv_iload_n hx hb dM_digit_50 rfl (lv_at hl 0 rfl) ?_
        have hd_ : dn_m_digit f x = ((dn_m_look f) - 48, fr_up f 0 13 ((f 0 13) + 1)) := by rw [dn_m_digit, if_pos c_4, if_neg c_22, if_neg c_31]
        rw [hd_]
        exact fr_iret C hP hD hS rfl dM_digit_51
      · skip
        refine lv_aload_n hx hb dM_digit_34 rfl (lv_at hl 1 rfl) ?_
        refine cl_M_117 C hP hD hS hl.1 ⟨Nat.le_of_ble_eq_true rfl, Nat.le_of_ble_eq_true rfl⟩ (Nat.le_of_ble_eq_true rfl) ⟨Nat.le_of_ble_eq_true rfl, Nat.le_of_ble_eq_true rfl⟩ dM_digit_35 (fun H locs hP hD hS => ?_)
        refine lv_iconst (v := (-1)) hx hb dM_digit_38 (by decide) ?_
        have hd_ : dn_m_digit f x = ((-1), dn_m_fail f) := by rw [dn_m_digit, if_pos c_4, if_neg c_22, if_pos c_31]
        rw [hd_]
        exact fr_iret C hP hD hS rfl dM_digit_39
  · skip
    refine lv_iconst (v := (-1)) hx hb dM_digit_7 (by decide) ?_
    have hd_ : dn_m_digit f x = ((-1), f) := by rw [dn_m_digit, if_neg c_4]
    rw [hd_]
    exact fr_iret C hP hD hS rfl dM_digit_8
theorem mo_t_digit {g : Nat → Nat → Int32} {b : Int} {x c : Int32} (h : mo_t g b x) (hb : b ≤ 1000) : mo_t (dn_m_digit g c).2 (b + 1) x := by
  unfold dn_m_digit
  repeat' split
  all_goals first | exact mo_t_inc h hb | exact mo_t_w h (by omega) | exact mo_t_w (mo_t_fail h) (by omega)

def dn_m_rowOf (x : Int32) : Int32 := if x = 78 then 0 else (if x = 65 then 1 else (if x = 66 then 2 else (if x = 76 then 3 else (-1))))
set_option maxHeartbeats 4000000 in
set_option maxRecDepth 100000 in
theorem c_m_rowOf (l : Launch) (D : va_G) (ka : Nat → ClassId) (al : Nat → Nat) (Z : va_W) (f : Nat → Nat → Int32) (x : Int32) : fr_Mi l y_m_rowOf (.code y_m_rowOf prog_6_method_21_code 1 (some .int) :: fr_tbl) { frames := 0, cells := 0, slots := 0, locals := 0 } D vwCl (fr_ty ka) fr_nw [.int x] (fr_mw ka al f Z) (dn_m_rowOf x) (fr_mw ka al f Z) 0 0 := by
  refine fr_Mi.of (by decide) (Nat.le_of_ble_eq_true rfl) ?_
  intro p e s m below meth c A H locs ls C hP hD hS hl
  obtain ⟨hx, hb, hml, hown, ht, hK, hlocks, hr, hA, hN, hZ, hEx⟩ := id C
  have hl : lv_has ls 1 [(0, .int x)] := hl
  refine lv_iload_n hx hb dM_rowOf_0 rfl (lv_at hl 0 rfl) ?_
  refine lv_bipush (v := 78) hx hb dM_rowOf_1 (by decide) ?_
  refine lv_icmp_ne (tgt := 10) hx hb dM_rowOf_3 (by decide) (fun c_3 => ?_) (fun c_3 => ?_)
  · skip
    refine lv_iload_n hx hb dM_rowOf_10 rfl (lv_at hl 0 rfl) ?_
    refine lv_bipush (v := 65) hx hb dM_rowOf_11 (by decide) ?_
    refine lv_icmp_ne (tgt := 20) hx hb dM_rowOf_13 (by decide) (fun c_13 => ?_) (fun c_13 => ?_)
    · skip
      refine lv_iload_n hx hb dM_rowOf_20 rfl (lv_at hl 0 rfl) ?_
      refine lv_bipush (v := 66) hx hb dM_rowOf_21 (by decide) ?_
      refine lv_icmp_ne (tgt := 30) hx hb dM_rowOf_23 (by decide) (fun c_23 => ?_) (fun c_23 => ?_)
      · skip
        refine lv_iload_n hx hb dM_rowOf_30 rfl (lv_at hl 0 rfl) ?_
        refine lv_bipush (v := 76) hx hb dM_rowOf_31 (by decide) ?_
        refine lv_icmp_ne (tgt := 40) hx hb dM_rowOf_33 (by decide) (fun c_33 => ?_) (fun c_33 => ?_)
        · skip
          refine lv_iconst (v := (-1)) hx hb dM_rowOf_40 (by decide) ?_
          have hd_ : dn_m_rowOf x = (-1) := by rw [dn_m_rowOf, if_neg c_3, if_neg c_13, if_neg c_23, if_neg c_33]
          exact fr_iret C hP hD hS hd_.symm dM_rowOf_41
        · skip
          refine lv_iconst (v := 3) hx hb dM_rowOf_36 (by decide) ?_
          refine lv_goto (tgt := 41) hx hb dM_rowOf_37 (by decide) ?_
          have hd_ : dn_m_rowOf x = 3 := by rw [dn_m_rowOf, if_neg c_3, if_neg c_13, if_neg c_23, if_pos c_33]
          exact fr_iret C hP hD hS hd_.symm dM_rowOf_41
      · skip
        refine lv_iconst (v := 2) hx hb dM_rowOf_26 (by decide) ?_
        refine lv_goto (tgt := 41) hx hb dM_rowOf_27 (by decide) ?_
        have hd_ : dn_m_rowOf x = 2 := by rw [dn_m_rowOf, if_neg c_3, if_neg c_13, if_pos c_23]
        exact fr_iret C hP hD hS hd_.symm dM_rowOf_41
    · skip
      refine lv_iconst (v := 1) hx hb dM_rowOf_16 (by decide) ?_
      refine lv_goto (tgt := 41) hx hb dM_rowOf_17 (by decide) ?_
      have hd_ : dn_m_rowOf x = 1 := by rw [dn_m_rowOf, if_neg c_3, if_pos c_13]
      exact fr_iret C hP hD hS hd_.symm dM_rowOf_41
  · skip
    refine lv_iconst (v := 0) hx hb dM_rowOf_6 (by decide) ?_
    refine lv_goto (tgt := 41) hx hb dM_rowOf_7 (by decide) ?_
    have hd_ : dn_m_rowOf x = 0 := by rw [dn_m_rowOf, if_pos c_3]
    exact fr_iret C hP hD hS hd_.symm dM_rowOf_41

def dn_m_order_84 : Nat → (Int32) → (Int32) → (Nat → Nat → Int32) → (Int32) → (Int32) → Int32 × (Nat → Nat → Int32)
  | 0, _, _, _, _, _ => (0, fun _ _ => 0)
  | n + 1, x, y, g, x3, x4 => if x4 ≤ y then (x3, fr_up g 8 y.toNatClampNeg (x - 1)) else (dn_m_order_84 n x y (fr_up g 8 x4.toNatClampNeg (g 8 ((x4 - 1).toNatClampNeg))) x3 (x4 + (-1)))
set_option maxHeartbeats 4000000 in
set_option maxRecDepth 100000 in
theorem k_m_order_84 {p : Program} {l : Launch} {e : Env} {s : State} {m : MethodId} {below : List Frame} {meth : Method} {c : Code} {D : va_G} {A : Nat → Prop} {ka : Nat → ClassId} {al : Nat → Nat} {Z : va_W} {f : Nat → Nat → Int32} {x : Int32} {y : Int32} (C : fr_Cx p s m ([.ref (al 0), .int x, .int y] : List Value).toArray meth c "FragileRulesModel" prog_6_method_32_code 5 (some .int) [] fr_tbl fr_nw D vwCl (fr_ty ka) A) (gR : 0 ≤ (f 0 1).toInt ∧ (f 0 1).toInt ≤ 12) (gE : mo_all f) :
    ∀ (n : Nat) (g : Nat → Nat → Int32) (x3 : Int32) (x4 : Int32) (H : Heap) (locs : List Loc) (ls : Array Slot), 0 ≤ y.toInt ∧ y.toInt < 12 → 0 ≤ x4.toInt ∧ x4.toInt < 12 ∧ 1 ≤ n ∧ x4.toInt < y.toInt + n → va_P D vwCl (fr_mw ka al g Z) H → va_D A (fr_mw ka al g Z) → va_S A s.heap H locs → lv_has ls 5 [(0, .ref (al 0)), (1, .int x), (2, .int y), (3, .int x3), (4, .int x4)] → W p l e { frames := 1, cells := 0, slots := 0, locals := 22 } s m ([.ref (al 0), .int x, .int y] : List Value).toArray below meth c H locs 0 0 (MQ below (fr_Qi D vwCl (fr_ty ka) (dn_m_order_84 n x y g x3 x4).1 (fr_mw ka al ((dn_m_order_84 n x y g x3 x4).2) Z) A) ([.ref (al 0), .int x, .int y] : List Value).toArray s 0 0 A) (F0 m 84 ls []) := by
  obtain ⟨hx, hb, hml, hown, ht, hK, hlocks, hr, hA, hN, hZ, hEx⟩ := id C
  intro n
  induction n with
  | zero =>
    intro g x3 x4 H locs ls hy hm hP hD hS hl
    exact absurd hm (by omega)
  | succ n ih =>
    intro g x3 x4 H locs ls hy hm hP hD hS hl
    refine lv_iload hx hb dM_order_84 (lv_at hl 4 rfl) ?_
    refine lv_iload_n hx hb dM_order_86 rfl (lv_at hl 2 rfl) ?_
    refine lv_icmp_le (tgt := 112) hx hb dM_order_87 (by decide) (fun c_87 => ?_) (fun c_87 => ?_)
    · skip
      refine lv_aload_n hx hb dM_order_112 rfl (lv_at hl 0 rfl) ?_
      refine gf_M_31 C hP dM_order_113 ?_
      refine lv_iload_n hx hb dM_order_116 rfl (lv_at hl 2 rfl) ?_
      refine lv_iload_n hx hb dM_order_117 rfl (lv_at hl 1 rfl) ?_
      refine lv_iconst (v := 1) hx hb dM_order_118 (by decide) ?_
      refine lv_isub hx hb dM_order_119 ?_
      have hin_120 : vp_in y 12 := by have q0 := fr_t3 c_87; have e0 := hy; skip; rw [vp_in_iff]; omega
      refine mast_8 C hP hD hS hin_120 dM_order_120 (fun H locs hP hD hS => ?_)
      refine lv_iload_n hx hb dM_order_121 rfl (lv_at hl 3 rfl) ?_
      have hd_ : dn_m_order_84 (n + 1) x y g x3 x4 = (x3, fr_up g 8 y.toNatClampNeg (x - 1)) := by rw [dn_m_order_84, if_pos c_87]
      rw [hd_]
      exact fr_iret C hP hD hS rfl dM_order_122
    · skip
      refine lv_aload_n hx hb dM_order_90 rfl (lv_at hl 0 rfl) ?_
      refine gf_M_31 C hP dM_order_91 ?_
      refine lv_iload hx hb dM_order_94 (lv_at hl 4 rfl) ?_
      refine lv_aload_n hx hb dM_order_96 rfl (lv_at hl 0 rfl) ?_
      refine gf_M_31 C hP dM_order_97 ?_
      refine lv_iload hx hb dM_order_100 (lv_at hl 4 rfl) ?_
      refine lv_iconst (v := 1) hx hb dM_order_102 (by decide) ?_
      refine lv_isub hx hb dM_order_103 ?_
      have hin_104 : vp_in (x4 - 1) 12 := by have q0 := fr_t4 c_87; have e0 := hm; have e1 := fr_sub1 (x := x4) (by have := fr_t4 c_87; omega); skip; rw [vp_in_iff]; omega
      refine mald_8 C hP hin_104 dM_order_104 ?_
      have hin_105 : vp_in x4 12 := by have q0 := fr_t4 c_87; have e0 := hm; skip; rw [vp_in_iff]; omega
      refine mast_8 C hP hD hS hin_105 dM_order_105 (fun H locs hP hD hS => ?_)
      refine lv_iinc (v := x4 + (-1)) (lv' := [(4, .int (x4 + (-1))), (0, .ref (al 0)), (1, .int x), (2, .int y), (3, .int x3)]) hx hb dM_order_106 hl (k := 4) rfl rfl (by decide) rfl (fun ls hl => ?_)
      refine lv_goto (tgt := 84) hx hb dM_order_109 (by decide) ?_
      have hd_ : dn_m_order_84 (n + 1) x y g x3 x4 = dn_m_order_84 n x y (fr_up g 8 x4.toNatClampNeg (g 8 ((x4 - 1).toNatClampNeg))) x3 (x4 + (-1)) := by rw [dn_m_order_84, if_neg c_87]
      rw [hd_]
      exact ih (fr_up g 8 x4.toNatClampNeg (g 8 ((x4 - 1).toNatClampNeg))) x3 (x4 + (-1)) H locs ls hy (by have h1 := fr_t4 c_87; have h2 := fr_sub1 (x := x4) (by omega); have h3 : (x4 + (-1)).toInt = x4.toInt - 1 := (by rw [show x4 + (-1) = x4 - 1 from mo_dec]; exact h2); omega) hP hD hS (lv_sub hl [1, 2, 3, 4, 0] rfl)

def dn_m_order_53 : Nat → (Int32) → (Int32) → (Nat → Nat → Int32) → (Int32) → (Int32) → Int32 × (Nat → Nat → Int32)
  | 0, _, _, _, _, _ => (0, fun _ _ => 0)
  | n + 1, x, y, g, x3, x4 => if y ≤ x4 then (dn_m_order_84 13 x y g x3 x3) else (dn_m_order_53 n x y (fr_up g 8 x4.toNatClampNeg (g 8 ((x4 + 1).toNatClampNeg))) x3 (x4 + 1))
set_option maxHeartbeats 4000000 in
set_option maxRecDepth 100000 in
theorem k_m_order_53 {p : Program} {l : Launch} {e : Env} {s : State} {m : MethodId} {below : List Frame} {meth : Method} {c : Code} {D : va_G} {A : Nat → Prop} {ka : Nat → ClassId} {al : Nat → Nat} {Z : va_W} {f : Nat → Nat → Int32} {x : Int32} {y : Int32} (C : fr_Cx p s m ([.ref (al 0), .int x, .int y] : List Value).toArray meth c "FragileRulesModel" prog_6_method_32_code 5 (some .int) [] fr_tbl fr_nw D vwCl (fr_ty ka) A) (gR : 0 ≤ (f 0 1).toInt ∧ (f 0 1).toInt ≤ 12) (gE : mo_all f) :
    ∀ (n : Nat) (g : Nat → Nat → Int32) (x3 : Int32) (x4 : Int32) (H : Heap) (locs : List Loc) (ls : Array Slot), 0 ≤ y.toInt ∧ y.toInt < 12 → 0 ≤ x3.toInt ∧ x3.toInt < 12 → 0 ≤ x4.toInt ∧ x4.toInt < 12 ∧ 1 ≤ n ∧ y.toInt < x4.toInt + n → va_P D vwCl (fr_mw ka al g Z) H → va_D A (fr_mw ka al g Z) → va_S A s.heap H locs → lv_has ls 5 [(0, .ref (al 0)), (1, .int x), (2, .int y), (3, .int x3), (4, .int x4)] → W p l e { frames := 1, cells := 0, slots := 0, locals := 22 } s m ([.ref (al 0), .int x, .int y] : List Value).toArray below meth c H locs 0 0 (MQ below (fr_Qi D vwCl (fr_ty ka) (dn_m_order_53 n x y g x3 x4).1 (fr_mw ka al ((dn_m_order_53 n x y g x3 x4).2) Z) A) ([.ref (al 0), .int x, .int y] : List Value).toArray s 0 0 A) (F0 m 53 ls []) := by
  obtain ⟨hx, hb, hml, hown, ht, hK, hlocks, hr, hA, hN, hZ, hEx⟩ := id C
  intro n
  induction n with
  | zero =>
    intro g x3 x4 H locs ls hy h3 hm hP hD hS hl
    exact absurd hm (by omega)
  | succ n ih =>
    intro g x3 x4 H locs ls hy h3 hm hP hD hS hl
    refine lv_iload hx hb dM_order_53 (lv_at hl 4 rfl) ?_
    refine lv_iload_n hx hb dM_order_55 rfl (lv_at hl 2 rfl) ?_
    refine lv_icmp_ge (tgt := 81) hx hb dM_order_56 (by decide) (fun c_56 => ?_) (fun c_56 => ?_)
    · skip
      refine lv_iload_n hx hb dM_order_81 rfl (lv_at hl 3 rfl) ?_
      refine lv_istore (lv' := [(4, .int x3), (0, .ref (al 0)), (1, .int x), (2, .int y), (3, .int x3)]) hx hb dM_order_82 hl (by decide) rfl (fun ls hl => ?_)
      have hd_ : dn_m_order_53 (n + 1) x y g x3 x4 = dn_m_order_84 13 x y g x3 x3 := by rw [dn_m_order_53, if_pos c_56]
      rw [hd_]
      exact k_m_order_84 C gR gE 13 g x3 x3 H locs ls hy (by omega) hP hD hS (lv_sub hl [1, 2, 3, 4, 0] rfl)
    · skip
      refine lv_aload_n hx hb dM_order_59 rfl (lv_at hl 0 rfl) ?_
      refine gf_M_31 C hP dM_order_60 ?_
      refine lv_iload hx hb dM_order_63 (lv_at hl 4 rfl) ?_
      refine lv_aload_n hx hb dM_order_65 rfl (lv_at hl 0 rfl) ?_
      refine gf_M_31 C hP dM_order_66 ?_
      refine lv_iload hx hb dM_order_69 (lv_at hl 4 rfl) ?_
      refine lv_iconst (v := 1) hx hb dM_order_71 (by decide) ?_
      refine lv_iadd hx hb dM_order_72 ?_
      have hin_73 : vp_in (x4 + 1) 12 := by have q0 := fr_t4 c_56; have e0 := hm; have e1 := fr_add1 (x := x4) hm.1 (by omega); skip; rw [vp_in_iff]; omega
      refine mald_8 C hP hin_73 dM_order_73 ?_
      have hin_74 : vp_in x4 12 := by have q0 := fr_t4 c_56; have e0 := hm; skip; rw [vp_in_iff]; omega
      refine mast_8 C hP hD hS hin_74 dM_order_74 (fun H locs hP hD hS => ?_)
      refine lv_iinc (v := x4 + 1) (lv' := [(4, .int (x4 + 1)), (0, .ref (al 0)), (1, .int x), (2, .int y), (3, .int x3)]) hx hb dM_order_75 hl (k := 4) rfl rfl (by decide) rfl (fun ls hl => ?_)
      refine lv_goto (tgt := 53) hx hb dM_order_78 (by decide) ?_
      have hd_ : dn_m_order_53 (n + 1) x y g x3 x4 = dn_m_order_53 n x y (fr_up g 8 x4.toNatClampNeg (g 8 ((x4 + 1).toNatClampNeg))) x3 (x4 + 1) := by rw [dn_m_order_53, if_neg c_56]
      rw [hd_]
      exact ih (fr_up g 8 x4.toNatClampNeg (g 8 ((x4 + 1).toNatClampNeg))) x3 (x4 + 1) H locs ls hy h3 (by have h1 := fr_t4 c_56; have h2 := fr_add1 (x := x4) hm.1 (by omega); omega) hP hD hS (lv_sub hl [1, 2, 3, 4, 0] rfl)
def dn_m_order (f : Nat → Nat → Int32) (x : Int32) (y : Int32) : Int32 × (Nat → Nat → Int32) := if (dn_m_isNumber f x) = 0 then (0, fr_up f 0 5 1) else (if y < 0 then (0, fr_up f 0 5 2) else (if y < (f 0 1) then (dn_m_order_53 13 x y (fr_up f 0 5 0) (dn_m_placeOf (fr_up f 0 5 0) (x - 1)) (dn_m_placeOf (fr_up f 0 5 0) (x - 1))) else (0, fr_up f 0 5 2)))
set_option maxHeartbeats 4000000 in
set_option maxRecDepth 100000 in
theorem c_m_order (l : Launch) (D : va_G) (ka : Nat → ClassId) (al : Nat → Nat) (Z : va_W) (f : Nat → Nat → Int32) (x : Int32) (y : Int32) (gR : 0 ≤ (f 0 1).toInt ∧ (f 0 1).toInt ≤ 12) (gE : mo_all f) : fr_Mi l y_m_order (.code y_m_order prog_6_method_32_code 5 (some .int) :: fr_tbl) { frames := 1, cells := 0, slots := 0, locals := 22 } D vwCl (fr_ty ka) fr_nw [.ref (al 0), .int x, .int y] (fr_mw ka al f Z) ((dn_m_order f x y).1) (fr_mw ka al ((dn_m_order f x y).2) Z) 0 0 := by
  refine fr_Mi.of (by decide) (Nat.le_of_ble_eq_true rfl) ?_
  intro p e s m below meth c A H locs ls C hP hD hS hl
  obtain ⟨hx, hb, hml, hown, ht, hK, hlocks, hr, hA, hN, hZ, hEx⟩ := id C
  have hl : lv_has ls 5 [(0, .ref (al 0)), (1, .int x), (2, .int y)] := hl
  refine lv_aload_n hx hb dM_order_0 rfl (lv_at hl 0 rfl) ?_
  refine lv_aload_n hx hb dM_order_1 rfl (lv_at hl 0 rfl) ?_
  refine lv_iload_n hx hb dM_order_2 rfl (lv_at hl 1 rfl) ?_
  refine cl_M_145 C hP hD hS hl.1 ⟨Nat.le_of_ble_eq_true rfl, Nat.le_of_ble_eq_true rfl⟩ (Nat.le_of_ble_eq_true rfl) ⟨Nat.le_of_ble_eq_true rfl, Nat.le_of_ble_eq_true rfl⟩ dM_order_3 (fun H locs hP hD hS => ?_)
  refine lv_if_ne (tgt := 13) hx hb dM_order_6 (by decide) (fun c_6 => ?_) (fun c_6 => ?_)
  · skip
    refine lv_iload_n hx hb dM_order_13 rfl (lv_at hl 2 rfl) ?_
    refine lv_if_lt (tgt := 25) hx hb dM_order_14 (by decide) (fun c_14 => ?_) (fun c_14 => ?_)
    · skip
      refine lv_iconst (v := 2) hx hb dM_order_25 (by decide) ?_
      refine lv_goto (tgt := 30) hx hb dM_order_26 (by decide) ?_
      refine pf_M_40 C hP hD hS dM_order_30 (fun H locs hP hD hS => ?_)
      refine lv_aload_n hx hb dM_order_33 rfl (lv_at hl 0 rfl) ?_
      refine gf_M_40 C hP dM_order_34 ?_
      refine W.eq (g2 := F0 m 37 ls [.int 2]) (by first | rfl | simp [fr_up, fr_row]) ?_
      refine lv_if_eq (tgt := 42) hx hb dM_order_37 (by decide) (fun c_37 => absurd c_37 (by decide)) (fun c_37 => ?_)
      refine lv_iconst (v := 0) hx hb dM_order_40 (by decide) ?_
      have hd_ : dn_m_order f x y = (0, fr_up f 0 5 2) := by rw [dn_m_order, if_neg c_6, if_pos c_14]
      rw [hd_]
      exact fr_iret C hP hD hS rfl dM_order_41
    · skip
      refine lv_iload_n hx hb dM_order_17 rfl (lv_at hl 2 rfl) ?_
      refine lv_aload_n hx hb dM_order_18 rfl (lv_at hl 0 rfl) ?_
      refine gf_M_72 C hP dM_order_19 ?_
      refine lv_icmp_lt (tgt := 29) hx hb dM_order_22 (by decide) (fun c_22 => ?_) (fun c_22 => ?_)
      · skip
        refine lv_iconst (v := 0) hx hb dM_order_29 (by decide) ?_
        refine pf_M_40 C hP hD hS dM_order_30 (fun H locs hP hD hS => ?_)
        refine lv_aload_n hx hb dM_order_33 rfl (lv_at hl 0 rfl) ?_
        refine gf_M_40 C hP dM_order_34 ?_
        refine W.eq (g2 := F0 m 37 ls [.int 0]) (by first | rfl | simp [fr_up, fr_row]) ?_
        refine lv_if_eq (tgt := 42) hx hb dM_order_37 (by decide) (fun c_37 => ?_) (fun c_37 => absurd c_37 (by decide))
        refine lv_aload_n hx hb dM_order_42 rfl (lv_at hl 0 rfl) ?_
        refine lv_iload_n hx hb dM_order_43 rfl (lv_at hl 1 rfl) ?_
        refine lv_iconst (v := 1) hx hb dM_order_44 (by decide) ?_
        refine lv_isub hx hb dM_order_45 ?_
        refine cl_M_148 C hP hD hS hl.1 ⟨Nat.le_of_ble_eq_true rfl, Nat.le_of_ble_eq_true rfl⟩ (Nat.le_of_ble_eq_true rfl) ⟨Nat.le_of_ble_eq_true rfl, Nat.le_of_ble_eq_true rfl⟩ (mo_at gR gE c_6) dM_order_46 (fun H locs hP hD hS => ?_)
        refine lv_istore_n (lv' := [(3, .int (dn_m_placeOf (fr_up f 0 5 0) (x - 1))), (0, .ref (al 0)), (1, .int x), (2, .int y)]) hx hb dM_order_49 rfl hl (by decide) rfl (fun ls hl => ?_)
        refine lv_iload_n hx hb dM_order_50 rfl (lv_at hl 0 rfl) ?_
        refine lv_istore (lv' := [(4, .int (dn_m_placeOf (fr_up f 0 5 0) (x - 1))), (3, .int (dn_m_placeOf (fr_up f 0 5 0) (x - 1))), (0, .ref (al 0)), (1, .int x), (2, .int y)]) hx hb dM_order_51 hl (by decide) rfl (fun ls hl => ?_)
        have hd_ : dn_m_order f x y = dn_m_order_53 13 x y (fr_up f 0 5 0) (dn_m_placeOf (fr_up f 0 5 0) (x - 1)) (dn_m_placeOf (fr_up f 0 5 0) (x - 1)) := by rw [dn_m_order, if_neg c_6, if_neg c_14, if_pos c_22]
        rw [hd_]
        exact k_m_order_53 C gR gE 13 (fr_up f 0 5 0) (dn_m_placeOf (fr_up f 0 5 0) (x - 1)) (dn_m_placeOf (fr_up f 0 5 0) (x - 1)) H locs ls (mo_oy gR c_14 c_22) (mo_plb (mo_at gR gE c_6)) (by have h1 := mo_oy gR c_14 c_22; have h2 := mo_plb (mo_at gR gE c_6); have h3 : 0 ≤ (dn_m_placeOf (fr_up f 0 5 0) (x - 1)).toInt ∧ (dn_m_placeOf (fr_up f 0 5 0) (x - 1)).toInt < 12 := h2; omega) hP hD hS (lv_sub hl [2, 3, 4, 1, 0] rfl)
      · skip
        refine lv_iconst (v := 2) hx hb dM_order_25 (by decide) ?_
        refine lv_goto (tgt := 30) hx hb dM_order_26 (by decide) ?_
        refine pf_M_40 C hP hD hS dM_order_30 (fun H locs hP hD hS => ?_)
        refine lv_aload_n hx hb dM_order_33 rfl (lv_at hl 0 rfl) ?_
        refine gf_M_40 C hP dM_order_34 ?_
        refine W.eq (g2 := F0 m 37 ls [.int 2]) (by first | rfl | simp [fr_up, fr_row]) ?_
        refine lv_if_eq (tgt := 42) hx hb dM_order_37 (by decide) (fun c_37 => absurd c_37 (by decide)) (fun c_37 => ?_)
        refine lv_iconst (v := 0) hx hb dM_order_40 (by decide) ?_
        have hd_ : dn_m_order f x y = (0, fr_up f 0 5 2) := by rw [dn_m_order, if_neg c_6, if_neg c_14, if_neg c_22]
        rw [hd_]
        exact fr_iret C hP hD hS rfl dM_order_41
  · skip
    refine lv_iconst (v := 1) hx hb dM_order_9 (by decide) ?_
    refine lv_goto (tgt := 30) hx hb dM_order_10 (by decide) ?_
    refine pf_M_40 C hP hD hS dM_order_30 (fun H locs hP hD hS => ?_)
    refine lv_aload_n hx hb dM_order_33 rfl (lv_at hl 0 rfl) ?_
    refine gf_M_40 C hP dM_order_34 ?_
    refine W.eq (g2 := F0 m 37 ls [.int 1]) (by first | rfl | simp [fr_up, fr_row]) ?_
    refine lv_if_eq (tgt := 42) hx hb dM_order_37 (by decide) (fun c_37 => absurd c_37 (by decide)) (fun c_37 => ?_)
    refine lv_iconst (v := 0) hx hb dM_order_40 (by decide) ?_
    have hd_ : dn_m_order f x y = (0, fr_up f 0 5 1) := by rw [dn_m_order, if_pos c_6]
    rw [hd_]
    exact fr_iret C hP hD hS rfl dM_order_41
