def dn_m_thrown (f : Nat → Nat → Int32)  : Int32 := f 0 5
set_option maxHeartbeats 4000000 in
set_option maxRecDepth 100000 in
theorem c_m_thrown (l : Launch) (D : va_G) (ka : Nat → ClassId) (al : Nat → Nat) (Z : va_W) (f : Nat → Nat → Int32)  : fr_Mi l y_m_thrown (.code y_m_thrown prog_6_method_2_code 1 (some .int) :: fr_tbl) { frames := 0, cells := 0, slots := 0, locals := 0 } D vwCl (fr_ty ka) fr_nw [.ref (al 0)] (fr_mw ka al f Z) (dn_m_thrown f) (fr_mw ka al f Z) 0 0 := by
  refine fr_Mi.of (by decide) (Nat.le_of_ble_eq_true rfl) ?_
  intro p e s m below meth c A H locs ls C hP hD hS hl
  obtain ⟨hx, hb, hml, hown, ht, hK, hlocks, hr, hA, hN, hZ, hEx⟩ := id C
  have hl : lv_has ls 1 [(0, .ref (al 0))] := hl
  refine lv_aload_n hx hb dM_thrown_0 rfl (lv_at hl 0 rfl) ?_
  refine gf_M_40 C hP dM_thrown_1 ?_
  have hd_ : dn_m_thrown f = f 0 5 := by rw [dn_m_thrown]
  exact fr_iret C hP hD hS hd_.symm dM_thrown_4

def dn_m_within (x : Int32) (y : Int32) (k : Int32) : Int32 := if x < y then 0 else (if k < x then 0 else 1)
set_option maxHeartbeats 4000000 in
set_option maxRecDepth 100000 in
theorem c_m_within (l : Launch) (D : va_G) (ka : Nat → ClassId) (al : Nat → Nat) (Z : va_W) (f : Nat → Nat → Int32) (x : Int32) (y : Int32) (k : Int32) : fr_Mi l y_m_within (.code y_m_within prog_6_method_3_code 3 (some .boolean) :: fr_tbl) { frames := 0, cells := 0, slots := 0, locals := 0 } D vwCl (fr_ty ka) fr_nw [.int x, .int y, .int k] (fr_mw ka al f Z) (dn_m_within x y k) (fr_mw ka al f Z) 0 0 := by
  refine fr_Mi.of (by decide) (Nat.le_of_ble_eq_true rfl) ?_
  intro p e s m below meth c A H locs ls C hP hD hS hl
  obtain ⟨hx, hb, hml, hown, ht, hK, hlocks, hr, hA, hN, hZ, hEx⟩ := id C
  have hl : lv_has ls 3 [(0, .int x), (1, .int y), (2, .int k)] := hl
  refine lv_iload_n hx hb dM_within_0 rfl (lv_at hl 0 rfl) ?_
  refine lv_iload_n hx hb dM_within_1 rfl (lv_at hl 1 rfl) ?_
  refine lv_icmp_lt (tgt := 14) hx hb dM_within_2 (by decide) (fun c_2 => ?_) (fun c_2 => ?_)
  · skip
    refine lv_iconst (v := 0) hx hb dM_within_14 (by decide) ?_
    have hd_ : dn_m_within x y k = 0 := by rw [dn_m_within, if_pos c_2]
    exact fr_zret C hP hD hS hd_.symm (Or.inl rfl) dM_within_15
  · skip
    refine lv_iload_n hx hb dM_within_5 rfl (lv_at hl 0 rfl) ?_
    refine lv_iload_n hx hb dM_within_6 rfl (lv_at hl 2 rfl) ?_
    refine lv_icmp_gt (tgt := 14) hx hb dM_within_7 (by decide) (fun c_7 => ?_) (fun c_7 => ?_)
    · skip
      refine lv_iconst (v := 0) hx hb dM_within_14 (by decide) ?_
      have hd_ : dn_m_within x y k = 0 := by rw [dn_m_within, if_neg c_2, if_pos c_7]
      exact fr_zret C hP hD hS hd_.symm (Or.inl rfl) dM_within_15
    · skip
      refine lv_iconst (v := 1) hx hb dM_within_10 (by decide) ?_
      refine lv_goto (tgt := 15) hx hb dM_within_11 (by decide) ?_
      have hd_ : dn_m_within x y k = 1 := by rw [dn_m_within, if_neg c_2, if_neg c_7]
      exact fr_zret C hP hD hS hd_.symm (Or.inr rfl) dM_within_15
theorem bz_m_within {x : Int32} {y : Int32} {k : Int32} : dn_m_within x y k = 0 ∨ dn_m_within x y k = 1 := by
  unfold dn_m_within
  repeat' split
  all_goals first | exact Or.inl rfl | exact Or.inr rfl | exact bz_m_ownRefuses

def dn_m_isUnit (f : Nat → Nat → Int32) (x : Int32) : Int32 := if x < 0 then 0 else (if (f 0 0) ≤ x then 0 else 1)
set_option maxHeartbeats 4000000 in
set_option maxRecDepth 100000 in
theorem c_m_isUnit (l : Launch) (D : va_G) (ka : Nat → ClassId) (al : Nat → Nat) (Z : va_W) (f : Nat → Nat → Int32) (x : Int32) : fr_Mi l y_m_isUnit (.code y_m_isUnit prog_6_method_4_code 2 (some .boolean) :: fr_tbl) { frames := 0, cells := 0, slots := 0, locals := 0 } D vwCl (fr_ty ka) fr_nw [.ref (al 0), .int x] (fr_mw ka al f Z) (dn_m_isUnit f x) (fr_mw ka al f Z) 0 0 := by
  refine fr_Mi.of (by decide) (Nat.le_of_ble_eq_true rfl) ?_
  intro p e s m below meth c A H locs ls C hP hD hS hl
  obtain ⟨hx, hb, hml, hown, ht, hK, hlocks, hr, hA, hN, hZ, hEx⟩ := id C
  have hl : lv_has ls 2 [(0, .ref (al 0)), (1, .int x)] := hl
  refine lv_iload_n hx hb dM_isUnit_0 rfl (lv_at hl 1 rfl) ?_
  refine lv_if_lt (tgt := 16) hx hb dM_isUnit_1 (by decide) (fun c_1 => ?_) (fun c_1 => ?_)
  · skip
    refine lv_iconst (v := 0) hx hb dM_isUnit_16 (by decide) ?_
    have hd_ : dn_m_isUnit f x = 0 := by rw [dn_m_isUnit, if_pos c_1]
    exact fr_zret C hP hD hS hd_.symm (Or.inl rfl) dM_isUnit_17
  · skip
    refine lv_iload_n hx hb dM_isUnit_4 rfl (lv_at hl 1 rfl) ?_
    refine lv_aload_n hx hb dM_isUnit_5 rfl (lv_at hl 0 rfl) ?_
    refine gf_M_44 C hP dM_isUnit_6 ?_
    refine lv_icmp_ge (tgt := 16) hx hb dM_isUnit_9 (by decide) (fun c_9 => ?_) (fun c_9 => ?_)
    · skip
      refine lv_iconst (v := 0) hx hb dM_isUnit_16 (by decide) ?_
      have hd_ : dn_m_isUnit f x = 0 := by rw [dn_m_isUnit, if_neg c_1, if_pos c_9]
      exact fr_zret C hP hD hS hd_.symm (Or.inl rfl) dM_isUnit_17
    · skip
      refine lv_iconst (v := 1) hx hb dM_isUnit_12 (by decide) ?_
      refine lv_goto (tgt := 17) hx hb dM_isUnit_13 (by decide) ?_
      have hd_ : dn_m_isUnit f x = 1 := by rw [dn_m_isUnit, if_neg c_1, if_neg c_9]
      exact fr_zret C hP hD hS hd_.symm (Or.inr rfl) dM_isUnit_17
theorem bz_m_isUnit {f : Nat → Nat → Int32} {x : Int32} : dn_m_isUnit f x = 0 ∨ dn_m_isUnit f x = 1 := by
  unfold dn_m_isUnit
  repeat' split
  all_goals first | exact Or.inl rfl | exact Or.inr rfl | exact bz_m_ownRefuses
theorem mo_isU {f : Nat → Nat → Int32} {x : Int32} (h : ¬ dn_m_isUnit f x = 0) : 0 ≤ x.toInt ∧ x.toInt < (f 0 0).toInt := by
  unfold dn_m_isUnit at h
  split at h
  · exact absurd rfl h
  · rename_i h1
    split at h
    · exact absurd rfl h
    · rename_i h2
      have q1 := fr_t2 h1
      have q2 := fr_t4 h2
      have z : (0 : Int32).toInt = 0 := rfl
      omega
theorem mo_uu {f : Nat → Nat → Int32} {x y : Int32} (gU : 0 ≤ (f 0 0).toInt ∧ (f 0 0).toInt ≤ 10) (h1 : ¬ dn_m_isUnit f x = 0) (h2 : ¬ dn_m_isUnit f y = 0) : (0 ≤ x.toInt ∧ x.toInt < 10) ∧ 0 ≤ y.toInt ∧ y.toInt < 10 := by
  have := mo_isU h1
  have := mo_isU h2
  omega

def dn_m_isMark (x : Int32) : Int32 := if x = 1 then 1 else (if x = 2 then 1 else (if x = 4 then 1 else (if x = 8 then 1 else (if x = 16 then 1 else 0))))
set_option maxHeartbeats 4000000 in
set_option maxRecDepth 100000 in
theorem c_m_isMark (l : Launch) (D : va_G) (ka : Nat → ClassId) (al : Nat → Nat) (Z : va_W) (f : Nat → Nat → Int32) (x : Int32) : fr_Mi l y_m_isMark (.code y_m_isMark prog_6_method_5_code 1 (some .boolean) :: fr_tbl) { frames := 0, cells := 0, slots := 0, locals := 0 } D vwCl (fr_ty ka) fr_nw [.int x] (fr_mw ka al f Z) (dn_m_isMark x) (fr_mw ka al f Z) 0 0 := by
  refine fr_Mi.of (by decide) (Nat.le_of_ble_eq_true rfl) ?_
  intro p e s m below meth c A H locs ls C hP hD hS hl
  obtain ⟨hx, hb, hml, hown, ht, hK, hlocks, hr, hA, hN, hZ, hEx⟩ := id C
  have hl : lv_has ls 1 [(0, .int x)] := hl
  refine lv_iload_n hx hb dM_isMark_0 rfl (lv_at hl 0 rfl) ?_
  refine lv_iconst (v := 1) hx hb dM_isMark_1 (by decide) ?_
  refine lv_icmp_eq (tgt := 27) hx hb dM_isMark_2 (by decide) (fun c_2 => ?_) (fun c_2 => ?_)
  · skip
    refine lv_iconst (v := 1) hx hb dM_isMark_27 (by decide) ?_
    refine lv_goto (tgt := 32) hx hb dM_isMark_28 (by decide) ?_
    have hd_ : dn_m_isMark x = 1 := by rw [dn_m_isMark, if_pos c_2]
    exact fr_zret C hP hD hS hd_.symm (Or.inr rfl) dM_isMark_32
  · skip
    refine lv_iload_n hx hb dM_isMark_5 rfl (lv_at hl 0 rfl) ?_
    refine lv_iconst (v := 2) hx hb dM_isMark_6 (by decide) ?_
    refine lv_icmp_eq (tgt := 27) hx hb dM_isMark_7 (by decide) (fun c_7 => ?_) (fun c_7 => ?_)
    · skip
      refine lv_iconst (v := 1) hx hb dM_isMark_27 (by decide) ?_
      refine lv_goto (tgt := 32) hx hb dM_isMark_28 (by decide) ?_
      have hd_ : dn_m_isMark x = 1 := by rw [dn_m_isMark, if_neg c_2, if_pos c_7]
      exact fr_zret C hP hD hS hd_.symm (Or.inr rfl) dM_isMark_32
    · skip
      refine lv_iload_n hx hb dM_isMark_10 rfl (lv_at hl 0 rfl) ?_
      refine lv_iconst (v := 4) hx hb dM_isMark_11 (by decide) ?_
      refine lv_icmp_eq (tgt := 27) hx hb dM_isMark_12 (by decide) (fun c_12 => ?_) (fun c_12 => ?_)
      · skip
        refine lv_iconst (v := 1) hx hb dM_isMark_27 (by decide) ?_
        refine lv_goto (tgt := 32) hx hb dM_isMark_28 (by decide) ?_
        have hd_ : dn_m_isMark x = 1 := by rw [dn_m_isMark, if_neg c_2, if_neg c_7, if_pos c_12]
        exact fr_zret C hP hD hS hd_.symm (Or.inr rfl) dM_isMark_32
      · skip
        refine lv_iload_n hx hb dM_isMark_15 rfl (lv_at hl 0 rfl) ?_
        refine lv_bipush (v := 8) hx hb dM_isMark_16 (by decide) ?_
        refine lv_icmp_eq (tgt := 27) hx hb dM_isMark_18 (by decide) (fun c_18 => ?_) (fun c_18 => ?_)
        · skip
          refine lv_iconst (v := 1) hx hb dM_isMark_27 (by decide) ?_
          refine lv_goto (tgt := 32) hx hb dM_isMark_28 (by decide) ?_
          have hd_ : dn_m_isMark x = 1 := by rw [dn_m_isMark, if_neg c_2, if_neg c_7, if_neg c_12, if_pos c_18]
          exact fr_zret C hP hD hS hd_.symm (Or.inr rfl) dM_isMark_32
        · skip
          refine lv_iload_n hx hb dM_isMark_21 rfl (lv_at hl 0 rfl) ?_
          refine lv_bipush (v := 16) hx hb dM_isMark_22 (by decide) ?_
          refine lv_icmp_ne (tgt := 31) hx hb dM_isMark_24 (by decide) (fun c_24 => ?_) (fun c_24 => ?_)
          · skip
            refine lv_iconst (v := 0) hx hb dM_isMark_31 (by decide) ?_
            have hd_ : dn_m_isMark x = 0 := by rw [dn_m_isMark, if_neg c_2, if_neg c_7, if_neg c_12, if_neg c_18, if_neg c_24]
            exact fr_zret C hP hD hS hd_.symm (Or.inl rfl) dM_isMark_32
          · skip
            refine lv_iconst (v := 1) hx hb dM_isMark_27 (by decide) ?_
            refine lv_goto (tgt := 32) hx hb dM_isMark_28 (by decide) ?_
            have hd_ : dn_m_isMark x = 1 := by rw [dn_m_isMark, if_neg c_2, if_neg c_7, if_neg c_12, if_neg c_18, if_pos c_24]
            exact fr_zret C hP hD hS hd_.symm (Or.inr rfl) dM_isMark_32
theorem bz_m_isMark {x : Int32} : dn_m_isMark x = 0 ∨ dn_m_isMark x = 1 := by
  unfold dn_m_isMark
  repeat' split
  all_goals first | exact Or.inl rfl | exact Or.inr rfl | exact bz_m_ownRefuses

def dn_m_concerns (f : Nat → Nat → Int32) (x : Int32) : Int32 := if (f 4 x.toNatClampNeg) = 5 then (if (f 0 7) = 0 then (if (f 5 x.toNatClampNeg) = 2 then 0 else 1) else (if (f 0 7) = 1 then (if (f 5 x.toNatClampNeg) = 2 then 1 else 0) else 0)) else (if (f 0 7) = 0 then (if (f 4 x.toNatClampNeg) = 0 then 1 else (if (f 4 x.toNatClampNeg) = 2 then 1 else (if (f 4 x.toNatClampNeg) = 3 then 1 else 0))) else (if (f 0 7) = 1 then (if (f 4 x.toNatClampNeg) = 1 then 1 else 0) else (if (f 4 x.toNatClampNeg) = 4 then 1 else 0)))
set_option maxHeartbeats 4000000 in
set_option maxRecDepth 100000 in
theorem c_m_concerns (l : Launch) (D : va_G) (ka : Nat → ClassId) (al : Nat → Nat) (Z : va_W) (f : Nat → Nat → Int32) (x : Int32) (gX : 0 ≤ x.toInt ∧ x.toInt < 12) : fr_Mi l y_m_concerns (.code y_m_concerns prog_6_method_6_code 2 (some .boolean) :: fr_tbl) { frames := 0, cells := 0, slots := 0, locals := 0 } D vwCl (fr_ty ka) fr_nw [.ref (al 0), .int x] (fr_mw ka al f Z) (dn_m_concerns f x) (fr_mw ka al f Z) 0 0 := by
  refine fr_Mi.of (by decide) (Nat.le_of_ble_eq_true rfl) ?_
  intro p e s m below meth c A H locs ls C hP hD hS hl
  obtain ⟨hx, hb, hml, hown, ht, hK, hlocks, hr, hA, hN, hZ, hEx⟩ := id C
  have hl : lv_has ls 2 [(0, .ref (al 0)), (1, .int x)] := hl
  refine lv_aload_n hx hb dM_concerns_0 rfl (lv_at hl 0 rfl) ?_
  refine gf_M_19 C hP dM_concerns_1 ?_
  refine lv_iload_n hx hb dM_concerns_4 rfl (lv_at hl 1 rfl) ?_
  have hin_5 : vp_in x 12 := by skip; rw [vp_in_iff]; omega
  refine mald_4 C hP hin_5 dM_concerns_5 ?_
  refine lv_iconst (v := 5) hx hb dM_concerns_6 (by decide) ?_
  refine lv_icmp_ne (tgt := 59) hx hb dM_concerns_7 (by decide) (fun c_7 => ?_) (fun c_7 => ?_)
  · skip
    refine lv_aload_n hx hb dM_concerns_59 rfl (lv_at hl 0 rfl) ?_
    refine gf_M_47 C hP dM_concerns_60 ?_
    refine lv_if_ne (tgt := 103) hx hb dM_concerns_63 (by decide) (fun c_63 => ?_) (fun c_63 => ?_)
    · skip
      refine lv_aload_n hx hb dM_concerns_103 rfl (lv_at hl 0 rfl) ?_
      refine gf_M_47 C hP dM_concerns_104 ?_
      refine lv_iconst (v := 1) hx hb dM_concerns_107 (by decide) ?_
      refine lv_icmp_ne (tgt := 129) hx hb dM_concerns_108 (by decide) (fun c_108 => ?_) (fun c_108 => ?_)
      · skip
        refine lv_aload_n hx hb dM_concerns_129 rfl (lv_at hl 0 rfl) ?_
        refine gf_M_19 C hP dM_concerns_130 ?_
        refine lv_iload_n hx hb dM_concerns_133 rfl (lv_at hl 1 rfl) ?_
        have hin_134 : vp_in x 12 := by have q0 := fr_t6 c_7; have q1 := fr_t6 c_63; have q2 := fr_t6 c_108; have z0 : (0 : Int32).toInt = 0 := rfl; have z1 : (1 : Int32).toInt = 1 := rfl; have z2 : (5 : Int32).toInt = 5 := rfl; skip; rw [vp_in_iff]; omega
        refine mald_4 C hP hin_134 dM_concerns_134 ?_
        refine lv_iconst (v := 4) hx hb dM_concerns_135 (by decide) ?_
        refine lv_icmp_ne (tgt := 143) hx hb dM_concerns_136 (by decide) (fun c_136 => ?_) (fun c_136 => ?_)
        · skip
          refine lv_iconst (v := 0) hx hb dM_concerns_143 (by decide) ?_
          have hd_ : dn_m_concerns f x = 0 := by rw [dn_m_concerns, if_neg c_7, if_neg c_63, if_neg c_108, if_neg c_136]
          exact fr_zret C hP hD hS hd_.symm (Or.inl rfl) dM_concerns_144
        · skip
          refine lv_iconst (v := 1) hx hb dM_concerns_139 (by decide) ?_
          refine lv_goto (tgt := 144) hx hb dM_concerns_140 (by decide) ?_
          have hd_ : dn_m_concerns f x = 1 := by rw [dn_m_concerns, if_neg c_7, if_neg c_63, if_neg c_108, if_pos c_136]
          exact fr_zret C hP hD hS hd_.symm (Or.inr rfl) dM_concerns_144
      · skip
        refine lv_aload_n hx hb dM_concerns_111 rfl (lv_at hl 0 rfl) ?_
        refine gf_M_19 C hP dM_concerns_112 ?_
        refine lv_iload_n hx hb dM_concerns_115 rfl (lv_at hl 1 rfl) ?_
        have hin_116 : vp_in x 12 := by have q0 := fr_t6 c_7; have q1 := fr_t6 c_63; have q2 := fr_t5 c_108; have z0 : (0 : Int32).toInt = 0 := rfl; have z1 : (1 : Int32).toInt = 1 := rfl; have z2 : (5 : Int32).toInt = 5 := rfl; skip; rw [vp_in_iff]; omega
        refine mald_4 C hP hin_116 dM_concerns_116 ?_
        refine lv_iconst (v := 1) hx hb dM_concerns_117 (by decide) ?_
        refine lv_icmp_ne (tgt := 125) hx hb dM_concerns_118 (by decide) (fun c_118 => ?_) (fun c_118 => ?_)
        · skip
          refine lv_iconst (v := 0) hx hb dM_concerns_125 (by decide) ?_
          refine lv_goto (tgt := 144) hx hb dM_concerns_126 (by decide) ?_
          have hd_ : dn_m_concerns f x = 0 := by rw [dn_m_concerns, if_neg c_7, if_neg c_63, if_pos c_108, if_neg c_118]
          exact fr_zret C hP hD hS hd_.symm (Or.inl rfl) dM_concerns_144
        · skip
          refine lv_iconst (v := 1) hx hb dM_concerns_121 (by decide) ?_
          refine lv_goto (tgt := 144) hx hb dM_concerns_122 (by decide) ?_
          have hd_ : dn_m_concerns f x = 1 := by rw [dn_m_concerns, if_neg c_7, if_neg c_63, if_pos c_108, if_pos c_118]
          exact fr_zret C hP hD hS hd_.symm (Or.inr rfl) dM_concerns_144
    · skip
      refine lv_aload_n hx hb dM_concerns_66 rfl (lv_at hl 0 rfl) ?_
      refine gf_M_19 C hP dM_concerns_67 ?_
      refine lv_iload_n hx hb dM_concerns_70 rfl (lv_at hl 1 rfl) ?_
      have hin_71 : vp_in x 12 := by have q0 := fr_t6 c_7; have q1 := fr_t5 c_63; have z0 : (0 : Int32).toInt = 0 := rfl; have z1 : (5 : Int32).toInt = 5 := rfl; skip; rw [vp_in_iff]; omega
      refine mald_4 C hP hin_71 dM_concerns_71 ?_
      refine lv_if_eq (tgt := 95) hx hb dM_concerns_72 (by decide) (fun c_72 => ?_) (fun c_72 => ?_)
      · skip
        refine lv_iconst (v := 1) hx hb dM_concerns_95 (by decide) ?_
        refine lv_goto (tgt := 144) hx hb dM_concerns_96 (by decide) ?_
        have hd_ : dn_m_concerns f x = 1 := by rw [dn_m_concerns, if_neg c_7, if_pos c_63, if_pos c_72]
        exact fr_zret C hP hD hS hd_.symm (Or.inr rfl) dM_concerns_144
      · skip
        refine lv_aload_n hx hb dM_concerns_75 rfl (lv_at hl 0 rfl) ?_
        refine gf_M_19 C hP dM_concerns_76 ?_
        refine lv_iload_n hx hb dM_concerns_79 rfl (lv_at hl 1 rfl) ?_
        have hin_80 : vp_in x 12 := by have q0 := fr_t6 c_7; have q1 := fr_t5 c_63; have q2 := fr_t6 c_72; have z0 : (0 : Int32).toInt = 0 := rfl; have z1 : (5 : Int32).toInt = 5 := rfl; skip; rw [vp_in_iff]; omega
        refine mald_4 C hP hin_80 dM_concerns_80 ?_
        refine lv_iconst (v := 2) hx hb dM_concerns_81 (by decide) ?_
        refine lv_icmp_eq (tgt := 95) hx hb dM_concerns_82 (by decide) (fun c_82 => ?_) (fun c_82 => ?_)
        · skip
          refine lv_iconst (v := 1) hx hb dM_concerns_95 (by decide) ?_
          refine lv_goto (tgt := 144) hx hb dM_concerns_96 (by decide) ?_
          have hd_ : dn_m_concerns f x = 1 := by rw [dn_m_concerns, if_neg c_7, if_pos c_63, if_neg c_72, if_pos c_82]
          exact fr_zret C hP hD hS hd_.symm (Or.inr rfl) dM_concerns_144
        · skip
          refine lv_aload_n hx hb dM_concerns_85 rfl (lv_at hl 0 rfl) ?_
          refine gf_M_19 C hP dM_concerns_86 ?_
          refine lv_iload_n hx hb dM_concerns_89 rfl (lv_at hl 1 rfl) ?_
          have hin_90 : vp_in x 12 := by have q0 := fr_t6 c_7; have q1 := fr_t5 c_63; have q2 := fr_t6 c_72; have q3 := fr_t6 c_82; have z0 : (0 : Int32).toInt = 0 := rfl; have z1 : (2 : Int32).toInt = 2 := rfl; have z2 : (5 : Int32).toInt = 5 := rfl; skip; rw [vp_in_iff]; omega
          refine mald_4 C hP hin_90 dM_concerns_90 ?_
          refine lv_iconst (v := 3) hx hb dM_concerns_91 (by decide) ?_
          refine lv_icmp_ne (tgt := 99) hx hb dM_concerns_92 (by decide) (fun c_92 => ?_) (fun c_92 => ?_)
          · skip
            refine lv_iconst (v := 0) hx hb dM_concerns_99 (by decide) ?_
            refine lv_goto (tgt := 144) hx hb dM_concerns_100 (by decide) ?_
            have hd_ : dn_m_concerns f x = 0 := by rw [dn_m_concerns, if_neg c_7, if_pos c_63, if_neg c_72, if_neg c_82, if_neg c_92]
            exact fr_zret C hP hD hS hd_.symm (Or.inl rfl) dM_concerns_144
          · skip
            refine lv_iconst (v := 1) hx hb dM_concerns_95 (by decide) ?_
            refine lv_goto (tgt := 144) hx hb dM_concerns_96 (by decide) ?_
            have hd_ : dn_m_concerns f x = 1 := by rw [dn_m_concerns, if_neg c_7, if_pos c_63, if_neg c_72, if_neg c_82, if_pos c_92]
            exact fr_zret C hP hD hS hd_.symm (Or.inr rfl) dM_concerns_144
  · skip
    refine lv_aload_n hx hb dM_concerns_10 rfl (lv_at hl 0 rfl) ?_
    refine gf_M_47 C hP dM_concerns_11 ?_
    refine lv_if_ne (tgt := 35) hx hb dM_concerns_14 (by decide) (fun c_14 => ?_) (fun c_14 => ?_)
    · skip
      refine lv_aload_n hx hb dM_concerns_35 rfl (lv_at hl 0 rfl) ?_
      refine gf_M_47 C hP dM_concerns_36 ?_
      refine lv_iconst (v := 1) hx hb dM_concerns_39 (by decide) ?_
      refine lv_icmp_ne (tgt := 57) hx hb dM_concerns_40 (by decide) (fun c_40 => ?_) (fun c_40 => ?_)
      · skip
        refine lv_iconst (v := 0) hx hb dM_concerns_57 (by decide) ?_
        have hd_ : dn_m_concerns f x = 0 := by rw [dn_m_concerns, if_pos c_7, if_neg c_14, if_neg c_40]
        exact fr_zret C hP hD hS hd_.symm (Or.inl rfl) dM_concerns_58
      · skip
        refine lv_aload_n hx hb dM_concerns_43 rfl (lv_at hl 0 rfl) ?_
        refine gf_M_22 C hP dM_concerns_44 ?_
        refine lv_iload_n hx hb dM_concerns_47 rfl (lv_at hl 1 rfl) ?_
        have hin_48 : vp_in x 12 := by have q0 := fr_t5 c_7; have q1 := fr_t6 c_14; have q2 := fr_t5 c_40; have z0 : (0 : Int32).toInt = 0 := rfl; have z1 : (1 : Int32).toInt = 1 := rfl; have z2 : (5 : Int32).toInt = 5 := rfl; skip; rw [vp_in_iff]; omega
        refine mald_5 C hP hin_48 dM_concerns_48 ?_
        refine lv_iconst (v := 2) hx hb dM_concerns_49 (by decide) ?_
        refine lv_icmp_ne (tgt := 57) hx hb dM_concerns_50 (by decide) (fun c_50 => ?_) (fun c_50 => ?_)
        · skip
          refine lv_iconst (v := 0) hx hb dM_concerns_57 (by decide) ?_
          have hd_ : dn_m_concerns f x = 0 := by rw [dn_m_concerns, if_pos c_7, if_neg c_14, if_pos c_40, if_neg c_50]
          exact fr_zret C hP hD hS hd_.symm (Or.inl rfl) dM_concerns_58
        · skip
          refine lv_iconst (v := 1) hx hb dM_concerns_53 (by decide) ?_
          refine lv_goto (tgt := 58) hx hb dM_concerns_54 (by decide) ?_
          have hd_ : dn_m_concerns f x = 1 := by rw [dn_m_concerns, if_pos c_7, if_neg c_14, if_pos c_40, if_pos c_50]
          exact fr_zret C hP hD hS hd_.symm (Or.inr rfl) dM_concerns_58
    · skip
      refine lv_aload_n hx hb dM_concerns_17 rfl (lv_at hl 0 rfl) ?_
      refine gf_M_22 C hP dM_concerns_18 ?_
      refine lv_iload_n hx hb dM_concerns_21 rfl (lv_at hl 1 rfl) ?_
      have hin_22 : vp_in x 12 := by have q0 := fr_t5 c_7; have q1 := fr_t5 c_14; have z0 : (0 : Int32).toInt = 0 := rfl; have z1 : (5 : Int32).toInt = 5 := rfl; skip; rw [vp_in_iff]; omega
      refine mald_5 C hP hin_22 dM_concerns_22 ?_
      refine lv_iconst (v := 2) hx hb dM_concerns_23 (by decide) ?_
      refine lv_icmp_eq (tgt := 31) hx hb dM_concerns_24 (by decide) (fun c_24 => ?_) (fun c_24 => ?_)
      · skip
        refine lv_iconst (v := 0) hx hb dM_concerns_31 (by decide) ?_
        refine lv_goto (tgt := 58) hx hb dM_concerns_32 (by decide) ?_
        have hd_ : dn_m_concerns f x = 0 := by rw [dn_m_concerns, if_pos c_7, if_pos c_14, if_pos c_24]
        exact fr_zret C hP hD hS hd_.symm (Or.inl rfl) dM_concerns_58
      · skip
        refine lv_iconst (v := 1) hx hb dM_concerns_27 (by decide) ?_
        refine lv_goto (tgt := 58) hx hb dM_concerns_28 (by decide) ?_
        have hd_ : dn_m_concerns f x = 1 := by rw [dn_m_concerns, if_pos c_7, if_pos c_14, if_neg c_24]
        exact fr_zret C hP hD hS hd_.symm (Or.inr rfl) dM_concerns_58
theorem bz_m_concerns {f : Nat → Nat → Int32} {x : Int32} : dn_m_concerns f x = 0 ∨ dn_m_concerns f x = 1 := by
  unfold dn_m_concerns
  repeat' split
  all_goals first | exact Or.inl rfl | exact Or.inr rfl | exact bz_m_ownRefuses

def dn_m_ownRefuses (f : Nat → Nat → Int32) (x : Int32) : Int32 := if (f 6 x.toNatClampNeg) = 1 then 1 else (if (f 1 ((f 0 8).toNatClampNeg)) = (f 1 ((f 0 9).toNatClampNeg)) then (if (f 5 x.toNatClampNeg) = 0 then (if ((f 3 ((f 0 8).toNatClampNeg)) &&& 1) = 0 then 0 else 1) else (if (f 5 x.toNatClampNeg) = 1 then (if ((f 3 ((f 0 9).toNatClampNeg)) &&& 2) = 0 then 0 else (if (f 0 10) = 0 then 0 else 1)) else (if (f 5 x.toNatClampNeg) = 2 then 0 else 0))) else (if (f 5 x.toNatClampNeg) = 0 then (if ((f 3 ((f 0 8).toNatClampNeg)) &&& 1) = 0 then 0 else 1) else (if (f 5 x.toNatClampNeg) = 1 then (if ((f 3 ((f 0 9).toNatClampNeg)) &&& 2) = 0 then 0 else (if (f 0 10) = 0 then 0 else 1)) else (if (f 5 x.toNatClampNeg) = 2 then (if (((f 3 ((f 0 8).toNatClampNeg)) ||| (f 3 ((f 0 9).toNatClampNeg))) &&& 8) = 0 then 0 else 1) else (if ((f 3 ((f 0 8).toNatClampNeg)) &&& 4) = 0 then 0 else 1)))))
set_option maxHeartbeats 4000000 in
set_option maxRecDepth 100000 in
theorem c_m_ownRefuses (l : Launch) (D : va_G) (ka : Nat → ClassId) (al : Nat → Nat) (Z : va_W) (f : Nat → Nat → Int32) (x : Int32) (gX : 0 ≤ x.toInt ∧ x.toInt < 12) (gB : (0 ≤ (f 0 8).toInt ∧ (f 0 8).toInt < 10) ∧ 0 ≤ (f 0 9).toInt ∧ (f 0 9).toInt < 10) : fr_Mi l y_m_ownRefuses (.code y_m_ownRefuses prog_6_method_7_code 3 (some .boolean) :: fr_tbl) { frames := 0, cells := 0, slots := 0, locals := 0 } D vwCl (fr_ty ka) fr_nw [.ref (al 0), .int x] (fr_mw ka al f Z) (dn_m_ownRefuses f x) (fr_mw ka al f Z) 0 0 := by
  refine fr_Mi.of (by decide) (Nat.le_of_ble_eq_true rfl) ?_
  intro p e s m below meth c A H locs ls C hP hD hS hl
  obtain ⟨hx, hb, hml, hown, ht, hK, hlocks, hr, hA, hN, hZ, hEx⟩ := id C
  have hl : lv_has ls 3 [(0, .ref (al 0)), (1, .int x)] := hl
  refine lv_aload_n hx hb dM_ownRefuses_0 rfl (lv_at hl 0 rfl) ?_
  refine gf_M_25 C hP dM_ownRefuses_1 ?_
  refine lv_iload_n hx hb dM_ownRefuses_4 rfl (lv_at hl 1 rfl) ?_
  have hin_5 : vp_in x 12 := by skip; rw [vp_in_iff]; omega
  refine mald_6 C hP hin_5 dM_ownRefuses_5 ?_
  refine lv_iconst (v := 1) hx hb dM_ownRefuses_6 (by decide) ?_
  refine lv_icmp_ne (tgt := 12) hx hb dM_ownRefuses_7 (by decide) (fun c_7 => ?_) (fun c_7 => ?_)
  · skip
    refine lv_aload_n hx hb dM_ownRefuses_12 rfl (lv_at hl 0 rfl) ?_
    refine gf_M_7 C hP dM_ownRefuses_13 ?_
    refine lv_aload_n hx hb dM_ownRefuses_16 rfl (lv_at hl 0 rfl) ?_
    refine gf_M_50 C hP dM_ownRefuses_17 ?_
    have hin_20 : vp_in (f 0 8) 10 := by have q0 := fr_t6 c_7; have z0 : (1 : Int32).toInt = 1 := rfl; skip; rw [vp_in_iff]; omega
    refine mald_1 C hP hin_20 dM_ownRefuses_20 ?_
    refine lv_aload_n hx hb dM_ownRefuses_21 rfl (lv_at hl 0 rfl) ?_
    refine gf_M_7 C hP dM_ownRefuses_22 ?_
    refine lv_aload_n hx hb dM_ownRefuses_25 rfl (lv_at hl 0 rfl) ?_
    refine gf_M_53 C hP dM_ownRefuses_26 ?_
    have hin_29 : vp_in (f 0 9) 10 := by have q0 := fr_t6 c_7; have z0 : (1 : Int32).toInt = 1 := rfl; skip; rw [vp_in_iff]; omega
    refine mald_1 C hP hin_29 dM_ownRefuses_29 ?_
    refine lv_icmp_eq (tgt := 37) hx hb dM_ownRefuses_30 (by decide) (fun c_30 => ?_) (fun c_30 => ?_)
    · skip
      refine lv_iconst (v := 0) hx hb dM_ownRefuses_37 (by decide) ?_
      refine lv_istore_n (lv' := [(2, .int 0), (0, .ref (al 0)), (1, .int x)]) hx hb dM_ownRefuses_38 rfl hl (by decide) rfl (fun ls hl => ?_)
      refine lv_aload_n hx hb dM_ownRefuses_39 rfl (lv_at hl 1 rfl) ?_
      refine gf_M_22 C hP dM_ownRefuses_40 ?_
      refine lv_iload_n hx hb dM_ownRefuses_43 rfl (lv_at hl 2 rfl) ?_
      have hin_44 : vp_in x 12 := by have q0 := fr_t6 c_7; have q1 := fr_t5 c_30; have z0 : (1 : Int32).toInt = 1 := rfl; skip; rw [vp_in_iff]; omega
      refine mald_5 C hP hin_44 dM_ownRefuses_44 ?_
      by_cases c_45_0 : (f 5 x.toNatClampNeg) = 0
      · skip
        refine lv_tableIn (tgt := 72) hx hb dM_ownRefuses_45 (by rw [c_45_0]; decide) (by rw [c_45_0]; decide) (by rw [c_45_0] <;> rfl) (by decide) ?_
        refine lv_aload_n hx hb dM_ownRefuses_72 rfl (lv_at hl 1 rfl) ?_
        refine gf_M_16 C hP dM_ownRefuses_73 ?_
        refine lv_aload_n hx hb dM_ownRefuses_76 rfl (lv_at hl 1 rfl) ?_
        refine gf_M_50 C hP dM_ownRefuses_77 ?_
        have hin_80 : vp_in (f 0 8) 10 := by have q0 := fr_t6 c_7; have q1 := fr_t5 c_30; have q2 := fr_t5 c_45_0; have z0 : (0 : Int32).toInt = 0 := rfl; have z1 : (1 : Int32).toInt = 1 := rfl; skip; rw [vp_in_iff]; omega
        refine mald_3 C hP hin_80 dM_ownRefuses_80 ?_
        refine lv_iconst (v := 1) hx hb dM_ownRefuses_81 (by decide) ?_
        refine lv_iand hx hb dM_ownRefuses_82 ?_
        refine lv_if_eq (tgt := 90) hx hb dM_ownRefuses_83 (by decide) (fun c_83 => ?_) (fun c_83 => ?_)
        · skip
          refine lv_iconst (v := 0) hx hb dM_ownRefuses_90 (by decide) ?_
          have hd_ : dn_m_ownRefuses f x = 0 := by rw [dn_m_ownRefuses, if_neg c_7, if_pos c_30, if_pos c_45_0, if_pos c_83]
          exact fr_zret C hP hD hS hd_.symm (Or.inl rfl) dM_ownRefuses_91
        · skip
          refine lv_iconst (v := 1) hx hb dM_ownRefuses_86 (by decide) ?_
          refine lv_goto (tgt := 91) hx hb dM_ownRefuses_87 (by decide) ?_
          have hd_ : dn_m_ownRefuses f x = 1 := by rw [dn_m_ownRefuses, if_neg c_7, if_pos c_30, if_pos c_45_0, if_neg c_83]
          exact fr_zret C hP hD hS hd_.symm (Or.inr rfl) dM_ownRefuses_91
      · skip
        by_cases c_45_1 : (f 5 x.toNatClampNeg) = 1
        · skip
          refine lv_tableIn (tgt := 92) hx hb dM_ownRefuses_45 (by rw [c_45_1]; decide) (by rw [c_45_1]; decide) (by rw [c_45_1] <;> rfl) (by decide) ?_
          refine lv_aload_n hx hb dM_ownRefuses_92 rfl (lv_at hl 1 rfl) ?_
          refine gf_M_16 C hP dM_ownRefuses_93 ?_
          refine lv_aload_n hx hb dM_ownRefuses_96 rfl (lv_at hl 1 rfl) ?_
          refine gf_M_53 C hP dM_ownRefuses_97 ?_
          have hin_100 : vp_in (f 0 9) 10 := by have q0 := fr_t6 c_7; have q1 := fr_t5 c_30; have q2 := fr_t6 c_45_0; have q3 := fr_t5 c_45_1; have z0 : (0 : Int32).toInt = 0 := rfl; have z1 : (1 : Int32).toInt = 1 := rfl; skip; rw [vp_in_iff]; omega
          refine mald_3 C hP hin_100 dM_ownRefuses_100 ?_
          refine lv_iconst (v := 2) hx hb dM_ownRefuses_101 (by decide) ?_
          refine lv_iand hx hb dM_ownRefuses_102 ?_
          refine lv_if_eq (tgt := 117) hx hb dM_ownRefuses_103 (by decide) (fun c_103 => ?_) (fun c_103 => ?_)
          · skip
            refine lv_iconst (v := 0) hx hb dM_ownRefuses_117 (by decide) ?_
            have hd_ : dn_m_ownRefuses f x = 0 := by rw [dn_m_ownRefuses, if_neg c_7, if_pos c_30, if_neg c_45_0, if_pos c_45_1, if_pos c_103]
            exact fr_zret C hP hD hS hd_.symm (Or.inl rfl) dM_ownRefuses_118
          · skip
            refine lv_aload_n hx hb dM_ownRefuses_106 rfl (lv_at hl 1 rfl) ?_
            refine gf_M_56 C hP dM_ownRefuses_107 ?_
            refine lv_if_eq (tgt := 117) hx hb dM_ownRefuses_110 (by decide) (fun c_110 => ?_) (fun c_110 => ?_)
            · skip
              refine lv_iconst (v := 0) hx hb dM_ownRefuses_117 (by decide) ?_
              have hd_ : dn_m_ownRefuses f x = 0 := by rw [dn_m_ownRefuses, if_neg c_7, if_pos c_30, if_neg c_45_0, if_pos c_45_1, if_neg c_103, if_pos c_110]
              exact fr_zret C hP hD hS hd_.symm (Or.inl rfl) dM_ownRefuses_118
            · skip
              refine lv_iconst (v := 1) hx hb dM_ownRefuses_113 (by decide) ?_
              refine lv_goto (tgt := 118) hx hb dM_ownRefuses_114 (by decide) ?_
              have hd_ : dn_m_ownRefuses f x = 1 := by rw [dn_m_ownRefuses, if_neg c_7, if_pos c_30, if_neg c_45_0, if_pos c_45_1, if_neg c_103, if_neg c_110]
              exact fr_zret C hP hD hS hd_.symm (Or.inr rfl) dM_ownRefuses_118
        · skip
          by_cases c_45_2 : (f 5 x.toNatClampNeg) = 2
          · skip
            refine lv_tableIn (tgt := 119) hx hb dM_ownRefuses_45 (by rw [c_45_2]; decide) (by rw [c_45_2]; decide) (by rw [c_45_2] <;> rfl) (by decide) ?_
            refine lv_iload_n hx hb dM_ownRefuses_119 rfl (lv_at hl 0 rfl) ?_
            refine lv_if_eq (tgt := 152) hx hb dM_ownRefuses_120 (by decide) (fun c_120 => ?_) (fun c_120 => absurd c_120 (by decide))
            refine lv_iconst (v := 0) hx hb dM_ownRefuses_152 (by decide) ?_
            have hd_ : dn_m_ownRefuses f x = 0 := by rw [dn_m_ownRefuses, if_neg c_7, if_pos c_30, if_neg c_45_0, if_neg c_45_1, if_pos c_45_2]
            exact fr_zret C hP hD hS hd_.symm (Or.inl rfl) dM_ownRefuses_153
          · skip
            refine lv_tableOut (tgt := 154) hx hb dM_ownRefuses_45 (by have h0 := fr_ne (k := 0) (a := 0) rfl c_45_0; have h1 := fr_ne (k := 1) (a := 1) rfl c_45_1; have h2 := fr_ne (k := 2) (a := 2) rfl c_45_2; omega) (by decide) ?_
            refine lv_iload_n hx hb dM_ownRefuses_154 rfl (lv_at hl 0 rfl) ?_
            refine lv_if_eq (tgt := 176) hx hb dM_ownRefuses_155 (by decide) (fun c_155 => ?_) (fun c_155 => absurd c_155 (by decide))
            refine lv_iconst (v := 0) hx hb dM_ownRefuses_176 (by decide) ?_
            have hd_ : dn_m_ownRefuses f x = 0 := by rw [dn_m_ownRefuses, if_neg c_7, if_pos c_30, if_neg c_45_0, if_neg c_45_1, if_neg c_45_2]
            exact fr_zret C hP hD hS hd_.symm (Or.inl rfl) dM_ownRefuses_177
    · skip
      refine lv_iconst (v := 1) hx hb dM_ownRefuses_33 (by decide) ?_
      refine lv_goto (tgt := 38) hx hb dM_ownRefuses_34 (by decide) ?_
      refine lv_istore_n (lv' := [(2, .int 1), (0, .ref (al 0)), (1, .int x)]) hx hb dM_ownRefuses_38 rfl hl (by decide) rfl (fun ls hl => ?_)
      refine lv_aload_n hx hb dM_ownRefuses_39 rfl (lv_at hl 1 rfl) ?_
      refine gf_M_22 C hP dM_ownRefuses_40 ?_
      refine lv_iload_n hx hb dM_ownRefuses_43 rfl (lv_at hl 2 rfl) ?_
      have hin_44 : vp_in x 12 := by have q0 := fr_t6 c_7; have q1 := fr_t6 c_30; have z0 : (1 : Int32).toInt = 1 := rfl; skip; rw [vp_in_iff]; omega
      refine mald_5 C hP hin_44 dM_ownRefuses_44 ?_
      by_cases c_45_0 : (f 5 x.toNatClampNeg) = 0
      · skip
        refine lv_tableIn (tgt := 72) hx hb dM_ownRefuses_45 (by rw [c_45_0]; decide) (by rw [c_45_0]; decide) (by rw [c_45_0] <;> rfl) (by decide) ?_
        refine lv_aload_n hx hb dM_ownRefuses_72 rfl (lv_at hl 1 rfl) ?_
        refine gf_M_16 C hP dM_ownRefuses_73 ?_
        refine lv_aload_n hx hb dM_ownRefuses_76 rfl (lv_at hl 1 rfl) ?_
        refine gf_M_50 C hP dM_ownRefuses_77 ?_
        have hin_80 : vp_in (f 0 8) 10 := by have q0 := fr_t6 c_7; have q1 := fr_t6 c_30; have q2 := fr_t5 c_45_0; have z0 : (0 : Int32).toInt = 0 := rfl; have z1 : (1 : Int32).toInt = 1 := rfl; skip; rw [vp_in_iff]; omega
        refine mald_3 C hP hin_80 dM_ownRefuses_80 ?_
        refine lv_iconst (v := 1) hx hb dM_ownRefuses_81 (by decide) ?_
        refine lv_iand hx hb dM_ownRefuses_82 ?_
        refine lv_if_eq (tgt := 90) hx hb dM_ownRefuses_83 (by decide) (fun c_83 => ?_) (fun c_83 => ?_)
        · skip
          refine lv_iconst (v := 0) hx hb dM_ownRefuses_90 (by decide) ?_
          have hd_ : dn_m_ownRefuses f x = 0 := by rw [dn_m_ownRefuses, if_neg c_7, if_neg c_30, if_pos c_45_0, if_pos c_83]
          exact fr_zret C hP hD hS hd_.symm (Or.inl rfl) dM_ownRefuses_91
        · skip
          refine lv_iconst (v := 1) hx hb dM_ownRefuses_86 (by decide) ?_
          refine lv_goto (tgt := 91) hx hb dM_ownRefuses_87 (by decide) ?_
          have hd_ : dn_m_ownRefuses f x = 1 := by rw [dn_m_ownRefuses, if_neg c_7, if_neg c_30, if_pos c_45_0, if_neg c_83]
          exact fr_zret C hP hD hS hd_.symm (Or.inr rfl) dM_ownRefuses_91
      · skip
        by_cases c_45_1 : (f 5 x.toNatClampNeg) = 1
        · skip
          refine lv_tableIn (tgt := 92) hx hb dM_ownRefuses_45 (by rw [c_45_1]; decide) (by rw [c_45_1]; decide) (by rw [c_45_1] <;> rfl) (by decide) ?_
          refine lv_aload_n hx hb dM_ownRefuses_92 rfl (lv_at hl 1 rfl) ?_
          refine gf_M_16 C hP dM_ownRefuses_93 ?_
          refine lv_aload_n hx hb dM_ownRefuses_96 rfl (lv_at hl 1 rfl) ?_
          refine gf_M_53 C hP dM_ownRefuses_97 ?_
          have hin_100 : vp_in (f 0 9) 10 := by have q0 := fr_t6 c_7; have q1 := fr_t6 c_30; have q2 := fr_t6 c_45_0; have q3 := fr_t5 c_45_1; have z0 : (0 : Int32).toInt = 0 := rfl; have z1 : (1 : Int32).toInt = 1 := rfl; skip; rw [vp_in_iff]; omega
          refine mald_3 C hP hin_100 dM_ownRefuses_100 ?_
          refine lv_iconst (v := 2) hx hb dM_ownRefuses_101 (by decide) ?_
          refine lv_iand hx hb dM_ownRefuses_102 ?_
          refine lv_if_eq (tgt := 117) hx hb dM_ownRefuses_103 (by decide) (fun c_103 => ?_) (fun c_103 => ?_)
          · skip
            refine lv_iconst (v := 0) hx hb dM_ownRefuses_117 (by decide) ?_
            have hd_ : dn_m_ownRefuses f x = 0 := by rw [dn_m_ownRefuses, if_neg c_7, if_neg c_30, if_neg c_45_0, if_pos c_45_1, if_pos c_103]
            exact fr_zret C hP hD hS hd_.symm (Or.inl rfl) dM_ownRefuses_118
          · skip
            refine lv_aload_n hx hb dM_ownRefuses_106 rfl (lv_at hl 1 rfl) ?_
            refine gf_M_56 C hP dM_ownRefuses_107 ?_
            refine lv_if_eq (tgt := 117) hx hb dM_ownRefuses_110 (by decide) (fun c_110 => ?_) (fun c_110 => ?_)
            · skip
              refine lv_iconst (v := 0) hx hb dM_ownRefuses_117 (by decide) ?_
              have hd_ : dn_m_ownRefuses f x = 0 := by rw [dn_m_ownRefuses, if_neg c_7, if_neg c_30, if_neg c_45_0, if_pos c_45_1, if_neg c_103, if_pos c_110]
              exact fr_zret C hP hD hS hd_.symm (Or.inl rfl) dM_ownRefuses_118
            · skip
              refine lv_iconst (v := 1) hx hb dM_ownRefuses_113 (by decide) ?_
              refine lv_goto (tgt := 118) hx hb dM_ownRefuses_114 (by decide) ?_
              have hd_ : dn_m_ownRefuses f x = 1 := by rw [dn_m_ownRefuses, if_neg c_7, if_neg c_30, if_neg c_45_0, if_pos c_45_1, if_neg c_103, if_neg c_110]
              exact fr_zret C hP hD hS hd_.symm (Or.inr rfl) dM_ownRefuses_118
        · skip
          by_cases c_45_2 : (f 5 x.toNatClampNeg) = 2
          · skip
            refine lv_tableIn (tgt := 119) hx hb dM_ownRefuses_45 (by rw [c_45_2]; decide) (by rw [c_45_2]; decide) (by rw [c_45_2] <;> rfl) (by decide) ?_
            refine lv_iload_n hx hb dM_ownRefuses_119 rfl (lv_at hl 0 rfl) ?_
            refine lv_if_eq (tgt := 152) hx hb dM_ownRefuses_120 (by decide) (fun c_120 => absurd c_120 (by decide)) (fun c_120 => ?_)
            refine lv_aload_n hx hb dM_ownRefuses_123 rfl (lv_at hl 1 rfl) ?_
            refine gf_M_16 C hP dM_ownRefuses_124 ?_
            refine lv_aload_n hx hb dM_ownRefuses_127 rfl (lv_at hl 1 rfl) ?_
            refine gf_M_50 C hP dM_ownRefuses_128 ?_
            have hin_131 : vp_in (f 0 8) 10 := by have q0 := fr_t6 c_7; have q1 := fr_t6 c_30; have q2 := fr_t6 c_45_0; have q3 := fr_t6 c_45_1; have q4 := fr_t5 c_45_2; have z0 : (0 : Int32).toInt = 0 := rfl; have z1 : (1 : Int32).toInt = 1 := rfl; have z2 : (2 : Int32).toInt = 2 := rfl; skip; rw [vp_in_iff]; omega
            refine mald_3 C hP hin_131 dM_ownRefuses_131 ?_
            refine lv_aload_n hx hb dM_ownRefuses_132 rfl (lv_at hl 1 rfl) ?_
            refine gf_M_16 C hP dM_ownRefuses_133 ?_
            refine lv_aload_n hx hb dM_ownRefuses_136 rfl (lv_at hl 1 rfl) ?_
            refine gf_M_53 C hP dM_ownRefuses_137 ?_
            have hin_140 : vp_in (f 0 9) 10 := by have q0 := fr_t6 c_7; have q1 := fr_t6 c_30; have q2 := fr_t6 c_45_0; have q3 := fr_t6 c_45_1; have q4 := fr_t5 c_45_2; have z0 : (0 : Int32).toInt = 0 := rfl; have z1 : (1 : Int32).toInt = 1 := rfl; have z2 : (2 : Int32).toInt = 2 := rfl; skip; rw [vp_in_iff]; omega
            refine mald_3 C hP hin_140 dM_ownRefuses_140 ?_
            refine lv_ior hx hb dM_ownRefuses_141 ?_
            refine lv_bipush (v := 8) hx hb dM_ownRefuses_142 (by decide) ?_
            refine lv_iand hx hb dM_ownRefuses_144 ?_
            refine lv_if_eq (tgt := 152) hx hb dM_ownRefuses_145 (by decide) (fun c_145 => ?_) (fun c_145 => ?_)
            · skip
              refine lv_iconst (v := 0) hx hb dM_ownRefuses_152 (by decide) ?_
              have hd_ : dn_m_ownRefuses f x = 0 := by rw [dn_m_ownRefuses, if_neg c_7, if_neg c_30, if_neg c_45_0, if_neg c_45_1, if_pos c_45_2, if_pos c_145]
              exact fr_zret C hP hD hS hd_.symm (Or.inl rfl) dM_ownRefuses_153
            · skip
              refine lv_iconst (v := 1) hx hb dM_ownRefuses_148 (by decide) ?_
              refine lv_goto (tgt := 153) hx hb dM_ownRefuses_149 (by decide) ?_
              have hd_ : dn_m_ownRefuses f x = 1 := by rw [dn_m_ownRefuses, if_neg c_7, if_neg c_30, if_neg c_45_0, if_neg c_45_1, if_pos c_45_2, if_neg c_145]
              exact fr_zret C hP hD hS hd_.symm (Or.inr rfl) dM_ownRefuses_153
          · skip
            refine lv_tableOut (tgt := 154) hx hb dM_ownRefuses_45 (by have h0 := fr_ne (k := 0) (a := 0) rfl c_45_0; have h1 := fr_ne (k := 1) (a := 1) rfl c_45_1; have h2 := fr_ne (k := 2) (a := 2) rfl c_45_2; omega) (by decide) ?_
            refine lv_iload_n hx hb dM_ownRefuses_154 rfl (lv_at hl 0 rfl) ?_
            refine lv_if_eq (tgt := 176) hx hb dM_ownRefuses_155 (by decide) (fun c_155 => absurd c_155 (by decide)) (fun c_155 => ?_)
            refine lv_aload_n hx hb dM_ownRefuses_158 rfl (lv_at hl 1 rfl) ?_
            refine gf_M_16 C hP dM_ownRefuses_159 ?_
            refine lv_aload_n hx hb dM_ownRefuses_162 rfl (lv_at hl 1 rfl) ?_
            refine gf_M_50 C hP dM_ownRefuses_163 ?_
            have hin_166 : vp_in (f 0 8) 10 := by have q0 := fr_t6 c_7; have q1 := fr_t6 c_30; have q2 := fr_t6 c_45_0; have q3 := fr_t6 c_45_1; have q4 := fr_t6 c_45_2; have z0 : (0 : Int32).toInt = 0 := rfl; have z1 : (1 : Int32).toInt = 1 := rfl; have z2 : (2 : Int32).toInt = 2 := rfl; skip; rw [vp_in_iff]; omega
            refine mald_3 C hP hin_166 dM_ownRefuses_166 ?_
            refine lv_iconst (v := 4) hx hb dM_ownRefuses_167 (by decide) ?_
            refine lv_iand hx hb dM_ownRefuses_168 ?_
            refine lv_if_eq (tgt := 176) hx hb dM_ownRefuses_169 (by decide) (fun c_169 => ?_) (fun c_169 => ?_)
            · skip
              refine lv_iconst (v := 0) hx hb dM_ownRefuses_176 (by decide) ?_
              have hd_ : dn_m_ownRefuses f x = 0 := by rw [dn_m_ownRefuses, if_neg c_7, if_neg c_30, if_neg c_45_0, if_neg c_45_1, if_neg c_45_2, if_pos c_169]
              exact fr_zret C hP hD hS hd_.symm (Or.inl rfl) dM_ownRefuses_177
            · skip
              refine lv_iconst (v := 1) hx hb dM_ownRefuses_172 (by decide) ?_
              refine lv_goto (tgt := 177) hx hb dM_ownRefuses_173 (by decide) ?_
              have hd_ : dn_m_ownRefuses f x = 1 := by rw [dn_m_ownRefuses, if_neg c_7, if_neg c_30, if_neg c_45_0, if_neg c_45_1, if_neg c_45_2, if_neg c_169]
              exact fr_zret C hP hD hS hd_.symm (Or.inr rfl) dM_ownRefuses_177
  · skip
    refine lv_iconst (v := 1) hx hb dM_ownRefuses_10 (by decide) ?_
    have hd_ : dn_m_ownRefuses f x = 1 := by rw [dn_m_ownRefuses, if_pos c_7]
    exact fr_zret C hP hD hS hd_.symm (Or.inr rfl) dM_ownRefuses_11
theorem bz_m_ownRefuses {f : Nat → Nat → Int32} {x : Int32} : dn_m_ownRefuses f x = 0 ∨ dn_m_ownRefuses f x = 1 := by
  unfold dn_m_ownRefuses
  repeat' split
  all_goals first | exact Or.inl rfl | exact Or.inr rfl | exact bz_m_ownRefuses

theorem cl_M_65 {p : Program} {l : Launch} {e : Env} {R : Room} {s : State} {m : MethodId} {args : Array Value} {below : List Frame} {meth : Method} {c : Code} {H : Heap} {locs : List Loc} {cells slots : Nat} {Q : State → Prop} {D : va_G} {A : Nat → Prop} {cc : ByteArray} {nL pc : Nat} {ret : Option FieldType} {hh : List ExceptionTableEntry} {ls : Array Slot} {rest : List Value} {ka : Nat → ClassId} {al : Nat → Nat} {f : Nat → Nat → Int32} {Z : va_W} {x : Int32} (C : fr_Cx p s m args meth c "FragileRulesModel" cc nL ret hh fr_tbl fr_nw D vwCl (fr_ty ka) A) (hP : va_P D vwCl (fr_mw ka al f Z) H) (hD : va_D A (fr_mw ka al f Z)) (hS : va_S A s.heap H locs) (hsz : ls.size = nL) (hR : 0 + 1 ≤ R.frames ∧ 8 + (3 + 11) + 0 ≤ R.locals) (hw : (rest.map fun v => v.category).sum ≤ 8) (hf : cells + 0 ≤ R.cells ∧ slots + 0 ≤ R.slots) (gX : 0 ≤ x.toInt ∧ x.toInt < 12) (gB : (0 ≤ (f 0 8).toInt ∧ (f 0 8).toInt < 10) ∧ 0 ≤ (f 0 9).toInt ∧ (f 0 9).toInt < 10) (hdg : decode cc pc = .ok (.invokevirtual 65, 3)) (kk : ∀ (H : Heap) (locs : List Loc), va_P D vwCl (fr_mw ka al f Z) H → va_D A (fr_mw ka al f Z) → va_S A s.heap H locs → W p l e R s m args below meth c H locs (cells + 0) (slots + 0) Q (F0 m (pc + 3) ls (.int (dn_m_ownRefuses f x) :: rest))) : W p l e R s m args below meth c H locs cells slots Q (F0 m pc ls (.int x :: .ref (al 0) :: rest)) :=
  fr_callVi (As := [.int x]) C hP hD hS (c_m_ownRefuses l D ka al Z f x gX gB) (cwV 1 C.2.2.2.2.1 (fr_goodV ml_M_65 mi_m_ownRefuses msel_m_ownRefuses mini_M mc_m_ownRefuses) rfl rfl rfl (by decide +kernel) hR) (va_recv C.2.2.2.2.2.1 hP (ci := 4) (q0 := 0) rfl rfl) rfl hsz hw hdg hf kk
def dn_m_refuses (f : Nat → Nat → Int32) (x : Int32) : Int32 := if (f 4 x.toNatClampNeg) = 0 then (if (f 1 ((f 0 9).toNatClampNeg)) = (f 5 x.toNatClampNeg) then (if (f 1 ((f 0 8).toNatClampNeg)) = (f 6 x.toNatClampNeg) then 1 else 0) else 0) else (if (f 4 x.toNatClampNeg) = 1 then (if (f 1 ((f 0 9).toNatClampNeg)) = (f 5 x.toNatClampNeg) then (if (f 1 ((f 0 8).toNatClampNeg)) = (f 6 x.toNatClampNeg) then 1 else (if (f 1 ((f 0 9).toNatClampNeg)) = (f 6 x.toNatClampNeg) then (if (f 1 ((f 0 8).toNatClampNeg)) = (f 5 x.toNatClampNeg) then 1 else 0) else 0)) else (if (f 1 ((f 0 9).toNatClampNeg)) = (f 6 x.toNatClampNeg) then (if (f 1 ((f 0 8).toNatClampNeg)) = (f 5 x.toNatClampNeg) then 1 else 0) else 0)) else (if (f 4 x.toNatClampNeg) = 2 then (if (f 1 ((f 0 8).toNatClampNeg)) = (f 5 x.toNatClampNeg) then (if (f 2 ((f 0 9).toNatClampNeg)) ≤ (10 * (f 6 x.toNatClampNeg)) then 0 else 1) else 0) else (if (f 4 x.toNatClampNeg) = 3 then (if (f 1 ((f 0 9).toNatClampNeg)) = (f 5 x.toNatClampNeg) then (if (f 0 10) < (f 6 x.toNatClampNeg) then 0 else 1) else 0) else (if (f 4 x.toNatClampNeg) = 4 then (if (f 0 11) = (f 5 x.toNatClampNeg) then (if ((f 0 12) &&& (f 6 x.toNatClampNeg)) = 0 then 1 else 0) else 0) else (dn_m_ownRefuses f x)))))
set_option maxHeartbeats 4000000 in
set_option maxRecDepth 100000 in
theorem c_m_refuses (l : Launch) (D : va_G) (ka : Nat → ClassId) (al : Nat → Nat) (Z : va_W) (f : Nat → Nat → Int32) (x : Int32) (gX : 0 ≤ x.toInt ∧ x.toInt < 12) (gB : (0 ≤ (f 0 8).toInt ∧ (f 0 8).toInt < 10) ∧ 0 ≤ (f 0 9).toInt ∧ (f 0 9).toInt < 10) : fr_Mi l y_m_refuses (.code y_m_refuses prog_6_method_8_code 4 (some .boolean) :: fr_tbl) { frames := 1, cells := 0, slots := 0, locals := 22 } D vwCl (fr_ty ka) fr_nw [.ref (al 0), .int x] (fr_mw ka al f Z) (dn_m_refuses f x) (fr_mw ka al f Z) 0 0 := by
  refine fr_Mi.of (by decide) (Nat.le_of_ble_eq_true rfl) ?_
  intro p e s m below meth c A H locs ls C hP hD hS hl
  obtain ⟨hx, hb, hml, hown, ht, hK, hlocks, hr, hA, hN, hZ, hEx⟩ := id C
  have hl : lv_has ls 4 [(0, .ref (al 0)), (1, .int x)] := hl
  refine lv_aload_n hx hb dM_refuses_0 rfl (lv_at hl 0 rfl) ?_
  refine gf_M_22 C hP dM_refuses_1 ?_
  refine lv_iload_n hx hb dM_refuses_4 rfl (lv_at hl 1 rfl) ?_
  have hin_5 : vp_in x 12 := by skip; rw [vp_in_iff]; omega
  refine mald_5 C hP hin_5 dM_refuses_5 ?_
  refine lv_istore_n (lv' := [(2, .int (f 5 x.toNatClampNeg)), (0, .ref (al 0)), (1, .int x)]) hx hb dM_refuses_6 rfl hl (by decide) rfl (fun ls hl => ?_)
  refine lv_aload_n hx hb dM_refuses_7 rfl (lv_at hl 1 rfl) ?_
  refine gf_M_25 C hP dM_refuses_8 ?_
  refine lv_iload_n hx hb dM_refuses_11 rfl (lv_at hl 2 rfl) ?_
  have hin_12 : vp_in x 12 := by skip; rw [vp_in_iff]; omega
  refine mald_6 C hP hin_12 dM_refuses_12 ?_
  refine lv_istore_n (lv' := [(3, .int (f 6 x.toNatClampNeg)), (2, .int (f 5 x.toNatClampNeg)), (0, .ref (al 0)), (1, .int x)]) hx hb dM_refuses_13 rfl hl (by decide) rfl (fun ls hl => ?_)
  refine lv_aload_n hx hb dM_refuses_14 rfl (lv_at hl 2 rfl) ?_
  refine gf_M_19 C hP dM_refuses_15 ?_
  refine lv_iload_n hx hb dM_refuses_18 rfl (lv_at hl 3 rfl) ?_
  have hin_19 : vp_in x 12 := by skip; rw [vp_in_iff]; omega
  refine mald_4 C hP hin_19 dM_refuses_19 ?_
  by_cases c_20_0 : (f 4 x.toNatClampNeg) = 0
  · skip
    refine lv_tableIn (tgt := 56) hx hb dM_refuses_20 (by rw [c_20_0]; decide) (by rw [c_20_0]; decide) (by rw [c_20_0] <;> rfl) (by decide) ?_
    refine lv_aload_n hx hb dM_refuses_56 rfl (lv_at hl 2 rfl) ?_
    refine gf_M_7 C hP dM_refuses_57 ?_
    refine lv_aload_n hx hb dM_refuses_60 rfl (lv_at hl 2 rfl) ?_
    refine gf_M_53 C hP dM_refuses_61 ?_
    have hin_64 : vp_in (f 0 9) 10 := by have q0 := fr_t5 c_20_0; have z0 : (0 : Int32).toInt = 0 := rfl; skip; rw [vp_in_iff]; omega
    refine mald_1 C hP hin_64 dM_refuses_64 ?_
    refine lv_iload_n hx hb dM_refuses_65 rfl (lv_at hl 1 rfl) ?_
    refine lv_icmp_ne (tgt := 86) hx hb dM_refuses_66 (by decide) (fun c_66 => ?_) (fun c_66 => ?_)
    · skip
      refine lv_iconst (v := 0) hx hb dM_refuses_86 (by decide) ?_
      have hd_ : dn_m_refuses f x = 0 := by rw [dn_m_refuses, if_pos c_20_0, if_neg c_66]
      exact fr_zret C hP hD hS hd_.symm (Or.inl rfl) dM_refuses_87
    · skip
      refine lv_aload_n hx hb dM_refuses_69 rfl (lv_at hl 2 rfl) ?_
      refine gf_M_7 C hP dM_refuses_70 ?_
      refine lv_aload_n hx hb dM_refuses_73 rfl (lv_at hl 2 rfl) ?_
      refine gf_M_50 C hP dM_refuses_74 ?_
      have hin_77 : vp_in (f 0 8) 10 := by have q0 := fr_t5 c_20_0; have q1 := fr_t5 c_66; have z0 : (0 : Int32).toInt = 0 := rfl; skip; rw [vp_in_iff]; omega
      refine mald_1 C hP hin_77 dM_refuses_77 ?_
      refine lv_iload_n hx hb dM_refuses_78 rfl (lv_at hl 0 rfl) ?_
      refine lv_icmp_ne (tgt := 86) hx hb dM_refuses_79 (by decide) (fun c_79 => ?_) (fun c_79 => ?_)
      · skip
        refine lv_iconst (v := 0) hx hb dM_refuses_86 (by decide) ?_
        have hd_ : dn_m_refuses f x = 0 := by rw [dn_m_refuses, if_pos c_20_0, if_pos c_66, if_neg c_79]
        exact fr_zret C hP hD hS hd_.symm (Or.inl rfl) dM_refuses_87
      · skip
        refine lv_iconst (v := 1) hx hb dM_refuses_82 (by decide) ?_
        refine lv_goto (tgt := 87) hx hb dM_refuses_83 (by decide) ?_
        have hd_ : dn_m_refuses f x = 1 := by rw [dn_m_refuses, if_pos c_20_0, if_pos c_66, if_pos c_79]
        exact fr_zret C hP hD hS hd_.symm (Or.inr rfl) dM_refuses_87
  · skip
    by_cases c_20_1 : (f 4 x.toNatClampNeg) = 1
    · skip
      refine lv_tableIn (tgt := 88) hx hb dM_refuses_20 (by rw [c_20_1]; decide) (by rw [c_20_1]; decide) (by rw [c_20_1] <;> rfl) (by decide) ?_
      refine lv_aload_n hx hb dM_refuses_88 rfl (lv_at hl 2 rfl) ?_
      refine gf_M_7 C hP dM_refuses_89 ?_
      refine lv_aload_n hx hb dM_refuses_92 rfl (lv_at hl 2 rfl) ?_
      refine gf_M_53 C hP dM_refuses_93 ?_
      have hin_96 : vp_in (f 0 9) 10 := by have q0 := fr_t6 c_20_0; have q1 := fr_t5 c_20_1; have z0 : (0 : Int32).toInt = 0 := rfl; have z1 : (1 : Int32).toInt = 1 := rfl; skip; rw [vp_in_iff]; omega
      refine mald_1 C hP hin_96 dM_refuses_96 ?_
      refine lv_iload_n hx hb dM_refuses_97 rfl (lv_at hl 1 rfl) ?_
      refine lv_icmp_ne (tgt := 114) hx hb dM_refuses_98 (by decide) (fun c_98 => ?_) (fun c_98 => ?_)
      · skip
        refine lv_aload_n hx hb dM_refuses_114 rfl (lv_at hl 2 rfl) ?_
        refine gf_M_7 C hP dM_refuses_115 ?_
        refine lv_aload_n hx hb dM_refuses_118 rfl (lv_at hl 2 rfl) ?_
        refine gf_M_53 C hP dM_refuses_119 ?_
        have hin_122 : vp_in (f 0 9) 10 := by have q0 := fr_t6 c_20_0; have q1 := fr_t5 c_20_1; have q2 := fr_t6 c_98; have z0 : (0 : Int32).toInt = 0 := rfl; have z1 : (1 : Int32).toInt = 1 := rfl; skip; rw [vp_in_iff]; omega
        refine mald_1 C hP hin_122 dM_refuses_122 ?_
        refine lv_iload_n hx hb dM_refuses_123 rfl (lv_at hl 0 rfl) ?_
        refine lv_icmp_ne (tgt := 144) hx hb dM_refuses_124 (by decide) (fun c_124 => ?_) (fun c_124 => ?_)
        · skip
          refine lv_iconst (v := 0) hx hb dM_refuses_144 (by decide) ?_
          have hd_ : dn_m_refuses f x = 0 := by rw [dn_m_refuses, if_neg c_20_0, if_pos c_20_1, if_neg c_98, if_neg c_124]
          exact fr_zret C hP hD hS hd_.symm (Or.inl rfl) dM_refuses_145
        · skip
          refine lv_aload_n hx hb dM_refuses_127 rfl (lv_at hl 2 rfl) ?_
          refine gf_M_7 C hP dM_refuses_128 ?_
          refine lv_aload_n hx hb dM_refuses_131 rfl (lv_at hl 2 rfl) ?_
          refine gf_M_50 C hP dM_refuses_132 ?_
          have hin_135 : vp_in (f 0 8) 10 := by have q0 := fr_t6 c_20_0; have q1 := fr_t5 c_20_1; have q2 := fr_t6 c_98; have q3 := fr_t5 c_124; have z0 : (0 : Int32).toInt = 0 := rfl; have z1 : (1 : Int32).toInt = 1 := rfl; skip; rw [vp_in_iff]; omega
          refine mald_1 C hP hin_135 dM_refuses_135 ?_
          refine lv_iload_n hx hb dM_refuses_136 rfl (lv_at hl 1 rfl) ?_
          refine lv_icmp_ne (tgt := 144) hx hb dM_refuses_137 (by decide) (fun c_137 => ?_) (fun c_137 => ?_)
          · skip
            refine lv_iconst (v := 0) hx hb dM_refuses_144 (by decide) ?_
            have hd_ : dn_m_refuses f x = 0 := by rw [dn_m_refuses, if_neg c_20_0, if_pos c_20_1, if_neg c_98, if_pos c_124, if_neg c_137]
            exact fr_zret C hP hD hS hd_.symm (Or.inl rfl) dM_refuses_145
          · skip
            refine lv_iconst (v := 1) hx hb dM_refuses_140 (by decide) ?_
            refine lv_goto (tgt := 145) hx hb dM_refuses_141 (by decide) ?_
            have hd_ : dn_m_refuses f x = 1 := by rw [dn_m_refuses, if_neg c_20_0, if_pos c_20_1, if_neg c_98, if_pos c_124, if_pos c_137]
            exact fr_zret C hP hD hS hd_.symm (Or.inr rfl) dM_refuses_145
      · skip
        refine lv_aload_n hx hb dM_refuses_101 rfl (lv_at hl 2 rfl) ?_
        refine gf_M_7 C hP dM_refuses_102 ?_
        refine lv_aload_n hx hb dM_refuses_105 rfl (lv_at hl 2 rfl) ?_
        refine gf_M_50 C hP dM_refuses_106 ?_
        have hin_109 : vp_in (f 0 8) 10 := by have q0 := fr_t6 c_20_0; have q1 := fr_t5 c_20_1; have q2 := fr_t5 c_98; have z0 : (0 : Int32).toInt = 0 := rfl; have z1 : (1 : Int32).toInt = 1 := rfl; skip; rw [vp_in_iff]; omega
        refine mald_1 C hP hin_109 dM_refuses_109 ?_
        refine lv_iload_n hx hb dM_refuses_110 rfl (lv_at hl 0 rfl) ?_
        refine lv_icmp_eq (tgt := 140) hx hb dM_refuses_111 (by decide) (fun c_111 => ?_) (fun c_111 => ?_)
        · skip
          refine lv_iconst (v := 1) hx hb dM_refuses_140 (by decide) ?_
          refine lv_goto (tgt := 145) hx hb dM_refuses_141 (by decide) ?_
          have hd_ : dn_m_refuses f x = 1 := by rw [dn_m_refuses, if_neg c_20_0, if_pos c_20_1, if_pos c_98, if_pos c_111]
          exact fr_zret C hP hD hS hd_.symm (Or.inr rfl) dM_refuses_145
        · skip
          refine lv_aload_n hx hb dM_refuses_114 rfl (lv_at hl 2 rfl) ?_
          refine gf_M_7 C hP dM_refuses_115 ?_
          refine lv_aload_n hx hb dM_refuses_118 rfl (lv_at hl 2 rfl) ?_
          refine gf_M_53 C hP dM_refuses_119 ?_
          have hin_122 : vp_in (f 0 9) 10 := by have q0 := fr_t6 c_20_0; have q1 := fr_t5 c_20_1; have q2 := fr_t5 c_98; have q3 := fr_t6 c_111; have z0 : (0 : Int32).toInt = 0 := rfl; have z1 : (1 : Int32).toInt = 1 := rfl; skip; rw [vp_in_iff]; omega
          refine mald_1 C hP hin_122 dM_refuses_122 ?_
          refine lv_iload_n hx hb dM_refuses_123 rfl (lv_at hl 0 rfl) ?_
          refine lv_icmp_ne (tgt := 144) hx hb dM_refuses_124 (by decide) (fun c_124 => ?_) (fun c_124 => ?_)
          · skip
            refine lv_iconst (v := 0) hx hb dM_refuses_144 (by decide) ?_
            have hd_ : dn_m_refuses f x = 0 := by rw [dn_m_refuses, if_neg c_20_0, if_pos c_20_1, if_pos c_98, if_neg c_111, if_neg c_124]
            exact fr_zret C hP hD hS hd_.symm (Or.inl rfl) dM_refuses_145
          · skip
            refine lv_aload_n hx hb dM_refuses_127 rfl (lv_at hl 2 rfl) ?_
            refine gf_M_7 C hP dM_refuses_128 ?_
            refine lv_aload_n hx hb dM_refuses_131 rfl (lv_at hl 2 rfl) ?_
            refine gf_M_50 C hP dM_refuses_132 ?_
            have hin_135 : vp_in (f 0 8) 10 := by have q0 := fr_t6 c_20_0; have q1 := fr_t5 c_20_1; have q2 := fr_t5 c_98; have q3 := fr_t6 c_111; have q4 := fr_t5 c_124; have z0 : (0 : Int32).toInt = 0 := rfl; have z1 : (1 : Int32).toInt = 1 := rfl; skip; rw [vp_in_iff]; omega
            refine mald_1 C hP hin_135 dM_refuses_135 ?_
            refine lv_iload_n hx hb dM_refuses_136 rfl (lv_at hl 1 rfl) ?_
            refine lv_icmp_ne (tgt := 144) hx hb dM_refuses_137 (by decide) (fun c_137 => ?_) (fun c_137 => ?_)
            · skip
              refine lv_iconst (v := 0) hx hb dM_refuses_144 (by decide) ?_
              have hd_ : dn_m_refuses f x = 0 := by rw [dn_m_refuses, if_neg c_20_0, if_pos c_20_1, if_pos c_98, if_neg c_111, if_pos c_124, if_neg c_137]
              exact fr_zret C hP hD hS hd_.symm (Or.inl rfl) dM_refuses_145
            · skip
              refine lv_iconst (v := 1) hx hb dM_refuses_140 (by decide) ?_
              refine lv_goto (tgt := 145) hx hb dM_refuses_141 (by decide) ?_
              have hd_ : dn_m_refuses f x = 1 := by rw [dn_m_refuses, if_neg c_20_0, if_pos c_20_1, if_pos c_98, if_neg c_111, if_pos c_124, if_pos c_137]
              exact fr_zret C hP hD hS hd_.symm (Or.inr rfl) dM_refuses_145
    · skip
      by_cases c_20_2 : (f 4 x.toNatClampNeg) = 2
      · skip
        refine lv_tableIn (tgt := 146) hx hb dM_refuses_20 (by rw [c_20_2]; decide) (by rw [c_20_2]; decide) (by rw [c_20_2] <;> rfl) (by decide) ?_
        refine lv_aload_n hx hb dM_refuses_146 rfl (lv_at hl 2 rfl) ?_
        refine gf_M_7 C hP dM_refuses_147 ?_
        refine lv_aload_n hx hb dM_refuses_150 rfl (lv_at hl 2 rfl) ?_
        refine gf_M_50 C hP dM_refuses_151 ?_
        have hin_154 : vp_in (f 0 8) 10 := by have q0 := fr_t6 c_20_0; have q1 := fr_t6 c_20_1; have q2 := fr_t5 c_20_2; have z0 : (0 : Int32).toInt = 0 := rfl; have z1 : (1 : Int32).toInt = 1 := rfl; have z2 : (2 : Int32).toInt = 2 := rfl; skip; rw [vp_in_iff]; omega
        refine mald_1 C hP hin_154 dM_refuses_154 ?_
        refine lv_iload_n hx hb dM_refuses_155 rfl (lv_at hl 1 rfl) ?_
        refine lv_icmp_ne (tgt := 179) hx hb dM_refuses_156 (by decide) (fun c_156 => ?_) (fun c_156 => ?_)
        · skip
          refine lv_iconst (v := 0) hx hb dM_refuses_179 (by decide) ?_
          have hd_ : dn_m_refuses f x = 0 := by rw [dn_m_refuses, if_neg c_20_0, if_neg c_20_1, if_pos c_20_2, if_neg c_156]
          exact fr_zret C hP hD hS hd_.symm (Or.inl rfl) dM_refuses_180
        · skip
          refine lv_aload_n hx hb dM_refuses_159 rfl (lv_at hl 2 rfl) ?_
          refine gf_M_13 C hP dM_refuses_160 ?_
          refine lv_aload_n hx hb dM_refuses_163 rfl (lv_at hl 2 rfl) ?_
          refine gf_M_53 C hP dM_refuses_164 ?_
          have hin_167 : vp_in (f 0 9) 10 := by have q0 := fr_t6 c_20_0; have q1 := fr_t6 c_20_1; have q2 := fr_t5 c_20_2; have q3 := fr_t5 c_156; have z0 : (0 : Int32).toInt = 0 := rfl; have z1 : (1 : Int32).toInt = 1 := rfl; have z2 : (2 : Int32).toInt = 2 := rfl; skip; rw [vp_in_iff]; omega
          refine mald_2 C hP hin_167 dM_refuses_167 ?_
          refine lv_bipush (v := 10) hx hb dM_refuses_168 (by decide) ?_
          refine lv_iload_n hx hb dM_refuses_170 rfl (lv_at hl 0 rfl) ?_
          refine lv_imul hx hb dM_refuses_171 ?_
          refine lv_icmp_le (tgt := 179) hx hb dM_refuses_172 (by decide) (fun c_172 => ?_) (fun c_172 => ?_)
          · skip
            refine lv_iconst (v := 0) hx hb dM_refuses_179 (by decide) ?_
            have hd_ : dn_m_refuses f x = 0 := by rw [dn_m_refuses, if_neg c_20_0, if_neg c_20_1, if_pos c_20_2, if_pos c_156, if_pos c_172]
            exact fr_zret C hP hD hS hd_.symm (Or.inl rfl) dM_refuses_180
          · skip
            refine lv_iconst (v := 1) hx hb dM_refuses_175 (by decide) ?_
            refine lv_goto (tgt := 180) hx hb dM_refuses_176 (by decide) ?_
            have hd_ : dn_m_refuses f x = 1 := by rw [dn_m_refuses, if_neg c_20_0, if_neg c_20_1, if_pos c_20_2, if_pos c_156, if_neg c_172]
            exact fr_zret C hP hD hS hd_.symm (Or.inr rfl) dM_refuses_180
      · skip
        by_cases c_20_3 : (f 4 x.toNatClampNeg) = 3
        · skip
          refine lv_tableIn (tgt := 181) hx hb dM_refuses_20 (by rw [c_20_3]; decide) (by rw [c_20_3]; decide) (by rw [c_20_3] <;> rfl) (by decide) ?_
          refine lv_aload_n hx hb dM_refuses_181 rfl (lv_at hl 2 rfl) ?_
          refine gf_M_7 C hP dM_refuses_182 ?_
          refine lv_aload_n hx hb dM_refuses_185 rfl (lv_at hl 2 rfl) ?_
          refine gf_M_53 C hP dM_refuses_186 ?_
          have hin_189 : vp_in (f 0 9) 10 := by have q0 := fr_t6 c_20_0; have q1 := fr_t6 c_20_1; have q2 := fr_t6 c_20_2; have q3 := fr_t5 c_20_3; have z0 : (0 : Int32).toInt = 0 := rfl; have z1 : (1 : Int32).toInt = 1 := rfl; have z2 : (2 : Int32).toInt = 2 := rfl; have z3 : (3 : Int32).toInt = 3 := rfl; skip; rw [vp_in_iff]; omega
          refine mald_1 C hP hin_189 dM_refuses_189 ?_
          refine lv_iload_n hx hb dM_refuses_190 rfl (lv_at hl 1 rfl) ?_
          refine lv_icmp_ne (tgt := 206) hx hb dM_refuses_191 (by decide) (fun c_191 => ?_) (fun c_191 => ?_)
          · skip
            refine lv_iconst (v := 0) hx hb dM_refuses_206 (by decide) ?_
            have hd_ : dn_m_refuses f x = 0 := by rw [dn_m_refuses, if_neg c_20_0, if_neg c_20_1, if_neg c_20_2, if_pos c_20_3, if_neg c_191]
            exact fr_zret C hP hD hS hd_.symm (Or.inl rfl) dM_refuses_207
          · skip
            refine lv_aload_n hx hb dM_refuses_194 rfl (lv_at hl 2 rfl) ?_
            refine gf_M_56 C hP dM_refuses_195 ?_
            refine lv_iload_n hx hb dM_refuses_198 rfl (lv_at hl 0 rfl) ?_
            refine lv_icmp_lt (tgt := 206) hx hb dM_refuses_199 (by decide) (fun c_199 => ?_) (fun c_199 => ?_)
            · skip
              refine lv_iconst (v := 0) hx hb dM_refuses_206 (by decide) ?_
              have hd_ : dn_m_refuses f x = 0 := by rw [dn_m_refuses, if_neg c_20_0, if_neg c_20_1, if_neg c_20_2, if_pos c_20_3, if_pos c_191, if_pos c_199]
              exact fr_zret C hP hD hS hd_.symm (Or.inl rfl) dM_refuses_207
            · skip
              refine lv_iconst (v := 1) hx hb dM_refuses_202 (by decide) ?_
              refine lv_goto (tgt := 207) hx hb dM_refuses_203 (by decide) ?_
              have hd_ : dn_m_refuses f x = 1 := by rw [dn_m_refuses, if_neg c_20_0, if_neg c_20_1, if_neg c_20_2, if_pos c_20_3, if_pos c_191, if_neg c_199]
              exact fr_zret C hP hD hS hd_.symm (Or.inr rfl) dM_refuses_207
        · skip
          by_cases c_20_4 : (f 4 x.toNatClampNeg) = 4
          · skip
            refine lv_tableIn (tgt := 208) hx hb dM_refuses_20 (by rw [c_20_4]; decide) (by rw [c_20_4]; decide) (by rw [c_20_4] <;> rfl) (by decide) ?_
            refine lv_aload_n hx hb dM_refuses_208 rfl (lv_at hl 2 rfl) ?_
            refine gf_M_59 C hP dM_refuses_209 ?_
            refine lv_iload_n hx hb dM_refuses_212 rfl (lv_at hl 1 rfl) ?_
            refine lv_icmp_ne (tgt := 229) hx hb dM_refuses_213 (by decide) (fun c_213 => ?_) (fun c_213 => ?_)
            · skip
              refine lv_iconst (v := 0) hx hb dM_refuses_229 (by decide) ?_
              have hd_ : dn_m_refuses f x = 0 := by rw [dn_m_refuses, if_neg c_20_0, if_neg c_20_1, if_neg c_20_2, if_neg c_20_3, if_pos c_20_4, if_neg c_213]
              exact fr_zret C hP hD hS hd_.symm (Or.inl rfl) dM_refuses_230
            · skip
              refine lv_aload_n hx hb dM_refuses_216 rfl (lv_at hl 2 rfl) ?_
              refine gf_M_62 C hP dM_refuses_217 ?_
              refine lv_iload_n hx hb dM_refuses_220 rfl (lv_at hl 0 rfl) ?_
              refine lv_iand hx hb dM_refuses_221 ?_
              refine lv_if_ne (tgt := 229) hx hb dM_refuses_222 (by decide) (fun c_222 => ?_) (fun c_222 => ?_)
              · skip
                refine lv_iconst (v := 0) hx hb dM_refuses_229 (by decide) ?_
                have hd_ : dn_m_refuses f x = 0 := by rw [dn_m_refuses, if_neg c_20_0, if_neg c_20_1, if_neg c_20_2, if_neg c_20_3, if_pos c_20_4, if_pos c_213, if_neg c_222]
                exact fr_zret C hP hD hS hd_.symm (Or.inl rfl) dM_refuses_230
              · skip
                refine lv_iconst (v := 1) hx hb dM_refuses_225 (by decide) ?_
                refine lv_goto (tgt := 230) hx hb dM_refuses_226 (by decide) ?_
                have hd_ : dn_m_refuses f x = 1 := by rw [dn_m_refuses, if_neg c_20_0, if_neg c_20_1, if_neg c_20_2, if_neg c_20_3, if_pos c_20_4, if_pos c_213, if_pos c_222]
                exact fr_zret C hP hD hS hd_.symm (Or.inr rfl) dM_refuses_230
          · skip
            refine lv_tableOut (tgt := 231) hx hb dM_refuses_20 (by have h0 := fr_ne (k := 0) (a := 0) rfl c_20_0; have h1 := fr_ne (k := 1) (a := 1) rfl c_20_1; have h2 := fr_ne (k := 2) (a := 2) rfl c_20_2; have h3 := fr_ne (k := 3) (a := 3) rfl c_20_3; have h4 := fr_ne (k := 4) (a := 4) rfl c_20_4; omega) (by decide) ?_
            refine lv_aload_n hx hb dM_refuses_231 rfl (lv_at hl 2 rfl) ?_
            refine lv_iload_n hx hb dM_refuses_232 rfl (lv_at hl 3 rfl) ?_
            refine cl_M_65 C hP hD hS hl.1 ⟨Nat.le_of_ble_eq_true rfl, Nat.le_of_ble_eq_true rfl⟩ (Nat.le_of_ble_eq_true rfl) ⟨Nat.le_of_ble_eq_true rfl, Nat.le_of_ble_eq_true rfl⟩ gX gB dM_refuses_233 (fun H locs hP hD hS => ?_)
            have hd_ : dn_m_refuses f x = dn_m_ownRefuses f x := by rw [dn_m_refuses, if_neg c_20_0, if_neg c_20_1, if_neg c_20_2, if_neg c_20_3, if_neg c_20_4]
            exact fr_zret C hP hD hS hd_.symm (bz_m_ownRefuses ..) dM_refuses_236
theorem bz_m_refuses {f : Nat → Nat → Int32} {x : Int32} : dn_m_refuses f x = 0 ∨ dn_m_refuses f x = 1 := by
  unfold dn_m_refuses
  repeat' split
  all_goals first | exact Or.inl rfl | exact Or.inr rfl | exact bz_m_ownRefuses
