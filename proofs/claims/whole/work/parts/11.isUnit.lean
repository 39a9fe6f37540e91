def dn_isUnit (f : Nat → Nat → Int32) (x : Int32) : Int32 := if x < 0 then 0 else (if (f 0 0) ≤ x then 0 else 1)
set_option maxHeartbeats 4000000 in
set_option maxRecDepth 100000 in
theorem c_isUnit (l : Launch) (D : va_G) (ka : Nat → ClassId) (al : Nat → Nat) (Z : va_W) (f : Nat → Nat → Int32) (x : Int32) : fr_Mi l y_isUnit (.code y_isUnit prog_1_method_19_code 2 (some .boolean) :: fr_tbl) { frames := 0, cells := 0, slots := 0, locals := 0 } D vwCl (fr_ty ka) fr_nw [.ref (al 0), .int x] (fr_cw ka al f Z) (dn_isUnit f x) (fr_cw ka al f Z) 0 0 := by
  refine fr_Mi.of (by decide) (Nat.le_of_ble_eq_true rfl) ?_
  intro p e s m below meth c A H locs ls C hP hD hS hl
  obtain ⟨hx, hb, hml, hown, ht, hK, hlocks, hr, hA, hN, hZ, hEx⟩ := id C
  have hl : lv_has ls 2 [(0, .ref (al 0)), (1, .int x)] := hl
  refine lv_iload_n hx hb dF_isUnit_0 rfl (lv_at hl 1 rfl) ?_
  refine lv_if_lt (tgt := 16) hx hb dF_isUnit_1 (by decide) (fun c_1 => ?_) (fun c_1 => ?_)
  · skip
    refine lv_iconst (v := 0) hx hb dF_isUnit_16 (by decide) ?_
    have hd_ : dn_isUnit f x = 0 := by rw [dn_isUnit, if_pos c_1]
    exact fr_zret C hP hD hS hd_.symm (Or.inl rfl) dF_isUnit_17
  · skip
    refine lv_iload_n hx hb dF_isUnit_4 rfl (lv_at hl 1 rfl) ?_
    refine lv_aload_n hx hb dF_isUnit_5 rfl (lv_at hl 0 rfl) ?_
    refine gf_F_15 C hP dF_isUnit_6 ?_
    refine lv_icmp_ge (tgt := 16) hx hb dF_isUnit_9 (by decide) (fun c_9 => ?_) (fun c_9 => ?_)
    · skip
      refine lv_iconst (v := 0) hx hb dF_isUnit_16 (by decide) ?_
      have hd_ : dn_isUnit f x = 0 := by rw [dn_isUnit, if_neg c_1, if_pos c_9]
      exact fr_zret C hP hD hS hd_.symm (Or.inl rfl) dF_isUnit_17
    · skip
      refine lv_iconst (v := 1) hx hb dF_isUnit_12 (by decide) ?_
      refine lv_goto (tgt := 17) hx hb dF_isUnit_13 (by decide) ?_
      have hd_ : dn_isUnit f x = 1 := by rw [dn_isUnit, if_neg c_1, if_neg c_9]
      exact fr_zret C hP hD hS hd_.symm (Or.inr rfl) dF_isUnit_17
theorem bz_isUnit {f : Nat → Nat → Int32} {x : Int32} : dn_isUnit f x = 0 ∨ dn_isUnit f x = 1 := by
  unfold dn_isUnit
  repeat' split
  all_goals first | exact Or.inl rfl | exact Or.inr rfl | exact bz_has
theorem fr_isU {f : Nat → Nat → Int32} {x : Int32} (h : ¬ dn_isUnit f x = 0) : 0 ≤ x.toInt ∧ x.toInt < (f 0 0).toInt := by
  unfold dn_isUnit at h
  split at h
  · exact absurd rfl h
  · rename_i h1
    split at h
    · exact absurd rfl h
    · rename_i h2
      have q1 := fr_t2 h1
      have q2 := fr_t4 h2
      have z : (0 : Int32).toInt = 0 := rfl
      omega

def dn_isRuleNumber (f : Nat → Nat → Int32) (x : Int32) : Int32 := if x < 1 then 0 else (if (f 0 1) < x then 0 else 1)
set_option maxHeartbeats 4000000 in
set_option maxRecDepth 100000 in
theorem c_isRuleNumber (l : Launch) (D : va_G) (ka : Nat → ClassId) (al : Nat → Nat) (Z : va_W) (f : Nat → Nat → Int32) (x : Int32) : fr_Mi l y_isRuleNumber (.code y_isRuleNumber prog_1_method_20_code 2 (some .boolean) :: fr_tbl) { frames := 0, cells := 0, slots := 0, locals := 0 } D vwCl (fr_ty ka) fr_nw [.ref (al 0), .int x] (fr_cw ka al f Z) (dn_isRuleNumber f x) (fr_cw ka al f Z) 0 0 := by
  refine fr_Mi.of (by decide) (Nat.le_of_ble_eq_true rfl) ?_
  intro p e s m below meth c A H locs ls C hP hD hS hl
  obtain ⟨hx, hb, hml, hown, ht, hK, hlocks, hr, hA, hN, hZ, hEx⟩ := id C
  have hl : lv_has ls 2 [(0, .ref (al 0)), (1, .int x)] := hl
  refine lv_iload_n hx hb dF_isRuleNumber_0 rfl (lv_at hl 1 rfl) ?_
  refine lv_iconst (v := 1) hx hb dF_isRuleNumber_1 (by decide) ?_
  refine lv_icmp_lt (tgt := 17) hx hb dF_isRuleNumber_2 (by decide) (fun c_2 => ?_) (fun c_2 => ?_)
  · skip
    refine lv_iconst (v := 0) hx hb dF_isRuleNumber_17 (by decide) ?_
    have hd_ : dn_isRuleNumber f x = 0 := by rw [dn_isRuleNumber, if_pos c_2]
    exact fr_zret C hP hD hS hd_.symm (Or.inl rfl) dF_isRuleNumber_18
  · skip
    refine lv_iload_n hx hb dF_isRuleNumber_5 rfl (lv_at hl 1 rfl) ?_
    refine lv_aload_n hx hb dF_isRuleNumber_6 rfl (lv_at hl 0 rfl) ?_
    refine gf_F_25 C hP dF_isRuleNumber_7 ?_
    refine lv_icmp_gt (tgt := 17) hx hb dF_isRuleNumber_10 (by decide) (fun c_10 => ?_) (fun c_10 => ?_)
    · skip
      refine lv_iconst (v := 0) hx hb dF_isRuleNumber_17 (by decide) ?_
      have hd_ : dn_isRuleNumber f x = 0 := by rw [dn_isRuleNumber, if_neg c_2, if_pos c_10]
      exact fr_zret C hP hD hS hd_.symm (Or.inl rfl) dF_isRuleNumber_18
    · skip
      refine lv_iconst (v := 1) hx hb dF_isRuleNumber_13 (by decide) ?_
      refine lv_goto (tgt := 18) hx hb dF_isRuleNumber_14 (by decide) ?_
      have hd_ : dn_isRuleNumber f x = 1 := by rw [dn_isRuleNumber, if_neg c_2, if_neg c_10]
      exact fr_zret C hP hD hS hd_.symm (Or.inr rfl) dF_isRuleNumber_18
theorem bz_isRuleNumber {f : Nat → Nat → Int32} {x : Int32} : dn_isRuleNumber f x = 0 ∨ dn_isRuleNumber f x = 1 := by
  unfold dn_isRuleNumber
  repeat' split
  all_goals first | exact Or.inl rfl | exact Or.inr rfl | exact bz_has
theorem fr_isR {f : Nat → Nat → Int32} {x : Int32} (h : ¬ dn_isRuleNumber f x = 0) : 1 ≤ x.toInt ∧ x.toInt ≤ (f 0 1).toInt := by
  unfold dn_isRuleNumber at h
  split at h
  · exact absurd rfl h
  · rename_i h1
    split at h
    · exact absurd rfl h
    · rename_i h2
      have q1 := fr_t2 h1
      have q2 := fr_t2 h2
      have z : (1 : Int32).toInt = 1 := rfl
      omega
theorem fr_or1 {f : Nat → Nat → Int32} {x : Int32} (gR : 0 ≤ (f 0 1).toInt ∧ (f 0 1).toInt ≤ 12) (h : ¬ dn_isRuleNumber f x = 0) : 1 ≤ (f 0 1).toInt ∧ (f 0 1).toInt ≤ 12 := by
  have := fr_isR h
  omega

def dn_asking (f : Nat → Nat → Int32) (q : Nat) : Int32 := if (f 4 q) = 1 then 1 else (if (f 4 q) = 4 then 2 else (if (f 4 q) = 5 then (if (f 5 q) = 2 then 1 else 0) else 0))
set_option maxHeartbeats 4000000 in
set_option maxRecDepth 100000 in
theorem c_asking (l : Launch) (D : va_G) (ka : Nat → ClassId) (al : Nat → Nat) (Z : va_W) (f : Nat → Nat → Int32) (q : Nat) (hq : q < 12) : fr_Mi l y_asking (.code y_asking prog_2_method_2_code 1 (some .int) :: fr_tbl) { frames := 0, cells := 0, slots := 0, locals := 0 } D vwCl (fr_ty ka) fr_nw [.ref (al (17 + q))] (fr_cw ka al f Z) (dn_asking f q) (fr_cw ka al f Z) 0 0 := by
  refine fr_Mi.of (by decide) (Nat.le_of_ble_eq_true rfl) ?_
  intro p e s m below meth c A H locs ls C hP hD hS hl
  obtain ⟨hx, hb, hml, hown, ht, hK, hlocks, hr, hA, hN, hZ, hEx⟩ := id C
  have hl : lv_has ls 1 [(0, .ref (al (17 + q)))] := hl
  refine lv_aload_n hx hb dR_asking_0 rfl (lv_at hl 0 rfl) ?_
  refine gf_R_9 C hP hq dR_asking_1 ?_
  by_cases c_4_1 : (f 4 q) = 1
  · skip
    refine lv_tableIn (tgt := 40) hx hb dR_asking_4 (by rw [c_4_1]; decide) (by rw [c_4_1]; decide) (by rw [c_4_1] <;> rfl) (by decide) ?_
    refine lv_iconst (v := 1) hx hb dR_asking_40 (by decide) ?_
    have hd_ : dn_asking f q = 1 := by rw [dn_asking, if_pos c_4_1]
    exact fr_iret C hP hD hS hd_.symm dR_asking_41
  · skip
    by_cases c_4_4 : (f 4 q) = 4
    · skip
      refine lv_tableIn (tgt := 42) hx hb dR_asking_4 (by rw [c_4_4]; decide) (by rw [c_4_4]; decide) (by rw [c_4_4] <;> rfl) (by decide) ?_
      refine lv_iconst (v := 2) hx hb dR_asking_42 (by decide) ?_
      have hd_ : dn_asking f q = 2 := by rw [dn_asking, if_neg c_4_1, if_pos c_4_4]
      exact fr_iret C hP hD hS hd_.symm dR_asking_43
    · skip
      by_cases c_4_5 : (f 4 q) = 5
      · skip
        refine lv_tableIn (tgt := 44) hx hb dR_asking_4 (by rw [c_4_5]; decide) (by rw [c_4_5]; decide) (by rw [c_4_5] <;> rfl) (by decide) ?_
        refine lv_aload_n hx hb dR_asking_44 rfl (lv_at hl 0 rfl) ?_
        refine gf_R_15 C hP hq dR_asking_45 ?_
        refine lv_iconst (v := 2) hx hb dR_asking_48 (by decide) ?_
        refine lv_icmp_ne (tgt := 56) hx hb dR_asking_49 (by decide) (fun c_49 => ?_) (fun c_49 => ?_)
        · skip
          refine lv_iconst (v := 0) hx hb dR_asking_56 (by decide) ?_
          have hd_ : dn_asking f q = 0 := by rw [dn_asking, if_neg c_4_1, if_neg c_4_4, if_pos c_4_5, if_neg c_49]
          exact fr_iret C hP hD hS hd_.symm dR_asking_57
        · skip
          refine lv_iconst (v := 1) hx hb dR_asking_52 (by decide) ?_
          refine lv_goto (tgt := 57) hx hb dR_asking_53 (by decide) ?_
          have hd_ : dn_asking f q = 1 := by rw [dn_asking, if_neg c_4_1, if_neg c_4_4, if_pos c_4_5, if_pos c_49]
          exact fr_iret C hP hD hS hd_.symm dR_asking_57
      · skip
        have hdef : W p l e { frames := 0, cells := 0, slots := 0, locals := 0 } s m ([.ref (al (17 + q))] : List Value).toArray below meth c H locs 0 0 (MQ below (fr_Qi D vwCl (fr_ty ka) (dn_asking f q) (fr_cw ka al f Z) A) ([.ref (al (17 + q))] : List Value).toArray s 0 0 A) (F0 m 58 ls []) := by
          refine lv_iconst (v := 0) hx hb dR_asking_58 (by decide) ?_
          have hd_ : dn_asking f q = 0 := by rw [dn_asking, if_neg c_4_1, if_neg c_4_4, if_neg c_4_5]
          exact fr_iret C hP hD hS hd_.symm dR_asking_59
        by_cases c_4_g2 : (f 4 q) = 2
        · exact lv_tableIn (tgt := 58) hx hb dR_asking_4 (by rw [c_4_g2]; decide) (by rw [c_4_g2]; decide) (by rw [c_4_g2] <;> rfl) (by decide) hdef
        by_cases c_4_g3 : (f 4 q) = 3
        · exact lv_tableIn (tgt := 58) hx hb dR_asking_4 (by rw [c_4_g3]; decide) (by rw [c_4_g3]; decide) (by rw [c_4_g3] <;> rfl) (by decide) hdef
        exact lv_tableOut (tgt := 58) hx hb dR_asking_4 (by have h0 := fr_ne (k := 1) (a := 1) rfl c_4_1; have h1 := fr_ne (k := 4) (a := 4) rfl c_4_4; have h2 := fr_ne (k := 5) (a := 5) rfl c_4_5; have h3 := fr_ne (k := 2) (a := 2) rfl c_4_g2; have h4 := fr_ne (k := 3) (a := 3) rfl c_4_g3; omega) (by decide) hdef

theorem cl_R_32 {p : Program} {l : Launch} {e : Env} {R : Room} {s : State} {m : MethodId} {args : Array Value} {below : List Frame} {meth : Method} {c : Code} {H : Heap} {locs : List Loc} {cells slots : Nat} {Q : State → Prop} {D : va_G} {A : Nat → Prop} {cc : ByteArray} {nL pc : Nat} {ret : Option FieldType} {hh : List ExceptionTableEntry} {ls : Array Slot} {rest : List Value} {ka : Nat → ClassId} {al : Nat → Nat} {f : Nat → Nat → Int32} {Z : va_W} {u : Nat} {k : Int32} (C : fr_Cx p s m args meth c "FragileRules$Rule" cc nL ret hh fr_tbl fr_nw D vwCl (fr_ty ka) A) (hP : va_P D vwCl (fr_cw ka al f Z) H) (hD : va_D A (fr_cw ka al f Z)) (hS : va_S A s.heap H locs) (hsz : ls.size = nL) (hR : 0 + 1 ≤ R.frames ∧ 8 + (2 + 11) + 0 ≤ R.locals) (hw : (rest.map fun v => v.category).sum ≤ 8) (hf : cells + 0 ≤ R.cells ∧ slots + 0 ≤ R.slots) (hu : u < 10) (hdg : decode cc pc = .ok (.invokevirtual 32, 3)) (kk : ∀ (H : Heap) (locs : List Loc), va_P D vwCl (fr_cw ka al f Z) H → va_D A (fr_cw ka al f Z) → va_S A s.heap H locs → W p l e R s m args below meth c H locs (cells + 0) (slots + 0) Q (F0 m (pc + 3) ls (.int (dn_has f u k) :: rest))) : W p l e R s m args below meth c H locs cells slots Q (F0 m pc ls (.int k :: .ref (al (7 + u)) :: rest)) :=
  fr_callVi (As := [.int k]) C hP hD hS (c_has l D ka al Z f u k hu) (cwV 1 C.2.2.2.2.1 (fr_goodV ml_R_32 mi_has msel_has mini_U mc_has) rfl rfl rfl (by decide +kernel) hR) (va_recv C.2.2.2.2.2.1 hP (ci := 1) (q0 := (7 + u)) rfl (fr_cw_u hu)) rfl hsz hw hdg hf kk
def dn_doing (f : Nat → Nat → Int32) (q : Nat) (u : Nat) (v : Nat) (x : Int32) : Int32 := if (f 5 q) = 0 then (dn_has f u 1) else (if (f 5 q) = 1 then (if (dn_has f v 2) = 0 then 0 else (if x = 0 then 0 else 1)) else (if (f 5 q) = 2 then (if (dn_has f u 8) = 0 then (if (dn_has f v 8) = 0 then 0 else (if (f 1 u) = (f 1 v) then 0 else 1)) else (if (f 1 u) = (f 1 v) then 0 else 1)) else (if (dn_has f u 4) = 0 then 0 else (if (f 1 u) = (f 1 v) then 0 else 1))))
set_option maxHeartbeats 4000000 in
set_option maxRecDepth 100000 in
theorem c_doing (l : Launch) (D : va_G) (ka : Nat → ClassId) (al : Nat → Nat) (Z : va_W) (f : Nat → Nat → Int32) (q : Nat) (u : Nat) (v : Nat) (x : Int32) (hq : q < 12) (hu : u < 10) (hv : v < 10) : fr_Mi l y_doing (.code y_doing prog_2_method_4_code 4 (some .boolean) :: fr_tbl) { frames := 1, cells := 0, slots := 0, locals := 21 } D vwCl (fr_ty ka) fr_nw [.ref (al (17 + q)), .ref (al (7 + u)), .ref (al (7 + v)), .int x] (fr_cw ka al f Z) (dn_doing f q u v x) (fr_cw ka al f Z) 0 0 := by
  refine fr_Mi.of (by decide) (Nat.le_of_ble_eq_true rfl) ?_
  intro p e s m below meth c A H locs ls C hP hD hS hl
  obtain ⟨hx, hb, hml, hown, ht, hK, hlocks, hr, hA, hN, hZ, hEx⟩ := id C
  have hl : lv_has ls 4 [(0, .ref (al (17 + q))), (1, .ref (al (7 + u))), (2, .ref (al (7 + v))), (3, .int x)] := hl
  refine lv_aload_n hx hb dR_refusesByItsDoing_0 rfl (lv_at hl 0 rfl) ?_
  refine gf_R_15 C hP hq dR_refusesByItsDoing_1 ?_
  by_cases c_4_0 : (f 5 q) = 0
  · skip
    refine lv_tableIn (tgt := 32) hx hb dR_refusesByItsDoing_4 (by rw [c_4_0]; decide) (by rw [c_4_0]; decide) (by rw [c_4_0] <;> rfl) (by decide) ?_
    refine lv_aload_n hx hb dR_refusesByItsDoing_32 rfl (lv_at hl 1 rfl) ?_
    refine lv_iconst (v := 1) hx hb dR_refusesByItsDoing_33 (by decide) ?_
    refine cl_R_32 C hP hD hS hl.1 ⟨Nat.le_of_ble_eq_true rfl, Nat.le_of_ble_eq_true rfl⟩ (Nat.le_of_ble_eq_true rfl) ⟨Nat.le_of_ble_eq_true rfl, Nat.le_of_ble_eq_true rfl⟩ hu dR_refusesByItsDoing_34 (fun H locs hP hD hS => ?_)
    have hd_ : dn_doing f q u v x = dn_has f u 1 := by rw [dn_doing, if_pos c_4_0]
    exact fr_zret C hP hD hS hd_.symm (bz_has ..) dR_refusesByItsDoing_37
  · skip
    by_cases c_4_1 : (f 5 q) = 1
    · skip
      refine lv_tableIn (tgt := 38) hx hb dR_refusesByItsDoing_4 (by rw [c_4_1]; decide) (by rw [c_4_1]; decide) (by rw [c_4_1] <;> rfl) (by decide) ?_
      refine lv_aload_n hx hb dR_refusesByItsDoing_38 rfl (lv_at hl 2 rfl) ?_
      refine lv_iconst (v := 2) hx hb dR_refusesByItsDoing_39 (by decide) ?_
      refine cl_R_32 C hP hD hS hl.1 ⟨Nat.le_of_ble_eq_true rfl, Nat.le_of_ble_eq_true rfl⟩ (Nat.le_of_ble_eq_true rfl) ⟨Nat.le_of_ble_eq_true rfl, Nat.le_of_ble_eq_true rfl⟩ hv dR_refusesByItsDoing_40 (fun H locs hP hD hS => ?_)
      refine lv_if_eq (tgt := 54) hx hb dR_refusesByItsDoing_43 (by decide) (fun c_43 => ?_) (fun c_43 => ?_)
      · skip
        refine lv_iconst (v := 0) hx hb dR_refusesByItsDoing_54 (by decide) ?_
        have hd_ : dn_doing f q u v x = 0 := by rw [dn_doing, if_neg c_4_0, if_pos c_4_1, if_pos c_43]
        exact fr_zret C hP hD hS hd_.symm (Or.inl rfl) dR_refusesByItsDoing_55
      · skip
        refine lv_iload_n hx hb dR_refusesByItsDoing_46 rfl (lv_at hl 3 rfl) ?_
        refine lv_if_eq (tgt := 54) hx hb dR_refusesByItsDoing_47 (by decide) (fun c_47 => ?_) (fun c_47 => ?_)
        · skip
          refine lv_iconst (v := 0) hx hb dR_refusesByItsDoing_54 (by decide) ?_
          have hd_ : dn_doing f q u v x = 0 := by rw [dn_doing, if_neg c_4_0, if_pos c_4_1, if_neg c_43, if_pos c_47]
          exact fr_zret C hP hD hS hd_.symm (Or.inl rfl) dR_refusesByItsDoing_55
        · skip
          refine lv_iconst (v := 1) hx hb dR_refusesByItsDoing_50 (by decide) ?_
          refine lv_goto (tgt := 55) hx hb dR_refusesByItsDoing_51 (by decide) ?_
          have hd_ : dn_doing f q u v x = 1 := by rw [dn_doing, if_neg c_4_0, if_pos c_4_1, if_neg c_43, if_neg c_47]
          exact fr_zret C hP hD hS hd_.symm (Or.inr rfl) dR_refusesByItsDoing_55
    · skip
      by_cases c_4_2 : (f 5 q) = 2
      · skip
        refine lv_tableIn (tgt := 56) hx hb dR_refusesByItsDoing_4 (by rw [c_4_2]; decide) (by rw [c_4_2]; decide) (by rw [c_4_2] <;> rfl) (by decide) ?_
        refine lv_aload_n hx hb dR_refusesByItsDoing_56 rfl (lv_at hl 1 rfl) ?_
        refine lv_bipush (v := 8) hx hb dR_refusesByItsDoing_57 (by decide) ?_
        refine cl_R_32 C hP hD hS hl.1 ⟨Nat.le_of_ble_eq_true rfl, Nat.le_of_ble_eq_true rfl⟩ (Nat.le_of_ble_eq_true rfl) ⟨Nat.le_of_ble_eq_true rfl, Nat.le_of_ble_eq_true rfl⟩ hu dR_refusesByItsDoing_59 (fun H locs hP hD hS => ?_)
        refine lv_if_ne (tgt := 74) hx hb dR_refusesByItsDoing_62 (by decide) (fun c_62 => ?_) (fun c_62 => ?_)
        · skip
          refine lv_aload_n hx hb dR_refusesByItsDoing_74 rfl (lv_at hl 1 rfl) ?_
          refine gf_R_24 C hP hu dR_refusesByItsDoing_75 ?_
          refine lv_aload_n hx hb dR_refusesByItsDoing_78 rfl (lv_at hl 2 rfl) ?_
          refine gf_R_24 C hP hv dR_refusesByItsDoing_79 ?_
          refine lv_icmp_eq (tgt := 89) hx hb dR_refusesByItsDoing_82 (by decide) (fun c_82 => ?_) (fun c_82 => ?_)
          · skip
            refine lv_iconst (v := 0) hx hb dR_refusesByItsDoing_89 (by decide) ?_
            have hd_ : dn_doing f q u v x = 0 := by rw [dn_doing, if_neg c_4_0, if_neg c_4_1, if_pos c_4_2, if_neg c_62, if_pos c_82]
            exact fr_zret C hP hD hS hd_.symm (Or.inl rfl) dR_refusesByItsDoing_90
          · skip
            refine lv_iconst (v := 1) hx hb dR_refusesByItsDoing_85 (by decide) ?_
            refine lv_goto (tgt := 90) hx hb dR_refusesByItsDoing_86 (by decide) ?_
            have hd_ : dn_doing f q u v x = 1 := by rw [dn_doing, if_neg c_4_0, if_neg c_4_1, if_pos c_4_2, if_neg c_62, if_neg c_82]
            exact fr_zret C hP hD hS hd_.symm (Or.inr rfl) dR_refusesByItsDoing_90
        · skip
          refine lv_aload_n hx hb dR_refusesByItsDoing_65 rfl (lv_at hl 2 rfl) ?_
          refine lv_bipush (v := 8) hx hb dR_refusesByItsDoing_66 (by decide) ?_
          refine cl_R_32 C hP hD hS hl.1 ⟨Nat.le_of_ble_eq_true rfl, Nat.le_of_ble_eq_true rfl⟩ (Nat.le_of_ble_eq_true rfl) ⟨Nat.le_of_ble_eq_true rfl, Nat.le_of_ble_eq_true rfl⟩ hv dR_refusesByItsDoing_68 (fun H locs hP hD hS => ?_)
          refine lv_if_eq (tgt := 89) hx hb dR_refusesByItsDoing_71 (by decide) (fun c_71 => ?_) (fun c_71 => ?_)
          · skip
            refine lv_iconst (v := 0) hx hb dR_refusesByItsDoing_89 (by decide) ?_
            have hd_ : dn_doing f q u v x = 0 := by rw [dn_doing, if_neg c_4_0, if_neg c_4_1, if_pos c_4_2, if_pos c_62, if_pos c_71]
            exact fr_zret C hP hD hS hd_.symm (Or.inl rfl) dR_refusesByItsDoing_90
          · skip
            refine lv_aload_n hx hb dR_refusesByItsDoing_74 rfl (lv_at hl 1 rfl) ?_
            refine gf_R_24 C hP hu dR_refusesByItsDoing_75 ?_
            refine lv_aload_n hx hb dR_refusesByItsDoing_78 rfl (lv_at hl 2 rfl) ?_
            refine gf_R_24 C hP hv dR_refusesByItsDoing_79 ?_
            refine lv_icmp_eq (tgt := 89) hx hb dR_refusesByItsDoing_82 (by decide) (fun c_82 => ?_) (fun c_82 => ?_)
            · skip
              refine lv_iconst (v := 0) hx hb dR_refusesByItsDoing_89 (by decide) ?_
              have hd_ : dn_doing f q u v x = 0 := by rw [dn_doing, if_neg c_4_0, if_neg c_4_1, if_pos c_4_2, if_pos c_62, if_neg c_71, if_pos c_82]
              exact fr_zret C hP hD hS hd_.symm (Or.inl rfl) dR_refusesByItsDoing_90
            · skip
              refine lv_iconst (v := 1) hx hb dR_refusesByItsDoing_85 (by decide) ?_
              refine lv_goto (tgt := 90) hx hb dR_refusesByItsDoing_86 (by decide) ?_
              have hd_ : dn_doing f q u v x = 1 := by rw [dn_doing, if_neg c_4_0, if_neg c_4_1, if_pos c_4_2, if_pos c_62, if_neg c_71, if_neg c_82]
              exact fr_zret C hP hD hS hd_.symm (Or.inr rfl) dR_refusesByItsDoing_90
      · skip
        refine lv_tableOut (tgt := 91) hx hb dR_refusesByItsDoing_4 (by have h0 := fr_ne (k := 0) (a := 0) rfl c_4_0; have h1 := fr_ne (k := 1) (a := 1) rfl c_4_1; have h2 := fr_ne (k := 2) (a := 2) rfl c_4_2; omega) (by decide) ?_
        refine lv_aload_n hx hb dR_refusesByItsDoing_91 rfl (lv_at hl 1 rfl) ?_
        refine lv_iconst (v := 4) hx hb dR_refusesByItsDoing_92 (by decide) ?_
        refine cl_R_32 C hP hD hS hl.1 ⟨Nat.le_of_ble_eq_true rfl, Nat.le_of_ble_eq_true rfl⟩ (Nat.le_of_ble_eq_true rfl) ⟨Nat.le_of_ble_eq_true rfl, Nat.le_of_ble_eq_true rfl⟩ hu dR_refusesByItsDoing_93 (fun H locs hP hD hS => ?_)
        refine lv_if_eq (tgt := 114) hx hb dR_refusesByItsDoing_96 (by decide) (fun c_96 => ?_) (fun c_96 => ?_)
        · skip
          refine lv_iconst (v := 0) hx hb dR_refusesByItsDoing_114 (by decide) ?_
          have hd_ : dn_doing f q u v x = 0 := by rw [dn_doing, if_neg c_4_0, if_neg c_4_1, if_neg c_4_2, if_pos c_96]
          exact fr_zret C hP hD hS hd_.symm (Or.inl rfl) dR_refusesByItsDoing_115
        · skip
          refine lv_aload_n hx hb dR_refusesByItsDoing_99 rfl (lv_at hl 1 rfl) ?_
          refine gf_R_24 C hP hu dR_refusesByItsDoing_100 ?_
          refine lv_aload_n hx hb dR_refusesByItsDoing_103 rfl (lv_at hl 2 rfl) ?_
          refine gf_R_24 C hP hv dR_refusesByItsDoing_104 ?_
          refine lv_icmp_eq (tgt := 114) hx hb dR_refusesByItsDoing_107 (by decide) (fun c_107 => ?_) (fun c_107 => ?_)
          · skip
            refine lv_iconst (v := 0) hx hb dR_refusesByItsDoing_114 (by decide) ?_
            have hd_ : dn_doing f q u v x = 0 := by rw [dn_doing, if_neg c_4_0, if_neg c_4_1, if_neg c_4_2, if_neg c_96, if_pos c_107]
            exact fr_zret C hP hD hS hd_.symm (Or.inl rfl) dR_refusesByItsDoing_115
          · skip
            refine lv_iconst (v := 1) hx hb dR_refusesByItsDoing_110 (by decide) ?_
            refine lv_goto (tgt := 115) hx hb dR_refusesByItsDoing_111 (by decide) ?_
            have hd_ : dn_doing f q u v x = 1 := by rw [dn_doing, if_neg c_4_0, if_neg c_4_1, if_neg c_4_2, if_neg c_96, if_neg c_107]
            exact fr_zret C hP hD hS hd_.symm (Or.inr rfl) dR_refusesByItsDoing_115
theorem bz_doing {f : Nat → Nat → Int32} {q : Nat} {u : Nat} {v : Nat} {x : Int32} : dn_doing f q u v x = 0 ∨ dn_doing f q u v x = 1 := by
  unfold dn_doing
  repeat' split
  all_goals first | exact Or.inl rfl | exact Or.inr rfl | exact bz_has

theorem cl_R_36 {p : Program} {l : Launch} {e : Env} {R : Room} {s : State} {m : MethodId} {args : Array Value} {below : List Frame} {meth : Method} {c : Code} {H : Heap} {locs : List Loc} {cells slots : Nat} {Q : State → Prop} {D : va_G} {A : Nat → Prop} {cc : ByteArray} {nL pc : Nat} {ret : Option FieldType} {hh : List ExceptionTableEntry} {ls : Array Slot} {rest : List Value} {ka : Nat → ClassId} {al : Nat → Nat} {f : Nat → Nat → Int32} {Z : va_W} {q : Nat} {u : Nat} {v : Nat} {x : Int32} (C : fr_Cx p s m args meth c "FragileRules$Rule" cc nL ret hh fr_tbl fr_nw D vwCl (fr_ty ka) A) (hP : va_P D vwCl (fr_cw ka al f Z) H) (hD : va_D A (fr_cw ka al f Z)) (hS : va_S A s.heap H locs) (hsz : ls.size = nL) (hR : 1 + 1 ≤ R.frames ∧ 8 + (4 + 11) + 21 ≤ R.locals) (hw : (rest.map fun v => v.category).sum ≤ 8) (hf : cells + 0 ≤ R.cells ∧ slots + 0 ≤ R.slots) (hq : q < 12) (hu : u < 10) (hv : v < 10) (hdg : decode cc pc = .ok (.invokevirtual 36, 3)) (kk : ∀ (H : Heap) (locs : List Loc), va_P D vwCl (fr_cw ka al f Z) H → va_D A (fr_cw ka al f Z) → va_S A s.heap H locs → W p l e R s m args below meth c H locs (cells + 0) (slots + 0) Q (F0 m (pc + 3) ls (.int (dn_doing f q u v x) :: rest))) : W p l e R s m args below meth c H locs cells slots Q (F0 m pc ls (.int x :: .ref (al (7 + v)) :: .ref (al (7 + u)) :: .ref (al (17 + q)) :: rest)) :=
  fr_callVi (As := [.ref (al (7 + u)), .ref (al (7 + v)), .int x]) C hP hD hS (c_doing l D ka al Z f q u v x hq hu hv) (cwV 3 C.2.2.2.2.1 (fr_goodV ml_R_36 mi_doing msel_doing mini_R mc_doing) rfl rfl rfl (by decide +kernel) hR) (va_recv C.2.2.2.2.2.1 hP (ci := 2) (q0 := (17 + q)) rfl (fr_cw_r hq)) rfl hsz hw hdg hf kk
def dn_refuses (f : Nat → Nat → Int32) (q : Nat) (u : Nat) (v : Nat) (x : Int32) : Int32 := if (f 4 q) = 0 then (if (f 1 v) = (f 5 q) then (if (f 1 u) = (f 6 q) then 1 else 0) else 0) else (if (f 4 q) = 1 then (if (f 1 u) = (f 5 q) then (if (f 1 v) = (f 6 q) then 1 else (if (f 1 u) = (f 6 q) then (if (f 1 v) = (f 5 q) then 1 else 0) else 0)) else (if (f 1 u) = (f 6 q) then (if (f 1 v) = (f 5 q) then 1 else 0) else 0)) else (if (f 4 q) = 2 then (if (f 1 u) = (f 5 q) then (if (f 2 v) ≤ (10 * (f 6 q)) then 0 else 1) else 0) else (if (f 4 q) = 3 then (if (f 1 v) = (f 5 q) then (if x < (f 6 q) then 0 else 1) else 0) else (if (f 4 q) = 4 then (if x = (f 5 q) then (if (dn_has f u (f 6 q)) = 0 then 1 else 0) else 0) else (if (f 6 q) = 1 then 1 else (if (dn_doing f q u v x) = 0 then 0 else 1))))))
set_option maxHeartbeats 4000000 in
set_option maxRecDepth 100000 in
theorem c_refuses (l : Launch) (D : va_G) (ka : Nat → ClassId) (al : Nat → Nat) (Z : va_W) (f : Nat → Nat → Int32) (q : Nat) (u : Nat) (v : Nat) (x : Int32) (hq : q < 12) (hu : u < 10) (hv : v < 10) : fr_Mi l y_refuses (.code y_refuses prog_2_method_3_code 4 (some .boolean) :: fr_tbl) { frames := 2, cells := 0, slots := 0, locals := 44 } D vwCl (fr_ty ka) fr_nw [.ref (al (17 + q)), .ref (al (7 + u)), .ref (al (7 + v)), .int x] (fr_cw ka al f Z) (dn_refuses f q u v x) (fr_cw ka al f Z) 0 0 := by
  refine fr_Mi.of (by decide) (Nat.le_of_ble_eq_true rfl) ?_
  intro p e s m below meth c A H locs ls C hP hD hS hl
  obtain ⟨hx, hb, hml, hown, ht, hK, hlocks, hr, hA, hN, hZ, hEx⟩ := id C
  have hl : lv_has ls 4 [(0, .ref (al (17 + q))), (1, .ref (al (7 + u))), (2, .ref (al (7 + v))), (3, .int x)] := hl
  refine lv_aload_n hx hb dR_refuses_0 rfl (lv_at hl 0 rfl) ?_
  refine gf_R_9 C hP hq dR_refuses_1 ?_
  by_cases c_4_0 : (f 4 q) = 0
  · skip
    refine lv_tableIn (tgt := 40) hx hb dR_refuses_4 (by rw [c_4_0]; decide) (by rw [c_4_0]; decide) (by rw [c_4_0] <;> rfl) (by decide) ?_
    refine lv_aload_n hx hb dR_refuses_40 rfl (lv_at hl 2 rfl) ?_
    refine gf_R_24 C hP hv dR_refuses_41 ?_
    refine lv_aload_n hx hb dR_refuses_44 rfl (lv_at hl 0 rfl) ?_
    refine gf_R_15 C hP hq dR_refuses_45 ?_
    refine lv_icmp_ne (tgt := 66) hx hb dR_refuses_48 (by decide) (fun c_48 => ?_) (fun c_48 => ?_)
    · skip
      refine lv_iconst (v := 0) hx hb dR_refuses_66 (by decide) ?_
      have hd_ : dn_refuses f q u v x = 0 := by rw [dn_refuses, if_pos c_4_0, if_neg c_48]
      exact fr_zret C hP hD hS hd_.symm (Or.inl rfl) dR_refuses_67
    · skip
      refine lv_aload_n hx hb dR_refuses_51 rfl (lv_at hl 1 rfl) ?_
      refine gf_R_24 C hP hu dR_refuses_52 ?_
      refine lv_aload_n hx hb dR_refuses_55 rfl (lv_at hl 0 rfl) ?_
      refine gf_R_18 C hP hq dR_refuses_56 ?_
      refine lv_icmp_ne (tgt := 66) hx hb dR_refuses_59 (by decide) (fun c_59 => ?_) (fun c_59 => ?_)
      · skip
        refine lv_iconst (v := 0) hx hb dR_refuses_66 (by decide) ?_
        have hd_ : dn_refuses f q u v x = 0 := by rw [dn_refuses, if_pos c_4_0, if_pos c_48, if_neg c_59]
        exact fr_zret C hP hD hS hd_.symm (Or.inl rfl) dR_refuses_67
      · skip
        refine lv_iconst (v := 1) hx hb dR_refuses_62 (by decide) ?_
        refine lv_goto (tgt := 67) hx hb dR_refuses_63 (by decide) ?_
        have hd_ : dn_refuses f q u v x = 1 := by rw [dn_refuses, if_pos c_4_0, if_pos c_48, if_pos c_59]
        exact fr_zret C hP hD hS hd_.symm (Or.inr rfl) dR_refuses_67
  · skip
    by_cases c_4_1 : (f 4 q) = 1
    · skip
      refine lv_tableIn (tgt := 68) hx hb dR_refuses_4 (by rw [c_4_1]; decide) (by rw [c_4_1]; decide) (by rw [c_4_1] <;> rfl) (by decide) ?_
      refine lv_aload_n hx hb dR_refuses_68 rfl (lv_at hl 1 rfl) ?_
      refine gf_R_24 C hP hu dR_refuses_69 ?_
      refine lv_aload_n hx hb dR_refuses_72 rfl (lv_at hl 0 rfl) ?_
      refine gf_R_15 C hP hq dR_refuses_73 ?_
      refine lv_icmp_ne (tgt := 90) hx hb dR_refuses_76 (by decide) (fun c_76 => ?_) (fun c_76 => ?_)
      · skip
        refine lv_aload_n hx hb dR_refuses_90 rfl (lv_at hl 1 rfl) ?_
        refine gf_R_24 C hP hu dR_refuses_91 ?_
        refine lv_aload_n hx hb dR_refuses_94 rfl (lv_at hl 0 rfl) ?_
        refine gf_R_18 C hP hq dR_refuses_95 ?_
        refine lv_icmp_ne (tgt := 116) hx hb dR_refuses_98 (by decide) (fun c_98 => ?_) (fun c_98 => ?_)
        · skip
          refine lv_iconst (v := 0) hx hb dR_refuses_116 (by decide) ?_
          have hd_ : dn_refuses f q u v x = 0 := by rw [dn_refuses, if_neg c_4_0, if_pos c_4_1, if_neg c_76, if_neg c_98]
          exact fr_zret C hP hD hS hd_.symm (Or.inl rfl) dR_refuses_117
        · skip
          refine lv_aload_n hx hb dR_refuses_101 rfl (lv_at hl 2 rfl) ?_
          refine gf_R_24 C hP hv dR_refuses_102 ?_
          refine lv_aload_n hx hb dR_refuses_105 rfl (lv_at hl 0 rfl) ?_
          refine gf_R_15 C hP hq dR_refuses_106 ?_
          refine lv_icmp_ne (tgt := 116) hx hb dR_refuses_109 (by decide) (fun c_109 => ?_) (fun c_109 => ?_)
          · skip
            refine lv_iconst (v := 0) hx hb dR_refuses_116 (by decide) ?_
            have hd_ : dn_refuses f q u v x = 0 := by rw [dn_refuses, if_neg c_4_0, if_pos c_4_1, if_neg c_76, if_pos c_98, if_neg c_109]
            exact fr_zret C hP hD hS hd_.symm (Or.inl rfl) dR_refuses_117
          · skip
            refine lv_iconst (v := 1) hx hb dR_refuses_112 (by decide) ?_
            refine lv_goto (tgt := 117) hx hb dR_refuses_113 (by decide) ?_
            have hd_ : dn_refuses f q u v x = 1 := by rw [dn_refuses, if_neg c_4_0, if_pos c_4_1, if_neg c_76, if_pos c_98, if_pos c_109]
            exact fr_zret C hP hD hS hd_.symm (Or.inr rfl) dR_refuses_117
      · skip
        refine lv_aload_n hx hb dR_refuses_79 rfl (lv_at hl 2 rfl) ?_
        refine gf_R_24 C hP hv dR_refuses_80 ?_
        refine lv_aload_n hx hb dR_refuses_83 rfl (lv_at hl 0 rfl) ?_
        refine gf_R_18 C hP hq dR_refuses_84 ?_
        refine lv_icmp_eq (tgt := 112) hx hb dR_refuses_87 (by decide) (fun c_87 => ?_) (fun c_87 => ?_)
        · skip
          refine lv_iconst (v := 1) hx hb dR_refuses_112 (by decide) ?_
          refine lv_goto (tgt := 117) hx hb dR_refuses_113 (by decide) ?_
          have hd_ : dn_refuses f q u v x = 1 := by rw [dn_refuses, if_neg c_4_0, if_pos c_4_1, if_pos c_76, if_pos c_87]
          exact fr_zret C hP hD hS hd_.symm (Or.inr rfl) dR_refuses_117
        · skip
          refine lv_aload_n hx hb dR_refuses_90 rfl (lv_at hl 1 rfl) ?_
          refine gf_R_24 C hP hu dR_refuses_91 ?_
          refine lv_aload_n hx hb dR_refuses_94 rfl (lv_at hl 0 rfl) ?_
          refine gf_R_18 C hP hq dR_refuses_95 ?_
          refine lv_icmp_ne (tgt := 116) hx hb dR_refuses_98 (by decide) (fun c_98 => ?_) (fun c_98 => ?_)
          · skip
            refine lv_iconst (v := 0) hx hb dR_refuses_116 (by decide) ?_
            have hd_ : dn_refuses f q u v x = 0 := by rw [dn_refuses, if_neg c_4_0, if_pos c_4_1, if_pos c_76, if_neg c_87, if_neg c_98]
            exact fr_zret C hP hD hS hd_.symm (Or.inl rfl) dR_refuses_117
          · skip
            refine lv_aload_n hx hb dR_refuses_101 rfl (lv_at hl 2 rfl) ?_
            refine gf_R_24 C hP hv dR_refuses_102 ?_
            refine lv_aload_n hx hb dR_refuses_105 rfl (lv_at hl 0 rfl) ?_
            refine gf_R_15 C hP hq dR_refuses_106 ?_
            refine lv_icmp_ne (tgt := 116) hx hb dR_refuses_109 (by decide) (fun c_109 => ?_) (fun c_109 => ?_)
            · skip
              refine lv_iconst (v := 0) hx hb dR_refuses_116 (by decide) ?_
              have hd_ : dn_refuses f q u v x = 0 := by rw [dn_refuses, if_neg c_4_0, if_pos c_4_1, if_pos c_76, if_neg c_87, if_pos c_98, if_neg c_109]
              exact fr_zret C hP hD hS hd_.symm (Or.inl rfl) dR_refuses_117
            · skip
              refine lv_iconst (v := 1) hx hb dR_refuses_112 (by decide) ?_
              refine lv_goto (tgt := 117) hx hb dR_refuses_113 (by decide) ?_
              have hd_ : dn_refuses f q u v x = 1 := by rw [dn_refuses, if_neg c_4_0, if_pos c_4_1, if_pos c_76, if_neg c_87, if_pos c_98, if_pos c_109]
              exact fr_zret C hP hD hS hd_.symm (Or.inr rfl) dR_refuses_117
    · skip
      by_cases c_4_2 : (f 4 q) = 2
      · skip
        refine lv_tableIn (tgt := 118) hx hb dR_refuses_4 (by rw [c_4_2]; decide) (by rw [c_4_2]; decide) (by rw [c_4_2] <;> rfl) (by decide) ?_
        refine lv_aload_n hx hb dR_refuses_118 rfl (lv_at hl 1 rfl) ?_
        refine gf_R_24 C hP hu dR_refuses_119 ?_
        refine lv_aload_n hx hb dR_refuses_122 rfl (lv_at hl 0 rfl) ?_
        refine gf_R_15 C hP hq dR_refuses_123 ?_
        refine lv_icmp_ne (tgt := 147) hx hb dR_refuses_126 (by decide) (fun c_126 => ?_) (fun c_126 => ?_)
        · skip
          refine lv_iconst (v := 0) hx hb dR_refuses_147 (by decide) ?_
          have hd_ : dn_refuses f q u v x = 0 := by rw [dn_refuses, if_neg c_4_0, if_neg c_4_1, if_pos c_4_2, if_neg c_126]
          exact fr_zret C hP hD hS hd_.symm (Or.inl rfl) dR_refuses_148
        · skip
          refine lv_aload_n hx hb dR_refuses_129 rfl (lv_at hl 2 rfl) ?_
          refine gf_R_29 C hP hv dR_refuses_130 ?_
          refine lv_bipush (v := 10) hx hb dR_refuses_133 (by decide) ?_
          refine lv_aload_n hx hb dR_refuses_135 rfl (lv_at hl 0 rfl) ?_
          refine gf_R_18 C hP hq dR_refuses_136 ?_
          refine lv_imul hx hb dR_refuses_139 ?_
          refine lv_icmp_le (tgt := 147) hx hb dR_refuses_140 (by decide) (fun c_140 => ?_) (fun c_140 => ?_)
          · skip
            refine lv_iconst (v := 0) hx hb dR_refuses_147 (by decide) ?_
            have hd_ : dn_refuses f q u v x = 0 := by rw [dn_refuses, if_neg c_4_0, if_neg c_4_1, if_pos c_4_2, if_pos c_126, if_pos c_140]
            exact fr_zret C hP hD hS hd_.symm (Or.inl rfl) dR_refuses_148
          · skip
            refine lv_iconst (v := 1) hx hb dR_refuses_143 (by decide) ?_
            refine lv_goto (tgt := 148) hx hb dR_refuses_144 (by decide) ?_
            have hd_ : dn_refuses f q u v x = 1 := by rw [dn_refuses, if_neg c_4_0, if_neg c_4_1, if_pos c_4_2, if_pos c_126, if_neg c_140]
            exact fr_zret C hP hD hS hd_.symm (Or.inr rfl) dR_refuses_148
      · skip
        by_cases c_4_3 : (f 4 q) = 3
        · skip
          refine lv_tableIn (tgt := 149) hx hb dR_refuses_4 (by rw [c_4_3]; decide) (by rw [c_4_3]; decide) (by rw [c_4_3] <;> rfl) (by decide) ?_
          refine lv_aload_n hx hb dR_refuses_149 rfl (lv_at hl 2 rfl) ?_
          refine gf_R_24 C hP hv dR_refuses_150 ?_
          refine lv_aload_n hx hb dR_refuses_153 rfl (lv_at hl 0 rfl) ?_
          refine gf_R_15 C hP hq dR_refuses_154 ?_
          refine lv_icmp_ne (tgt := 172) hx hb dR_refuses_157 (by decide) (fun c_157 => ?_) (fun c_157 => ?_)
          · skip
            refine lv_iconst (v := 0) hx hb dR_refuses_172 (by decide) ?_
            have hd_ : dn_refuses f q u v x = 0 := by rw [dn_refuses, if_neg c_4_0, if_neg c_4_1, if_neg c_4_2, if_pos c_4_3, if_neg c_157]
            exact fr_zret C hP hD hS hd_.symm (Or.inl rfl) dR_refuses_173
          · skip
            refine lv_iload_n hx hb dR_refuses_160 rfl (lv_at hl 3 rfl) ?_
            refine lv_aload_n hx hb dR_refuses_161 rfl (lv_at hl 0 rfl) ?_
            refine gf_R_18 C hP hq dR_refuses_162 ?_
            refine lv_icmp_lt (tgt := 172) hx hb dR_refuses_165 (by decide) (fun c_165 => ?_) (fun c_165 => ?_)
            · skip
              refine lv_iconst (v := 0) hx hb dR_refuses_172 (by decide) ?_
              have hd_ : dn_refuses f q u v x = 0 := by rw [dn_refuses, if_neg c_4_0, if_neg c_4_1, if_neg c_4_2, if_pos c_4_3, if_pos c_157, if_pos c_165]
              exact fr_zret C hP hD hS hd_.symm (Or.inl rfl) dR_refuses_173
            · skip
              refine lv_iconst (v := 1) hx hb dR_refuses_168 (by decide) ?_
              refine lv_goto (tgt := 173) hx hb dR_refuses_169 (by decide) ?_
              have hd_ : dn_refuses f q u v x = 1 := by rw [dn_refuses, if_neg c_4_0, if_neg c_4_1, if_neg c_4_2, if_pos c_4_3, if_pos c_157, if_neg c_165]
              exact fr_zret C hP hD hS hd_.symm (Or.inr rfl) dR_refuses_173
        · skip
          by_cases c_4_4 : (f 4 q) = 4
          · skip
            refine lv_tableIn (tgt := 174) hx hb dR_refuses_4 (by rw [c_4_4]; decide) (by rw [c_4_4]; decide) (by rw [c_4_4] <;> rfl) (by decide) ?_
            refine lv_iload_n hx hb dR_refuses_174 rfl (lv_at hl 3 rfl) ?_
            refine lv_aload_n hx hb dR_refuses_175 rfl (lv_at hl 0 rfl) ?_
            refine gf_R_15 C hP hq dR_refuses_176 ?_
            refine lv_icmp_ne (tgt := 197) hx hb dR_refuses_179 (by decide) (fun c_179 => ?_) (fun c_179 => ?_)
            · skip
              refine lv_iconst (v := 0) hx hb dR_refuses_197 (by decide) ?_
              have hd_ : dn_refuses f q u v x = 0 := by rw [dn_refuses, if_neg c_4_0, if_neg c_4_1, if_neg c_4_2, if_neg c_4_3, if_pos c_4_4, if_neg c_179]
              exact fr_zret C hP hD hS hd_.symm (Or.inl rfl) dR_refuses_198
            · skip
              refine lv_aload_n hx hb dR_refuses_182 rfl (lv_at hl 1 rfl) ?_
              refine lv_aload_n hx hb dR_refuses_183 rfl (lv_at hl 0 rfl) ?_
              refine gf_R_18 C hP hq dR_refuses_184 ?_
              refine cl_R_32 C hP hD hS hl.1 ⟨Nat.le_of_ble_eq_true rfl, Nat.le_of_ble_eq_true rfl⟩ (Nat.le_of_ble_eq_true rfl) ⟨Nat.le_of_ble_eq_true rfl, Nat.le_of_ble_eq_true rfl⟩ hu dR_refuses_187 (fun H locs hP hD hS => ?_)
              refine lv_if_ne (tgt := 197) hx hb dR_refuses_190 (by decide) (fun c_190 => ?_) (fun c_190 => ?_)
              · skip
                refine lv_iconst (v := 0) hx hb dR_refuses_197 (by decide) ?_
                have hd_ : dn_refuses f q u v x = 0 := by rw [dn_refuses, if_neg c_4_0, if_neg c_4_1, if_neg c_4_2, if_neg c_4_3, if_pos c_4_4, if_pos c_179, if_neg c_190]
                exact fr_zret C hP hD hS hd_.symm (Or.inl rfl) dR_refuses_198
              · skip
                refine lv_iconst (v := 1) hx hb dR_refuses_193 (by decide) ?_
                refine lv_goto (tgt := 198) hx hb dR_refuses_194 (by decide) ?_
                have hd_ : dn_refuses f q u v x = 1 := by rw [dn_refuses, if_neg c_4_0, if_neg c_4_1, if_neg c_4_2, if_neg c_4_3, if_pos c_4_4, if_pos c_179, if_pos c_190]
                exact fr_zret C hP hD hS hd_.symm (Or.inr rfl) dR_refuses_198
          · skip
            refine lv_tableOut (tgt := 199) hx hb dR_refuses_4 (by have h0 := fr_ne (k := 0) (a := 0) rfl c_4_0; have h1 := fr_ne (k := 1) (a := 1) rfl c_4_1; have h2 := fr_ne (k := 2) (a := 2) rfl c_4_2; have h3 := fr_ne (k := 3) (a := 3) rfl c_4_3; have h4 := fr_ne (k := 4) (a := 4) rfl c_4_4; omega) (by decide) ?_
            refine lv_aload_n hx hb dR_refuses_199 rfl (lv_at hl 0 rfl) ?_
            refine gf_R_18 C hP hq dR_refuses_200 ?_
            refine lv_iconst (v := 1) hx hb dR_refuses_203 (by decide) ?_
            refine lv_icmp_eq (tgt := 217) hx hb dR_refuses_204 (by decide) (fun c_204 => ?_) (fun c_204 => ?_)
            · skip
              refine lv_iconst (v := 1) hx hb dR_refuses_217 (by decide) ?_
              refine lv_goto (tgt := 222) hx hb dR_refuses_218 (by decide) ?_
              have hd_ : dn_refuses f q u v x = 1 := by rw [dn_refuses, if_neg c_4_0, if_neg c_4_1, if_neg c_4_2, if_neg c_4_3, if_neg c_4_4, if_pos c_204]
              exact fr_zret C hP hD hS hd_.symm (Or.inr rfl) dR_refuses_222
            · skip
              refine lv_aload_n hx hb dR_refuses_207 rfl (lv_at hl 0 rfl) ?_
              refine lv_aload_n hx hb dR_refuses_208 rfl (lv_at hl 1 rfl) ?_
              refine lv_aload_n hx hb dR_refuses_209 rfl (lv_at hl 2 rfl) ?_
              refine lv_iload_n hx hb dR_refuses_210 rfl (lv_at hl 3 rfl) ?_
              refine cl_R_36 C hP hD hS hl.1 ⟨Nat.le_of_ble_eq_true rfl, Nat.le_of_ble_eq_true rfl⟩ (Nat.le_of_ble_eq_true rfl) ⟨Nat.le_of_ble_eq_true rfl, Nat.le_of_ble_eq_true rfl⟩ hq hu hv dR_refuses_211 (fun H locs hP hD hS => ?_)
              refine lv_if_eq (tgt := 221) hx hb dR_refuses_214 (by decide) (fun c_214 => ?_) (fun c_214 => ?_)
              · skip
                refine lv_iconst (v := 0) hx hb dR_refuses_221 (by decide) ?_
                have hd_ : dn_refuses f q u v x = 0 := by rw [dn_refuses, if_neg c_4_0, if_neg c_4_1, if_neg c_4_2, if_neg c_4_3, if_neg c_4_4, if_neg c_204, if_pos c_214]
                exact fr_zret C hP hD hS hd_.symm (Or.inl rfl) dR_refuses_222
              · skip
                refine lv_iconst (v := 1) hx hb dR_refuses_217 (by decide) ?_
                refine lv_goto (tgt := 222) hx hb dR_refuses_218 (by decide) ?_
                have hd_ : dn_refuses f q u v x = 1 := by rw [dn_refuses, if_neg c_4_0, if_neg c_4_1, if_neg c_4_2, if_neg c_4_3, if_neg c_4_4, if_neg c_204, if_neg c_214]
                exact fr_zret C hP hD hS hd_.symm (Or.inr rfl) dR_refuses_222
theorem bz_refuses {f : Nat → Nat → Int32} {q : Nat} {u : Nat} {v : Nat} {x : Int32} : dn_refuses f q u v x = 0 ∨ dn_refuses f q u v x = 1 := by
  unfold dn_refuses
  repeat' split
  all_goals first | exact Or.inl rfl | exact Or.inr rfl | exact bz_has

def dn_count (f : Nat → Nat → Int32) (x : Int32) : Int32 := if x = 0 then (f 0 0) else (if x = 1 then (f 0 1) else (if x = 2 then (f 0 5) else (if x = 3 then (f 0 3) else (if x = 4 then (f 0 4) else (-1)))))
set_option maxHeartbeats 4000000 in
set_option maxRecDepth 100000 in
theorem c_count (l : Launch) (D : va_G) (ka : Nat → ClassId) (al : Nat → Nat) (Z : va_W) (f : Nat → Nat → Int32) (x : Int32) : fr_Mi l y_count (.code y_count prog_1_method_15_code 2 (some .int) :: fr_tbl) { frames := 0, cells := 0, slots := 0, locals := 0 } D vwCl (fr_ty ka) fr_nw [.ref (al 0), .int x] (fr_cw ka al f Z) (dn_count f x) (fr_cw ka al f Z) 0 0 := by
  refine fr_Mi.of (by decide) (Nat.le_of_ble_eq_true rfl) ?_
  intro p e s m below meth c A H locs ls C hP hD hS hl
  obtain ⟨hx, hb, hml, hown, ht, hK, hlocks, hr, hA, hN, hZ, hEx⟩ := id C
  have hl : lv_has ls 2 [(0, .ref (al 0)), (1, .int x)] := hl
  refine lv_iload_n hx hb dF_count_0 rfl (lv_at hl 1 rfl) ?_
  by_cases c_1_0 : x = 0
  · skip
    refine lv_tableIn (tgt := 36) hx hb dF_count_1 (by rw [c_1_0]; decide) (by rw [c_1_0]; decide) (by rw [c_1_0] <;> rfl) (by decide) ?_
    refine lv_aload_n hx hb dF_count_36 rfl (lv_at hl 0 rfl) ?_
    refine gf_F_15 C hP dF_count_37 ?_
    have hd_ : dn_count f x = f 0 0 := by rw [dn_count, if_pos c_1_0]
    exact fr_iret C hP hD hS hd_.symm dF_count_40
  · skip
    by_cases c_1_1 : x = 1
    · skip
      refine lv_tableIn (tgt := 41) hx hb dF_count_1 (by rw [c_1_1]; decide) (by rw [c_1_1]; decide) (by rw [c_1_1] <;> rfl) (by decide) ?_
      refine lv_aload_n hx hb dF_count_41 rfl (lv_at hl 0 rfl) ?_
      refine gf_F_25 C hP dF_count_42 ?_
      have hd_ : dn_count f x = f 0 1 := by rw [dn_count, if_neg c_1_0, if_pos c_1_1]
      exact fr_iret C hP hD hS hd_.symm dF_count_45
    · skip
      by_cases c_1_2 : x = 2
      · skip
        refine lv_tableIn (tgt := 46) hx hb dF_count_1 (by rw [c_1_2]; decide) (by rw [c_1_2]; decide) (by rw [c_1_2] <;> rfl) (by decide) ?_
        refine lv_aload_n hx hb dF_count_46 rfl (lv_at hl 0 rfl) ?_
        refine gf_F_41 C hP dF_count_47 ?_
        refine gf_F_98 C hP dF_count_50 ?_
        have hd_ : dn_count f x = f 0 5 := by rw [dn_count, if_neg c_1_0, if_neg c_1_1, if_pos c_1_2]
        exact fr_iret C hP hD hS hd_.symm dF_count_53
      · skip
        by_cases c_1_3 : x = 3
        · skip
          refine lv_tableIn (tgt := 54) hx hb dF_count_1 (by rw [c_1_3]; decide) (by rw [c_1_3]; decide) (by rw [c_1_3] <;> rfl) (by decide) ?_
          refine lv_aload_n hx hb dF_count_54 rfl (lv_at hl 0 rfl) ?_
          refine gf_F_45 C hP dF_count_55 ?_
          have hd_ : dn_count f x = f 0 3 := by rw [dn_count, if_neg c_1_0, if_neg c_1_1, if_neg c_1_2, if_pos c_1_3]
          exact fr_iret C hP hD hS hd_.symm dF_count_58
        · skip
          by_cases c_1_4 : x = 4
          · skip
            refine lv_tableIn (tgt := 59) hx hb dF_count_1 (by rw [c_1_4]; decide) (by rw [c_1_4]; decide) (by rw [c_1_4] <;> rfl) (by decide) ?_
            refine lv_aload_n hx hb dF_count_59 rfl (lv_at hl 0 rfl) ?_
            refine gf_F_48 C hP dF_count_60 ?_
            have hd_ : dn_count f x = f 0 4 := by rw [dn_count, if_neg c_1_0, if_neg c_1_1, if_neg c_1_2, if_neg c_1_3, if_pos c_1_4]
            exact fr_iret C hP hD hS hd_.symm dF_count_63
          · skip
            refine lv_tableOut (tgt := 64) hx hb dF_count_1 (by have h0 := fr_ne (k := 0) (a := 0) rfl c_1_0; have h1 := fr_ne (k := 1) (a := 1) rfl c_1_1; have h2 := fr_ne (k := 2) (a := 2) rfl c_1_2; have h3 := fr_ne (k := 3) (a := 3) rfl c_1_3; have h4 := fr_ne (k := 4) (a := 4) rfl c_1_4; omega) (by decide) ?_
            refine lv_iconst (v := (-1)) hx hb dF_count_64 (by decide) ?_
            have hd_ : dn_count f x = (-1) := by rw [dn_count, if_neg c_1_0, if_neg c_1_1, if_neg c_1_2, if_neg c_1_3, if_neg c_1_4]
            exact fr_iret C hP hD hS hd_.symm dF_count_65

def dn_asked (f : Nat → Nat → Int32) (x : Int32) : Int32 := if x < 0 then (-1) else (if (f 0 2) ≤ x then (-1) else (f 9 x.toNatClampNeg))
set_option maxHeartbeats 4000000 in
set_option maxRecDepth 100000 in
theorem c_asked (l : Launch) (D : va_G) (ka : Nat → ClassId) (al : Nat → Nat) (Z : va_W) (f : Nat → Nat → Int32) (x : Int32) (gA : 0 ≤ (f 0 2).toInt ∧ (f 0 2).toInt ≤ 12) : fr_Mi l y_asked (.code y_asked prog_1_method_10_code 2 (some .int) :: fr_tbl) { frames := 0, cells := 0, slots := 0, locals := 0 } D vwCl (fr_ty ka) fr_nw [.ref (al 0), .int x] (fr_cw ka al f Z) (dn_asked f x) (fr_cw ka al f Z) 0 0 := by
  refine fr_Mi.of (by decide) (Nat.le_of_ble_eq_true rfl) ?_
  intro p e s m below meth c A H locs ls C hP hD hS hl
  obtain ⟨hx, hb, hml, hown, ht, hK, hlocks, hr, hA, hN, hZ, hEx⟩ := id C
  have hl : lv_has ls 2 [(0, .ref (al 0)), (1, .int x)] := hl
  refine lv_iload_n hx hb dF_asked_0 rfl (lv_at hl 1 rfl) ?_
  refine lv_if_lt (tgt := 21) hx hb dF_asked_1 (by decide) (fun c_1 => ?_) (fun c_1 => ?_)
  · skip
    refine lv_iconst (v := (-1)) hx hb dF_asked_21 (by decide) ?_
    have hd_ : dn_asked f x = (-1) := by rw [dn_asked, if_pos c_1]
    exact fr_iret C hP hD hS hd_.symm dF_asked_22
  · skip
    refine lv_iload_n hx hb dF_asked_4 rfl (lv_at hl 1 rfl) ?_
    refine lv_aload_n hx hb dF_asked_5 rfl (lv_at hl 0 rfl) ?_
    refine gf_F_35 C hP dF_asked_6 ?_
    refine lv_icmp_ge (tgt := 21) hx hb dF_asked_9 (by decide) (fun c_9 => ?_) (fun c_9 => ?_)
    · skip
      refine lv_iconst (v := (-1)) hx hb dF_asked_21 (by decide) ?_
      have hd_ : dn_asked f x = (-1) := by rw [dn_asked, if_neg c_1, if_pos c_9]
      exact fr_iret C hP hD hS hd_.symm dF_asked_22
    · skip
      refine lv_aload_n hx hb dF_asked_12 rfl (lv_at hl 0 rfl) ?_
      refine gf_F_32 C hP dF_asked_13 ?_
      refine lv_iload_n hx hb dF_asked_16 rfl (lv_at hl 1 rfl) ?_
      have hin_17 : vp_in x 12 := by have q0 := fr_t2 c_1; have q1 := fr_t4 c_9; have z0 : (0 : Int32).toInt = 0 := rfl; skip; rw [vp_in_iff]; omega
      refine ald_9 C hP hin_17 dF_asked_17 ?_
      refine lv_goto (tgt := 22) hx hb dF_asked_18 (by decide) ?_
      have hd_ : dn_asked f x = f 9 x.toNatClampNeg := by rw [dn_asked, if_neg c_1, if_neg c_9]
      exact fr_iret C hP hD hS hd_.symm dF_asked_22

def dn_placeIn_2 : Nat → (Nat → Nat → Int32) → (Int32) → (Int32) → Int32
  | 0, _, _, _ => 0
  | n + 1, f, x, x2 => if ((f 0 1) - 1) ≤ x2 then x2 else (if (f 8 x2.toNatClampNeg) = x then x2 else (dn_placeIn_2 n f x (x2 + 1)))
set_option maxHeartbeats 4000000 in
set_option maxRecDepth 100000 in
theorem k_placeIn_2 {p : Program} {l : Launch} {e : Env} {s : State} {m : MethodId} {below : List Frame} {meth : Method} {c : Code} {D : va_G} {A : Nat → Prop} {ka : Nat → ClassId} {al : Nat → Nat} {Z : va_W} {f : Nat → Nat → Int32} {x : Int32} (C : fr_Cx p s m ([.ref (al 0), .int x] : List Value).toArray meth c "FragileRules" prog_1_method_23_code 3 (some .int) [] fr_tbl fr_nw D vwCl (fr_ty ka) A) (gR : 1 ≤ (f 0 1).toInt ∧ (f 0 1).toInt ≤ 12) :
    ∀ (n : Nat) (x2 : Int32) (H : Heap) (locs : List Loc) (ls : Array Slot), 0 ≤ x2.toInt ∧ x2.toInt ≤ (f 0 1 - 1).toInt ∧ (f 0 1 - 1).toInt < x2.toInt + n → va_P D vwCl (fr_cw ka al f Z) H → va_D A (fr_cw ka al f Z) → va_S A s.heap H locs → lv_has ls 3 [(0, .ref (al 0)), (1, .int x), (2, .int x2)] → W p l e { frames := 0, cells := 0, slots := 0, locals := 0 } s m ([.ref (al 0), .int x] : List Value).toArray below meth c H locs 0 0 (MQ below (fr_Qi D vwCl (fr_ty ka) (dn_placeIn_2 n f x x2) (fr_cw ka al f Z) A) ([.ref (al 0), .int x] : List Value).toArray s 0 0 A) (F0 m 2 ls []) := by
  obtain ⟨hx, hb, hml, hown, ht, hK, hlocks, hr, hA, hN, hZ, hEx⟩ := id C
  intro n
  induction n with
  | zero =>
    intro x2 H locs ls hm hP hD hS hl
    exact absurd hm (by omega)
  | succ n ih =>
    intro x2 H locs ls hm hP hD hS hl
    refine lv_iload_n hx hb dF_placeInOrder_2 rfl (lv_at hl 2 rfl) ?_
    refine lv_aload_n hx hb dF_placeInOrder_3 rfl (lv_at hl 0 rfl) ?_
    refine gf_F_25 C hP dF_placeInOrder_4 ?_
    refine lv_iconst (v := 1) hx hb dF_placeInOrder_7 (by decide) ?_
    refine lv_isub hx hb dF_placeInOrder_8 ?_
    refine lv_icmp_ge (tgt := 28) hx hb dF_placeInOrder_9 (by decide) (fun c_9 => ?_) (fun c_9 => ?_)
    · skip
      refine lv_iload_n hx hb dF_placeInOrder_28 rfl (lv_at hl 2 rfl) ?_
      have hd_ : dn_placeIn_2 (n + 1) f x x2 = x2 := by rw [dn_placeIn_2, if_pos c_9]
      exact fr_iret C hP hD hS hd_.symm dF_placeInOrder_29
    · skip
      refine lv_aload_n hx hb dF_placeInOrder_12 rfl (lv_at hl 0 rfl) ?_
      refine gf_F_28 C hP dF_placeInOrder_13 ?_
      refine lv_iload_n hx hb dF_placeInOrder_16 rfl (lv_at hl 2 rfl) ?_
      have hin_17 : vp_in x2 12 := by have q0 := fr_t4 c_9; have e0 := hm; have e1 := fr_sub1 gR.1; skip; rw [vp_in_iff]; omega
      refine ald_8 C hP hin_17 dF_placeInOrder_17 ?_
      refine lv_iload_n hx hb dF_placeInOrder_18 rfl (lv_at hl 1 rfl) ?_
      refine lv_icmp_eq (tgt := 28) hx hb dF_placeInOrder_19 (by decide) (fun c_19 => ?_) (fun c_19 => ?_)
      · skip
        refine lv_iload_n hx hb dF_placeInOrder_28 rfl (lv_at hl 2 rfl) ?_
        have hd_ : dn_placeIn_2 (n + 1) f x x2 = x2 := by rw [dn_placeIn_2, if_neg c_9, if_pos c_19]
        exact fr_iret C hP hD hS hd_.symm dF_placeInOrder_29
      · skip
        refine lv_iinc (v := x2 + 1) (lv' := [(2, .int (x2 + 1)), (0, .ref (al 0)), (1, .int x)]) hx hb dF_placeInOrder_22 hl (k := 2) rfl rfl (by decide) rfl (fun ls hl => ?_)
        refine lv_goto (tgt := 2) hx hb dF_placeInOrder_25 (by decide) ?_
        have hd_ : dn_placeIn_2 (n + 1) f x x2 = dn_placeIn_2 n f x (x2 + 1) := by rw [dn_placeIn_2, if_neg c_9, if_neg c_19]
        rw [hd_]
        exact ih (x2 + 1) H locs ls (fr_step rfl c_9 hm) hP hD hS (lv_sub hl [1, 2, 0] rfl)
def dn_placeIn (f : Nat → Nat → Int32) (x : Int32) : Int32 := dn_placeIn_2 12 f x 0
set_option maxHeartbeats 4000000 in
set_option maxRecDepth 100000 in
theorem c_placeIn (l : Launch) (D : va_G) (ka : Nat → ClassId) (al : Nat → Nat) (Z : va_W) (f : Nat → Nat → Int32) (x : Int32) (gR : 1 ≤ (f 0 1).toInt ∧ (f 0 1).toInt ≤ 12) : fr_Mi l y_placeIn (.code y_placeIn prog_1_method_23_code 3 (some .int) :: fr_tbl) { frames := 0, cells := 0, slots := 0, locals := 0 } D vwCl (fr_ty ka) fr_nw [.ref (al 0), .int x] (fr_cw ka al f Z) (dn_placeIn f x) (fr_cw ka al f Z) 0 0 := by
  refine fr_Mi.of (by decide) (Nat.le_of_ble_eq_true rfl) ?_
  intro p e s m below meth c A H locs ls C hP hD hS hl
  obtain ⟨hx, hb, hml, hown, ht, hK, hlocks, hr, hA, hN, hZ, hEx⟩ := id C
  have hl : lv_has ls 3 [(0, .ref (al 0)), (1, .int x)] := hl
  refine lv_iconst (v := 0) hx hb dF_placeInOrder_0 (by decide) ?_
  refine lv_istore_n (lv' := [(2, .int 0), (0, .ref (al 0)), (1, .int x)]) hx hb dF_placeInOrder_1 rfl hl (by decide) rfl (fun ls hl => ?_)
  have hd_ : dn_placeIn f x = dn_placeIn_2 12 f x 0 := by rw [dn_placeIn]
  rw [hd_]
  exact k_placeIn_2 C gR 12 0 H locs ls (by have h := fr_sub1 gR.1; have z : (0 : Int32).toInt = 0 := rfl; omega) hP hD hS (lv_sub hl [1, 2, 0] rfl)
theorem fr_pl2 {f : Nat → Nat → Int32} {x : Int32} : ∀ (n : Nat) (x2 : Int32), (0 ≤ x2.toInt ∧ x2.toInt ≤ (f 0 1 - 1).toInt ∧ (f 0 1 - 1).toInt < x2.toInt + n) → 0 ≤ (dn_placeIn_2 n f x x2).toInt ∧ (dn_placeIn_2 n f x x2).toInt ≤ (f 0 1 - 1).toInt := by
  intro n
  induction n with
  | zero => intro x2 hm; exact absurd hm (by omega)
  | succ n ih =>
    intro x2 hm
    rw [dn_placeIn_2]
    split
    · omega
    · rename_i c1
      split
      · omega
      · exact ih _ (fr_step rfl c1 hm)
theorem fr_pl {f : Nat → Nat → Int32} {x : Int32} (gR : 1 ≤ (f 0 1).toInt ∧ (f 0 1).toInt ≤ 12) : 0 ≤ (dn_placeIn f x).toInt ∧ (dn_placeIn f x).toInt < (f 0 1).toInt := by
  have h := fr_sub1 gR.1
  have h2 := fr_pl2 (f := f) (x := x) 12 0 (by have z : (0 : Int32).toInt = 0 := rfl; omega)
  have e : dn_placeIn f x = dn_placeIn_2 12 f x 0 := by rw [dn_placeIn]
  rw [e]
  omega
theorem fr_sub {a b : Int32} (h : b.toInt ≤ a.toInt) (h0 : 0 ≤ b.toInt) : (a - b).toInt = a.toInt - b.toInt := by
  have h1 := a.toInt_lt
  rw [Int32.toInt_sub, Int.bmod_def]
  split <;> omega
theorem fr_or {f : Nat → Nat → Int32} {x y : Int32} (gR : 0 ≤ (f 0 1).toInt ∧ (f 0 1).toInt ≤ 12) (h : ¬ dn_isRuleNumber f x = 0) (hy : ¬ dn_within y (f 0 1 - 1) = 0) : (0 ≤ (dn_placeIn f x).toInt ∧ (dn_placeIn f x).toInt < (f 0 1).toInt ∧ (f 0 1).toInt ≤ 12) ∧ 0 ≤ y.toInt ∧ y.toInt < (f 0 1).toInt := by
  have g1 := fr_or1 gR h
  have h1 := fr_pl (x := x) g1
  have h2 := fr_wi hy
  have h3 := fr_sub1 g1.1
  omega
theorem fr_or2 {f : Nat → Nat → Int32} {x y : Int32} (gR : 0 ≤ (f 0 1).toInt ∧ (f 0 1).toInt ≤ 12) (h : ¬ dn_isRuleNumber f x = 0) (hy : ¬ dn_within y (f 0 1 - 1) = 0) (c : ¬ y ≤ dn_placeIn f x) : 0 ≤ (dn_placeIn f x + 1).toInt ∧ 0 ≤ (dn_placeIn f x).toInt ∧ 0 ≤ (y - dn_placeIn f x).toInt ∧ (dn_placeIn f x + 1).toInt + (y - dn_placeIn f x).toInt ≤ 12 ∧ (dn_placeIn f x).toInt + (y - dn_placeIn f x).toInt ≤ 12 := by
  have h1 := fr_or gR h hy
  have h2 := fr_t4 c
  have h3 := fr_add1 (x := dn_placeIn f x) h1.1.1 (by omega)
  have h4 := fr_sub (a := y) (b := dn_placeIn f x) (by omega) h1.1.1
  omega
theorem fr_or3 {f : Nat → Nat → Int32} {x y : Int32} (gR : 0 ≤ (f 0 1).toInt ∧ (f 0 1).toInt ≤ 12) (h : ¬ dn_isRuleNumber f x = 0) (hy : ¬ dn_within y (f 0 1 - 1) = 0) (c : y ≤ dn_placeIn f x) : 0 ≤ y.toInt ∧ 0 ≤ (y + 1).toInt ∧ 0 ≤ (dn_placeIn f x - y).toInt ∧ y.toInt + (dn_placeIn f x - y).toInt ≤ 12 ∧ (y + 1).toInt + (dn_placeIn f x - y).toInt ≤ 12 := by
  have h1 := fr_or gR h hy
  have h2 := fr_t3 c
  have h3 := fr_add1 (x := y) h1.2.1 (by omega)
  have h4 := fr_sub (a := dn_placeIn f x) (b := y) (by omega) h1.2.1
  omega

def dn_addRule (f : Nat → Nat → Int32) (x : Int32) (y : Int32) (k : Int32) : Int32 × (Nat → Nat → Int32) := ((f 0 1) + 1, fr_up (fr_up (fr_up (fr_up (fr_up f 4 ((f 0 1).toNatClampNeg) x) 5 ((f 0 1).toNatClampNeg) y) 6 ((f 0 1).toNatClampNeg) k) 8 ((f 0 1).toNatClampNeg) ((f 0 1) + 1)) 0 1 ((f 0 1) + 1))
set_option maxHeartbeats 4000000 in
set_option maxRecDepth 100000 in
theorem c_addRule (l : Launch) (D : va_G) (ka : Nat → ClassId) (al : Nat → Nat) (Z : va_W) (f : Nat → Nat → Int32) (x : Int32) (y : Int32) (k : Int32) (gR : 0 ≤ (f 0 1).toInt ∧ (f 0 1).toInt < 12) : fr_Mi l y_addRule (.code y_addRule prog_1_method_21_code 5 (some .int) :: fr_tbl) { frames := 0, cells := 0, slots := 0, locals := 0 } D vwCl (fr_ty ka) fr_nw [.ref (al 0), .int x, .int y, .int k] (fr_cw ka al f Z) ((dn_addRule f x y k).1) (fr_cw ka al ((dn_addRule f x y k).2) Z) 0 0 := by
  refine fr_Mi.of (by decide) (Nat.le_of_ble_eq_true rfl) ?_
  intro p e s m below meth c A H locs ls C hP hD hS hl
  obtain ⟨hx, hb, hml, hown, ht, hK, hlocks, hr, hA, hN, hZ, hEx⟩ := id C
  have hl : lv_has ls 5 [(0, .ref (al 0)), (1, .int x), (2, .int y), (3, .int k)] := hl
  refine lv_aload_n hx hb dF_addRule_0 rfl (lv_at hl 0 rfl) ?_
  refine gf_F_21 C hP dF_addRule_1 ?_
  refine lv_aload_n hx hb dF_addRule_4 rfl (lv_at hl 0 rfl) ?_
  refine gf_F_25 C hP dF_addRule_5 ?_
  have hin_8 : vp_in (f 0 1) 12 := by skip; rw [vp_in_iff]; omega
  refine ald_aR C hP hin_8 dF_addRule_8 ?_
  refine lv_astore (lv' := [(4, .ref (al (17 + ((f 0 1).toNatClampNeg)))), (0, .ref (al 0)), (1, .int x), (2, .int y), (3, .int k)]) hx hb dF_addRule_9 hl (by decide) rfl (fun ls hl => ?_)
  refine lv_aload hx hb dF_addRule_11 (lv_at hl 0 rfl) ?_
  refine lv_iload_n hx hb dF_addRule_13 rfl (lv_at hl 2 rfl) ?_
  refine pf_F_171 C hP hD hS (fr_lt hin_8) dF_addRule_14 (fun H locs hP hD hS => ?_)
  refine lv_aload hx hb dF_addRule_17 (lv_at hl 0 rfl) ?_
  refine lv_iload_n hx hb dF_addRule_19 rfl (lv_at hl 3 rfl) ?_
  refine pf_F_174 C hP hD hS (fr_lt hin_8) dF_addRule_20 (fun H locs hP hD hS => ?_)
  refine lv_aload hx hb dF_addRule_23 (lv_at hl 0 rfl) ?_
  refine lv_iload_n hx hb dF_addRule_25 rfl (lv_at hl 4 rfl) ?_
  refine pf_F_177 C hP hD hS (fr_lt hin_8) dF_addRule_26 (fun H locs hP hD hS => ?_)
  refine lv_aload_n hx hb dF_addRule_29 rfl (lv_at hl 1 rfl) ?_
  refine gf_F_28 C hP dF_addRule_30 ?_
  refine lv_aload_n hx hb dF_addRule_33 rfl (lv_at hl 1 rfl) ?_
  refine gf_F_25 C hP dF_addRule_34 ?_
  refine W.eq (g2 := F0 m 37 ls [.int (f 0 1), .ref (al 3)]) (by first | rfl | simp [fr_up, fr_row]) ?_
  refine lv_aload_n hx hb dF_addRule_37 rfl (lv_at hl 1 rfl) ?_
  refine gf_F_25 C hP dF_addRule_38 ?_
  refine W.eq (g2 := F0 m 41 ls [.int (f 0 1), .int (f 0 1), .ref (al 3)]) (by first | rfl | simp [fr_up, fr_row]) ?_
  refine lv_iconst (v := 1) hx hb dF_addRule_41 (by decide) ?_
  refine lv_iadd hx hb dF_addRule_42 ?_
  have hin_43 : vp_in (f 0 1) 12 := by skip; rw [vp_in_iff]; omega
  refine ast_8 C hP hD hS hin_43 dF_addRule_43 (fun H locs hP hD hS => ?_)
  refine lv_aload_n hx hb dF_addRule_44 rfl (lv_at hl 1 rfl) ?_
  refine lv_dup hx hb dF_addRule_45 rfl ?_
  refine gf_F_25 C hP dF_addRule_46 ?_
  refine W.eq (g2 := F0 m 49 ls [.int (f 0 1), .ref (al 0)]) (by first | rfl | simp [fr_up, fr_row]) ?_
  refine lv_iconst (v := 1) hx hb dF_addRule_49 (by decide) ?_
  refine lv_iadd hx hb dF_addRule_50 ?_
  refine pf_F_25 C hP hD hS dF_addRule_51 (fun H locs hP hD hS => ?_)
  refine lv_aload_n hx hb dF_addRule_54 rfl (lv_at hl 1 rfl) ?_
  refine gf_F_25 C hP dF_addRule_55 ?_
  refine W.eq (g2 := F0 m 58 ls [.int ((f 0 1) + 1)]) (by first | rfl | simp [fr_up, fr_row]) ?_
  have hd_ : dn_addRule f x y k = ((f 0 1) + 1, fr_up (fr_up (fr_up (fr_up (fr_up f 4 ((f 0 1).toNatClampNeg) x) 5 ((f 0 1).toNatClampNeg) y) 6 ((f 0 1).toNatClampNeg) k) 8 ((f 0 1).toNatClampNeg) ((f 0 1) + 1)) 0 1 ((f 0 1) + 1)) := by rw [dn_addRule]
  rw [hd_]
  exact fr_iret C hP hD hS rfl dF_addRule_58
theorem fr_al_b {g : Nat → Nat → Int32} {x y a b c : Int32} {n : Nat} (h : fr_al g x y (n + 1)) (hc : ¬ x ≤ y) : fr_al (dn_addRule g a b c).2 x (y + 1) n := by
  obtain ⟨h1, h2, h3, h4, h5, h6⟩ := h
  have q1 := fr_t4 hc
  have q0 := x.toInt_lt
  have q2 := fr_add1 (x := y) h4 (by omega)
  have q3 := fr_add1 (x := g 0 1) h2 (by omega)
  have e1 : (dn_addRule g a b c).2 0 1 = g 0 1 + 1 := rfl
  have e2 : (dn_addRule g a b c).2 0 5 = g 0 5 := rfl
  refine ⟨by rw [e2]; exact h1, by rw [e1]; omega, by rw [e1]; omega, by omega, by omega, by omega⟩

theorem cl_F_204 {p : Program} {l : Launch} {e : Env} {R : Room} {s : State} {m : MethodId} {args : Array Value} {below : List Frame} {meth : Method} {c : Code} {H : Heap} {locs : List Loc} {cells slots : Nat} {Q : State → Prop} {D : va_G} {A : Nat → Prop} {cc : ByteArray} {nL pc : Nat} {ret : Option FieldType} {hh : List ExceptionTableEntry} {ls : Array Slot} {rest : List Value} {ka : Nat → ClassId} {al : Nat → Nat} {f : Nat → Nat → Int32} {Z : va_W} {q : Nat} (C : fr_Cx p s m args meth c "FragileRules" cc nL ret hh fr_tbl fr_nw D vwCl (fr_ty ka) A) (hP : va_P D vwCl (fr_cw ka al f Z) H) (hD : va_D A (fr_cw ka al f Z)) (hS : va_S A s.heap H locs) (hsz : ls.size = nL) (hR : 0 + 1 ≤ R.frames ∧ 8 + (1 + 11) + 0 ≤ R.locals) (hw : (rest.map fun v => v.category).sum ≤ 8) (hf : cells + 0 ≤ R.cells ∧ slots + 0 ≤ R.slots) (hq : q < 12) (hdg : decode cc pc = .ok (.invokevirtual 204, 3)) (kk : ∀ (H : Heap) (locs : List Loc), va_P D vwCl (fr_cw ka al f Z) H → va_D A (fr_cw ka al f Z) → va_S A s.heap H locs → W p l e R s m args below meth c H locs (cells + 0) (slots + 0) Q (F0 m (pc + 3) ls (.int (dn_asking f q) :: rest))) : W p l e R s m args below meth c H locs cells slots Q (F0 m pc ls (.ref (al (17 + q)) :: rest)) :=
  fr_callVi (As := []) C hP hD hS (c_asking l D ka al Z f q hq) (cwV 0 C.2.2.2.2.1 (fr_goodV ml_F_204 mi_asking msel_asking mini_R mc_asking) rfl rfl rfl (by decide +kernel) hR) (va_recv C.2.2.2.2.2.1 hP (ci := 2) (q0 := (17 + q)) rfl (fr_cw_r hq)) rfl hsz hw hdg hf kk
theorem cl_F_207 {p : Program} {l : Launch} {e : Env} {R : Room} {s : State} {m : MethodId} {args : Array Value} {below : List Frame} {meth : Method} {c : Code} {H : Heap} {locs : List Loc} {cells slots : Nat} {Q : State → Prop} {D : va_G} {A : Nat → Prop} {cc : ByteArray} {nL pc : Nat} {ret : Option FieldType} {hh : List ExceptionTableEntry} {ls : Array Slot} {rest : List Value} {ka : Nat → ClassId} {al : Nat → Nat} {f : Nat → Nat → Int32} {Z : va_W} {q : Nat} {u : Nat} {v : Nat} {x : Int32} (C : fr_Cx p s m args meth c "FragileRules" cc nL ret hh fr_tbl fr_nw D vwCl (fr_ty ka) A) (hP : va_P D vwCl (fr_cw ka al f Z) H) (hD : va_D A (fr_cw ka al f Z)) (hS : va_S A s.heap H locs) (hsz : ls.size = nL) (hR : 2 + 1 ≤ R.frames ∧ 8 + (4 + 11) + 44 ≤ R.locals) (hw : (rest.map fun v => v.category).sum ≤ 8) (hf : cells + 0 ≤ R.cells ∧ slots + 0 ≤ R.slots) (hq : q < 12) (hu : u < 10) (hv : v < 10) (hdg : decode cc pc = .ok (.invokevirtual 207, 3)) (kk : ∀ (H : Heap) (locs : List Loc), va_P D vwCl (fr_cw ka al f Z) H → va_D A (fr_cw ka al f Z) → va_S A s.heap H locs → W p l e R s m args below meth c H locs (cells + 0) (slots + 0) Q (F0 m (pc + 3) ls (.int (dn_refuses f q u v x) :: rest))) : W p l e R s m args below meth c H locs cells slots Q (F0 m pc ls (.int x :: .ref (al (7 + v)) :: .ref (al (7 + u)) :: .ref (al (17 + q)) :: rest)) :=
  fr_callVi (As := [.ref (al (7 + u)), .ref (al (7 + v)), .int x]) C hP hD hS (c_refuses l D ka al Z f q u v x hq hu hv) (cwV 3 C.2.2.2.2.1 (fr_goodV ml_F_207 mi_refuses msel_refuses mini_R mc_refuses) rfl rfl rfl (by decide +kernel) hR) (va_recv C.2.2.2.2.2.1 hP (ci := 2) (q0 := (17 + q)) rfl (fr_cw_r hq)) rfl hsz hw hdg hf kk
def dn_firstRefusing_8 : Nat → (Int32) → (Nat) → (Nat) → (Int32) → (Nat → Nat → Int32) → (Int32) → Int32 × (Nat → Nat → Int32)
  | 0, _, _, _, _, _, _ => (0, fun _ _ => 0)
  | n + 1, y, u, v, x, g, x5 => if (g 0 1) ≤ x5 then (0, g) else (if (dn_asking g (((g 8 x5.toNatClampNeg) - 1).toNatClampNeg)) = y then (if (dn_refuses (fr_up (fr_up g 9 ((g 0 2).toNatClampNeg) (g 8 x5.toNatClampNeg)) 0 2 ((g 0 2) + 1)) (((g 8 x5.toNatClampNeg) - 1).toNatClampNeg) u v x) = 0 then (dn_firstRefusing_8 n y u v x (fr_up (fr_up g 9 ((g 0 2).toNatClampNeg) (g 8 x5.toNatClampNeg)) 0 2 ((g 0 2) + 1)) (x5 + 1)) else (g 8 x5.toNatClampNeg, fr_up (fr_up (fr_up g 9 ((g 0 2).toNatClampNeg) (g 8 x5.toNatClampNeg)) 0 2 ((g 0 2) + 1)) 7 (((g 8 x5.toNatClampNeg) - 1).toNatClampNeg) ((g 7 (((g 8 x5.toNatClampNeg) - 1).toNatClampNeg)) + 1))) else (dn_firstRefusing_8 n y u v x g (x5 + 1)))
set_option maxHeartbeats 4000000 in
set_option maxRecDepth 100000 in
theorem k_firstRefusing_8 {p : Program} {l : Launch} {e : Env} {s : State} {m : MethodId} {below : List Frame} {meth : Method} {c : Code} {D : va_G} {A : Nat → Prop} {ka : Nat → ClassId} {al : Nat → Nat} {Z : va_W} {f : Nat → Nat → Int32} {y : Int32} {u : Nat} {v : Nat} {x : Int32} (C : fr_Cx p s m ([.ref (al 0), .int y, .ref (al (7 + u)), .ref (al (7 + v)), .int x] : List Value).toArray meth c "FragileRules" prog_1_method_26_code 8 (some .int) [] fr_tbl fr_nw D vwCl (fr_ty ka) A) (hu : u < 10) (hv : v < 10) (gR : 0 ≤ (f 0 1).toInt ∧ (f 0 1).toInt ≤ 12) (gO : fr_ord f) :
    ∀ (n : Nat) (g : Nat → Nat → Int32) (x5 : Int32) (H : Heap) (locs : List Loc) (ls : Array Slot), fr_lp g x5 n → va_P D vwCl (fr_cw ka al g Z) H → va_D A (fr_cw ka al g Z) → va_S A s.heap H locs → lv_has ls 8 [(0, .ref (al 0)), (1, .int y), (2, .ref (al (7 + u))), (3, .ref (al (7 + v))), (4, .int x), (5, .int x5)] → W p l e { frames := 3, cells := 0, slots := 0, locals := 67 } s m ([.ref (al 0), .int y, .ref (al (7 + u)), .ref (al (7 + v)), .int x] : List Value).toArray below meth c H locs 0 0 (MQ below (fr_Qi D vwCl (fr_ty ka) (dn_firstRefusing_8 n y u v x g x5).1 (fr_cw ka al ((dn_firstRefusing_8 n y u v x g x5).2) Z) A) ([.ref (al 0), .int y, .ref (al (7 + u)), .ref (al (7 + v)), .int x] : List Value).toArray s 0 0 A) (F0 m 8 ls []) := by
  obtain ⟨hx, hb, hml, hown, ht, hK, hlocks, hr, hA, hN, hZ, hEx⟩ := id C
  intro n
  induction n with
  | zero =>
    intro g x5 H locs ls hm hP hD hS hl
    exact fr_lp_0 hm
  | succ n ih =>
    intro g x5 H locs ls hm hP hD hS hl
    refine lv_iload hx hb dF_firstRefusing_8 (lv_at hl 5 rfl) ?_
    refine lv_aload_n hx hb dF_firstRefusing_10 rfl (lv_at hl 0 rfl) ?_
    refine gf_F_25 C hP dF_firstRefusing_11 ?_
    refine lv_icmp_ge (tgt := 99) hx hb dF_firstRefusing_14 (by decide) (fun c_14 => ?_) (fun c_14 => ?_)
    · skip
      refine lv_iconst (v := 0) hx hb dF_firstRefusing_99 (by decide) ?_
      have hd_ : dn_firstRefusing_8 (n + 1) y u v x g x5 = (0, g) := by rw [dn_firstRefusing_8, if_pos c_14]
      rw [hd_]
      exact fr_iret C hP hD hS rfl dF_firstRefusing_100
    · skip
      refine lv_aload_n hx hb dF_firstRefusing_17 rfl (lv_at hl 0 rfl) ?_
      refine gf_F_28 C hP dF_firstRefusing_18 ?_
      refine lv_iload hx hb dF_firstRefusing_21 (lv_at hl 5 rfl) ?_
      have hin_23 : vp_in x5 12 := by have q0 := fr_t4 c_14; have e0 := hm.1; have e1 := hm.2.2.2.2; skip; rw [vp_in_iff]; omega
      refine ald_8 C hP hin_23 dF_firstRefusing_23 ?_
      refine lv_istore (lv' := [(6, .int (g 8 x5.toNatClampNeg)), (0, .ref (al 0)), (1, .int y), (2, .ref (al (7 + u))), (3, .ref (al (7 + v))), (4, .int x), (5, .int x5)]) hx hb dF_firstRefusing_24 hl (by decide) rfl (fun ls hl => ?_)
      refine lv_aload_n hx hb dF_firstRefusing_26 rfl (lv_at hl 1 rfl) ?_
      refine gf_F_21 C hP dF_firstRefusing_27 ?_
      refine lv_iload hx hb dF_firstRefusing_30 (lv_at hl 0 rfl) ?_
      refine lv_iconst (v := 1) hx hb dF_firstRefusing_32 (by decide) ?_
      refine lv_isub hx hb dF_firstRefusing_33 ?_
      have hin_34 : vp_in ((g 8 x5.toNatClampNeg) - 1) 12 := by have q0 := fr_t4 c_14; have e0 := fr_lp_ord hm c_14; have e1 := fr_sub1 (fr_lp_ord hm c_14).1; have e2 := hm.1; skip; rw [vp_in_iff]; omega
      refine ald_aR C hP hin_34 dF_firstRefusing_34 ?_
      refine lv_astore (lv' := [(7, .ref (al (17 + (((g 8 x5.toNatClampNeg) - 1).toNatClampNeg)))), (6, .int (g 8 x5.toNatClampNeg)), (0, .ref (al 0)), (1, .int y), (2, .ref (al (7 + u))), (3, .ref (al (7 + v))), (4, .int x), (5, .int x5)]) hx hb dF_firstRefusing_35 hl (by decide) rfl (fun ls hl => ?_)
      refine lv_aload hx hb dF_firstRefusing_37 (lv_at hl 0 rfl) ?_
      refine cl_F_204 C hP hD hS hl.1 ⟨Nat.le_of_ble_eq_true rfl, Nat.le_of_ble_eq_true rfl⟩ (Nat.le_of_ble_eq_true rfl) ⟨Nat.le_of_ble_eq_true rfl, Nat.le_of_ble_eq_true rfl⟩ (fr_lt hin_34) dF_firstRefusing_39 (fun H locs hP hD hS => ?_)
      refine lv_iload_n hx hb dF_firstRefusing_42 rfl (lv_at hl 3 rfl) ?_
      refine lv_icmp_ne (tgt := 93) hx hb dF_firstRefusing_43 (by decide) (fun c_43 => ?_) (fun c_43 => ?_)
      · skip
        refine lv_iinc (v := x5 + 1) (lv' := [(5, .int (x5 + 1)), (7, .ref (al (17 + (((g 8 x5.toNatClampNeg) - 1).toNatClampNeg)))), (6, .int (g 8 x5.toNatClampNeg)), (0, .ref (al 0)), (1, .int y), (2, .ref (al (7 + u))), (3, .ref (al (7 + v))), (4, .int x)]) hx hb dF_firstRefusing_93 hl (k := 7) rfl rfl (by decide) rfl (fun ls hl => ?_)
        refine lv_goto (tgt := 8) hx hb dF_firstRefusing_96 (by decide) ?_
        have hd_ : dn_firstRefusing_8 (n + 1) y u v x g x5 = dn_firstRefusing_8 n y u v x g (x5 + 1) := by rw [dn_firstRefusing_8, if_neg c_14, if_neg c_43]
        rw [hd_]
        exact ih g (x5 + 1) H locs ls (fr_lp_a hm c_14) hP hD hS (lv_sub hl [3, 4, 5, 6, 7, 0] rfl)
      · skip
        refine lv_aload_n hx hb dF_firstRefusing_46 rfl (lv_at hl 2 rfl) ?_
        refine gf_F_32 C hP dF_firstRefusing_47 ?_
        refine lv_aload_n hx hb dF_firstRefusing_50 rfl (lv_at hl 2 rfl) ?_
        refine gf_F_35 C hP dF_firstRefusing_51 ?_
        refine lv_iload hx hb dF_firstRefusing_54 (lv_at hl 1 rfl) ?_
        have hin_56 : vp_in (g 0 2) 12 := by have q0 := fr_t4 c_14; have q1 := fr_t5 c_43; have e0 := hm.1; have e1 := hm.2.2; skip; rw [vp_in_iff]; omega
        refine ast_9 C hP hD hS hin_56 dF_firstRefusing_56 (fun H locs hP hD hS => ?_)
        refine lv_aload_n hx hb dF_firstRefusing_57 rfl (lv_at hl 2 rfl) ?_
        refine lv_dup hx hb dF_firstRefusing_58 rfl ?_
        refine gf_F_35 C hP dF_firstRefusing_59 ?_
        refine W.eq (g2 := F0 m 62 ls [.int (g 0 2), .ref (al 0)]) (by first | rfl | simp [fr_up, fr_row]) ?_
        refine lv_iconst (v := 1) hx hb dF_firstRefusing_62 (by decide) ?_
        refine lv_iadd hx hb dF_firstRefusing_63 ?_
        refine pf_F_35 C hP hD hS dF_firstRefusing_64 (fun H locs hP hD hS => ?_)
        refine lv_aload hx hb dF_firstRefusing_67 (lv_at hl 0 rfl) ?_
        refine lv_aload_n hx hb dF_firstRefusing_69 rfl (lv_at hl 4 rfl) ?_
        refine lv_aload_n hx hb dF_firstRefusing_70 rfl (lv_at hl 5 rfl) ?_
        refine lv_iload hx hb dF_firstRefusing_71 (lv_at hl 6 rfl) ?_
        refine cl_F_207 C hP hD hS hl.1 ⟨Nat.le_of_ble_eq_true rfl, Nat.le_of_ble_eq_true rfl⟩ (Nat.le_of_ble_eq_true rfl) ⟨Nat.le_of_ble_eq_true rfl, Nat.le_of_ble_eq_true rfl⟩ (fr_lt hin_34) hu hv dF_firstRefusing_73 (fun H locs hP hD hS => ?_)
        refine lv_if_eq (tgt := 93) hx hb dF_firstRefusing_76 (by decide) (fun c_76 => ?_) (fun c_76 => ?_)
        · skip
          refine lv_iinc (v := x5 + 1) (lv' := [(5, .int (x5 + 1)), (7, .ref (al (17 + (((g 8 x5.toNatClampNeg) - 1).toNatClampNeg)))), (6, .int (g 8 x5.toNatClampNeg)), (0, .ref (al 0)), (1, .int y), (2, .ref (al (7 + u))), (3, .ref (al (7 + v))), (4, .int x)]) hx hb dF_firstRefusing_93 hl (k := 7) rfl rfl (by decide) rfl (fun ls hl => ?_)
          refine lv_goto (tgt := 8) hx hb dF_firstRefusing_96 (by decide) ?_
          have hd_ : dn_firstRefusing_8 (n + 1) y u v x g x5 = dn_firstRefusing_8 n y u v x (fr_up (fr_up g 9 ((g 0 2).toNatClampNeg) (g 8 x5.toNatClampNeg)) 0 2 ((g 0 2) + 1)) (x5 + 1) := by rw [dn_firstRefusing_8, if_neg c_14, if_pos c_43, if_pos c_76]
          rw [hd_]
          exact ih (fr_up (fr_up g 9 ((g 0 2).toNatClampNeg) (g 8 x5.toNatClampNeg)) 0 2 ((g 0 2) + 1)) (x5 + 1) H locs ls (fr_lp_b hm c_14) hP hD hS (lv_sub hl [3, 4, 5, 6, 7, 0] rfl)
        · skip
          refine lv_aload hx hb dF_firstRefusing_79 (lv_at hl 0 rfl) ?_
          refine lv_dup hx hb dF_firstRefusing_81 rfl ?_
          refine gf_F_151 C hP (fr_lt hin_34) dF_firstRefusing_82 ?_
          refine W.eq (g2 := F0 m 85 ls [.int (g 7 (((g 8 x5.toNatClampNeg) - 1).toNatClampNeg)), .ref (al (17 + (((g 8 x5.toNatClampNeg) - 1).toNatClampNeg)))]) (by first | rfl | simp [fr_up, fr_row]) ?_
          refine lv_iconst (v := 1) hx hb dF_firstRefusing_85 (by decide) ?_
          refine lv_iadd hx hb dF_firstRefusing_86 ?_
          refine pf_F_151 C hP hD hS (fr_lt hin_34) dF_firstRefusing_87 (fun H locs hP hD hS => ?_)
          refine lv_iload hx hb dF_firstRefusing_90 (lv_at hl 1 rfl) ?_
          have hd_ : dn_firstRefusing_8 (n + 1) y u v x g x5 = (g 8 x5.toNatClampNeg, fr_up (fr_up (fr_up g 9 ((g 0 2).toNatClampNeg) (g 8 x5.toNatClampNeg)) 0 2 ((g 0 2) + 1)) 7 (((g 8 x5.toNatClampNeg) - 1).toNatClampNeg) ((g 7 (((g 8 x5.toNatClampNeg) - 1).toNatClampNeg)) + 1)) := by rw [dn_firstRefusing_8, if_neg c_14, if_pos c_43, if_neg c_76]
          rw [hd_]
          exact fr_iret C hP hD hS rfl dF_firstRefusing_92
def dn_firstRefusing (f : Nat → Nat → Int32) (y : Int32) (u : Nat) (v : Nat) (x : Int32) : Int32 × (Nat → Nat → Int32) := dn_firstRefusing_8 13 y u v x (fr_up f 0 2 0) 0
set_option maxHeartbeats 4000000 in
set_option maxRecDepth 100000 in
theorem c_firstRefusing (l : Launch) (D : va_G) (ka : Nat → ClassId) (al : Nat → Nat) (Z : va_W) (f : Nat → Nat → Int32) (y : Int32) (u : Nat) (v : Nat) (x : Int32) (hu : u < 10) (hv : v < 10) (gR : 0 ≤ (f 0 1).toInt ∧ (f 0 1).toInt ≤ 12) (gO : fr_ord f) : fr_Mi l y_firstRefusing (.code y_firstRefusing prog_1_method_26_code 8 (some .int) :: fr_tbl) { frames := 3, cells := 0, slots := 0, locals := 67 } D vwCl (fr_ty ka) fr_nw [.ref (al 0), .int y, .ref (al (7 + u)), .ref (al (7 + v)), .int x] (fr_cw ka al f Z) ((dn_firstRefusing f y u v x).1) (fr_cw ka al ((dn_firstRefusing f y u v x).2) Z) 0 0 := by
  refine fr_Mi.of (by decide) (Nat.le_of_ble_eq_true rfl) ?_
  intro p e s m below meth c A H locs ls C hP hD hS hl
  obtain ⟨hx, hb, hml, hown, ht, hK, hlocks, hr, hA, hN, hZ, hEx⟩ := id C
  have hl : lv_has ls 8 [(0, .ref (al 0)), (1, .int y), (2, .ref (al (7 + u))), (3, .ref (al (7 + v))), (4, .int x)] := hl
  refine lv_aload_n hx hb dF_firstRefusing_0 rfl (lv_at hl 0 rfl) ?_
  refine lv_iconst (v := 0) hx hb dF_firstRefusing_1 (by decide) ?_
  refine pf_F_35 C hP hD hS dF_firstRefusing_2 (fun H locs hP hD hS => ?_)
  refine lv_iconst (v := 0) hx hb dF_firstRefusing_5 (by decide) ?_
  refine lv_istore (lv' := [(5, .int 0), (0, .ref (al 0)), (1, .int y), (2, .ref (al (7 + u))), (3, .ref (al (7 + v))), (4, .int x)]) hx hb dF_firstRefusing_6 hl (by decide) rfl (fun ls hl => ?_)
  have hd_ : dn_firstRefusing f y u v x = dn_firstRefusing_8 13 y u v x (fr_up f 0 2 0) 0 := by rw [dn_firstRefusing]
  rw [hd_]
  exact k_firstRefusing_8 C hu hv gR gO 13 (fr_up f 0 2 0) 0 H locs ls (fr_lp_in gR gO) hP hD hS (lv_sub hl [1, 2, 3, 4, 5, 0] rfl)
theorem fr_fr8_keep {y x : Int32} {u v : Nat} {r k : Nat} (h7 : r ≠ 7) (h9 : r ≠ 9) (h2 : ¬ (r = 0 ∧ k = 2)) : ∀ (n : Nat) (g : Nat → Nat → Int32) (x5 : Int32), (g 0 1).toInt < x5.toInt + n → 0 ≤ x5.toInt → (dn_firstRefusing_8 n y u v x g x5).2 r k = g r k ∨ n = 0 := by
  intro n
  induction n with
  | zero => intro g x5 _ _; exact Or.inr rfl
  | succ n ih =>
    intro g x5 hm h0
    left
    rw [dn_firstRefusing_8]
    have key : ∀ g' : Nat → Nat → Int32, g' 0 1 = g 0 1 → g' r k = g r k → ¬ g 0 1 ≤ x5 → (dn_firstRefusing_8 n y u v x g' (x5 + 1)).2 r k = g r k := by
      intro g' e1 e2 c
      have q1 := fr_t4 c
      have q4 := (g 0 1).toInt_lt
      have q2 := fr_add1 (x := x5) h0 (by omega)
      rcases ih g' (x5 + 1) (by rw [e1]; omega) (by omega) with h | h
      · rw [h, e2]
      · subst h; omega
    repeat' split
    all_goals first
      | rfl
      | (apply key <;> first | rfl | assumption)
      | (simp [fr_up, h7, h9, h2]; done)
      | (apply key <;> first | rfl | assumption | (simp [fr_up, h7, h9, h2]; done))
theorem fr_fr_keep {f : Nat → Nat → Int32} {y x : Int32} {u v r k : Nat} (gR : 0 ≤ (f 0 1).toInt ∧ (f 0 1).toInt ≤ 12) (h7 : r ≠ 7) (h9 : r ≠ 9) (h2 : ¬ (r = 0 ∧ k = 2)) : (dn_firstRefusing f y u v x).2 r k = f r k := by
  rw [dn_firstRefusing]
  have z : (0 : Int32).toInt = 0 := rfl
  rcases fr_fr8_keep (y := y) (x := x) (u := u) (v := v) h7 h9 h2 13 (fr_up f 0 2 0) 0 (by show (f 0 1).toInt < _; omega) (Int.le_refl _) with h | h
  · rw [h]; simp [fr_up, h2]
  · cases h
theorem fr_ro_fr {g : Nat → Nat → Int32} {y x : Int32} {u v : Nat} (h : fr_ro g) : fr_ro (dn_firstRefusing g y u v x).2 := by
  obtain ⟨h1, h2⟩ := h
  have e1 : (dn_firstRefusing g y u v x).2 0 1 = g 0 1 := fr_fr_keep h1 (by decide) (by decide) (by decide)
  refine ⟨by rw [e1]; exact h1, fun k hk => ?_⟩
  rw [e1] at hk ⊢
  rw [fr_fr_keep h1 (by decide) (by decide) (by omega)]
  exact h2 k hk
