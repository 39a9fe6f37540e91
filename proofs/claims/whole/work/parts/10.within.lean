def dn_within (n : Int32) (b : Int32) : Int32 := if n < 0 then 0 else (if b < n then 0 else 1)
set_option maxHeartbeats 4000000 in
set_option maxRecDepth 100000 in
theorem c_within (l : Launch) (D : va_G) (ka : Nat → ClassId) (al : Nat → Nat) (Z : va_W) (f : Nat → Nat → Int32) (n : Int32) (b : Int32) : fr_Mi l y_within (.code y_within prog_1_method_16_code 2 (some .boolean) :: fr_tbl) { frames := 0, cells := 0, slots := 0, locals := 0 } D vwCl (fr_ty ka) fr_nw [.int n, .int b] (fr_cw ka al f Z) (dn_within n b) (fr_cw ka al f Z) 0 0 := by
  refine fr_Mi.of (by decide) (Nat.le_of_ble_eq_true rfl) ?_
  intro p e s m below meth c A H locs ls C hP hD hS hl
  obtain ⟨hx, hb, hml, hown, ht, hK, hlocks, hr, hA, hN, hZ, hEx⟩ := id C
  have hl : lv_has ls 2 [(0, .int n), (1, .int b)] := hl
  refine lv_iload_n hx hb dF_isWithin_0 rfl (lv_at hl 0 rfl) ?_
  refine lv_if_lt (tgt := 13) hx hb dF_isWithin_1 (by decide) (fun c_1 => ?_) (fun c_1 => ?_)
  · skip
    refine lv_iconst (v := 0) hx hb dF_isWithin_13 (by decide) ?_
    have hd_ : dn_within n b = 0 := by rw [dn_within, if_pos c_1]
    exact fr_zret C hP hD hS hd_.symm (Or.inl rfl) dF_isWithin_14
  · skip
    refine lv_iload_n hx hb dF_isWithin_4 rfl (lv_at hl 0 rfl) ?_
    refine lv_iload_n hx hb dF_isWithin_5 rfl (lv_at hl 1 rfl) ?_
    refine lv_icmp_gt (tgt := 13) hx hb dF_isWithin_6 (by decide) (fun c_6 => ?_) (fun c_6 => ?_)
    · skip
      refine lv_iconst (v := 0) hx hb dF_isWithin_13 (by decide) ?_
      have hd_ : dn_within n b = 0 := by rw [dn_within, if_neg c_1, if_pos c_6]
      exact fr_zret C hP hD hS hd_.symm (Or.inl rfl) dF_isWithin_14
    · skip
      refine lv_iconst (v := 1) hx hb dF_isWithin_9 (by decide) ?_
      refine lv_goto (tgt := 14) hx hb dF_isWithin_10 (by decide) ?_
      have hd_ : dn_within n b = 1 := by rw [dn_within, if_neg c_1, if_neg c_6]
      exact fr_zret C hP hD hS hd_.symm (Or.inr rfl) dF_isWithin_14
theorem bz_within {n : Int32} {b : Int32} : dn_within n b = 0 ∨ dn_within n b = 1 := by
  unfold dn_within
  repeat' split
  all_goals first | exact Or.inl rfl | exact Or.inr rfl | exact bz_has
theorem fr_wi {n b : Int32} (h : ¬ dn_within n b = 0) : 0 ≤ n.toInt ∧ n.toInt ≤ b.toInt := by
  unfold dn_within at h
  split at h
  · exact absurd rfl h
  · rename_i h1
    split at h
    · exact absurd rfl h
    · rename_i h2
      have q1 := fr_t2 h1
      have q2 := fr_t2 h2
      have z : (0 : Int32).toInt = 0 := rfl
      omega

def dn_has (f : Nat → Nat → Int32) (u : Nat) (k : Int32) : Int32 := if ((f 3 u) &&& k) = 0 then 0 else 1
set_option maxHeartbeats 4000000 in
set_option maxRecDepth 100000 in
theorem c_has (l : Launch) (D : va_G) (ka : Nat → ClassId) (al : Nat → Nat) (Z : va_W) (f : Nat → Nat → Int32) (u : Nat) (k : Int32) (hu : u < 10) : fr_Mi l y_has (.code y_has prog_4_method_2_code 2 (some .boolean) :: fr_tbl) { frames := 0, cells := 0, slots := 0, locals := 0 } D vwCl (fr_ty ka) fr_nw [.ref (al (7 + u)), .int k] (fr_cw ka al f Z) (dn_has f u k) (fr_cw ka al f Z) 0 0 := by
  refine fr_Mi.of (by decide) (Nat.le_of_ble_eq_true rfl) ?_
  intro p e s m below meth c A H locs ls C hP hD hS hl
  obtain ⟨hx, hb, hml, hown, ht, hK, hlocks, hr, hA, hN, hZ, hEx⟩ := id C
  have hl : lv_has ls 2 [(0, .ref (al (7 + u))), (1, .int k)] := hl
  refine lv_aload_n hx hb dU_has_0 rfl (lv_at hl 0 rfl) ?_
  refine gf_U_16 C hP hu dU_has_1 ?_
  refine lv_iload_n hx hb dU_has_4 rfl (lv_at hl 1 rfl) ?_
  refine lv_iand hx hb dU_has_5 ?_
  refine lv_if_eq (tgt := 13) hx hb dU_has_6 (by decide) (fun c_6 => ?_) (fun c_6 => ?_)
  · skip
    refine lv_iconst (v := 0) hx hb dU_has_13 (by decide) ?_
    have hd_ : dn_has f u k = 0 := by rw [dn_has, if_pos c_6]
    exact fr_zret C hP hD hS hd_.symm (Or.inl rfl) dU_has_14
  · skip
    refine lv_iconst (v := 1) hx hb dU_has_9 (by decide) ?_
    refine lv_goto (tgt := 14) hx hb dU_has_10 (by decide) ?_
    have hd_ : dn_has f u k = 1 := by rw [dn_has, if_neg c_6]
    exact fr_zret C hP hD hS hd_.symm (Or.inr rfl) dU_has_14
theorem bz_has {f : Nat → Nat → Int32} {u : Nat} {k : Int32} : dn_has f u k = 0 ∨ dn_has f u k = 1 := by
  unfold dn_has
  repeat' split
  all_goals first | exact Or.inl rfl | exact Or.inr rfl | exact bz_has

def dn_signAt (f : Nat → Nat → Int32) (x : Int32) : Int32 := if x < 0 then (-1) else (if (f 0 5) ≤ x then (-1) else (f 10 x.toNatClampNeg))
set_option maxHeartbeats 4000000 in
set_option maxRecDepth 100000 in
theorem c_signAt (l : Launch) (D : va_G) (ka : Nat → ClassId) (al : Nat → Nat) (Z : va_W) (f : Nat → Nat → Int32) (x : Int32) (gT : 0 ≤ (f 0 5).toInt ∧ (f 0 5).toInt ≤ 200) : fr_Mi l y_signAt (.code y_signAt prog_3_method_8_code 2 (some .int) :: fr_tbl) { frames := 0, cells := 0, slots := 0, locals := 0 } D vwCl (fr_ty ka) fr_nw [.ref (al 5), .int x] (fr_cw ka al f Z) (dn_signAt f x) (fr_cw ka al f Z) 0 0 := by
  refine fr_Mi.of (by decide) (Nat.le_of_ble_eq_true rfl) ?_
  intro p e s m below meth c A H locs ls C hP hD hS hl
  obtain ⟨hx, hb, hml, hown, ht, hK, hlocks, hr, hA, hN, hZ, hEx⟩ := id C
  have hl : lv_has ls 2 [(0, .ref (al 5)), (1, .int x)] := hl
  refine lv_iload_n hx hb dT_signAt_0 rfl (lv_at hl 1 rfl) ?_
  refine lv_if_lt (tgt := 21) hx hb dT_signAt_1 (by decide) (fun c_1 => ?_) (fun c_1 => ?_)
  · skip
    refine lv_iconst (v := (-1)) hx hb dT_signAt_21 (by decide) ?_
    have hd_ : dn_signAt f x = (-1) := by rw [dn_signAt, if_pos c_1]
    exact fr_iret C hP hD hS hd_.symm dT_signAt_22
  · skip
    refine lv_iload_n hx hb dT_signAt_4 rfl (lv_at hl 1 rfl) ?_
    refine lv_aload_n hx hb dT_signAt_5 rfl (lv_at hl 0 rfl) ?_
    refine gf_T_15 C hP dT_signAt_6 ?_
    refine lv_icmp_ge (tgt := 21) hx hb dT_signAt_9 (by decide) (fun c_9 => ?_) (fun c_9 => ?_)
    · skip
      refine lv_iconst (v := (-1)) hx hb dT_signAt_21 (by decide) ?_
      have hd_ : dn_signAt f x = (-1) := by rw [dn_signAt, if_neg c_1, if_pos c_9]
      exact fr_iret C hP hD hS hd_.symm dT_signAt_22
    · skip
      refine lv_aload_n hx hb dT_signAt_12 rfl (lv_at hl 0 rfl) ?_
      refine gf_T_9 C hP dT_signAt_13 ?_
      refine lv_iload_n hx hb dT_signAt_16 rfl (lv_at hl 1 rfl) ?_
      have hin_17 : vp_in x 200 := by have q0 := fr_t2 c_1; have q1 := fr_t4 c_9; have z0 : (0 : Int32).toInt = 0 := rfl; skip; rw [vp_in_iff]; omega
      refine ald_10 C hP hin_17 dT_signAt_17 ?_
      refine lv_goto (tgt := 22) hx hb dT_signAt_18 (by decide) ?_
      have hd_ : dn_signAt f x = f 10 x.toNatClampNeg := by rw [dn_signAt, if_neg c_1, if_neg c_9]
      exact fr_iret C hP hD hS hd_.symm dT_signAt_22

theorem cl_T_26 {p : Program} {l : Launch} {e : Env} {R : Room} {s : State} {m : MethodId} {args : Array Value} {below : List Frame} {meth : Method} {c : Code} {H : Heap} {locs : List Loc} {cells slots : Nat} {Q : State → Prop} {D : va_G} {A : Nat → Prop} {cc : ByteArray} {nL pc : Nat} {ret : Option FieldType} {hh : List ExceptionTableEntry} {ls : Array Slot} {rest : List Value} {ka : Nat → ClassId} {al : Nat → Nat} {f : Nat → Nat → Int32} {Z : va_W} {x : Int32} (C : fr_Cx p s m args meth c "FragileRules$Text" cc nL ret hh fr_tbl fr_nw D vwCl (fr_ty ka) A) (hP : va_P D vwCl (fr_cw ka al f Z) H) (hD : va_D A (fr_cw ka al f Z)) (hS : va_S A s.heap H locs) (hsz : ls.size = nL) (hR : 0 + 1 ≤ R.frames ∧ 8 + (2 + 11) + 0 ≤ R.locals) (hw : (rest.map fun v => v.category).sum ≤ 8) (hf : cells + 0 ≤ R.cells ∧ slots + 0 ≤ R.slots) (gT : 0 ≤ (f 0 5).toInt ∧ (f 0 5).toInt ≤ 200) (hdg : decode cc pc = .ok (.invokevirtual 26, 3)) (kk : ∀ (H : Heap) (locs : List Loc), va_P D vwCl (fr_cw ka al f Z) H → va_D A (fr_cw ka al f Z) → va_S A s.heap H locs → W p l e R s m args below meth c H locs (cells + 0) (slots + 0) Q (F0 m (pc + 3) ls (.int (dn_signAt f x) :: rest))) : W p l e R s m args below meth c H locs cells slots Q (F0 m pc ls (.int x :: .ref (al 5) :: rest)) :=
  fr_callVi (As := [.int x]) C hP hD hS (c_signAt l D ka al Z f x gT) (cwV 1 C.2.2.2.2.1 (fr_goodV ml_T_26 mi_signAt msel_signAt mini_T mc_signAt) rfl rfl rfl (by decide +kernel) hR) (va_recv C.2.2.2.2.2.1 hP (ci := 3) (q0 := 5) rfl rfl) rfl hsz hw hdg hf kk
def dn_digitAt (f : Nat → Nat → Int32) (x : Int32) : Int32 := if (dn_signAt f x) < 48 then (-1) else (if 57 < (dn_signAt f x) then (-1) else ((dn_signAt f x) - 48))
set_option maxHeartbeats 4000000 in
set_option maxRecDepth 100000 in
theorem c_digitAt (l : Launch) (D : va_G) (ka : Nat → ClassId) (al : Nat → Nat) (Z : va_W) (f : Nat → Nat → Int32) (x : Int32) (gT : 0 ≤ (f 0 5).toInt ∧ (f 0 5).toInt ≤ 200) : fr_Mi l y_digitAt (.code y_digitAt prog_3_method_7_code 3 (some .int) :: fr_tbl) { frames := 1, cells := 0, slots := 0, locals := 21 } D vwCl (fr_ty ka) fr_nw [.ref (al 5), .int x] (fr_cw ka al f Z) (dn_digitAt f x) (fr_cw ka al f Z) 0 0 := by
  refine fr_Mi.of (by decide) (Nat.le_of_ble_eq_true rfl) ?_
  intro p e s m below meth c A H locs ls C hP hD hS hl
  obtain ⟨hx, hb, hml, hown, ht, hK, hlocks, hr, hA, hN, hZ, hEx⟩ := id C
  have hl : lv_has ls 3 [(0, .ref (al 5)), (1, .int x)] := hl
  refine lv_aload_n hx hb dT_digitAt_0 rfl (lv_at hl 0 rfl) ?_
  refine lv_iload_n hx hb dT_digitAt_1 rfl (lv_at hl 1 rfl) ?_
  refine cl_T_26 C hP hD hS hl.1 ⟨Nat.le_of_ble_eq_true rfl, Nat.le_of_ble_eq_true rfl⟩ (Nat.le_of_ble_eq_true rfl) ⟨Nat.le_of_ble_eq_true rfl, Nat.le_of_ble_eq_true rfl⟩ gT dT_digitAt_2 (fun H locs hP hD hS => ?_)
  refine lv_istore_n (lv' := [(2, .int (dn_signAt f x)), (0, .ref (al 5)), (1, .int x)]) hx hb dT_digitAt_5 rfl hl (by decide) rfl (fun ls hl => ?_)
  refine lv_iload_n hx hb dT_digitAt_6 rfl (lv_at hl 0 rfl) ?_
  refine lv_bipush (v := 48) hx hb dT_digitAt_7 (by decide) ?_
  refine lv_icmp_lt (tgt := 25) hx hb dT_digitAt_9 (by decide) (fun c_9 => ?_) (fun c_9 => ?_)
  · skip
    refine lv_iconst (v := (-1)) hx hb dT_digitAt_25 (by decide) ?_
    have hd_ : dn_digitAt f x = (-1) := by rw [dn_digitAt, if_pos c_9]
    exact fr_iret C hP hD hS hd_.symm dT_digitAt_26
  · skip
    refine lv_iload_n hx hb dT_digitAt_12 rfl (lv_at hl 0 rfl) ?_
    refine lv_bipush (v := 57) hx hb dT_digitAt_13 (by decide) ?_
    refine lv_icmp_gt (tgt := 25) hx hb dT_digitAt_15 (by decide) (fun c_15 => ?_) (fun c_15 => ?_)
    · skip
      refine lv_iconst (v := (-1)) hx hb dT_digitAt_25 (by decide) ?_
      have hd_ : dn_digitAt f x = (-1) := by rw [dn_digitAt, if_neg c_9, if_pos c_15]
      exact fr_iret C hP hD hS hd_.symm dT_digitAt_26
    · skip
      refine lv_iload_n hx hb dT_digitAt_18 rfl (lv_at hl 0 rfl) ?_
      refine lv_bipush (v := 48) hx hb dT_digitAt_19 (by decide) ?_
      refine lv_isub hx hb dT_digitAt_21 ?_
      refine lv_goto (tgt := 26) hx hb dT_digitAt_22 (by decide) ?_
      have hd_ : dn_digitAt f x = (dn_signAt f x) - 48 := by rw [dn_digitAt, if_neg c_9, if_neg c_15]
      exact fr_iret C hP hD hS hd_.symm dT_digitAt_26

def dn_rowAt (f : Nat → Nat → Int32) (x : Int32) : Int32 := if (dn_signAt f x) = 65 then 1 else (if (dn_signAt f x) = 66 then 2 else (if (dn_signAt f x) = 76 then 3 else (if (dn_signAt f x) = 78 then 0 else (-1))))
set_option maxHeartbeats 4000000 in
set_option maxRecDepth 100000 in
theorem c_rowAt (l : Launch) (D : va_G) (ka : Nat → ClassId) (al : Nat → Nat) (Z : va_W) (f : Nat → Nat → Int32) (x : Int32) (gT : 0 ≤ (f 0 5).toInt ∧ (f 0 5).toInt ≤ 200) : fr_Mi l y_rowAt (.code y_rowAt prog_3_method_5_code 2 (some .int) :: fr_tbl) { frames := 1, cells := 0, slots := 0, locals := 21 } D vwCl (fr_ty ka) fr_nw [.ref (al 5), .int x] (fr_cw ka al f Z) (dn_rowAt f x) (fr_cw ka al f Z) 0 0 := by
  refine fr_Mi.of (by decide) (Nat.le_of_ble_eq_true rfl) ?_
  intro p e s m below meth c A H locs ls C hP hD hS hl
  obtain ⟨hx, hb, hml, hown, ht, hK, hlocks, hr, hA, hN, hZ, hEx⟩ := id C
  have hl : lv_has ls 2 [(0, .ref (al 5)), (1, .int x)] := hl
  refine lv_aload_n hx hb dT_rowAt_0 rfl (lv_at hl 0 rfl) ?_
  refine lv_iload_n hx hb dT_rowAt_1 rfl (lv_at hl 1 rfl) ?_
  refine cl_T_26 C hP hD hS hl.1 ⟨Nat.le_of_ble_eq_true rfl, Nat.le_of_ble_eq_true rfl⟩ (Nat.le_of_ble_eq_true rfl) ⟨Nat.le_of_ble_eq_true rfl, Nat.le_of_ble_eq_true rfl⟩ gT dT_rowAt_2 (fun H locs hP hD hS => ?_)
  by_cases c_5_65 : (dn_signAt f x) = 65
  · skip
    refine lv_lookup (tgt := 50) hx hb dT_rowAt_5 (by decide) (by rw [c_5_65] <;> rfl) (by decide) ?_
    refine lv_iconst (v := 1) hx hb dT_rowAt_50 (by decide) ?_
    have hd_ : dn_rowAt f x = 1 := by rw [dn_rowAt, if_pos c_5_65]
    exact fr_iret C hP hD hS hd_.symm dT_rowAt_51
  · skip
    by_cases c_5_66 : (dn_signAt f x) = 66
    · skip
      refine lv_lookup (tgt := 52) hx hb dT_rowAt_5 (by decide) (by rw [c_5_66] <;> rfl) (by decide) ?_
      refine lv_iconst (v := 2) hx hb dT_rowAt_52 (by decide) ?_
      have hd_ : dn_rowAt f x = 2 := by rw [dn_rowAt, if_neg c_5_65, if_pos c_5_66]
      exact fr_iret C hP hD hS hd_.symm dT_rowAt_53
    · skip
      by_cases c_5_76 : (dn_signAt f x) = 76
      · skip
        refine lv_lookup (tgt := 54) hx hb dT_rowAt_5 (by decide) (by rw [c_5_76] <;> rfl) (by decide) ?_
        refine lv_iconst (v := 3) hx hb dT_rowAt_54 (by decide) ?_
        have hd_ : dn_rowAt f x = 3 := by rw [dn_rowAt, if_neg c_5_65, if_neg c_5_66, if_pos c_5_76]
        exact fr_iret C hP hD hS hd_.symm dT_rowAt_55
      · skip
        by_cases c_5_78 : (dn_signAt f x) = 78
        · skip
          refine lv_lookup (tgt := 48) hx hb dT_rowAt_5 (by decide) (by rw [c_5_78] <;> rfl) (by decide) ?_
          refine lv_iconst (v := 0) hx hb dT_rowAt_48 (by decide) ?_
          have hd_ : dn_rowAt f x = 0 := by rw [dn_rowAt, if_neg c_5_65, if_neg c_5_66, if_neg c_5_76, if_pos c_5_78]
          exact fr_iret C hP hD hS hd_.symm dT_rowAt_49
        · skip
          refine lv_lookup (tgt := 56) (off := 51) hx hb dT_rowAt_5 (by decide) (by show Op.lookupswitch.offset [(65, 45), (66, 47), (76, 49), (78, 43)] 51 _ = _; rw [lv_osw (k := 65) (a := 65) c_5_65 rfl, lv_osw (k := 66) (a := 66) c_5_66 rfl, lv_osw (k := 76) (a := 76) c_5_76 rfl, lv_osw (k := 78) (a := 78) c_5_78 rfl] <;> rfl) (by decide) ?_
          refine lv_iconst (v := (-1)) hx hb dT_rowAt_56 (by decide) ?_
          have hd_ : dn_rowAt f x = (-1) := by rw [dn_rowAt, if_neg c_5_65, if_neg c_5_66, if_neg c_5_76, if_neg c_5_78]
          exact fr_iret C hP hD hS hd_.symm dT_rowAt_57

theorem cl_T_29 {p : Program} {l : Launch} {e : Env} {R : Room} {s : State} {m : MethodId} {args : Array Value} {below : List Frame} {meth : Method} {c : Code} {H : Heap} {locs : List Loc} {cells slots : Nat} {Q : State → Prop} {D : va_G} {A : Nat → Prop} {cc : ByteArray} {nL pc : Nat} {ret : Option FieldType} {hh : List ExceptionTableEntry} {ls : Array Slot} {rest : List Value} {ka : Nat → ClassId} {al : Nat → Nat} {f : Nat → Nat → Int32} {Z : va_W} {x : Int32} (C : fr_Cx p s m args meth c "FragileRules$Text" cc nL ret hh fr_tbl fr_nw D vwCl (fr_ty ka) A) (hP : va_P D vwCl (fr_cw ka al f Z) H) (hD : va_D A (fr_cw ka al f Z)) (hS : va_S A s.heap H locs) (hsz : ls.size = nL) (hR : 1 + 1 ≤ R.frames ∧ 8 + (3 + 11) + 21 ≤ R.locals) (hw : (rest.map fun v => v.category).sum ≤ 8) (hf : cells + 0 ≤ R.cells ∧ slots + 0 ≤ R.slots) (gT : 0 ≤ (f 0 5).toInt ∧ (f 0 5).toInt ≤ 200) (hdg : decode cc pc = .ok (.invokevirtual 29, 3)) (kk : ∀ (H : Heap) (locs : List Loc), va_P D vwCl (fr_cw ka al f Z) H → va_D A (fr_cw ka al f Z) → va_S A s.heap H locs → W p l e R s m args below meth c H locs (cells + 0) (slots + 0) Q (F0 m (pc + 3) ls (.int (dn_digitAt f x) :: rest))) : W p l e R s m args below meth c H locs cells slots Q (F0 m pc ls (.int x :: .ref (al 5) :: rest)) :=
  fr_callVi (As := [.int x]) C hP hD hS (c_digitAt l D ka al Z f x gT) (cwV 1 C.2.2.2.2.1 (fr_goodV ml_T_29 mi_digitAt msel_digitAt mini_T mc_digitAt) rfl rfl rfl (by decide +kernel) hR) (va_recv C.2.2.2.2.2.1 hP (ci := 3) (q0 := 5) rfl rfl) rfl hsz hw hdg hf kk
def dn_numberAt (f : Nat → Nat → Int32) (x : Int32) : Int32 := if (dn_digitAt f (x + 1)) = (-1) then (dn_digitAt f x) else ((10 * (dn_digitAt f x)) + (dn_digitAt f (x + 1)))
set_option maxHeartbeats 4000000 in
set_option maxRecDepth 100000 in
theorem c_numberAt (l : Launch) (D : va_G) (ka : Nat → ClassId) (al : Nat → Nat) (Z : va_W) (f : Nat → Nat → Int32) (x : Int32) (gT : 0 ≤ (f 0 5).toInt ∧ (f 0 5).toInt ≤ 200) : fr_Mi l y_numberAt (.code y_numberAt prog_3_method_6_code 4 (some .int) :: fr_tbl) { frames := 2, cells := 0, slots := 0, locals := 43 } D vwCl (fr_ty ka) fr_nw [.ref (al 5), .int x] (fr_cw ka al f Z) (dn_numberAt f x) (fr_cw ka al f Z) 0 0 := by
  refine fr_Mi.of (by decide) (Nat.le_of_ble_eq_true rfl) ?_
  intro p e s m below meth c A H locs ls C hP hD hS hl
  obtain ⟨hx, hb, hml, hown, ht, hK, hlocks, hr, hA, hN, hZ, hEx⟩ := id C
  have hl : lv_has ls 4 [(0, .ref (al 5)), (1, .int x)] := hl
  refine lv_aload_n hx hb dT_numberAt_0 rfl (lv_at hl 0 rfl) ?_
  refine lv_iload_n hx hb dT_numberAt_1 rfl (lv_at hl 1 rfl) ?_
  refine cl_T_29 C hP hD hS hl.1 ⟨Nat.le_of_ble_eq_true rfl, Nat.le_of_ble_eq_true rfl⟩ (Nat.le_of_ble_eq_true rfl) ⟨Nat.le_of_ble_eq_true rfl, Nat.le_of_ble_eq_true rfl⟩ gT dT_numberAt_2 (fun H locs hP hD hS => ?_)
  refine lv_istore_n (lv' := [(2, .int (dn_digitAt f x)), (0, .ref (al 5)), (1, .int x)]) hx hb dT_numberAt_5 rfl hl (by decide) rfl (fun ls hl => ?_)
  refine lv_aload_n hx hb dT_numberAt_6 rfl (lv_at hl 1 rfl) ?_
  refine lv_iload_n hx hb dT_numberAt_7 rfl (lv_at hl 2 rfl) ?_
  refine lv_iconst (v := 1) hx hb dT_numberAt_8 (by decide) ?_
  refine lv_iadd hx hb dT_numberAt_9 ?_
  refine cl_T_29 C hP hD hS hl.1 ⟨Nat.le_of_ble_eq_true rfl, Nat.le_of_ble_eq_true rfl⟩ (Nat.le_of_ble_eq_true rfl) ⟨Nat.le_of_ble_eq_true rfl, Nat.le_of_ble_eq_true rfl⟩ gT dT_numberAt_10 (fun H locs hP hD hS => ?_)
  refine lv_istore_n (lv' := [(3, .int (dn_digitAt f (x + 1))), (2, .int (dn_digitAt f x)), (0, .ref (al 5)), (1, .int x)]) hx hb dT_numberAt_13 rfl hl (by decide) rfl (fun ls hl => ?_)
  refine lv_iload_n hx hb dT_numberAt_14 rfl (lv_at hl 0 rfl) ?_
  refine lv_iconst (v := (-1)) hx hb dT_numberAt_15 (by decide) ?_
  refine lv_icmp_ne (tgt := 23) hx hb dT_numberAt_16 (by decide) (fun c_16 => ?_) (fun c_16 => ?_)
  · skip
    refine lv_bipush (v := 10) hx hb dT_numberAt_23 (by decide) ?_
    refine lv_iload_n hx hb dT_numberAt_25 rfl (lv_at hl 1 rfl) ?_
    refine lv_imul hx hb dT_numberAt_26 ?_
    refine lv_iload_n hx hb dT_numberAt_27 rfl (lv_at hl 0 rfl) ?_
    refine lv_iadd hx hb dT_numberAt_28 ?_
    have hd_ : dn_numberAt f x = (10 * (dn_digitAt f x)) + (dn_digitAt f (x + 1)) := by rw [dn_numberAt, if_neg c_16]
    exact fr_iret C hP hD hS hd_.symm dT_numberAt_29
  · skip
    refine lv_iload_n hx hb dT_numberAt_19 rfl (lv_at hl 1 rfl) ?_
    refine lv_goto (tgt := 29) hx hb dT_numberAt_20 (by decide) ?_
    have hd_ : dn_numberAt f x = dn_digitAt f x := by rw [dn_numberAt, if_pos c_16]
    exact fr_iret C hP hD hS hd_.symm dT_numberAt_29

theorem cl_T_23 {p : Program} {l : Launch} {e : Env} {R : Room} {s : State} {m : MethodId} {args : Array Value} {below : List Frame} {meth : Method} {c : Code} {H : Heap} {locs : List Loc} {cells slots : Nat} {Q : State → Prop} {D : va_G} {A : Nat → Prop} {cc : ByteArray} {nL pc : Nat} {ret : Option FieldType} {hh : List ExceptionTableEntry} {ls : Array Slot} {rest : List Value} {ka : Nat → ClassId} {al : Nat → Nat} {f : Nat → Nat → Int32} {Z : va_W} {x : Int32} (C : fr_Cx p s m args meth c "FragileRules$Text" cc nL ret hh fr_tbl fr_nw D vwCl (fr_ty ka) A) (hP : va_P D vwCl (fr_cw ka al f Z) H) (hD : va_D A (fr_cw ka al f Z)) (hS : va_S A s.heap H locs) (hsz : ls.size = nL) (hR : 1 + 1 ≤ R.frames ∧ 8 + (2 + 11) + 21 ≤ R.locals) (hw : (rest.map fun v => v.category).sum ≤ 8) (hf : cells + 0 ≤ R.cells ∧ slots + 0 ≤ R.slots) (gT : 0 ≤ (f 0 5).toInt ∧ (f 0 5).toInt ≤ 200) (hdg : decode cc pc = .ok (.invokevirtual 23, 3)) (kk : ∀ (H : Heap) (locs : List Loc), va_P D vwCl (fr_cw ka al f Z) H → va_D A (fr_cw ka al f Z) → va_S A s.heap H locs → W p l e R s m args below meth c H locs (cells + 0) (slots + 0) Q (F0 m (pc + 3) ls (.int (dn_rowAt f x) :: rest))) : W p l e R s m args below meth c H locs cells slots Q (F0 m pc ls (.int x :: .ref (al 5) :: rest)) :=
  fr_callVi (As := [.int x]) C hP hD hS (c_rowAt l D ka al Z f x gT) (cwV 1 C.2.2.2.2.1 (fr_goodV ml_T_23 mi_rowAt msel_rowAt mini_T mc_rowAt) rfl rfl rfl (by decide +kernel) hR) (va_recv C.2.2.2.2.2.1 hP (ci := 3) (q0 := 5) rfl rfl) rfl hsz hw hdg hf kk
theorem cl_T_32 {p : Program} {l : Launch} {e : Env} {R : Room} {s : State} {m : MethodId} {args : Array Value} {below : List Frame} {meth : Method} {c : Code} {H : Heap} {locs : List Loc} {cells slots : Nat} {Q : State → Prop} {D : va_G} {A : Nat → Prop} {cc : ByteArray} {nL pc : Nat} {ret : Option FieldType} {hh : List ExceptionTableEntry} {ls : Array Slot} {rest : List Value} {ka : Nat → ClassId} {al : Nat → Nat} {f : Nat → Nat → Int32} {Z : va_W} {n : Int32} {b : Int32} (C : fr_Cx p s m args meth c "FragileRules$Text" cc nL ret hh fr_tbl fr_nw D vwCl (fr_ty ka) A) (hP : va_P D vwCl (fr_cw ka al f Z) H) (hD : va_D A (fr_cw ka al f Z)) (hS : va_S A s.heap H locs) (hsz : ls.size = nL) (hR : 0 + 1 ≤ R.frames ∧ 8 + (2 + 11) + 0 ≤ R.locals) (hw : (rest.map fun v => v.category).sum ≤ 8) (hf : cells + 0 ≤ R.cells ∧ slots + 0 ≤ R.slots) (hdg : decode cc pc = .ok (.invokestatic 32, 3)) (kk : ∀ (H : Heap) (locs : List Loc), va_P D vwCl (fr_cw ka al f Z) H → va_D A (fr_cw ka al f Z) → va_S A s.heap H locs → W p l e R s m args below meth c H locs (cells + 0) (slots + 0) Q (F0 m (pc + 3) ls (.int (dn_within n b) :: rest))) : W p l e R s m args below meth c H locs cells slots Q (F0 m pc ls (.int b :: .int n :: rest)) :=
  fr_callSNi (As := [.int n, .int b]) C hP hD hS (c_within l D ka al Z f n b) ⟨va_cnB 2 C.2.2.2.2.1 (fr_good mc_within) rfl rfl rfl (C.2.2.2.2.2.2.2.2.2.1 _ nst_T_32).2 (C.2.2.2.2.1 _ mini_F) (by decide +kernel) hR, C.2.2.2.2.1 _ mst_within, trivial⟩ rfl hsz hw hdg hf kk
def dn_behind (f : Nat → Nat → Int32) (x : Int32) : Int32 := if (dn_rowAt f x) = (-1) then ((-1) - x) else (if (dn_signAt f (x + 1)) = 32 then (if (dn_within (dn_digitAt f (x + 2)) 7) = 0 then ((-3) - x) else (if (dn_signAt f (x + 3)) = 32 then (if (dn_rowAt f x) = 2 then (if (dn_within (dn_digitAt f (x + 4)) 9) = 0 then ((-5) - x) else (if (dn_digitAt f (x + 4)) = 0 then (if (dn_signAt f (x + 5)) = 10 then ((x + 5) + 1) else ((-1) - (x + 5))) else (if (dn_digitAt f (x + 5)) = (-1) then (if (dn_signAt f (x + 5)) = 10 then ((x + 5) + 1) else ((-1) - (x + 5))) else (if (dn_signAt f (x + 6)) = 10 then ((x + 6) + 1) else ((-1) - (x + 6)))))) else (if (dn_rowAt f x) = 3 then (if (dn_within (dn_digitAt f (x + 4)) 9) = 0 then ((-5) - x) else (if (dn_signAt f (x + 5)) = 10 then ((x + 5) + 1) else ((-1) - (x + 5)))) else (if (dn_within (dn_digitAt f (x + 4)) 7) = 0 then ((-5) - x) else (if (dn_signAt f (x + 5)) = 10 then ((x + 5) + 1) else ((-1) - (x + 5)))))) else ((-4) - x))) else ((-2) - x))
set_option maxHeartbeats 4000000 in
set_option maxRecDepth 100000 in
theorem c_behind (l : Launch) (D : va_G) (ka : Nat → ClassId) (al : Nat → Nat) (Z : va_W) (f : Nat → Nat → Int32) (x : Int32) (gT : 0 ≤ (f 0 5).toInt ∧ (f 0 5).toInt ≤ 200) : fr_Mi l y_behind (.code y_behind prog_3_method_4_code 6 (some .int) :: fr_tbl) { frames := 2, cells := 0, slots := 0, locals := 43 } D vwCl (fr_ty ka) fr_nw [.ref (al 5), .int x] (fr_cw ka al f Z) (dn_behind f x) (fr_cw ka al f Z) 0 0 := by
  refine fr_Mi.of (by decide) (Nat.le_of_ble_eq_true rfl) ?_
  intro p e s m below meth c A H locs ls C hP hD hS hl
  obtain ⟨hx, hb, hml, hown, ht, hK, hlocks, hr, hA, hN, hZ, hEx⟩ := id C
  have hl : lv_has ls 6 [(0, .ref (al 5)), (1, .int x)] := hl
  refine lv_aload_n hx hb dT_behindLine_0 rfl (lv_at hl 0 rfl) ?_
  refine lv_iload_n hx hb dT_behindLine_1 rfl (lv_at hl 1 rfl) ?_
  refine cl_T_23 C hP hD hS hl.1 ⟨Nat.le_of_ble_eq_true rfl, Nat.le_of_ble_eq_true rfl⟩ (Nat.le_of_ble_eq_true rfl) ⟨Nat.le_of_ble_eq_true rfl, Nat.le_of_ble_eq_true rfl⟩ gT dT_behindLine_2 (fun H locs hP hD hS => ?_)
  refine lv_istore_n (lv' := [(2, .int (dn_rowAt f x)), (0, .ref (al 5)), (1, .int x)]) hx hb dT_behindLine_5 rfl hl (by decide) rfl (fun ls hl => ?_)
  refine lv_iload_n hx hb dT_behindLine_6 rfl (lv_at hl 0 rfl) ?_
  refine lv_iconst (v := (-1)) hx hb dT_behindLine_7 (by decide) ?_
  refine lv_icmp_ne (tgt := 15) hx hb dT_behindLine_8 (by decide) (fun c_8 => ?_) (fun c_8 => ?_)
  · skip
    refine lv_aload_n hx hb dT_behindLine_15 rfl (lv_at hl 1 rfl) ?_
    refine lv_iload_n hx hb dT_behindLine_16 rfl (lv_at hl 2 rfl) ?_
    refine lv_iconst (v := 1) hx hb dT_behindLine_17 (by decide) ?_
    refine lv_iadd hx hb dT_behindLine_18 ?_
    refine cl_T_26 C hP hD hS hl.1 ⟨Nat.le_of_ble_eq_true rfl, Nat.le_of_ble_eq_true rfl⟩ (Nat.le_of_ble_eq_true rfl) ⟨Nat.le_of_ble_eq_true rfl, Nat.le_of_ble_eq_true rfl⟩ gT dT_behindLine_19 (fun H locs hP hD hS => ?_)
    refine lv_bipush (v := 32) hx hb dT_behindLine_22 (by decide) ?_
    refine lv_icmp_eq (tgt := 32) hx hb dT_behindLine_24 (by decide) (fun c_24 => ?_) (fun c_24 => ?_)
    · skip
      refine lv_aload_n hx hb dT_behindLine_32 rfl (lv_at hl 1 rfl) ?_
      refine lv_iload_n hx hb dT_behindLine_33 rfl (lv_at hl 2 rfl) ?_
      refine lv_iconst (v := 2) hx hb dT_behindLine_34 (by decide) ?_
      refine lv_iadd hx hb dT_behindLine_35 ?_
      refine cl_T_29 C hP hD hS hl.1 ⟨Nat.le_of_ble_eq_true rfl, Nat.le_of_ble_eq_true rfl⟩ (Nat.le_of_ble_eq_true rfl) ⟨Nat.le_of_ble_eq_true rfl, Nat.le_of_ble_eq_true rfl⟩ gT dT_behindLine_36 (fun H locs hP hD hS => ?_)
      refine lv_bipush (v := 7) hx hb dT_behindLine_39 (by decide) ?_
      refine cl_T_32 C hP hD hS hl.1 ⟨Nat.le_of_ble_eq_true rfl, Nat.le_of_ble_eq_true rfl⟩ (Nat.le_of_ble_eq_true rfl) ⟨Nat.le_of_ble_eq_true rfl, Nat.le_of_ble_eq_true rfl⟩ dT_behindLine_41 (fun H locs hP hD hS => ?_)
      refine lv_if_ne (tgt := 52) hx hb dT_behindLine_44 (by decide) (fun c_44 => ?_) (fun c_44 => ?_)
      · skip
        refine lv_aload_n hx hb dT_behindLine_52 rfl (lv_at hl 1 rfl) ?_
        refine lv_iload_n hx hb dT_behindLine_53 rfl (lv_at hl 2 rfl) ?_
        refine lv_iconst (v := 3) hx hb dT_behindLine_54 (by decide) ?_
        refine lv_iadd hx hb dT_behindLine_55 ?_
        refine cl_T_26 C hP hD hS hl.1 ⟨Nat.le_of_ble_eq_true rfl, Nat.le_of_ble_eq_true rfl⟩ (Nat.le_of_ble_eq_true rfl) ⟨Nat.le_of_ble_eq_true rfl, Nat.le_of_ble_eq_true rfl⟩ gT dT_behindLine_56 (fun H locs hP hD hS => ?_)
        refine lv_bipush (v := 32) hx hb dT_behindLine_59 (by decide) ?_
        refine lv_icmp_eq (tgt := 69) hx hb dT_behindLine_61 (by decide) (fun c_61 => ?_) (fun c_61 => ?_)
        · skip
          refine lv_aload_n hx hb dT_behindLine_69 rfl (lv_at hl 1 rfl) ?_
          refine lv_iload_n hx hb dT_behindLine_70 rfl (lv_at hl 2 rfl) ?_
          refine lv_iconst (v := 4) hx hb dT_behindLine_71 (by decide) ?_
          refine lv_iadd hx hb dT_behindLine_72 ?_
          refine cl_T_29 C hP hD hS hl.1 ⟨Nat.le_of_ble_eq_true rfl, Nat.le_of_ble_eq_true rfl⟩ (Nat.le_of_ble_eq_true rfl) ⟨Nat.le_of_ble_eq_true rfl, Nat.le_of_ble_eq_true rfl⟩ gT dT_behindLine_73 (fun H locs hP hD hS => ?_)
          refine lv_istore_n (lv' := [(3, .int (dn_digitAt f (x + 4))), (2, .int (dn_rowAt f x)), (0, .ref (al 5)), (1, .int x)]) hx hb dT_behindLine_76 rfl hl (by decide) rfl (fun ls hl => ?_)
          refine lv_iload_n hx hb dT_behindLine_77 rfl (lv_at hl 0 rfl) ?_
          refine lv_iload_n hx hb dT_behindLine_78 rfl (lv_at hl 1 rfl) ?_
          refine lv_iconst (v := 2) hx hb dT_behindLine_79 (by decide) ?_
          refine lv_icmp_eq (tgt := 88) hx hb dT_behindLine_80 (by decide) (fun c_80 => ?_) (fun c_80 => ?_)
          · skip
            refine lv_bipush (v := 9) hx hb dT_behindLine_88 (by decide) ?_
            refine lv_goto (tgt := 95) hx hb dT_behindLine_90 (by decide) ?_
            refine cl_T_32 C hP hD hS hl.1 ⟨Nat.le_of_ble_eq_true rfl, Nat.le_of_ble_eq_true rfl⟩ (Nat.le_of_ble_eq_true rfl) ⟨Nat.le_of_ble_eq_true rfl, Nat.le_of_ble_eq_true rfl⟩ dT_behindLine_95 (fun H locs hP hD hS => ?_)
            refine lv_if_ne (tgt := 106) hx hb dT_behindLine_98 (by decide) (fun c_98 => ?_) (fun c_98 => ?_)
            · skip
              refine lv_iload_n hx hb dT_behindLine_106 rfl (lv_at hl 1 rfl) ?_
              refine lv_iconst (v := 2) hx hb dT_behindLine_107 (by decide) ?_
              refine lv_icmp_ne (tgt := 130) hx hb dT_behindLine_108 (by decide) (fun c_108 => fr_no c_80 c_108) (fun c_108 => ?_)
              refine lv_iload_n hx hb dT_behindLine_111 rfl (lv_at hl 0 rfl) ?_
              refine lv_if_eq (tgt := 130) hx hb dT_behindLine_112 (by decide) (fun c_112 => ?_) (fun c_112 => ?_)
              · skip
                refine lv_iconst (v := 0) hx hb dT_behindLine_130 (by decide) ?_
                refine lv_istore (lv' := [(4, .int 0), (3, .int (dn_digitAt f (x + 4))), (2, .int (dn_rowAt f x)), (0, .ref (al 5)), (1, .int x)]) hx hb dT_behindLine_131 hl (by decide) rfl (fun ls hl => ?_)
                refine lv_iload_n hx hb dT_behindLine_133 rfl (lv_at hl 4 rfl) ?_
                refine lv_iload hx hb dT_behindLine_134 (lv_at hl 0 rfl) ?_
                refine lv_if_eq (tgt := 144) hx hb dT_behindLine_136 (by decide) (fun c_136 => ?_) (fun c_136 => absurd c_136 (by decide))
                refine lv_iconst (v := 5) hx hb dT_behindLine_144 (by decide) ?_
                refine lv_iadd hx hb dT_behindLine_145 ?_
                refine lv_istore (lv' := [(5, .int (x + 5)), (4, .int 0), (3, .int (dn_digitAt f (x + 4))), (2, .int (dn_rowAt f x)), (0, .ref (al 5)), (1, .int x)]) hx hb dT_behindLine_146 hl (by decide) rfl (fun ls hl => ?_)
                refine lv_aload_n hx hb dT_behindLine_148 rfl (lv_at hl 4 rfl) ?_
                refine lv_iload hx hb dT_behindLine_149 (lv_at hl 0 rfl) ?_
                refine cl_T_26 C hP hD hS hl.1 ⟨Nat.le_of_ble_eq_true rfl, Nat.le_of_ble_eq_true rfl⟩ (Nat.le_of_ble_eq_true rfl) ⟨Nat.le_of_ble_eq_true rfl, Nat.le_of_ble_eq_true rfl⟩ gT dT_behindLine_151 (fun H locs hP hD hS => ?_)
                refine lv_bipush (v := 10) hx hb dT_behindLine_154 (by decide) ?_
                refine lv_icmp_ne (tgt := 166) hx hb dT_behindLine_156 (by decide) (fun c_156 => ?_) (fun c_156 => ?_)
                · skip
                  refine lv_iconst (v := (-1)) hx hb dT_behindLine_166 (by decide) ?_
                  refine lv_iload hx hb dT_behindLine_167 (lv_at hl 0 rfl) ?_
                  refine lv_isub hx hb dT_behindLine_169 ?_
                  have hd_ : dn_behind f x = (-1) - (x + 5) := by rw [dn_behind, if_neg c_8, if_pos c_24, if_neg c_44, if_pos c_61, if_pos c_80, if_neg c_98, if_pos c_112, if_neg c_156]
                  exact fr_iret C hP hD hS hd_.symm dT_behindLine_170
                · skip
                  refine lv_iload hx hb dT_behindLine_159 (lv_at hl 0 rfl) ?_
                  refine lv_iconst (v := 1) hx hb dT_behindLine_161 (by decide) ?_
                  refine lv_iadd hx hb dT_behindLine_162 ?_
                  refine lv_goto (tgt := 170) hx hb dT_behindLine_163 (by decide) ?_
                  have hd_ : dn_behind f x = (x + 5) + 1 := by rw [dn_behind, if_neg c_8, if_pos c_24, if_neg c_44, if_pos c_61, if_pos c_80, if_neg c_98, if_pos c_112, if_pos c_156]
                  exact fr_iret C hP hD hS hd_.symm dT_behindLine_170
              · skip
                refine lv_aload_n hx hb dT_behindLine_115 rfl (lv_at hl 2 rfl) ?_
                refine lv_iload_n hx hb dT_behindLine_116 rfl (lv_at hl 3 rfl) ?_
                refine lv_iconst (v := 5) hx hb dT_behindLine_117 (by decide) ?_
                refine lv_iadd hx hb dT_behindLine_118 ?_
                refine cl_T_29 C hP hD hS hl.1 ⟨Nat.le_of_ble_eq_true rfl, Nat.le_of_ble_eq_true rfl⟩ (Nat.le_of_ble_eq_true rfl) ⟨Nat.le_of_ble_eq_true rfl, Nat.le_of_ble_eq_true rfl⟩ gT dT_behindLine_119 (fun H locs hP hD hS => ?_)
                refine lv_iconst (v := (-1)) hx hb dT_behindLine_122 (by decide) ?_
                refine lv_icmp_eq (tgt := 130) hx hb dT_behindLine_123 (by decide) (fun c_123 => ?_) (fun c_123 => ?_)
                · skip
                  refine lv_iconst (v := 0) hx hb dT_behindLine_130 (by decide) ?_
                  refine lv_istore (lv' := [(4, .int 0), (3, .int (dn_digitAt f (x + 4))), (2, .int (dn_rowAt f x)), (0, .ref (al 5)), (1, .int x)]) hx hb dT_behindLine_131 hl (by decide) rfl (fun ls hl => ?_)
                  refine lv_iload_n hx hb dT_behindLine_133 rfl (lv_at hl 4 rfl) ?_
                  refine lv_iload hx hb dT_behindLine_134 (lv_at hl 0 rfl) ?_
                  refine lv_if_eq (tgt := 144) hx hb dT_behindLine_136 (by decide) (fun c_136 => ?_) (fun c_136 => absurd c_136 (by decide))
                  refine lv_iconst (v := 5) hx hb dT_behindLine_144 (by decide) ?_
                  refine lv_iadd hx hb dT_behindLine_145 ?_
                  refine lv_istore (lv' := [(5, .int (x + 5)), (4, .int 0), (3, .int (dn_digitAt f (x + 4))), (2, .int (dn_rowAt f x)), (0, .ref (al 5)), (1, .int x)]) hx hb dT_behindLine_146 hl (by decide) rfl (fun ls hl => ?_)
                  refine lv_aload_n hx hb dT_behindLine_148 rfl (lv_at hl 4 rfl) ?_
                  refine lv_iload hx hb dT_behindLine_149 (lv_at hl 0 rfl) ?_
                  refine cl_T_26 C hP hD hS hl.1 ⟨Nat.le_of_ble_eq_true rfl, Nat.le_of_ble_eq_true rfl⟩ (Nat.le_of_ble_eq_true rfl) ⟨Nat.le_of_ble_eq_true rfl, Nat.le_of_ble_eq_true rfl⟩ gT dT_behindLine_151 (fun H locs hP hD hS => ?_)
                  refine lv_bipush (v := 10) hx hb dT_behindLine_154 (by decide) ?_
                  refine lv_icmp_ne (tgt := 166) hx hb dT_behindLine_156 (by decide) (fun c_156 => ?_) (fun c_156 => ?_)
                  · skip
                    refine lv_iconst (v := (-1)) hx hb dT_behindLine_166 (by decide) ?_
                    refine lv_iload hx hb dT_behindLine_167 (lv_at hl 0 rfl) ?_
                    refine lv_isub hx hb dT_behindLine_169 ?_
                    have hd_ : dn_behind f x = (-1) - (x + 5) := by rw [dn_behind, if_neg c_8, if_pos c_24, if_neg c_44, if_pos c_61, if_pos c_80, if_neg c_98, if_neg c_112, if_pos c_123, if_neg c_156]
                    exact fr_iret C hP hD hS hd_.symm dT_behindLine_170
                  · skip
                    refine lv_iload hx hb dT_behindLine_159 (lv_at hl 0 rfl) ?_
                    refine lv_iconst (v := 1) hx hb dT_behindLine_161 (by decide) ?_
                    refine lv_iadd hx hb dT_behindLine_162 ?_
                    refine lv_goto (tgt := 170) hx hb dT_behindLine_163 (by decide) ?_
                    have hd_ : dn_behind f x = (x + 5) + 1 := by rw [dn_behind, if_neg c_8, if_pos c_24, if_neg c_44, if_pos c_61, if_pos c_80, if_neg c_98, if_neg c_112, if_pos c_123, if_pos c_156]
                    exact fr_iret C hP hD hS hd_.symm dT_behindLine_170
                · skip
                  refine lv_iconst (v := 1) hx hb dT_behindLine_126 (by decide) ?_
                  refine lv_goto (tgt := 131) hx hb dT_behindLine_127 (by decide) ?_
                  refine lv_istore (lv' := [(4, .int 1), (3, .int (dn_digitAt f (x + 4))), (2, .int (dn_rowAt f x)), (0, .ref (al 5)), (1, .int x)]) hx hb dT_behindLine_131 hl (by decide) rfl (fun ls hl => ?_)
                  refine lv_iload_n hx hb dT_behindLine_133 rfl (lv_at hl 4 rfl) ?_
                  refine lv_iload hx hb dT_behindLine_134 (lv_at hl 0 rfl) ?_
                  refine lv_if_eq (tgt := 144) hx hb dT_behindLine_136 (by decide) (fun c_136 => absurd c_136 (by decide)) (fun c_136 => ?_)
                  refine lv_bipush (v := 6) hx hb dT_behindLine_139 (by decide) ?_
                  refine lv_goto (tgt := 145) hx hb dT_behindLine_141 (by decide) ?_
                  refine lv_iadd hx hb dT_behindLine_145 ?_
                  refine lv_istore (lv' := [(5, .int (x + 6)), (4, .int 1), (3, .int (dn_digitAt f (x + 4))), (2, .int (dn_rowAt f x)), (0, .ref (al 5)), (1, .int x)]) hx hb dT_behindLine_146 hl (by decide) rfl (fun ls hl => ?_)
                  refine lv_aload_n hx hb dT_behindLine_148 rfl (lv_at hl 4 rfl) ?_
                  refine lv_iload hx hb dT_behindLine_149 (lv_at hl 0 rfl) ?_
                  refine cl_T_26 C hP hD hS hl.1 ⟨Nat.le_of_ble_eq_true rfl, Nat.le_of_ble_eq_true rfl⟩ (Nat.le_of_ble_eq_true rfl) ⟨Nat.le_of_ble_eq_true rfl, Nat.le_of_ble_eq_true rfl⟩ gT dT_behindLine_151 (fun H locs hP hD hS => ?_)
                  refine lv_bipush (v := 10) hx hb dT_behindLine_154 (by decide) ?_
                  refine lv_icmp_ne (tgt := 166) hx hb dT_behindLine_156 (by decide) (fun c_156 => ?_) (fun c_156 => ?_)
                  · skip
                    refine lv_iconst (v := (-1)) hx hb dT_behindLine_166 (by decide) ?_
                    refine lv_iload hx hb dT_behindLine_167 (lv_at hl 0 rfl) ?_
                    refine lv_isub hx hb dT_behindLine_169 ?_
                    have hd_ : dn_behind f x = (-1) - (x + 6) := by rw [dn_behind, if_neg c_8, if_pos c_24, if_neg c_44, if_pos c_61, if_pos c_80, if_neg c_98, if_neg c_112, if_neg c_123, if_neg c_156]
                    exact fr_iret C hP hD hS hd_.symm dT_behindLine_170
                  · skip
                    refine lv_iload hx hb dT_behindLine_159 (lv_at hl 0 rfl) ?_
                    refine lv_iconst (v := 1) hx hb dT_behindLine_161 (by decide) ?_
                    refine lv_iadd hx hb dT_behindLine_162 ?_
                    refine lv_goto (tgt := 170) hx hb dT_behindLine_163 (by decide) ?_
                    have hd_ : dn_behind f x = (x + 6) + 1 := by rw [dn_behind, if_neg c_8, if_pos c_24, if_neg c_44, if_pos c_61, if_pos c_80, if_neg c_98, if_neg c_112, if_neg c_123, if_pos c_156]
                    exact fr_iret C hP hD hS hd_.symm dT_behindLine_170
            · skip
              refine lv_bipush (v := (-5)) hx hb dT_behindLine_101 (by decide) ?_
              refine lv_iload_n hx hb dT_behindLine_103 rfl (lv_at hl 3 rfl) ?_
              refine lv_isub hx hb dT_behindLine_104 ?_
              have hd_ : dn_behind f x = (-5) - x := by rw [dn_behind, if_neg c_8, if_pos c_24, if_neg c_44, if_pos c_61, if_pos c_80, if_pos c_98]
              exact fr_iret C hP hD hS hd_.symm dT_behindLine_105
          · skip
            refine lv_iload_n hx hb dT_behindLine_83 rfl (lv_at hl 1 rfl) ?_
            refine lv_iconst (v := 3) hx hb dT_behindLine_84 (by decide) ?_
            refine lv_icmp_ne (tgt := 93) hx hb dT_behindLine_85 (by decide) (fun c_85 => ?_) (fun c_85 => ?_)
            · skip
              refine lv_bipush (v := 7) hx hb dT_behindLine_93 (by decide) ?_
              refine cl_T_32 C hP hD hS hl.1 ⟨Nat.le_of_ble_eq_true rfl, Nat.le_of_ble_eq_true rfl⟩ (Nat.le_of_ble_eq_true rfl) ⟨Nat.le_of_ble_eq_true rfl, Nat.le_of_ble_eq_true rfl⟩ dT_behindLine_95 (fun H locs hP hD hS => ?_)
              refine lv_if_ne (tgt := 106) hx hb dT_behindLine_98 (by decide) (fun c_98 => ?_) (fun c_98 => ?_)
              · skip
                refine lv_iload_n hx hb dT_behindLine_106 rfl (lv_at hl 1 rfl) ?_
                refine lv_iconst (v := 2) hx hb dT_behindLine_107 (by decide) ?_
                refine lv_icmp_ne (tgt := 130) hx hb dT_behindLine_108 (by decide) (fun c_108 => ?_) (fun c_108 => fr_no c_108 c_80)
                refine lv_iconst (v := 0) hx hb dT_behindLine_130 (by decide) ?_
                refine lv_istore (lv' := [(4, .int 0), (3, .int (dn_digitAt f (x + 4))), (2, .int (dn_rowAt f x)), (0, .ref (al 5)), (1, .int x)]) hx hb dT_behindLine_131 hl (by decide) rfl (fun ls hl => ?_)
                refine lv_iload_n hx hb dT_behindLine_133 rfl (lv_at hl 4 rfl) ?_
                refine lv_iload hx hb dT_behindLine_134 (lv_at hl 0 rfl) ?_
                refine lv_if_eq (tgt := 144) hx hb dT_behindLine_136 (by decide) (fun c_136 => ?_) (fun c_136 => absurd c_136 (by decide))
                refine lv_iconst (v := 5) hx hb dT_behindLine_144 (by decide) ?_
                refine lv_iadd hx hb dT_behindLine_145 ?_
                refine lv_istore (lv' := [(5, .int (x + 5)), (4, .int 0), (3, .int (dn_digitAt f (x + 4))), (2, .int (dn_rowAt f x)), (0, .ref (al 5)), (1, .int x)]) hx hb dT_behindLine_146 hl (by decide) rfl (fun ls hl => ?_)
                refine lv_aload_n hx hb dT_behindLine_148 rfl (lv_at hl 4 rfl) ?_
                refine lv_iload hx hb dT_behindLine_149 (lv_at hl 0 rfl) ?_
                refine cl_T_26 C hP hD hS hl.1 ⟨Nat.le_of_ble_eq_true rfl, Nat.le_of_ble_eq_true rfl⟩ (Nat.le_of_ble_eq_true rfl) ⟨Nat.le_of_ble_eq_true rfl, Nat.le_of_ble_eq_true rfl⟩ gT dT_behindLine_151 (fun H locs hP hD hS => ?_)
                refine lv_bipush (v := 10) hx hb dT_behindLine_154 (by decide) ?_
                refine lv_icmp_ne (tgt := 166) hx hb dT_behindLine_156 (by decide) (fun c_156 => ?_) (fun c_156 => ?_)
                · skip
                  refine lv_iconst (v := (-1)) hx hb dT_behindLine_166 (by decide) ?_
                  refine lv_iload hx hb dT_behindLine_167 (lv_at hl 0 rfl) ?_
                  refine lv_isub hx hb dT_behindLine_169 ?_
                  have hd_ : dn_behind f x = (-1) - (x + 5) := by rw [dn_behind, if_neg c_8, if_pos c_24, if_neg c_44, if_pos c_61, if_neg c_80, if_neg c_85, if_neg c_98, if_neg c_156]
                  exact fr_iret C hP hD hS hd_.symm dT_behindLine_170
                · skip
                  refine lv_iload hx hb dT_behindLine_159 (lv_at hl 0 rfl) ?_
                  refine lv_iconst (v := 1) hx hb dT_behindLine_161 (by decide) ?_
                  refine lv_iadd hx hb dT_behindLine_162 ?_
                  refine lv_goto (tgt := 170) hx hb dT_behindLine_163 (by decide) ?_
                  have hd_ : dn_behind f x = (x + 5) + 1 := by rw [dn_behind, if_neg c_8, if_pos c_24, if_neg c_44, if_pos c_61, if_neg c_80, if_neg c_85, if_neg c_98, if_pos c_156]
                  exact fr_iret C hP hD hS hd_.symm dT_behindLine_170
              · skip
                refine lv_bipush (v := (-5)) hx hb dT_behindLine_101 (by decide) ?_
                refine lv_iload_n hx hb dT_behindLine_103 rfl (lv_at hl 3 rfl) ?_
                refine lv_isub hx hb dT_behindLine_104 ?_
                have hd_ : dn_behind f x = (-5) - x := by rw [dn_behind, if_neg c_8, if_pos c_24, if_neg c_44, if_pos c_61, if_neg c_80, if_neg c_85, if_pos c_98]
                exact fr_iret C hP hD hS hd_.symm dT_behindLine_105
            · skip
              refine lv_bipush (v := 9) hx hb dT_behindLine_88 (by decide) ?_
              refine lv_goto (tgt := 95) hx hb dT_behindLine_90 (by decide) ?_
              refine cl_T_32 C hP hD hS hl.1 ⟨Nat.le_of_ble_eq_true rfl, Nat.le_of_ble_eq_true rfl⟩ (Nat.le_of_ble_eq_true rfl) ⟨Nat.le_of_ble_eq_true rfl, Nat.le_of_ble_eq_true rfl⟩ dT_behindLine_95 (fun H locs hP hD hS => ?_)
              refine lv_if_ne (tgt := 106) hx hb dT_behindLine_98 (by decide) (fun c_98 => ?_) (fun c_98 => ?_)
              · skip
                refine lv_iload_n hx hb dT_behindLine_106 rfl (lv_at hl 1 rfl) ?_
                refine lv_iconst (v := 2) hx hb dT_behindLine_107 (by decide) ?_
                refine lv_icmp_ne (tgt := 130) hx hb dT_behindLine_108 (by decide) (fun c_108 => ?_) (fun c_108 => fr_no c_108 c_80)
                refine lv_iconst (v := 0) hx hb dT_behindLine_130 (by decide) ?_
                refine lv_istore (lv' := [(4, .int 0), (3, .int (dn_digitAt f (x + 4))), (2, .int (dn_rowAt f x)), (0, .ref (al 5)), (1, .int x)]) hx hb dT_behindLine_131 hl (by decide) rfl (fun ls hl => ?_)
                refine lv_iload_n hx hb dT_behindLine_133 rfl (lv_at hl 4 rfl) ?_
                refine lv_iload hx hb dT_behindLine_134 (lv_at hl 0 rfl) ?_
                refine lv_if_eq (tgt := 144) hx hb dT_behindLine_136 (by decide) (fun c_136 => ?_) (fun c_136 => absurd c_136 (by decide))
                refine lv_iconst (v := 5) hx hb dT_behindLine_144 (by decide) ?_
                refine lv_iadd hx hb dT_behindLine_145 ?_
                refine lv_istore (lv' := [(5, .int (x + 5)), (4, .int 0), (3, .int (dn_digitAt f (x + 4))), (2, .int (dn_rowAt f x)), (0, .ref (al 5)), (1, .int x)]) hx hb dT_behindLine_146 hl (by decide) rfl (fun ls hl => ?_)
                refine lv_aload_n hx hb dT_behindLine_148 rfl (lv_at hl 4 rfl) ?_
                refine lv_iload hx hb dT_behindLine_149 (lv_at hl 0 rfl) ?_
                refine cl_T_26 C hP hD hS hl.1 ⟨Nat.le_of_ble_eq_true rfl, Nat.le_of_ble_eq_true rfl⟩ (Nat.le_of_ble_eq_true rfl) ⟨Nat.le_of_ble_eq_true rfl, Nat.le_of_ble_eq_true rfl⟩ gT dT_behindLine_151 (fun H locs hP hD hS => ?_)
                refine lv_bipush (v := 10) hx hb dT_behindLine_154 (by decide) ?_
                refine lv_icmp_ne (tgt := 166) hx hb dT_behindLine_156 (by decide) (fun c_156 => ?_) (fun c_156 => ?_)
                · skip
                  refine lv_iconst (v := (-1)) hx hb dT_behindLine_166 (by decide) ?_
                  refine lv_iload hx hb dT_behindLine_167 (lv_at hl 0 rfl) ?_
                  refine lv_isub hx hb dT_behindLine_169 ?_
                  have hd_ : dn_behind f x = (-1) - (x + 5) := by rw [dn_behind, if_neg c_8, if_pos c_24, if_neg c_44, if_pos c_61, if_neg c_80, if_pos c_85, if_neg c_98, if_neg c_156]
                  exact fr_iret C hP hD hS hd_.symm dT_behindLine_170
                · skip
                  refine lv_iload hx hb dT_behindLine_159 (lv_at hl 0 rfl) ?_
                  refine lv_iconst (v := 1) hx hb dT_behindLine_161 (by decide) ?_
                  refine lv_iadd hx hb dT_behindLine_162 ?_
                  refine lv_goto (tgt := 170) hx hb dT_behindLine_163 (by decide) ?_
                  have hd_ : dn_behind f x = (x + 5) + 1 := by rw [dn_behind, if_neg c_8, if_pos c_24, if_neg c_44, if_pos c_61, if_neg c_80, if_pos c_85, if_neg c_98, if_pos c_156]
                  exact fr_iret C hP hD hS hd_.symm dT_behindLine_170
              · skip
                refine lv_bipush (v := (-5)) hx hb dT_behindLine_101 (by decide) ?_
                refine lv_iload_n hx hb dT_behindLine_103 rfl (lv_at hl 3 rfl) ?_
                refine lv_isub hx hb dT_behindLine_104 ?_
                have hd_ : dn_behind f x = (-5) - x := by rw [dn_behind, if_neg c_8, if_pos c_24, if_neg c_44, if_pos c_61, if_neg c_80, if_pos c_85, if_pos c_98]
                exact fr_iret C hP hD hS hd_.symm dT_behindLine_105
        · skip
          refine lv_bipush (v := (-4)) hx hb dT_behindLine_64 (by decide) ?_
          refine lv_iload_n hx hb dT_behindLine_66 rfl (lv_at hl 2 rfl) ?_
          refine lv_isub hx hb dT_behindLine_67 ?_
          have hd_ : dn_behind f x = (-4) - x := by rw [dn_behind, if_neg c_8, if_pos c_24, if_neg c_44, if_neg c_61]
          exact fr_iret C hP hD hS hd_.symm dT_behindLine_68
      · skip
        refine lv_bipush (v := (-3)) hx hb dT_behindLine_47 (by decide) ?_
        refine lv_iload_n hx hb dT_behindLine_49 rfl (lv_at hl 2 rfl) ?_
        refine lv_isub hx hb dT_behindLine_50 ?_
        have hd_ : dn_behind f x = (-3) - x := by rw [dn_behind, if_neg c_8, if_pos c_24, if_pos c_44]
        exact fr_iret C hP hD hS hd_.symm dT_behindLine_51
    · skip
      refine lv_bipush (v := (-2)) hx hb dT_behindLine_27 (by decide) ?_
      refine lv_iload_n hx hb dT_behindLine_29 rfl (lv_at hl 2 rfl) ?_
      refine lv_isub hx hb dT_behindLine_30 ?_
      have hd_ : dn_behind f x = (-2) - x := by rw [dn_behind, if_neg c_8, if_neg c_24]
      exact fr_iret C hP hD hS hd_.symm dT_behindLine_31
  · skip
    refine lv_iconst (v := (-1)) hx hb dT_behindLine_11 (by decide) ?_
    refine lv_iload_n hx hb dT_behindLine_12 rfl (lv_at hl 2 rfl) ?_
    refine lv_isub hx hb dT_behindLine_13 ?_
    have hd_ : dn_behind f x = (-1) - x := by rw [dn_behind, if_pos c_8]
    exact fr_iret C hP hD hS hd_.symm dT_behindLine_14

theorem cl_T_19 {p : Program} {l : Launch} {e : Env} {R : Room} {s : State} {m : MethodId} {args : Array Value} {below : List Frame} {meth : Method} {c : Code} {H : Heap} {locs : List Loc} {cells slots : Nat} {Q : State → Prop} {D : va_G} {A : Nat → Prop} {cc : ByteArray} {nL pc : Nat} {ret : Option FieldType} {hh : List ExceptionTableEntry} {ls : Array Slot} {rest : List Value} {ka : Nat → ClassId} {al : Nat → Nat} {f : Nat → Nat → Int32} {Z : va_W} {x : Int32} (C : fr_Cx p s m args meth c "FragileRules$Text" cc nL ret hh fr_tbl fr_nw D vwCl (fr_ty ka) A) (hP : va_P D vwCl (fr_cw ka al f Z) H) (hD : va_D A (fr_cw ka al f Z)) (hS : va_S A s.heap H locs) (hsz : ls.size = nL) (hR : 2 + 1 ≤ R.frames ∧ 8 + (6 + 11) + 43 ≤ R.locals) (hw : (rest.map fun v => v.category).sum ≤ 8) (hf : cells + 0 ≤ R.cells ∧ slots + 0 ≤ R.slots) (gT : 0 ≤ (f 0 5).toInt ∧ (f 0 5).toInt ≤ 200) (hdg : decode cc pc = .ok (.invokevirtual 19, 3)) (kk : ∀ (H : Heap) (locs : List Loc), va_P D vwCl (fr_cw ka al f Z) H → va_D A (fr_cw ka al f Z) → va_S A s.heap H locs → W p l e R s m args below meth c H locs (cells + 0) (slots + 0) Q (F0 m (pc + 3) ls (.int (dn_behind f x) :: rest))) : W p l e R s m args below meth c H locs cells slots Q (F0 m pc ls (.int x :: .ref (al 5) :: rest)) :=
  fr_callVi (As := [.int x]) C hP hD hS (c_behind l D ka al Z f x gT) (cwV 1 C.2.2.2.2.1 (fr_goodV ml_T_19 mi_behind msel_behind mini_T mc_behind) rfl rfl rfl (by decide +kernel) hR) (va_recv C.2.2.2.2.2.1 hP (ci := 3) (q0 := 5) rfl rfl) rfl hsz hw hdg hf kk
def dn_wrongPlace_4 : Nat → (Nat → Nat → Int32) → (Int32) → (Int32) → Int32
  | 0, _, _, _ => 0
  | n + 1, f, x1, x2 => if 200 ≤ x2 then (-1) else (if (f 0 5) ≤ x1 then (-1) else (if 0 ≤ (dn_behind f x1) then (dn_wrongPlace_4 n f (dn_behind f x1) (x2 + 1)) else ((-1) - (dn_behind f x1))))
set_option maxHeartbeats 4000000 in
set_option maxRecDepth 100000 in
theorem k_wrongPlace_4 {p : Program} {l : Launch} {e : Env} {s : State} {m : MethodId} {below : List Frame} {meth : Method} {c : Code} {D : va_G} {A : Nat → Prop} {ka : Nat → ClassId} {al : Nat → Nat} {Z : va_W} {f : Nat → Nat → Int32} (C : fr_Cx p s m ([.ref (al 5)] : List Value).toArray meth c "FragileRules$Text" prog_3_method_2_code 4 (some .int) [] fr_tbl fr_nw D vwCl (fr_ty ka) A) (gT : 0 ≤ (f 0 5).toInt ∧ (f 0 5).toInt ≤ 200) :
    ∀ (n : Nat) (x1 : Int32) (x2 : Int32) (H : Heap) (locs : List Loc) (ls : Array Slot), 0 ≤ x2.toInt ∧ x2.toInt ≤ 200 ∧ 200 < x2.toInt + n → va_P D vwCl (fr_cw ka al f Z) H → va_D A (fr_cw ka al f Z) → va_S A s.heap H locs → lv_has ls 4 [(0, .ref (al 5)), (1, .int x1), (2, .int x2)] → W p l e { frames := 3, cells := 0, slots := 0, locals := 68 } s m ([.ref (al 5)] : List Value).toArray below meth c H locs 0 0 (MQ below (fr_Qi D vwCl (fr_ty ka) (dn_wrongPlace_4 n f x1 x2) (fr_cw ka al f Z) A) ([.ref (al 5)] : List Value).toArray s 0 0 A) (F0 m 4 ls []) := by
  obtain ⟨hx, hb, hml, hown, ht, hK, hlocks, hr, hA, hN, hZ, hEx⟩ := id C
  intro n
  induction n with
  | zero =>
    intro x1 x2 H locs ls hm hP hD hS hl
    exact absurd hm (by omega)
  | succ n ih =>
    intro x1 x2 H locs ls hm hP hD hS hl
    refine lv_iload_n hx hb dT_wrongPlace_4 rfl (lv_at hl 2 rfl) ?_
    refine lv_sipush (v := 200) hx hb dT_wrongPlace_5 (by decide) ?_
    refine lv_icmp_ge (tgt := 41) hx hb dT_wrongPlace_8 (by decide) (fun c_8 => ?_) (fun c_8 => ?_)
    · skip
      refine lv_iconst (v := (-1)) hx hb dT_wrongPlace_41 (by decide) ?_
      have hd_ : dn_wrongPlace_4 (n + 1) f x1 x2 = (-1) := by rw [dn_wrongPlace_4, if_pos c_8]
      exact fr_iret C hP hD hS hd_.symm dT_wrongPlace_42
    · skip
      refine lv_iload_n hx hb dT_wrongPlace_11 rfl (lv_at hl 1 rfl) ?_
      refine lv_aload_n hx hb dT_wrongPlace_12 rfl (lv_at hl 0 rfl) ?_
      refine gf_T_15 C hP dT_wrongPlace_13 ?_
      refine lv_icmp_ge (tgt := 41) hx hb dT_wrongPlace_16 (by decide) (fun c_16 => ?_) (fun c_16 => ?_)
      · skip
        refine lv_iconst (v := (-1)) hx hb dT_wrongPlace_41 (by decide) ?_
        have hd_ : dn_wrongPlace_4 (n + 1) f x1 x2 = (-1) := by rw [dn_wrongPlace_4, if_neg c_8, if_pos c_16]
        exact fr_iret C hP hD hS hd_.symm dT_wrongPlace_42
      · skip
        refine lv_aload_n hx hb dT_wrongPlace_19 rfl (lv_at hl 0 rfl) ?_
        refine lv_iload_n hx hb dT_wrongPlace_20 rfl (lv_at hl 1 rfl) ?_
        refine cl_T_19 C hP hD hS hl.1 ⟨Nat.le_of_ble_eq_true rfl, Nat.le_of_ble_eq_true rfl⟩ (Nat.le_of_ble_eq_true rfl) ⟨Nat.le_of_ble_eq_true rfl, Nat.le_of_ble_eq_true rfl⟩ gT dT_wrongPlace_21 (fun H locs hP hD hS => ?_)
        refine lv_istore_n (lv' := [(3, .int (dn_behind f x1)), (0, .ref (al 5)), (1, .int x1), (2, .int x2)]) hx hb dT_wrongPlace_24 rfl hl (by decide) rfl (fun ls hl => ?_)
        refine lv_iload_n hx hb dT_wrongPlace_25 rfl (lv_at hl 0 rfl) ?_
        refine lv_if_ge (tgt := 33) hx hb dT_wrongPlace_26 (by decide) (fun c_26 => ?_) (fun c_26 => ?_)
        · skip
          refine lv_iload_n hx hb dT_wrongPlace_33 rfl (lv_at hl 0 rfl) ?_
          refine lv_istore_n (lv' := [(1, .int (dn_behind f x1)), (3, .int (dn_behind f x1)), (0, .ref (al 5)), (2, .int x2)]) hx hb dT_wrongPlace_34 rfl hl (by decide) rfl (fun ls hl => ?_)
          refine lv_iinc (v := x2 + 1) (lv' := [(2, .int (x2 + 1)), (1, .int (dn_behind f x1)), (3, .int (dn_behind f x1)), (0, .ref (al 5))]) hx hb dT_wrongPlace_35 hl (k := 3) rfl rfl (by decide) rfl (fun ls hl => ?_)
          refine lv_goto (tgt := 4) hx hb dT_wrongPlace_38 (by decide) ?_
          have hd_ : dn_wrongPlace_4 (n + 1) f x1 x2 = dn_wrongPlace_4 n f (dn_behind f x1) (x2 + 1) := by rw [dn_wrongPlace_4, if_neg c_8, if_neg c_16, if_pos c_26]
          rw [hd_]
          exact ih (dn_behind f x1) (x2 + 1) H locs ls (fr_step (B := 200) rfl c_8 hm) hP hD hS (lv_sub hl [3, 1, 0] rfl)
        · skip
          refine lv_iconst (v := (-1)) hx hb dT_wrongPlace_29 (by decide) ?_
          refine lv_iload_n hx hb dT_wrongPlace_30 rfl (lv_at hl 0 rfl) ?_
          refine lv_isub hx hb dT_wrongPlace_31 ?_
          have hd_ : dn_wrongPlace_4 (n + 1) f x1 x2 = (-1) - (dn_behind f x1) := by rw [dn_wrongPlace_4, if_neg c_8, if_neg c_16, if_neg c_26]
          exact fr_iret C hP hD hS hd_.symm dT_wrongPlace_32
def dn_wrongPlace (f : Nat → Nat → Int32)  : Int32 := dn_wrongPlace_4 201 f 0 0
set_option maxHeartbeats 4000000 in
set_option maxRecDepth 100000 in
theorem c_wrongPlace (l : Launch) (D : va_G) (ka : Nat → ClassId) (al : Nat → Nat) (Z : va_W) (f : Nat → Nat → Int32)  (gT : 0 ≤ (f 0 5).toInt ∧ (f 0 5).toInt ≤ 200) : fr_Mi l y_wrongPlace (.code y_wrongPlace prog_3_method_2_code 4 (some .int) :: fr_tbl) { frames := 3, cells := 0, slots := 0, locals := 68 } D vwCl (fr_ty ka) fr_nw [.ref (al 5)] (fr_cw ka al f Z) (dn_wrongPlace f) (fr_cw ka al f Z) 0 0 := by
  refine fr_Mi.of (by decide) (Nat.le_of_ble_eq_true rfl) ?_
  intro p e s m below meth c A H locs ls C hP hD hS hl
  obtain ⟨hx, hb, hml, hown, ht, hK, hlocks, hr, hA, hN, hZ, hEx⟩ := id C
  have hl : lv_has ls 4 [(0, .ref (al 5))] := hl
  refine lv_iconst (v := 0) hx hb dT_wrongPlace_0 (by decide) ?_
  refine lv_istore_n (lv' := [(1, .int 0), (0, .ref (al 5))]) hx hb dT_wrongPlace_1 rfl hl (by decide) rfl (fun ls hl => ?_)
  refine lv_iconst (v := 0) hx hb dT_wrongPlace_2 (by decide) ?_
  refine lv_istore_n (lv' := [(2, .int 0), (1, .int 0), (0, .ref (al 5))]) hx hb dT_wrongPlace_3 rfl hl (by decide) rfl (fun ls hl => ?_)
  have hd_ : dn_wrongPlace f = dn_wrongPlace_4 201 f 0 0 := by rw [dn_wrongPlace]
  rw [hd_]
  exact k_wrongPlace_4 C gT 201 0 0 H locs ls (⟨by decide, by decide, by decide⟩) hP hD hS (lv_sub hl [2, 1, 0] rfl)

def dn_lineCount_4 : Nat → (Nat → Nat → Int32) → (Int32) → (Int32) → Int32
  | 0, _, _, _ => 0
  | n + 1, f, x1, x2 => if (f 0 5) ≤ x2 then x1 else (if (f 10 x2.toNatClampNeg) = 10 then (dn_lineCount_4 n f (x1 + 1) (x2 + 1)) else (dn_lineCount_4 n f x1 (x2 + 1)))
set_option maxHeartbeats 4000000 in
set_option maxRecDepth 100000 in
theorem k_lineCount_4 {p : Program} {l : Launch} {e : Env} {s : State} {m : MethodId} {below : List Frame} {meth : Method} {c : Code} {D : va_G} {A : Nat → Prop} {ka : Nat → ClassId} {al : Nat → Nat} {Z : va_W} {f : Nat → Nat → Int32} (C : fr_Cx p s m ([.ref (al 5)] : List Value).toArray meth c "FragileRules$Text" prog_3_method_3_code 3 (some .int) [] fr_tbl fr_nw D vwCl (fr_ty ka) A) (gT : 0 ≤ (f 0 5).toInt ∧ (f 0 5).toInt ≤ 200) :
    ∀ (n : Nat) (x1 : Int32) (x2 : Int32) (H : Heap) (locs : List Loc) (ls : Array Slot), 0 ≤ x2.toInt ∧ x2.toInt ≤ (f 0 5).toInt ∧ (f 0 5).toInt < x2.toInt + n → va_P D vwCl (fr_cw ka al f Z) H → va_D A (fr_cw ka al f Z) → va_S A s.heap H locs → lv_has ls 3 [(0, .ref (al 5)), (1, .int x1), (2, .int x2)] → W p l e { frames := 0, cells := 0, slots := 0, locals := 0 } s m ([.ref (al 5)] : List Value).toArray below meth c H locs 0 0 (MQ below (fr_Qi D vwCl (fr_ty ka) (dn_lineCount_4 n f x1 x2) (fr_cw ka al f Z) A) ([.ref (al 5)] : List Value).toArray s 0 0 A) (F0 m 4 ls []) := by
  obtain ⟨hx, hb, hml, hown, ht, hK, hlocks, hr, hA, hN, hZ, hEx⟩ := id C
  intro n
  induction n with
  | zero =>
    intro x1 x2 H locs ls hm hP hD hS hl
    exact absurd hm (by omega)
  | succ n ih =>
    intro x1 x2 H locs ls hm hP hD hS hl
    refine lv_iload_n hx hb dT_lineCount_4 rfl (lv_at hl 2 rfl) ?_
    refine lv_aload_n hx hb dT_lineCount_5 rfl (lv_at hl 0 rfl) ?_
    refine gf_T_15 C hP dT_lineCount_6 ?_
    refine lv_icmp_ge (tgt := 32) hx hb dT_lineCount_9 (by decide) (fun c_9 => ?_) (fun c_9 => ?_)
    · skip
      refine lv_iload_n hx hb dT_lineCount_32 rfl (lv_at hl 1 rfl) ?_
      have hd_ : dn_lineCount_4 (n + 1) f x1 x2 = x1 := by rw [dn_lineCount_4, if_pos c_9]
      exact fr_iret C hP hD hS hd_.symm dT_lineCount_33
    · skip
      refine lv_aload_n hx hb dT_lineCount_12 rfl (lv_at hl 0 rfl) ?_
      refine gf_T_9 C hP dT_lineCount_13 ?_
      refine lv_iload_n hx hb dT_lineCount_16 rfl (lv_at hl 2 rfl) ?_
      have hin_17 : vp_in x2 200 := by have q0 := fr_t4 c_9; have e0 := hm; have e1 := gT; skip; rw [vp_in_iff]; omega
      refine ald_10 C hP hin_17 dT_lineCount_17 ?_
      refine lv_bipush (v := 10) hx hb dT_lineCount_18 (by decide) ?_
      refine lv_icmp_ne (tgt := 26) hx hb dT_lineCount_20 (by decide) (fun c_20 => ?_) (fun c_20 => ?_)
      · skip
        refine lv_iinc (v := x2 + 1) (lv' := [(2, .int (x2 + 1)), (0, .ref (al 5)), (1, .int x1)]) hx hb dT_lineCount_26 hl (k := 2) rfl rfl (by decide) rfl (fun ls hl => ?_)
        refine lv_goto (tgt := 4) hx hb dT_lineCount_29 (by decide) ?_
        have hd_ : dn_lineCount_4 (n + 1) f x1 x2 = dn_lineCount_4 n f x1 (x2 + 1) := by rw [dn_lineCount_4, if_neg c_9, if_neg c_20]
        rw [hd_]
        exact ih x1 (x2 + 1) H locs ls (fr_step rfl c_9 hm) hP hD hS (lv_sub hl [1, 2, 0] rfl)
      · skip
        refine lv_iinc (v := x1 + 1) (lv' := [(1, .int (x1 + 1)), (0, .ref (al 5)), (2, .int x2)]) hx hb dT_lineCount_23 hl (k := 1) rfl rfl (by decide) rfl (fun ls hl => ?_)
        refine lv_iinc (v := x2 + 1) (lv' := [(2, .int (x2 + 1)), (1, .int (x1 + 1)), (0, .ref (al 5))]) hx hb dT_lineCount_26 hl (k := 2) rfl rfl (by decide) rfl (fun ls hl => ?_)
        refine lv_goto (tgt := 4) hx hb dT_lineCount_29 (by decide) ?_
        have hd_ : dn_lineCount_4 (n + 1) f x1 x2 = dn_lineCount_4 n f (x1 + 1) (x2 + 1) := by rw [dn_lineCount_4, if_neg c_9, if_pos c_20]
        rw [hd_]
        exact ih (x1 + 1) (x2 + 1) H locs ls (fr_step rfl c_9 hm) hP hD hS (lv_sub hl [2, 1, 0] rfl)
def dn_lineCount (f : Nat → Nat → Int32)  : Int32 := dn_lineCount_4 201 f 0 0
set_option maxHeartbeats 4000000 in
set_option maxRecDepth 100000 in
theorem c_lineCount (l : Launch) (D : va_G) (ka : Nat → ClassId) (al : Nat → Nat) (Z : va_W) (f : Nat → Nat → Int32)  (gT : 0 ≤ (f 0 5).toInt ∧ (f 0 5).toInt ≤ 200) : fr_Mi l y_lineCount (.code y_lineCount prog_3_method_3_code 3 (some .int) :: fr_tbl) { frames := 0, cells := 0, slots := 0, locals := 0 } D vwCl (fr_ty ka) fr_nw [.ref (al 5)] (fr_cw ka al f Z) (dn_lineCount f) (fr_cw ka al f Z) 0 0 := by
  refine fr_Mi.of (by decide) (Nat.le_of_ble_eq_true rfl) ?_
  intro p e s m below meth c A H locs ls C hP hD hS hl
  obtain ⟨hx, hb, hml, hown, ht, hK, hlocks, hr, hA, hN, hZ, hEx⟩ := id C
  have hl : lv_has ls 3 [(0, .ref (al 5))] := hl
  refine lv_iconst (v := 0) hx hb dT_lineCount_0 (by decide) ?_
  refine lv_istore_n (lv' := [(1, .int 0), (0, .ref (al 5))]) hx hb dT_lineCount_1 rfl hl (by decide) rfl (fun ls hl => ?_)
  refine lv_iconst (v := 0) hx hb dT_lineCount_2 (by decide) ?_
  refine lv_istore_n (lv' := [(2, .int 0), (1, .int 0), (0, .ref (al 5))]) hx hb dT_lineCount_3 rfl hl (by decide) rfl (fun ls hl => ?_)
  have hd_ : dn_lineCount f = dn_lineCount_4 201 f 0 0 := by rw [dn_lineCount]
  rw [hd_]
  exact k_lineCount_4 C gT 201 0 0 H locs ls (fr_start gT (by decide)) hP hD hS (lv_sub hl [2, 1, 0] rfl)
theorem fr_lc {f : Nat → Nat → Int32} : ∀ (n : Nat) (x1 x2 : Int32), 0 ≤ x1.toInt → x1.toInt ≤ x2.toInt → (f 0 5).toInt ≤ 200 → 0 ≤ (dn_lineCount_4 n f x1 x2).toInt := by
  intro n
  induction n with
  | zero => intro x1 x2 h1 h2 h3; exact Int.le_refl _
  | succ n ih =>
    intro x1 x2 h1 h2 h3
    rw [dn_lineCount_4]
    split
    · exact h1
    · rename_i c1
      have q1 := fr_t4 c1
      have q2 := fr_add1 (x := x2) (by omega) (by omega)
      have q3 := fr_add1 (x := x1) h1 (by omega)
      split
      · exact ih _ _ (by omega) (by omega) h3
      · exact ih _ _ h1 (by omega) h3
theorem fr_rd {f : Nat → Nat → Int32} (gT : 0 ≤ (f 0 5).toInt ∧ (f 0 5).toInt ≤ 200) (gR : 0 ≤ (f 0 1).toInt ∧ (f 0 1).toInt ≤ 12) (c : ¬ 12 - f 0 1 < dn_lineCount f) : 0 ≤ (f 0 1).toInt ∧ (f 0 1).toInt + (dn_lineCount f).toInt ≤ 12 ∧ 0 ≤ (dn_lineCount f).toInt := by
  have h1 : 0 ≤ (dn_lineCount f).toInt := fr_lc 201 0 0 (Int.le_refl _) (Int.le_refl _) gT.2
  have h2 := fr_t2 c
  have h3 : (12 - f 0 1).toInt = 12 - (f 0 1).toInt := by
    rw [Int32.toInt_sub, show (12 : Int32).toInt = 12 from rfl, Int.bmod_def]
    split <;> omega
  omega
