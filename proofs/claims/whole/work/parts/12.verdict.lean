theorem cl_F_201 {p : Program} {l : Launch} {e : Env} {R : Room} {s : State} {m : MethodId} {args : Array Value} {below : List Frame} {meth : Method} {c : Code} {H : Heap} {locs : List Loc} {cells slots : Nat} {Q : State → Prop} {D : va_G} {A : Nat → Prop} {cc : ByteArray} {nL pc : Nat} {ret : Option FieldType} {hh : List ExceptionTableEntry} {ls : Array Slot} {rest : List Value} {ka : Nat → ClassId} {al : Nat → Nat} {f : Nat → Nat → Int32} {Z : va_W} {y : Int32} {u : Nat} {v : Nat} {x : Int32} (C : fr_Cx p s m args meth c "FragileRules" cc nL ret hh fr_tbl fr_nw D vwCl (fr_ty ka) A) (hP : va_P D vwCl (fr_cw ka al f Z) H) (hD : va_D A (fr_cw ka al f Z)) (hS : va_S A s.heap H locs) (hsz : ls.size = nL) (hR : 3 + 1 ≤ R.frames ∧ 8 + (8 + 11) + 67 ≤ R.locals) (hw : (rest.map fun v => v.category).sum ≤ 8) (hf : cells + 0 ≤ R.cells ∧ slots + 0 ≤ R.slots) (hu : u < 10) (hv : v < 10) (gR : 0 ≤ (f 0 1).toInt ∧ (f 0 1).toInt ≤ 12) (gO : fr_ord f) (hdg : decode cc pc = .ok (.invokevirtual 201, 3)) (kk : ∀ (H : Heap) (locs : List Loc), va_P D vwCl (fr_cw ka al ((dn_firstRefusing f y u v x).2) Z) H → va_D A (fr_cw ka al ((dn_firstRefusing f y u v x).2) Z) → va_S A s.heap H locs → W p l e R s m args below meth c H locs (cells + 0) (slots + 0) Q (F0 m (pc + 3) ls (.int ((dn_firstRefusing f y u v x).1) :: rest))) : W p l e R s m args below meth c H locs cells slots Q (F0 m pc ls (.int x :: .ref (al (7 + v)) :: .ref (al (7 + u)) :: .int y :: .ref (al 0) :: rest)) :=
  fr_callVi (As := [.int y, .ref (al (7 + u)), .ref (al (7 + v)), .int x]) C hP hD hS (c_firstRefusing l D ka al Z f y u v x hu hv gR gO) (cwV 4 C.2.2.2.2.1 (fr_goodV ml_F_201 mi_firstRefusing msel_firstRefusing mini_F mc_firstRefusing) rfl rfl rfl (by decide +kernel) hR) (va_recv C.2.2.2.2.2.1 hP (ci := 0) (q0 := 0) rfl rfl) rfl hsz hw hdg hf kk
def dn_verdict (f : Nat → Nat → Int32) (y : Int32) (u : Nat) (v : Nat) (x : Int32) : Int32 × (Nat → Nat → Int32) := if ((dn_firstRefusing f y u v x).1) = 0 then ((dn_firstRefusing f y u v x).1, fr_up ((dn_firstRefusing f y u v x).2) 0 3 ((((dn_firstRefusing f y u v x).2) 0 3) + 1)) else ((dn_firstRefusing f y u v x).1, fr_up (fr_up ((dn_firstRefusing f y u v x).2) 0 3 ((((dn_firstRefusing f y u v x).2) 0 3) + 1)) 0 4 ((((dn_firstRefusing f y u v x).2) 0 4) + 1))
set_option maxHeartbeats 4000000 in
set_option maxRecDepth 100000 in
theorem c_verdict (l : Launch) (D : va_G) (ka : Nat → ClassId) (al : Nat → Nat) (Z : va_W) (f : Nat → Nat → Int32) (y : Int32) (u : Nat) (v : Nat) (x : Int32) (hu : u < 10) (hv : v < 10) (gR : 0 ≤ (f 0 1).toInt ∧ (f 0 1).toInt ≤ 12) (gO : fr_ord f) : fr_Mi l y_verdict (.code y_verdict prog_1_method_24_code 6 (some .int) :: fr_tbl) { frames := 4, cells := 0, slots := 0, locals := 94 } D vwCl (fr_ty ka) fr_nw [.ref (al 0), .int y, .ref (al (7 + u)), .ref (al (7 + v)), .int x] (fr_cw ka al f Z) ((dn_verdict f y u v x).1) (fr_cw ka al ((dn_verdict f y u v x).2) Z) 0 0 := by
  refine fr_Mi.of (by decide) (Nat.le_of_ble_eq_true rfl) ?_
  intro p e s m below meth c A H locs ls C hP hD hS hl
  obtain ⟨hx, hb, hml, hown, ht, hK, hlocks, hr, hA, hN, hZ, hEx⟩ := id C
  have hl : lv_has ls 6 [(0, .ref (al 0)), (1, .int y), (2, .ref (al (7 + u))), (3, .ref (al (7 + v))), (4, .int x)] := hl
  refine lv_aload_n hx hb dF_verdict_0 rfl (lv_at hl 0 rfl) ?_
  refine lv_iload_n hx hb dF_verdict_1 rfl (lv_at hl 1 rfl) ?_
  refine lv_aload_n hx hb dF_verdict_2 rfl (lv_at hl 2 rfl) ?_
  refine lv_aload_n hx hb dF_verdict_3 rfl (lv_at hl 3 rfl) ?_
  refine lv_iload hx hb dF_verdict_4 (lv_at hl 4 rfl) ?_
  refine cl_F_201 C hP hD hS hl.1 ⟨Nat.le_of_ble_eq_true rfl, Nat.le_of_ble_eq_true rfl⟩ (Nat.le_of_ble_eq_true rfl) ⟨Nat.le_of_ble_eq_true rfl, Nat.le_of_ble_eq_true rfl⟩ hu hv gR gO dF_verdict_6 (fun H locs hP hD hS => ?_)
  refine lv_istore (lv' := [(5, .int ((dn_firstRefusing f y u v x).1)), (0, .ref (al 0)), (1, .int y), (2, .ref (al (7 + u))), (3, .ref (al (7 + v))), (4, .int x)]) hx hb dF_verdict_9 hl (by decide) rfl (fun ls hl => ?_)
  refine lv_aload_n hx hb dF_verdict_11 rfl (lv_at hl 1 rfl) ?_
  refine lv_dup hx hb dF_verdict_12 rfl ?_
  refine gf_F_45 C hP dF_verdict_13 ?_
  refine lv_iconst (v := 1) hx hb dF_verdict_16 (by decide) ?_
  refine lv_iadd hx hb dF_verdict_17 ?_
  refine pf_F_45 C hP hD hS dF_verdict_18 (fun H locs hP hD hS => ?_)
  refine lv_iload hx hb dF_verdict_21 (lv_at hl 0 rfl) ?_
  refine lv_if_eq (tgt := 36) hx hb dF_verdict_23 (by decide) (fun c_23 => ?_) (fun c_23 => ?_)
  · skip
    refine lv_iload hx hb dF_verdict_36 (lv_at hl 0 rfl) ?_
    have hd_ : dn_verdict f y u v x = ((dn_firstRefusing f y u v x).1, fr_up ((dn_firstRefusing f y u v x).2) 0 3 ((((dn_firstRefusing f y u v x).2) 0 3) + 1)) := by rw [dn_verdict, if_pos c_23]
    rw [hd_]
    exact fr_iret C hP hD hS rfl dF_verdict_38
  · skip
    refine lv_aload_n hx hb dF_verdict_26 rfl (lv_at hl 1 rfl) ?_
    refine lv_dup hx hb dF_verdict_27 rfl ?_
    refine gf_F_48 C hP dF_verdict_28 ?_
    refine W.eq (g2 := F0 m 31 ls [.int (((dn_firstRefusing f y u v x).2) 0 4), .ref (al 0)]) (by first | rfl | simp [fr_up, fr_row]) ?_
    refine lv_iconst (v := 1) hx hb dF_verdict_31 (by decide) ?_
    refine lv_iadd hx hb dF_verdict_32 ?_
    refine pf_F_48 C hP hD hS dF_verdict_33 (fun H locs hP hD hS => ?_)
    refine lv_iload hx hb dF_verdict_36 (lv_at hl 0 rfl) ?_
    have hd_ : dn_verdict f y u v x = ((dn_firstRefusing f y u v x).1, fr_up (fr_up ((dn_firstRefusing f y u v x).2) 0 3 ((((dn_firstRefusing f y u v x).2) 0 3) + 1)) 0 4 ((((dn_firstRefusing f y u v x).2) 0 4) + 1)) := by rw [dn_verdict, if_neg c_23]
    rw [hd_]
    exact fr_iret C hP hD hS rfl dF_verdict_38

def dn_bitCount (x : Int32) : Int32 := (((((((x - (((x.toUInt32 >>> ((1 : Int32).toUInt32 &&& Int32.toUInt32 31)).toInt32) &&& 1431655765)) &&& 858993459) + ((((x - (((x.toUInt32 >>> ((1 : Int32).toUInt32 &&& Int32.toUInt32 31)).toInt32) &&& 1431655765)).toUInt32 >>> ((2 : Int32).toUInt32 &&& Int32.toUInt32 31)).toInt32) &&& 858993459)) + (((((x - (((x.toUInt32 >>> ((1 : Int32).toUInt32 &&& Int32.toUInt32 31)).toInt32) &&& 1431655765)) &&& 858993459) + ((((x - (((x.toUInt32 >>> ((1 : Int32).toUInt32 &&& Int32.toUInt32 31)).toInt32) &&& 1431655765)).toUInt32 >>> ((2 : Int32).toUInt32 &&& Int32.toUInt32 31)).toInt32) &&& 858993459)).toUInt32 >>> ((4 : Int32).toUInt32 &&& Int32.toUInt32 31)).toInt32)) &&& 252645135) + (((((((x - (((x.toUInt32 >>> ((1 : Int32).toUInt32 &&& Int32.toUInt32 31)).toInt32) &&& 1431655765)) &&& 858993459) + ((((x - (((x.toUInt32 >>> ((1 : Int32).toUInt32 &&& Int32.toUInt32 31)).toInt32) &&& 1431655765)).toUInt32 >>> ((2 : Int32).toUInt32 &&& Int32.toUInt32 31)).toInt32) &&& 858993459)) + (((((x - (((x.toUInt32 >>> ((1 : Int32).toUInt32 &&& Int32.toUInt32 31)).toInt32) &&& 1431655765)) &&& 858993459) + ((((x - (((x.toUInt32 >>> ((1 : Int32).toUInt32 &&& Int32.toUInt32 31)).toInt32) &&& 1431655765)).toUInt32 >>> ((2 : Int32).toUInt32 &&& Int32.toUInt32 31)).toInt32) &&& 858993459)).toUInt32 >>> ((4 : Int32).toUInt32 &&& Int32.toUInt32 31)).toInt32)) &&& 252645135).toUInt32 >>> ((8 : Int32).toUInt32 &&& Int32.toUInt32 31)).toInt32)) + ((((((((x - (((x.toUInt32 >>> ((1 : Int32).toUInt32 &&& Int32.toUInt32 31)).toInt32) &&& 1431655765)) &&& 858993459) + ((((x - (((x.toUInt32 >>> ((1 : Int32).toUInt32 &&& Int32.toUInt32 31)).toInt32) &&& 1431655765)).toUInt32 >>> ((2 : Int32).toUInt32 &&& Int32.toUInt32 31)).toInt32) &&& 858993459)) + (((((x - (((x.toUInt32 >>> ((1 : Int32).toUInt32 &&& Int32.toUInt32 31)).toInt32) &&& 1431655765)) &&& 858993459) + ((((x - (((x.toUInt32 >>> ((1 : Int32).toUInt32 &&& Int32.toUInt32 31)).toInt32) &&& 1431655765)).toUInt32 >>> ((2 : Int32).toUInt32 &&& Int32.toUInt32 31)).toInt32) &&& 858993459)).toUInt32 >>> ((4 : Int32).toUInt32 &&& Int32.toUInt32 31)).toInt32)) &&& 252645135) + (((((((x - (((x.toUInt32 >>> ((1 : Int32).toUInt32 &&& Int32.toUInt32 31)).toInt32) &&& 1431655765)) &&& 858993459) + ((((x - (((x.toUInt32 >>> ((1 : Int32).toUInt32 &&& Int32.toUInt32 31)).toInt32) &&& 1431655765)).toUInt32 >>> ((2 : Int32).toUInt32 &&& Int32.toUInt32 31)).toInt32) &&& 858993459)) + (((((x - (((x.toUInt32 >>> ((1 : Int32).toUInt32 &&& Int32.toUInt32 31)).toInt32) &&& 1431655765)) &&& 858993459) + ((((x - (((x.toUInt32 >>> ((1 : Int32).toUInt32 &&& Int32.toUInt32 31)).toInt32) &&& 1431655765)).toUInt32 >>> ((2 : Int32).toUInt32 &&& Int32.toUInt32 31)).toInt32) &&& 858993459)).toUInt32 >>> ((4 : Int32).toUInt32 &&& Int32.toUInt32 31)).toInt32)) &&& 252645135).toUInt32 >>> ((8 : Int32).toUInt32 &&& Int32.toUInt32 31)).toInt32)).toUInt32 >>> ((16 : Int32).toUInt32 &&& Int32.toUInt32 31)).toInt32)) &&& 63
set_option maxHeartbeats 4000000 in
set_option maxRecDepth 100000 in
theorem c_bitCount (l : Launch) (D : va_G) (ka : Nat → ClassId) (al : Nat → Nat) (Z : va_W) (f : Nat → Nat → Int32) (x : Int32) : fr_Mi l y_bitCount (.code y_bitCount prog_10_method_49_code 1 (some .int) :: fr_tbl) { frames := 0, cells := 0, slots := 0, locals := 0 } D vwCl (fr_ty ka) fr_nw [.int x] (fr_cw ka al f Z) (dn_bitCount x) (fr_cw ka al f Z) 0 0 := by
  refine fr_Mi.of (by decide) (Nat.le_of_ble_eq_true rfl) ?_
  intro p e s m below meth c A H locs ls C hP hD hS hl
  obtain ⟨hx, hb, hml, hown, ht, hK, hlocks, hr, hA, hN, hZ, hEx⟩ := id C
  have hl : lv_has ls 1 [(0, .int x)] := hl
  refine lv_iload_n hx hb dI_bitCount_0 rfl (lv_at hl 0 rfl) ?_
  refine lv_iload_n hx hb dI_bitCount_1 rfl (lv_at hl 0 rfl) ?_
  refine lv_iconst (v := 1) hx hb dI_bitCount_2 (by decide) ?_
  refine lv_iushr hx hb dI_bitCount_3 rfl ?_
  refine lv_ldcw (v := 1431655765) hx hb hown (ht _ cst_I_265) dI_bitCount_4 ?_
  refine lv_iand hx hb dI_bitCount_7 ?_
  refine lv_isub hx hb dI_bitCount_8 ?_
  refine lv_istore_n (lv' := [(0, .int (x - (((x.toUInt32 >>> ((1 : Int32).toUInt32 &&& Int32.toUInt32 31)).toInt32) &&& 1431655765)))]) hx hb dI_bitCount_9 rfl hl (by decide) rfl (fun ls hl => ?_)
  refine lv_iload_n hx hb dI_bitCount_10 rfl (lv_at hl 0 rfl) ?_
  refine lv_ldcw (v := 858993459) hx hb hown (ht _ cst_I_266) dI_bitCount_11 ?_
  refine lv_iand hx hb dI_bitCount_14 ?_
  refine lv_iload_n hx hb dI_bitCount_15 rfl (lv_at hl 0 rfl) ?_
  refine lv_iconst (v := 2) hx hb dI_bitCount_16 (by decide) ?_
  refine lv_iushr hx hb dI_bitCount_17 rfl ?_
  refine lv_ldcw (v := 858993459) hx hb hown (ht _ cst_I_266) dI_bitCount_18 ?_
  refine lv_iand hx hb dI_bitCount_21 ?_
  refine lv_iadd hx hb dI_bitCount_22 ?_
  refine lv_istore_n (lv' := [(0, .int (((x - (((x.toUInt32 >>> ((1 : Int32).toUInt32 &&& Int32.toUInt32 31)).toInt32) &&& 1431655765)) &&& 858993459) + ((((x - (((x.toUInt32 >>> ((1 : Int32).toUInt32 &&& Int32.toUInt32 31)).toInt32) &&& 1431655765)).toUInt32 >>> ((2 : Int32).toUInt32 &&& Int32.toUInt32 31)).toInt32) &&& 858993459)))]) hx hb dI_bitCount_23 rfl hl (by decide) rfl (fun ls hl => ?_)
  refine lv_iload_n hx hb dI_bitCount_24 rfl (lv_at hl 0 rfl) ?_
  refine lv_iload_n hx hb dI_bitCount_25 rfl (lv_at hl 0 rfl) ?_
  refine lv_iconst (v := 4) hx hb dI_bitCount_26 (by decide) ?_
  refine lv_iushr hx hb dI_bitCount_27 rfl ?_
  refine lv_iadd hx hb dI_bitCount_28 ?_
  refine lv_ldcw (v := 252645135) hx hb hown (ht _ cst_I_267) dI_bitCount_29 ?_
  refine lv_iand hx hb dI_bitCount_32 ?_
  refine lv_istore_n (lv' := [(0, .int (((((x - (((x.toUInt32 >>> ((1 : Int32).toUInt32 &&& Int32.toUInt32 31)).toInt32) &&& 1431655765)) &&& 858993459) + ((((x - (((x.toUInt32 >>> ((1 : Int32).toUInt32 &&& Int32.toUInt32 31)).toInt32) &&& 1431655765)).toUInt32 >>> ((2 : Int32).toUInt32 &&& Int32.toUInt32 31)).toInt32) &&& 858993459)) + (((((x - (((x.toUInt32 >>> ((1 : Int32).toUInt32 &&& Int32.toUInt32 31)).toInt32) &&& 1431655765)) &&& 858993459) + ((((x - (((x.toUInt32 >>> ((1 : Int32).toUInt32 &&& Int32.toUInt32 31)).toInt32) &&& 1431655765)).toUInt32 >>> ((2 : Int32).toUInt32 &&& Int32.toUInt32 31)).toInt32) &&& 858993459)).toUInt32 >>> ((4 : Int32).toUInt32 &&& Int32.toUInt32 31)).toInt32)) &&& 252645135))]) hx hb dI_bitCount_33 rfl hl (by decide) rfl (fun ls hl => ?_)
  refine lv_iload_n hx hb dI_bitCount_34 rfl (lv_at hl 0 rfl) ?_
  refine lv_iload_n hx hb dI_bitCount_35 rfl (lv_at hl 0 rfl) ?_
  refine lv_bipush (v := 8) hx hb dI_bitCount_36 (by decide) ?_
  refine lv_iushr hx hb dI_bitCount_38 rfl ?_
  refine lv_iadd hx hb dI_bitCount_39 ?_
  refine lv_istore_n (lv' := [(0, .int ((((((x - (((x.toUInt32 >>> ((1 : Int32).toUInt32 &&& Int32.toUInt32 31)).toInt32) &&& 1431655765)) &&& 858993459) + ((((x - (((x.toUInt32 >>> ((1 : Int32).toUInt32 &&& Int32.toUInt32 31)).toInt32) &&& 1431655765)).toUInt32 >>> ((2 : Int32).toUInt32 &&& Int32.toUInt32 31)).toInt32) &&& 858993459)) + (((((x - (((x.toUInt32 >>> ((1 : Int32).toUInt32 &&& Int32.toUInt32 31)).toInt32) &&& 1431655765)) &&& 858993459) + ((((x - (((x.toUInt32 >>> ((1 : Int32).toUInt32 &&& Int32.toUInt32 31)).toInt32) &&& 1431655765)).toUInt32 >>> ((2 : Int32).toUInt32 &&& Int32.toUInt32 31)).toInt32) &&& 858993459)).toUInt32 >>> ((4 : Int32).toUInt32 &&& Int32.toUInt32 31)).toInt32)) &&& 252645135) + (((((((x - (((x.toUInt32 >>> ((1 : Int32).toUInt32 &&& Int32.toUInt32 31)).toInt32) &&& 1431655765)) &&& 858993459) + ((((x - (((x.toUInt32 >>> ((1 : Int32).toUInt32 &&& Int32.toUInt32 31)).toInt32) &&& 1431655765)).toUInt32 >>> ((2 : Int32).toUInt32 &&& Int32.toUInt32 31)).toInt32) &&& 858993459)) + (((((x - (((x.toUInt32 >>> ((1 : Int32).toUInt32 &&& Int32.toUInt32 31)).toInt32) &&& 1431655765)) &&& 858993459) + ((((x - (((x.toUInt32 >>> ((1 : Int32).toUInt32 &&& Int32.toUInt32 31)).toInt32) &&& 1431655765)).toUInt32 >>> ((2 : Int32).toUInt32 &&& Int32.toUInt32 31)).toInt32) &&& 858993459)).toUInt32 >>> ((4 : Int32).toUInt32 &&& Int32.toUInt32 31)).toInt32)) &&& 252645135).toUInt32 >>> ((8 : Int32).toUInt32 &&& Int32.toUInt32 31)).toInt32)))]) hx hb dI_bitCount_40 rfl hl (by decide) rfl (fun ls hl => ?_)
  refine lv_iload_n hx hb dI_bitCount_41 rfl (lv_at hl 0 rfl) ?_
  refine lv_iload_n hx hb dI_bitCount_42 rfl (lv_at hl 0 rfl) ?_
  refine lv_bipush (v := 16) hx hb dI_bitCount_43 (by decide) ?_
  refine lv_iushr hx hb dI_bitCount_45 rfl ?_
  refine lv_iadd hx hb dI_bitCount_46 ?_
  refine lv_istore_n (lv' := [(0, .int (((((((x - (((x.toUInt32 >>> ((1 : Int32).toUInt32 &&& Int32.toUInt32 31)).toInt32) &&& 1431655765)) &&& 858993459) + ((((x - (((x.toUInt32 >>> ((1 : Int32).toUInt32 &&& Int32.toUInt32 31)).toInt32) &&& 1431655765)).toUInt32 >>> ((2 : Int32).toUInt32 &&& Int32.toUInt32 31)).toInt32) &&& 858993459)) + (((((x - (((x.toUInt32 >>> ((1 : Int32).toUInt32 &&& Int32.toUInt32 31)).toInt32) &&& 1431655765)) &&& 858993459) + ((((x - (((x.toUInt32 >>> ((1 : Int32).toUInt32 &&& Int32.toUInt32 31)).toInt32) &&& 1431655765)).toUInt32 >>> ((2 : Int32).toUInt32 &&& Int32.toUInt32 31)).toInt32) &&& 858993459)).toUInt32 >>> ((4 : Int32).toUInt32 &&& Int32.toUInt32 31)).toInt32)) &&& 252645135) + (((((((x - (((x.toUInt32 >>> ((1 : Int32).toUInt32 &&& Int32.toUInt32 31)).toInt32) &&& 1431655765)) &&& 858993459) + ((((x - (((x.toUInt32 >>> ((1 : Int32).toUInt32 &&& Int32.toUInt32 31)).toInt32) &&& 1431655765)).toUInt32 >>> ((2 : Int32).toUInt32 &&& Int32.toUInt32 31)).toInt32) &&& 858993459)) + (((((x - (((x.toUInt32 >>> ((1 : Int32).toUInt32 &&& Int32.toUInt32 31)).toInt32) &&& 1431655765)) &&& 858993459) + ((((x - (((x.toUInt32 >>> ((1 : Int32).toUInt32 &&& Int32.toUInt32 31)).toInt32) &&& 1431655765)).toUInt32 >>> ((2 : Int32).toUInt32 &&& Int32.toUInt32 31)).toInt32) &&& 858993459)).toUInt32 >>> ((4 : Int32).toUInt32 &&& Int32.toUInt32 31)).toInt32)) &&& 252645135).toUInt32 >>> ((8 : Int32).toUInt32 &&& Int32.toUInt32 31)).toInt32)) + ((((((((x - (((x.toUInt32 >>> ((1 : Int32).toUInt32 &&& Int32.toUInt32 31)).toInt32) &&& 1431655765)) &&& 858993459) + ((((x - (((x.toUInt32 >>> ((1 : Int32).toUInt32 &&& Int32.toUInt32 31)).toInt32) &&& 1431655765)).toUInt32 >>> ((2 : Int32).toUInt32 &&& Int32.toUInt32 31)).toInt32) &&& 858993459)) + (((((x - (((x.toUInt32 >>> ((1 : Int32).toUInt32 &&& Int32.toUInt32 31)).toInt32) &&& 1431655765)) &&& 858993459) + ((((x - (((x.toUInt32 >>> ((1 : Int32).toUInt32 &&& Int32.toUInt32 31)).toInt32) &&& 1431655765)).toUInt32 >>> ((2 : Int32).toUInt32 &&& Int32.toUInt32 31)).toInt32) &&& 858993459)).toUInt32 >>> ((4 : Int32).toUInt32 &&& Int32.toUInt32 31)).toInt32)) &&& 252645135) + (((((((x - (((x.toUInt32 >>> ((1 : Int32).toUInt32 &&& Int32.toUInt32 31)).toInt32) &&& 1431655765)) &&& 858993459) + ((((x - (((x.toUInt32 >>> ((1 : Int32).toUInt32 &&& Int32.toUInt32 31)).toInt32) &&& 1431655765)).toUInt32 >>> ((2 : Int32).toUInt32 &&& Int32.toUInt32 31)).toInt32) &&& 858993459)) + (((((x - (((x.toUInt32 >>> ((1 : Int32).toUInt32 &&& Int32.toUInt32 31)).toInt32) &&& 1431655765)) &&& 858993459) + ((((x - (((x.toUInt32 >>> ((1 : Int32).toUInt32 &&& Int32.toUInt32 31)).toInt32) &&& 1431655765)).toUInt32 >>> ((2 : Int32).toUInt32 &&& Int32.toUInt32 31)).toInt32) &&& 858993459)).toUInt32 >>> ((4 : Int32).toUInt32 &&& Int32.toUInt32 31)).toInt32)) &&& 252645135).toUInt32 >>> ((8 : Int32).toUInt32 &&& Int32.toUInt32 31)).toInt32)).toUInt32 >>> ((16 : Int32).toUInt32 &&& Int32.toUInt32 31)).toInt32)))]) hx hb dI_bitCount_47 rfl hl (by decide) rfl (fun ls hl => ?_)
  refine lv_iload_n hx hb dI_bitCount_48 rfl (lv_at hl 0 rfl) ?_
  refine lv_bipush (v := 63) hx hb dI_bitCount_49 (by decide) ?_
  refine lv_iand hx hb dI_bitCount_51 ?_
  have hd_ : dn_bitCount x = (((((((x - (((x.toUInt32 >>> ((1 : Int32).toUInt32 &&& Int32.toUInt32 31)).toInt32) &&& 1431655765)) &&& 858993459) + ((((x - (((x.toUInt32 >>> ((1 : Int32).toUInt32 &&& Int32.toUInt32 31)).toInt32) &&& 1431655765)).toUInt32 >>> ((2 : Int32).toUInt32 &&& Int32.toUInt32 31)).toInt32) &&& 858993459)) + (((((x - (((x.toUInt32 >>> ((1 : Int32).toUInt32 &&& Int32.toUInt32 31)).toInt32) &&& 1431655765)) &&& 858993459) + ((((x - (((x.toUInt32 >>> ((1 : Int32).toUInt32 &&& Int32.toUInt32 31)).toInt32) &&& 1431655765)).toUInt32 >>> ((2 : Int32).toUInt32 &&& Int32.toUInt32 31)).toInt32) &&& 858993459)).toUInt32 >>> ((4 : Int32).toUInt32 &&& Int32.toUInt32 31)).toInt32)) &&& 252645135) + (((((((x - (((x.toUInt32 >>> ((1 : Int32).toUInt32 &&& Int32.toUInt32 31)).toInt32) &&& 1431655765)) &&& 858993459) + ((((x - (((x.toUInt32 >>> ((1 : Int32).toUInt32 &&& Int32.toUInt32 31)).toInt32) &&& 1431655765)).toUInt32 >>> ((2 : Int32).toUInt32 &&& Int32.toUInt32 31)).toInt32) &&& 858993459)) + (((((x - (((x.toUInt32 >>> ((1 : Int32).toUInt32 &&& Int32.toUInt32 31)).toInt32) &&& 1431655765)) &&& 858993459) + ((((x - (((x.toUInt32 >>> ((1 : Int32).toUInt32 &&& Int32.toUInt32 31)).toInt32) &&& 1431655765)).toUInt32 >>> ((2 : Int32).toUInt32 &&& Int32.toUInt32 31)).toInt32) &&& 858993459)).toUInt32 >>> ((4 : Int32).toUInt32 &&& Int32.toUInt32 31)).toInt32)) &&& 252645135).toUInt32 >>> ((8 : Int32).toUInt32 &&& Int32.toUInt32 31)).toInt32)) + ((((((((x - (((x.toUInt32 >>> ((1 : Int32).toUInt32 &&& Int32.toUInt32 31)).toInt32) &&& 1431655765)) &&& 858993459) + ((((x - (((x.toUInt32 >>> ((1 : Int32).toUInt32 &&& Int32.toUInt32 31)).toInt32) &&& 1431655765)).toUInt32 >>> ((2 : Int32).toUInt32 &&& Int32.toUInt32 31)).toInt32) &&& 858993459)) + (((((x - (((x.toUInt32 >>> ((1 : Int32).toUInt32 &&& Int32.toUInt32 31)).toInt32) &&& 1431655765)) &&& 858993459) + ((((x - (((x.toUInt32 >>> ((1 : Int32).toUInt32 &&& Int32.toUInt32 31)).toInt32) &&& 1431655765)).toUInt32 >>> ((2 : Int32).toUInt32 &&& Int32.toUInt32 31)).toInt32) &&& 858993459)).toUInt32 >>> ((4 : Int32).toUInt32 &&& Int32.toUInt32 31)).toInt32)) &&& 252645135) + (((((((x - (((x.toUInt32 >>> ((1 : Int32).toUInt32 &&& Int32.toUInt32 31)).toInt32) &&& 1431655765)) &&& 858993459) + ((((x - (((x.toUInt32 >>> ((1 : Int32).toUInt32 &&& Int32.toUInt32 31)).toInt32) &&& 1431655765)).toUInt32 >>> ((2 : Int32).toUInt32 &&& Int32.toUInt32 31)).toInt32) &&& 858993459)) + (((((x - (((x.toUInt32 >>> ((1 : Int32).toUInt32 &&& Int32.toUInt32 31)).toInt32) &&& 1431655765)) &&& 858993459) + ((((x - (((x.toUInt32 >>> ((1 : Int32).toUInt32 &&& Int32.toUInt32 31)).toInt32) &&& 1431655765)).toUInt32 >>> ((2 : Int32).toUInt32 &&& Int32.toUInt32 31)).toInt32) &&& 858993459)).toUInt32 >>> ((4 : Int32).toUInt32 &&& Int32.toUInt32 31)).toInt32)) &&& 252645135).toUInt32 >>> ((8 : Int32).toUInt32 &&& Int32.toUInt32 31)).toInt32)).toUInt32 >>> ((16 : Int32).toUInt32 &&& Int32.toUInt32 31)).toInt32)) &&& 63 := by rw [dn_bitCount]
  exact fr_iret C hP hD hS hd_.symm dI_bitCount_52

theorem cl_F_53 {p : Program} {l : Launch} {e : Env} {R : Room} {s : State} {m : MethodId} {args : Array Value} {below : List Frame} {meth : Method} {c : Code} {H : Heap} {locs : List Loc} {cells slots : Nat} {Q : State → Prop} {D : va_G} {A : Nat → Prop} {cc : ByteArray} {nL pc : Nat} {ret : Option FieldType} {hh : List ExceptionTableEntry} {ls : Array Slot} {rest : List Value} {ka : Nat → ClassId} {al : Nat → Nat} {f : Nat → Nat → Int32} {Z : va_W} {n : Int32} {b : Int32} (C : fr_Cx p s m args meth c "FragileRules" cc nL ret hh fr_tbl fr_nw D vwCl (fr_ty ka) A) (hP : va_P D vwCl (fr_cw ka al f Z) H) (hD : va_D A (fr_cw ka al f Z)) (hS : va_S A s.heap H locs) (hsz : ls.size = nL) (hR : 0 + 1 ≤ R.frames ∧ 8 + (2 + 11) + 0 ≤ R.locals) (hw : (rest.map fun v => v.category).sum ≤ 8) (hf : cells + 0 ≤ R.cells ∧ slots + 0 ≤ R.slots) (hdg : decode cc pc = .ok (.invokestatic 53, 3)) (kk : ∀ (H : Heap) (locs : List Loc), va_P D vwCl (fr_cw ka al f Z) H → va_D A (fr_cw ka al f Z) → va_S A s.heap H locs → W p l e R s m args below meth c H locs (cells + 0) (slots + 0) Q (F0 m (pc + 3) ls (.int (dn_within n b) :: rest))) : W p l e R s m args below meth c H locs cells slots Q (F0 m pc ls (.int b :: .int n :: rest)) :=
  fr_callSi (As := [.int n, .int b]) C hP hD hS (c_within l D ka al Z f n b) (cwS 2 C.2.2.2.2.1 (fr_goodS ml_F_53 mst_within mini_F mc_within) rfl rfl rfl (by decide +kernel) hR) rfl hsz hw hdg hf kk
theorem cl_F_184 {p : Program} {l : Launch} {e : Env} {R : Room} {s : State} {m : MethodId} {args : Array Value} {below : List Frame} {meth : Method} {c : Code} {H : Heap} {locs : List Loc} {cells slots : Nat} {Q : State → Prop} {D : va_G} {A : Nat → Prop} {cc : ByteArray} {nL pc : Nat} {ret : Option FieldType} {hh : List ExceptionTableEntry} {ls : Array Slot} {rest : List Value} {ka : Nat → ClassId} {al : Nat → Nat} {f : Nat → Nat → Int32} {Z : va_W} {x : Int32} (C : fr_Cx p s m args meth c "FragileRules" cc nL ret hh fr_tbl fr_nw D vwCl (fr_ty ka) A) (hP : va_P D vwCl (fr_cw ka al f Z) H) (hD : va_D A (fr_cw ka al f Z)) (hS : va_S A s.heap H locs) (hsz : ls.size = nL) (hR : 0 + 1 ≤ R.frames ∧ 8 + (1 + 11) + 0 ≤ R.locals) (hw : (rest.map fun v => v.category).sum ≤ 8) (hf : cells + 0 ≤ R.cells ∧ slots + 0 ≤ R.slots) (hdg : decode cc pc = .ok (.invokestatic 184, 3)) (kk : ∀ (H : Heap) (locs : List Loc), va_P D vwCl (fr_cw ka al f Z) H → va_D A (fr_cw ka al f Z) → va_S A s.heap H locs → W p l e R s m args below meth c H locs (cells + 0) (slots + 0) Q (F0 m (pc + 3) ls (.int (dn_bitCount x) :: rest))) : W p l e R s m args below meth c H locs cells slots Q (F0 m pc ls (.int x :: rest)) :=
  fr_callSi (As := [.int x]) C hP hD hS (c_bitCount l D ka al Z f x) (va_cwS 1 C.2.2.2.2.1 (fr_goodSS ml_F_184 mst_bitCount mini_I mc_bitCount) rfl rfl rfl (by decide +kernel) hR) rfl hsz hw hdg hf kk
def dn_isMark (x : Int32) : Int32 := if (dn_within x 16) = 0 then 0 else (if (dn_bitCount x) = 1 then 1 else 0)
set_option maxHeartbeats 4000000 in
set_option maxRecDepth 100000 in
theorem c_isMark (l : Launch) (D : va_G) (ka : Nat → ClassId) (al : Nat → Nat) (Z : va_W) (f : Nat → Nat → Int32) (x : Int32) : fr_Mi l y_isMark (.code y_isMark prog_1_method_17_code 1 (some .boolean) :: fr_tbl) { frames := 1, cells := 0, slots := 0, locals := 21 } D vwCl (fr_ty ka) fr_nw [.int x] (fr_cw ka al f Z) (dn_isMark x) (fr_cw ka al f Z) 0 0 := by
  refine fr_Mi.of (by decide) (Nat.le_of_ble_eq_true rfl) ?_
  intro p e s m below meth c A H locs ls C hP hD hS hl
  obtain ⟨hx, hb, hml, hown, ht, hK, hlocks, hr, hA, hN, hZ, hEx⟩ := id C
  have hl : lv_has ls 1 [(0, .int x)] := hl
  refine lv_iload_n hx hb dF_isMark_0 rfl (lv_at hl 0 rfl) ?_
  refine lv_bipush (v := 16) hx hb dF_isMark_1 (by decide) ?_
  refine cl_F_53 C hP hD hS hl.1 ⟨Nat.le_of_ble_eq_true rfl, Nat.le_of_ble_eq_true rfl⟩ (Nat.le_of_ble_eq_true rfl) ⟨Nat.le_of_ble_eq_true rfl, Nat.le_of_ble_eq_true rfl⟩ dF_isMark_3 (fun H locs hP hD hS => ?_)
  refine lv_if_eq (tgt := 21) hx hb dF_isMark_6 (by decide) (fun c_6 => ?_) (fun c_6 => ?_)
  · skip
    refine lv_iconst (v := 0) hx hb dF_isMark_21 (by decide) ?_
    have hd_ : dn_isMark x = 0 := by rw [dn_isMark, if_pos c_6]
    exact fr_zret C hP hD hS hd_.symm (Or.inl rfl) dF_isMark_22
  · skip
    refine lv_iload_n hx hb dF_isMark_9 rfl (lv_at hl 0 rfl) ?_
    refine cl_F_184 C hP hD hS hl.1 ⟨Nat.le_of_ble_eq_true rfl, Nat.le_of_ble_eq_true rfl⟩ (Nat.le_of_ble_eq_true rfl) ⟨Nat.le_of_ble_eq_true rfl, Nat.le_of_ble_eq_true rfl⟩ dF_isMark_10 (fun H locs hP hD hS => ?_)
    refine lv_iconst (v := 1) hx hb dF_isMark_13 (by decide) ?_
    refine lv_icmp_ne (tgt := 21) hx hb dF_isMark_14 (by decide) (fun c_14 => ?_) (fun c_14 => ?_)
    · skip
      refine lv_iconst (v := 0) hx hb dF_isMark_21 (by decide) ?_
      have hd_ : dn_isMark x = 0 := by rw [dn_isMark, if_neg c_6, if_neg c_14]
      exact fr_zret C hP hD hS hd_.symm (Or.inl rfl) dF_isMark_22
    · skip
      refine lv_iconst (v := 1) hx hb dF_isMark_17 (by decide) ?_
      refine lv_goto (tgt := 22) hx hb dF_isMark_18 (by decide) ?_
      have hd_ : dn_isMark x = 1 := by rw [dn_isMark, if_neg c_6, if_pos c_14]
      exact fr_zret C hP hD hS hd_.symm (Or.inr rfl) dF_isMark_22
theorem bz_isMark {x : Int32} : dn_isMark x = 0 ∨ dn_isMark x = 1 := by
  unfold dn_isMark
  repeat' split
  all_goals first | exact Or.inl rfl | exact Or.inr rfl | exact bz_has

theorem cl_F_139 {p : Program} {l : Launch} {e : Env} {R : Room} {s : State} {m : MethodId} {args : Array Value} {below : List Frame} {meth : Method} {c : Code} {H : Heap} {locs : List Loc} {cells slots : Nat} {Q : State → Prop} {D : va_G} {A : Nat → Prop} {cc : ByteArray} {nL pc : Nat} {ret : Option FieldType} {hh : List ExceptionTableEntry} {ls : Array Slot} {rest : List Value} {ka : Nat → ClassId} {al : Nat → Nat} {f : Nat → Nat → Int32} {Z : va_W} {x : Int32} (C : fr_Cx p s m args meth c "FragileRules" cc nL ret hh fr_tbl fr_nw D vwCl (fr_ty ka) A) (hP : va_P D vwCl (fr_cw ka al f Z) H) (hD : va_D A (fr_cw ka al f Z)) (hS : va_S A s.heap H locs) (hsz : ls.size = nL) (hR : 1 + 1 ≤ R.frames ∧ 8 + (1 + 11) + 21 ≤ R.locals) (hw : (rest.map fun v => v.category).sum ≤ 8) (hf : cells + 0 ≤ R.cells ∧ slots + 0 ≤ R.slots) (hdg : decode cc pc = .ok (.invokestatic 139, 3)) (kk : ∀ (H : Heap) (locs : List Loc), va_P D vwCl (fr_cw ka al f Z) H → va_D A (fr_cw ka al f Z) → va_S A s.heap H locs → W p l e R s m args below meth c H locs (cells + 0) (slots + 0) Q (F0 m (pc + 3) ls (.int (dn_isMark x) :: rest))) : W p l e R s m args below meth c H locs cells slots Q (F0 m pc ls (.int x :: rest)) :=
  fr_callSi (As := [.int x]) C hP hD hS (c_isMark l D ka al Z f x) (cwS 1 C.2.2.2.2.1 (fr_goodS ml_F_139 mst_isMark mini_F mc_isMark) rfl rfl rfl (by decide +kernel) hR) rfl hsz hw hdg hf kk
def dn_isRule (x : Int32) (y : Int32) (k : Int32) : Int32 := if x = 0 then (if (dn_within y 7) = 0 then 0 else (if (dn_within k 7) = 0 then 0 else 1)) else (if x = 1 then (if (dn_within y 7) = 0 then 0 else (if (dn_within k 7) = 0 then 0 else 1)) else (if x = 2 then (if (dn_within y 7) = 0 then 0 else (if (dn_within k 99) = 0 then 0 else 1)) else (if x = 3 then (if (dn_within y 7) = 0 then 0 else (if (dn_within k 9) = 0 then 0 else 1)) else (if x = 4 then (if (dn_isMark y) = 0 then 0 else (if (dn_isMark k) = 0 then 0 else (if y = k then 0 else 1))) else 0))))
set_option maxHeartbeats 4000000 in
set_option maxRecDepth 100000 in
theorem c_isRule (l : Launch) (D : va_G) (ka : Nat → ClassId) (al : Nat → Nat) (Z : va_W) (f : Nat → Nat → Int32) (x : Int32) (y : Int32) (k : Int32) : fr_Mi l y_isRule (.code y_isRule prog_1_method_18_code 3 (some .boolean) :: fr_tbl) { frames := 2, cells := 0, slots := 0, locals := 41 } D vwCl (fr_ty ka) fr_nw [.int x, .int y, .int k] (fr_cw ka al f Z) (dn_isRule x y k) (fr_cw ka al f Z) 0 0 := by
  refine fr_Mi.of (by decide) (Nat.le_of_ble_eq_true rfl) ?_
  intro p e s m below meth c A H locs ls C hP hD hS hl
  obtain ⟨hx, hb, hml, hown, ht, hK, hlocks, hr, hA, hN, hZ, hEx⟩ := id C
  have hl : lv_has ls 3 [(0, .int x), (1, .int y), (2, .int k)] := hl
  refine lv_iload_n hx hb dF_isRule_0 rfl (lv_at hl 0 rfl) ?_
  by_cases c_1_0 : x = 0
  · skip
    refine lv_tableIn (tgt := 36) hx hb dF_isRule_1 (by rw [c_1_0]; decide) (by rw [c_1_0]; decide) (by rw [c_1_0] <;> rfl) (by decide) ?_
    refine lv_iload_n hx hb dF_isRule_36 rfl (lv_at hl 1 rfl) ?_
    refine lv_bipush (v := 7) hx hb dF_isRule_37 (by decide) ?_
    refine cl_F_53 C hP hD hS hl.1 ⟨Nat.le_of_ble_eq_true rfl, Nat.le_of_ble_eq_true rfl⟩ (Nat.le_of_ble_eq_true rfl) ⟨Nat.le_of_ble_eq_true rfl, Nat.le_of_ble_eq_true rfl⟩ dF_isRule_39 (fun H locs hP hD hS => ?_)
    refine lv_if_eq (tgt := 58) hx hb dF_isRule_42 (by decide) (fun c_42 => ?_) (fun c_42 => ?_)
    · skip
      refine lv_iconst (v := 0) hx hb dF_isRule_58 (by decide) ?_
      have hd_ : dn_isRule x y k = 0 := by rw [dn_isRule, if_pos c_1_0, if_pos c_42]
      exact fr_zret C hP hD hS hd_.symm (Or.inl rfl) dF_isRule_59
    · skip
      refine lv_iload_n hx hb dF_isRule_45 rfl (lv_at hl 2 rfl) ?_
      refine lv_bipush (v := 7) hx hb dF_isRule_46 (by decide) ?_
      refine cl_F_53 C hP hD hS hl.1 ⟨Nat.le_of_ble_eq_true rfl, Nat.le_of_ble_eq_true rfl⟩ (Nat.le_of_ble_eq_true rfl) ⟨Nat.le_of_ble_eq_true rfl, Nat.le_of_ble_eq_true rfl⟩ dF_isRule_48 (fun H locs hP hD hS => ?_)
      refine lv_if_eq (tgt := 58) hx hb dF_isRule_51 (by decide) (fun c_51 => ?_) (fun c_51 => ?_)
      · skip
        refine lv_iconst (v := 0) hx hb dF_isRule_58 (by decide) ?_
        have hd_ : dn_isRule x y k = 0 := by rw [dn_isRule, if_pos c_1_0, if_neg c_42, if_pos c_51]
        exact fr_zret C hP hD hS hd_.symm (Or.inl rfl) dF_isRule_59
      · skip
        refine lv_iconst (v := 1) hx hb dF_isRule_54 (by decide) ?_
        refine lv_goto (tgt := 59) hx hb dF_isRule_55 (by decide) ?_
        have hd_ : dn_isRule x y k = 1 := by rw [dn_isRule, if_pos c_1_0, if_neg c_42, if_neg c_51]
        exact fr_zret C hP hD hS hd_.symm (Or.inr rfl) dF_isRule_59
  · skip
    by_cases c_1_1 : x = 1
    · skip
      refine lv_tableIn (tgt := 36) hx hb dF_isRule_1 (by rw [c_1_1]; decide) (by rw [c_1_1]; decide) (by rw [c_1_1] <;> rfl) (by decide) ?_
      refine lv_iload_n hx hb dF_isRule_36 rfl (lv_at hl 1 rfl) ?_
      refine lv_bipush (v := 7) hx hb dF_isRule_37 (by decide) ?_
      refine cl_F_53 C hP hD hS hl.1 ⟨Nat.le_of_ble_eq_true rfl, Nat.le_of_ble_eq_true rfl⟩ (Nat.le_of_ble_eq_true rfl) ⟨Nat.le_of_ble_eq_true rfl, Nat.le_of_ble_eq_true rfl⟩ dF_isRule_39 (fun H locs hP hD hS => ?_)
      refine lv_if_eq (tgt := 58) hx hb dF_isRule_42 (by decide) (fun c_42 => ?_) (fun c_42 => ?_)
      · skip
        refine lv_iconst (v := 0) hx hb dF_isRule_58 (by decide) ?_
        have hd_ : dn_isRule x y k = 0 := by rw [dn_isRule, if_neg c_1_0, if_pos c_1_1, if_pos c_42]
        exact fr_zret C hP hD hS hd_.symm (Or.inl rfl) dF_isRule_59
      · skip
        refine lv_iload_n hx hb dF_isRule_45 rfl (lv_at hl 2 rfl) ?_
        refine lv_bipush (v := 7) hx hb dF_isRule_46 (by decide) ?_
        refine cl_F_53 C hP hD hS hl.1 ⟨Nat.le_of_ble_eq_true rfl, Nat.le_of_ble_eq_true rfl⟩ (Nat.le_of_ble_eq_true rfl) ⟨Nat.le_of_ble_eq_true rfl, Nat.le_of_ble_eq_true rfl⟩ dF_isRule_48 (fun H locs hP hD hS => ?_)
        refine lv_if_eq (tgt := 58) hx hb dF_isRule_51 (by decide) (fun c_51 => ?_) (fun c_51 => ?_)
        · skip
          refine lv_iconst (v := 0) hx hb dF_isRule_58 (by decide) ?_
          have hd_ : dn_isRule x y k = 0 := by rw [dn_isRule, if_neg c_1_0, if_pos c_1_1, if_neg c_42, if_pos c_51]
          exact fr_zret C hP hD hS hd_.symm (Or.inl rfl) dF_isRule_59
        · skip
          refine lv_iconst (v := 1) hx hb dF_isRule_54 (by decide) ?_
          refine lv_goto (tgt := 59) hx hb dF_isRule_55 (by decide) ?_
          have hd_ : dn_isRule x y k = 1 := by rw [dn_isRule, if_neg c_1_0, if_pos c_1_1, if_neg c_42, if_neg c_51]
          exact fr_zret C hP hD hS hd_.symm (Or.inr rfl) dF_isRule_59
    · skip
      by_cases c_1_2 : x = 2
      · skip
        refine lv_tableIn (tgt := 60) hx hb dF_isRule_1 (by rw [c_1_2]; decide) (by rw [c_1_2]; decide) (by rw [c_1_2] <;> rfl) (by decide) ?_
        refine lv_iload_n hx hb dF_isRule_60 rfl (lv_at hl 1 rfl) ?_
        refine lv_bipush (v := 7) hx hb dF_isRule_61 (by decide) ?_
        refine cl_F_53 C hP hD hS hl.1 ⟨Nat.le_of_ble_eq_true rfl, Nat.le_of_ble_eq_true rfl⟩ (Nat.le_of_ble_eq_true rfl) ⟨Nat.le_of_ble_eq_true rfl, Nat.le_of_ble_eq_true rfl⟩ dF_isRule_63 (fun H locs hP hD hS => ?_)
        refine lv_if_eq (tgt := 82) hx hb dF_isRule_66 (by decide) (fun c_66 => ?_) (fun c_66 => ?_)
        · skip
          refine lv_iconst (v := 0) hx hb dF_isRule_82 (by decide) ?_
          have hd_ : dn_isRule x y k = 0 := by rw [dn_isRule, if_neg c_1_0, if_neg c_1_1, if_pos c_1_2, if_pos c_66]
          exact fr_zret C hP hD hS hd_.symm (Or.inl rfl) dF_isRule_83
        · skip
          refine lv_iload_n hx hb dF_isRule_69 rfl (lv_at hl 2 rfl) ?_
          refine lv_bipush (v := 99) hx hb dF_isRule_70 (by decide) ?_
          refine cl_F_53 C hP hD hS hl.1 ⟨Nat.le_of_ble_eq_true rfl, Nat.le_of_ble_eq_true rfl⟩ (Nat.le_of_ble_eq_true rfl) ⟨Nat.le_of_ble_eq_true rfl, Nat.le_of_ble_eq_true rfl⟩ dF_isRule_72 (fun H locs hP hD hS => ?_)
          refine lv_if_eq (tgt := 82) hx hb dF_isRule_75 (by decide) (fun c_75 => ?_) (fun c_75 => ?_)
          · skip
            refine lv_iconst (v := 0) hx hb dF_isRule_82 (by decide) ?_
            have hd_ : dn_isRule x y k = 0 := by rw [dn_isRule, if_neg c_1_0, if_neg c_1_1, if_pos c_1_2, if_neg c_66, if_pos c_75]
            exact fr_zret C hP hD hS hd_.symm (Or.inl rfl) dF_isRule_83
          · skip
            refine lv_iconst (v := 1) hx hb dF_isRule_78 (by decide) ?_
            refine lv_goto (tgt := 83) hx hb dF_isRule_79 (by decide) ?_
            have hd_ : dn_isRule x y k = 1 := by rw [dn_isRule, if_neg c_1_0, if_neg c_1_1, if_pos c_1_2, if_neg c_66, if_neg c_75]
            exact fr_zret C hP hD hS hd_.symm (Or.inr rfl) dF_isRule_83
      · skip
        by_cases c_1_3 : x = 3
        · skip
          refine lv_tableIn (tgt := 84) hx hb dF_isRule_1 (by rw [c_1_3]; decide) (by rw [c_1_3]; decide) (by rw [c_1_3] <;> rfl) (by decide) ?_
          refine lv_iload_n hx hb dF_isRule_84 rfl (lv_at hl 1 rfl) ?_
          refine lv_bipush (v := 7) hx hb dF_isRule_85 (by decide) ?_
          refine cl_F_53 C hP hD hS hl.1 ⟨Nat.le_of_ble_eq_true rfl, Nat.le_of_ble_eq_true rfl⟩ (Nat.le_of_ble_eq_true rfl) ⟨Nat.le_of_ble_eq_true rfl, Nat.le_of_ble_eq_true rfl⟩ dF_isRule_87 (fun H locs hP hD hS => ?_)
          refine lv_if_eq (tgt := 106) hx hb dF_isRule_90 (by decide) (fun c_90 => ?_) (fun c_90 => ?_)
          · skip
            refine lv_iconst (v := 0) hx hb dF_isRule_106 (by decide) ?_
            have hd_ : dn_isRule x y k = 0 := by rw [dn_isRule, if_neg c_1_0, if_neg c_1_1, if_neg c_1_2, if_pos c_1_3, if_pos c_90]
            exact fr_zret C hP hD hS hd_.symm (Or.inl rfl) dF_isRule_107
          · skip
            refine lv_iload_n hx hb dF_isRule_93 rfl (lv_at hl 2 rfl) ?_
            refine lv_bipush (v := 9) hx hb dF_isRule_94 (by decide) ?_
            refine cl_F_53 C hP hD hS hl.1 ⟨Nat.le_of_ble_eq_true rfl, Nat.le_of_ble_eq_true rfl⟩ (Nat.le_of_ble_eq_true rfl) ⟨Nat.le_of_ble_eq_true rfl, Nat.le_of_ble_eq_true rfl⟩ dF_isRule_96 (fun H locs hP hD hS => ?_)
            refine lv_if_eq (tgt := 106) hx hb dF_isRule_99 (by decide) (fun c_99 => ?_) (fun c_99 => ?_)
            · skip
              refine lv_iconst (v := 0) hx hb dF_isRule_106 (by decide) ?_
              have hd_ : dn_isRule x y k = 0 := by rw [dn_isRule, if_neg c_1_0, if_neg c_1_1, if_neg c_1_2, if_pos c_1_3, if_neg c_90, if_pos c_99]
              exact fr_zret C hP hD hS hd_.symm (Or.inl rfl) dF_isRule_107
            · skip
              refine lv_iconst (v := 1) hx hb dF_isRule_102 (by decide) ?_
              refine lv_goto (tgt := 107) hx hb dF_isRule_103 (by decide) ?_
              have hd_ : dn_isRule x y k = 1 := by rw [dn_isRule, if_neg c_1_0, if_neg c_1_1, if_neg c_1_2, if_pos c_1_3, if_neg c_90, if_neg c_99]
              exact fr_zret C hP hD hS hd_.symm (Or.inr rfl) dF_isRule_107
        · skip
          by_cases c_1_4 : x = 4
          · skip
            refine lv_tableIn (tgt := 108) hx hb dF_isRule_1 (by rw [c_1_4]; decide) (by rw [c_1_4]; decide) (by rw [c_1_4] <;> rfl) (by decide) ?_
            refine lv_iload_n hx hb dF_isRule_108 rfl (lv_at hl 1 rfl) ?_
            refine cl_F_139 C hP hD hS hl.1 ⟨Nat.le_of_ble_eq_true rfl, Nat.le_of_ble_eq_true rfl⟩ (Nat.le_of_ble_eq_true rfl) ⟨Nat.le_of_ble_eq_true rfl, Nat.le_of_ble_eq_true rfl⟩ dF_isRule_109 (fun H locs hP hD hS => ?_)
            refine lv_if_eq (tgt := 131) hx hb dF_isRule_112 (by decide) (fun c_112 => ?_) (fun c_112 => ?_)
            · skip
              refine lv_iconst (v := 0) hx hb dF_isRule_131 (by decide) ?_
              have hd_ : dn_isRule x y k = 0 := by rw [dn_isRule, if_neg c_1_0, if_neg c_1_1, if_neg c_1_2, if_neg c_1_3, if_pos c_1_4, if_pos c_112]
              exact fr_zret C hP hD hS hd_.symm (Or.inl rfl) dF_isRule_132
            · skip
              refine lv_iload_n hx hb dF_isRule_115 rfl (lv_at hl 2 rfl) ?_
              refine cl_F_139 C hP hD hS hl.1 ⟨Nat.le_of_ble_eq_true rfl, Nat.le_of_ble_eq_true rfl⟩ (Nat.le_of_ble_eq_true rfl) ⟨Nat.le_of_ble_eq_true rfl, Nat.le_of_ble_eq_true rfl⟩ dF_isRule_116 (fun H locs hP hD hS => ?_)
              refine lv_if_eq (tgt := 131) hx hb dF_isRule_119 (by decide) (fun c_119 => ?_) (fun c_119 => ?_)
              · skip
                refine lv_iconst (v := 0) hx hb dF_isRule_131 (by decide) ?_
                have hd_ : dn_isRule x y k = 0 := by rw [dn_isRule, if_neg c_1_0, if_neg c_1_1, if_neg c_1_2, if_neg c_1_3, if_pos c_1_4, if_neg c_112, if_pos c_119]
                exact fr_zret C hP hD hS hd_.symm (Or.inl rfl) dF_isRule_132
              · skip
                refine lv_iload_n hx hb dF_isRule_122 rfl (lv_at hl 1 rfl) ?_
                refine lv_iload_n hx hb dF_isRule_123 rfl (lv_at hl 2 rfl) ?_
                refine lv_icmp_eq (tgt := 131) hx hb dF_isRule_124 (by decide) (fun c_124 => ?_) (fun c_124 => ?_)
                · skip
                  refine lv_iconst (v := 0) hx hb dF_isRule_131 (by decide) ?_
                  have hd_ : dn_isRule x y k = 0 := by rw [dn_isRule, if_neg c_1_0, if_neg c_1_1, if_neg c_1_2, if_neg c_1_3, if_pos c_1_4, if_neg c_112, if_neg c_119, if_pos c_124]
                  exact fr_zret C hP hD hS hd_.symm (Or.inl rfl) dF_isRule_132
                · skip
                  refine lv_iconst (v := 1) hx hb dF_isRule_127 (by decide) ?_
                  refine lv_goto (tgt := 132) hx hb dF_isRule_128 (by decide) ?_
                  have hd_ : dn_isRule x y k = 1 := by rw [dn_isRule, if_neg c_1_0, if_neg c_1_1, if_neg c_1_2, if_neg c_1_3, if_pos c_1_4, if_neg c_112, if_neg c_119, if_neg c_124]
                  exact fr_zret C hP hD hS hd_.symm (Or.inr rfl) dF_isRule_132
          · skip
            refine lv_tableOut (tgt := 133) hx hb dF_isRule_1 (by have h0 := fr_ne (k := 0) (a := 0) rfl c_1_0; have h1 := fr_ne (k := 1) (a := 1) rfl c_1_1; have h2 := fr_ne (k := 2) (a := 2) rfl c_1_2; have h3 := fr_ne (k := 3) (a := 3) rfl c_1_3; have h4 := fr_ne (k := 4) (a := 4) rfl c_1_4; omega) (by decide) ?_
            refine lv_iconst (v := 0) hx hb dF_isRule_133 (by decide) ?_
            have hd_ : dn_isRule x y k = 0 := by rw [dn_isRule, if_neg c_1_0, if_neg c_1_1, if_neg c_1_2, if_neg c_1_3, if_neg c_1_4]
            exact fr_zret C hP hD hS hd_.symm (Or.inl rfl) dF_isRule_134
theorem bz_isRule {x : Int32} {y : Int32} {k : Int32} : dn_isRule x y k = 0 ∨ dn_isRule x y k = 1 := by
  unfold dn_isRule
  repeat' split
  all_goals first | exact Or.inl rfl | exact Or.inr rfl | exact bz_has

theorem cl_F_189 {p : Program} {l : Launch} {e : Env} {R : Room} {s : State} {m : MethodId} {args : Array Value} {below : List Frame} {meth : Method} {c : Code} {H : Heap} {locs : List Loc} {cells slots : Nat} {Q : State → Prop} {D : va_G} {A : Nat → Prop} {cc : ByteArray} {nL pc : Nat} {ret : Option FieldType} {hh : List ExceptionTableEntry} {ls : Array Slot} {rest : List Value} {ka : Nat → ClassId} {al : Nat → Nat} {f : Nat → Nat → Int32} {Z : va_W} {x : Int32} (C : fr_Cx p s m args meth c "FragileRules" cc nL ret hh fr_tbl fr_nw D vwCl (fr_ty ka) A) (hP : va_P D vwCl (fr_cw ka al f Z) H) (hD : va_D A (fr_cw ka al f Z)) (hS : va_S A s.heap H locs) (hsz : ls.size = nL) (hR : 1 + 1 ≤ R.frames ∧ 8 + (2 + 11) + 21 ≤ R.locals) (hw : (rest.map fun v => v.category).sum ≤ 8) (hf : cells + 0 ≤ R.cells ∧ slots + 0 ≤ R.slots) (gT : 0 ≤ (f 0 5).toInt ∧ (f 0 5).toInt ≤ 200) (hdg : decode cc pc = .ok (.invokevirtual 189, 3)) (kk : ∀ (H : Heap) (locs : List Loc), va_P D vwCl (fr_cw ka al f Z) H → va_D A (fr_cw ka al f Z) → va_S A s.heap H locs → W p l e R s m args below meth c H locs (cells + 0) (slots + 0) Q (F0 m (pc + 3) ls (.int (dn_rowAt f x) :: rest))) : W p l e R s m args below meth c H locs cells slots Q (F0 m pc ls (.int x :: .ref (al 5) :: rest)) :=
  fr_callVi (As := [.int x]) C hP hD hS (c_rowAt l D ka al Z f x gT) (cwV 1 C.2.2.2.2.1 (fr_goodV ml_F_189 mi_rowAt msel_rowAt mini_T mc_rowAt) rfl rfl rfl (by decide +kernel) hR) (va_recv C.2.2.2.2.2.1 hP (ci := 3) (q0 := 5) rfl rfl) rfl hsz hw hdg hf kk
theorem cl_F_192 {p : Program} {l : Launch} {e : Env} {R : Room} {s : State} {m : MethodId} {args : Array Value} {below : List Frame} {meth : Method} {c : Code} {H : Heap} {locs : List Loc} {cells slots : Nat} {Q : State → Prop} {D : va_G} {A : Nat → Prop} {cc : ByteArray} {nL pc : Nat} {ret : Option FieldType} {hh : List ExceptionTableEntry} {ls : Array Slot} {rest : List Value} {ka : Nat → ClassId} {al : Nat → Nat} {f : Nat → Nat → Int32} {Z : va_W} {x : Int32} (C : fr_Cx p s m args meth c "FragileRules" cc nL ret hh fr_tbl fr_nw D vwCl (fr_ty ka) A) (hP : va_P D vwCl (fr_cw ka al f Z) H) (hD : va_D A (fr_cw ka al f Z)) (hS : va_S A s.heap H locs) (hsz : ls.size = nL) (hR : 1 + 1 ≤ R.frames ∧ 8 + (3 + 11) + 21 ≤ R.locals) (hw : (rest.map fun v => v.category).sum ≤ 8) (hf : cells + 0 ≤ R.cells ∧ slots + 0 ≤ R.slots) (gT : 0 ≤ (f 0 5).toInt ∧ (f 0 5).toInt ≤ 200) (hdg : decode cc pc = .ok (.invokevirtual 192, 3)) (kk : ∀ (H : Heap) (locs : List Loc), va_P D vwCl (fr_cw ka al f Z) H → va_D A (fr_cw ka al f Z) → va_S A s.heap H locs → W p l e R s m args below meth c H locs (cells + 0) (slots + 0) Q (F0 m (pc + 3) ls (.int (dn_digitAt f x) :: rest))) : W p l e R s m args below meth c H locs cells slots Q (F0 m pc ls (.int x :: .ref (al 5) :: rest)) :=
  fr_callVi (As := [.int x]) C hP hD hS (c_digitAt l D ka al Z f x gT) (cwV 1 C.2.2.2.2.1 (fr_goodV ml_F_192 mi_digitAt msel_digitAt mini_T mc_digitAt) rfl rfl rfl (by decide +kernel) hR) (va_recv C.2.2.2.2.2.1 hP (ci := 3) (q0 := 5) rfl rfl) rfl hsz hw hdg hf kk
theorem cl_F_195 {p : Program} {l : Launch} {e : Env} {R : Room} {s : State} {m : MethodId} {args : Array Value} {below : List Frame} {meth : Method} {c : Code} {H : Heap} {locs : List Loc} {cells slots : Nat} {Q : State → Prop} {D : va_G} {A : Nat → Prop} {cc : ByteArray} {nL pc : Nat} {ret : Option FieldType} {hh : List ExceptionTableEntry} {ls : Array Slot} {rest : List Value} {ka : Nat → ClassId} {al : Nat → Nat} {f : Nat → Nat → Int32} {Z : va_W} {x : Int32} (C : fr_Cx p s m args meth c "FragileRules" cc nL ret hh fr_tbl fr_nw D vwCl (fr_ty ka) A) (hP : va_P D vwCl (fr_cw ka al f Z) H) (hD : va_D A (fr_cw ka al f Z)) (hS : va_S A s.heap H locs) (hsz : ls.size = nL) (hR : 2 + 1 ≤ R.frames ∧ 8 + (4 + 11) + 43 ≤ R.locals) (hw : (rest.map fun v => v.category).sum ≤ 8) (hf : cells + 0 ≤ R.cells ∧ slots + 0 ≤ R.slots) (gT : 0 ≤ (f 0 5).toInt ∧ (f 0 5).toInt ≤ 200) (hdg : decode cc pc = .ok (.invokevirtual 195, 3)) (kk : ∀ (H : Heap) (locs : List Loc), va_P D vwCl (fr_cw ka al f Z) H → va_D A (fr_cw ka al f Z) → va_S A s.heap H locs → W p l e R s m args below meth c H locs (cells + 0) (slots + 0) Q (F0 m (pc + 3) ls (.int (dn_numberAt f x) :: rest))) : W p l e R s m args below meth c H locs cells slots Q (F0 m pc ls (.int x :: .ref (al 5) :: rest)) :=
  fr_callVi (As := [.int x]) C hP hD hS (c_numberAt l D ka al Z f x gT) (cwV 1 C.2.2.2.2.1 (fr_goodV ml_F_195 mi_numberAt msel_numberAt mini_T mc_numberAt) rfl rfl rfl (by decide +kernel) hR) (va_recv C.2.2.2.2.2.1 hP (ci := 3) (q0 := 5) rfl rfl) rfl hsz hw hdg hf kk
theorem cl_F_90 {p : Program} {l : Launch} {e : Env} {R : Room} {s : State} {m : MethodId} {args : Array Value} {below : List Frame} {meth : Method} {c : Code} {H : Heap} {locs : List Loc} {cells slots : Nat} {Q : State → Prop} {D : va_G} {A : Nat → Prop} {cc : ByteArray} {nL pc : Nat} {ret : Option FieldType} {hh : List ExceptionTableEntry} {ls : Array Slot} {rest : List Value} {ka : Nat → ClassId} {al : Nat → Nat} {f : Nat → Nat → Int32} {Z : va_W} {x : Int32} {y : Int32} {k : Int32} (C : fr_Cx p s m args meth c "FragileRules" cc nL ret hh fr_tbl fr_nw D vwCl (fr_ty ka) A) (hP : va_P D vwCl (fr_cw ka al f Z) H) (hD : va_D A (fr_cw ka al f Z)) (hS : va_S A s.heap H locs) (hsz : ls.size = nL) (hR : 0 + 1 ≤ R.frames ∧ 8 + (5 + 11) + 0 ≤ R.locals) (hw : (rest.map fun v => v.category).sum ≤ 8) (hf : cells + 0 ≤ R.cells ∧ slots + 0 ≤ R.slots) (gR : 0 ≤ (f 0 1).toInt ∧ (f 0 1).toInt < 12) (hdg : decode cc pc = .ok (.invokevirtual 90, 3)) (kk : ∀ (H : Heap) (locs : List Loc), va_P D vwCl (fr_cw ka al ((dn_addRule f x y k).2) Z) H → va_D A (fr_cw ka al ((dn_addRule f x y k).2) Z) → va_S A s.heap H locs → W p l e R s m args below meth c H locs (cells + 0) (slots + 0) Q (F0 m (pc + 3) ls (.int ((dn_addRule f x y k).1) :: rest))) : W p l e R s m args below meth c H locs cells slots Q (F0 m pc ls (.int k :: .int y :: .int x :: .ref (al 0) :: rest)) :=
  fr_callVi (As := [.int x, .int y, .int k]) C hP hD hS (c_addRule l D ka al Z f x y k gR) (cwV 3 C.2.2.2.2.1 (fr_goodV ml_F_90 mi_addRule msel_addRule mini_F mc_addRule) rfl rfl rfl (by decide +kernel) hR) (va_recv C.2.2.2.2.2.1 hP (ci := 0) (q0 := 0) rfl rfl) rfl hsz hw hdg hf kk
theorem cl_F_198 {p : Program} {l : Launch} {e : Env} {R : Room} {s : State} {m : MethodId} {args : Array Value} {below : List Frame} {meth : Method} {c : Code} {H : Heap} {locs : List Loc} {cells slots : Nat} {Q : State → Prop} {D : va_G} {A : Nat → Prop} {cc : ByteArray} {nL pc : Nat} {ret : Option FieldType} {hh : List ExceptionTableEntry} {ls : Array Slot} {rest : List Value} {ka : Nat → ClassId} {al : Nat → Nat} {f : Nat → Nat → Int32} {Z : va_W} {x : Int32} (C : fr_Cx p s m args meth c "FragileRules" cc nL ret hh fr_tbl fr_nw D vwCl (fr_ty ka) A) (hP : va_P D vwCl (fr_cw ka al f Z) H) (hD : va_D A (fr_cw ka al f Z)) (hS : va_S A s.heap H locs) (hsz : ls.size = nL) (hR : 2 + 1 ≤ R.frames ∧ 8 + (6 + 11) + 43 ≤ R.locals) (hw : (rest.map fun v => v.category).sum ≤ 8) (hf : cells + 0 ≤ R.cells ∧ slots + 0 ≤ R.slots) (gT : 0 ≤ (f 0 5).toInt ∧ (f 0 5).toInt ≤ 200) (hdg : decode cc pc = .ok (.invokevirtual 198, 3)) (kk : ∀ (H : Heap) (locs : List Loc), va_P D vwCl (fr_cw ka al f Z) H → va_D A (fr_cw ka al f Z) → va_S A s.heap H locs → W p l e R s m args below meth c H locs (cells + 0) (slots + 0) Q (F0 m (pc + 3) ls (.int (dn_behind f x) :: rest))) : W p l e R s m args below meth c H locs cells slots Q (F0 m pc ls (.int x :: .ref (al 5) :: rest)) :=
  fr_callVi (As := [.int x]) C hP hD hS (c_behind l D ka al Z f x gT) (cwV 1 C.2.2.2.2.1 (fr_goodV ml_F_198 mi_behind msel_behind mini_T mc_behind) rfl rfl rfl (by decide +kernel) hR) (va_recv C.2.2.2.2.2.1 hP (ci := 3) (q0 := 5) rfl rfl) rfl hsz hw hdg hf kk
def dn_addLines_4 : Nat → (Int32) → (Nat → Nat → Int32) → (Int32) → (Int32) → Nat → Nat → Int32
  | 0, _, _, _, _ => fun _ _ => 0
  | n + 1, x, g, x2, x3 => if x ≤ x3 then g else (dn_addLines_4 n x ((dn_addRule g (dn_rowAt g x2) (dn_digitAt g (x2 + 2)) (dn_numberAt g (x2 + 4))).2) (dn_behind ((dn_addRule g (dn_rowAt g x2) (dn_digitAt g (x2 + 2)) (dn_numberAt g (x2 + 4))).2) x2) (x3 + 1))
set_option maxHeartbeats 4000000 in
set_option maxRecDepth 100000 in
theorem k_addLines_4 {p : Program} {l : Launch} {e : Env} {s : State} {m : MethodId} {below : List Frame} {meth : Method} {c : Code} {D : va_G} {A : Nat → Prop} {ka : Nat → ClassId} {al : Nat → Nat} {Z : va_W} {f : Nat → Nat → Int32} {x : Int32} (C : fr_Cx p s m ([.ref (al 0), .int x] : List Value).toArray meth c "FragileRules" prog_1_method_22_code 4 none [] fr_tbl fr_nw D vwCl (fr_ty ka) A) (gT : 0 ≤ (f 0 5).toInt ∧ (f 0 5).toInt ≤ 200) (gR : 0 ≤ (f 0 1).toInt ∧ (f 0 1).toInt + x.toInt ≤ 12 ∧ 0 ≤ x.toInt) :
    ∀ (n : Nat) (g : Nat → Nat → Int32) (x2 : Int32) (x3 : Int32) (H : Heap) (locs : List Loc) (ls : Array Slot), fr_al g x x3 n → va_P D vwCl (fr_cw ka al g Z) H → va_D A (fr_cw ka al g Z) → va_S A s.heap H locs → lv_has ls 4 [(0, .ref (al 0)), (1, .int x), (2, .int x2), (3, .int x3)] → W p l e { frames := 3, cells := 0, slots := 0, locals := 68 } s m ([.ref (al 0), .int x] : List Value).toArray below meth c H locs 0 0 (MQ below (fr_Qv D vwCl (fr_ty ka) (fr_cw ka al (dn_addLines_4 n x g x2 x3) Z) A) ([.ref (al 0), .int x] : List Value).toArray s 0 0 A) (F0 m 4 ls []) := by
  obtain ⟨hx, hb, hml, hown, ht, hK, hlocks, hr, hA, hN, hZ, hEx⟩ := id C
  intro n
  induction n with
  | zero =>
    intro g x2 x3 H locs ls hm hP hD hS hl
    exact fr_al_0 hm
  | succ n ih =>
    intro g x2 x3 H locs ls hm hP hD hS hl
    refine lv_iload_n hx hb dF_addLines_4 rfl (lv_at hl 3 rfl) ?_
    refine lv_iload_n hx hb dF_addLines_5 rfl (lv_at hl 1 rfl) ?_
    refine lv_icmp_ge (tgt := 57) hx hb dF_addLines_6 (by decide) (fun c_6 => ?_) (fun c_6 => ?_)
    · skip
      have hd_ : dn_addLines_4 (n + 1) x g x2 x3 = g := by rw [dn_addLines_4, if_pos c_6]
      rw [hd_]
      exact fr_vret C hP hD hS dF_addLines_57
    · skip
      refine lv_aload_n hx hb dF_addLines_9 rfl (lv_at hl 0 rfl) ?_
      refine lv_aload_n hx hb dF_addLines_10 rfl (lv_at hl 0 rfl) ?_
      refine gf_F_41 C hP dF_addLines_11 ?_
      refine lv_iload_n hx hb dF_addLines_14 rfl (lv_at hl 2 rfl) ?_
      refine cl_F_189 C hP hD hS hl.1 ⟨Nat.le_of_ble_eq_true rfl, Nat.le_of_ble_eq_true rfl⟩ (Nat.le_of_ble_eq_true rfl) ⟨Nat.le_of_ble_eq_true rfl, Nat.le_of_ble_eq_true rfl⟩ hm.1 dF_addLines_15 (fun H locs hP hD hS => ?_)
      refine lv_aload_n hx hb dF_addLines_18 rfl (lv_at hl 0 rfl) ?_
      refine gf_F_41 C hP dF_addLines_19 ?_
      refine lv_iload_n hx hb dF_addLines_22 rfl (lv_at hl 2 rfl) ?_
      refine lv_iconst (v := 2) hx hb dF_addLines_23 (by decide) ?_
      refine lv_iadd hx hb dF_addLines_24 ?_
      refine cl_F_192 C hP hD hS hl.1 ⟨Nat.le_of_ble_eq_true rfl, Nat.le_of_ble_eq_true rfl⟩ (Nat.le_of_ble_eq_true rfl) ⟨Nat.le_of_ble_eq_true rfl, Nat.le_of_ble_eq_true rfl⟩ hm.1 dF_addLines_25 (fun H locs hP hD hS => ?_)
      refine lv_aload_n hx hb dF_addLines_28 rfl (lv_at hl 0 rfl) ?_
      refine gf_F_41 C hP dF_addLines_29 ?_
      refine lv_iload_n hx hb dF_addLines_32 rfl (lv_at hl 2 rfl) ?_
      refine lv_iconst (v := 4) hx hb dF_addLines_33 (by decide) ?_
      refine lv_iadd hx hb dF_addLines_34 ?_
      refine cl_F_195 C hP hD hS hl.1 ⟨Nat.le_of_ble_eq_true rfl, Nat.le_of_ble_eq_true rfl⟩ (Nat.le_of_ble_eq_true rfl) ⟨Nat.le_of_ble_eq_true rfl, Nat.le_of_ble_eq_true rfl⟩ hm.1 dF_addLines_35 (fun H locs hP hD hS => ?_)
      refine cl_F_90 C hP hD hS hl.1 ⟨Nat.le_of_ble_eq_true rfl, Nat.le_of_ble_eq_true rfl⟩ (Nat.le_of_ble_eq_true rfl) ⟨Nat.le_of_ble_eq_true rfl, Nat.le_of_ble_eq_true rfl⟩ (fr_al_r hm c_6) dF_addLines_38 (fun H locs hP hD hS => ?_)
      refine lv_pop hx hb dF_addLines_41 rfl ?_
      refine lv_aload_n hx hb dF_addLines_42 rfl (lv_at hl 0 rfl) ?_
      refine gf_F_41 C hP dF_addLines_43 ?_
      refine lv_iload_n hx hb dF_addLines_46 rfl (lv_at hl 2 rfl) ?_
      refine cl_F_198 C hP hD hS hl.1 ⟨Nat.le_of_ble_eq_true rfl, Nat.le_of_ble_eq_true rfl⟩ (Nat.le_of_ble_eq_true rfl) ⟨Nat.le_of_ble_eq_true rfl, Nat.le_of_ble_eq_true rfl⟩ hm.1 dF_addLines_47 (fun H locs hP hD hS => ?_)
      refine lv_istore_n (lv' := [(2, .int (dn_behind ((dn_addRule g (dn_rowAt g x2) (dn_digitAt g (x2 + 2)) (dn_numberAt g (x2 + 4))).2) x2)), (0, .ref (al 0)), (1, .int x), (3, .int x3)]) hx hb dF_addLines_50 rfl hl (by decide) rfl (fun ls hl => ?_)
      refine lv_iinc (v := x3 + 1) (lv' := [(3, .int (x3 + 1)), (2, .int (dn_behind ((dn_addRule g (dn_rowAt g x2) (dn_digitAt g (x2 + 2)) (dn_numberAt g (x2 + 4))).2) x2)), (0, .ref (al 0)), (1, .int x)]) hx hb dF_addLines_51 hl (k := 3) rfl rfl (by decide) rfl (fun ls hl => ?_)
      refine lv_goto (tgt := 4) hx hb dF_addLines_54 (by decide) ?_
      have hd_ : dn_addLines_4 (n + 1) x g x2 x3 = dn_addLines_4 n x ((dn_addRule g (dn_rowAt g x2) (dn_digitAt g (x2 + 2)) (dn_numberAt g (x2 + 4))).2) (dn_behind ((dn_addRule g (dn_rowAt g x2) (dn_digitAt g (x2 + 2)) (dn_numberAt g (x2 + 4))).2) x2) (x3 + 1) := by rw [dn_addLines_4, if_neg c_6]
      rw [hd_]
      exact ih ((dn_addRule g (dn_rowAt g x2) (dn_digitAt g (x2 + 2)) (dn_numberAt g (x2 + 4))).2) (dn_behind ((dn_addRule g (dn_rowAt g x2) (dn_digitAt g (x2 + 2)) (dn_numberAt g (x2 + 4))).2) x2) (x3 + 1) H locs ls (fr_al_b hm c_6) hP hD hS (lv_sub hl [2, 3, 1, 0] rfl)
def dn_addLines (f : Nat → Nat → Int32) (x : Int32) : Nat → Nat → Int32 := dn_addLines_4 13 x f 0 0
set_option maxHeartbeats 4000000 in
set_option maxRecDepth 100000 in
theorem c_addLines (l : Launch) (D : va_G) (ka : Nat → ClassId) (al : Nat → Nat) (Z : va_W) (f : Nat → Nat → Int32) (x : Int32) (gT : 0 ≤ (f 0 5).toInt ∧ (f 0 5).toInt ≤ 200) (gR : 0 ≤ (f 0 1).toInt ∧ (f 0 1).toInt + x.toInt ≤ 12 ∧ 0 ≤ x.toInt) : fr_Mv l y_addLines (.code y_addLines prog_1_method_22_code 4 none :: fr_tbl) { frames := 3, cells := 0, slots := 0, locals := 68 } D vwCl (fr_ty ka) fr_nw [.ref (al 0), .int x] (fr_cw ka al f Z) (fr_cw ka al (dn_addLines f x) Z) 0 0 := by
  refine fr_Mv.of (by decide) (Nat.le_of_ble_eq_true rfl) ?_
  intro p e s m below meth c A H locs ls C hinit hP hD hS hl
  obtain ⟨hx, hb, hml, hown, ht, hK, hlocks, hr, hA, hN, hZ, hEx⟩ := id C
  have hl : lv_has ls 4 [(0, .ref (al 0)), (1, .int x)] := hl
  refine lv_iconst (v := 0) hx hb dF_addLines_0 (by decide) ?_
  refine lv_istore_n (lv' := [(2, .int 0), (0, .ref (al 0)), (1, .int x)]) hx hb dF_addLines_1 rfl hl (by decide) rfl (fun ls hl => ?_)
  refine lv_iconst (v := 0) hx hb dF_addLines_2 (by decide) ?_
  refine lv_istore_n (lv' := [(3, .int 0), (2, .int 0), (0, .ref (al 0)), (1, .int x)]) hx hb dF_addLines_3 rfl hl (by decide) rfl (fun ls hl => ?_)
  have hd_ : dn_addLines f x = dn_addLines_4 13 x f 0 0 := by rw [dn_addLines]
  rw [hd_]
  exact k_addLines_4 C gT gR 13 f 0 0 H locs ls (fr_al_in gT gR) hP hD hS (lv_sub hl [2, 3, 1, 0] rfl)

theorem cl_F_144 {p : Program} {l : Launch} {e : Env} {R : Room} {s : State} {m : MethodId} {args : Array Value} {below : List Frame} {meth : Method} {c : Code} {H : Heap} {locs : List Loc} {cells slots : Nat} {Q : State → Prop} {D : va_G} {A : Nat → Prop} {cc : ByteArray} {nL pc : Nat} {ret : Option FieldType} {hh : List ExceptionTableEntry} {ls : Array Slot} {rest : List Value} {ka : Nat → ClassId} {al : Nat → Nat} {f : Nat → Nat → Int32} {Z : va_W} {u : Nat} {k : Int32} (C : fr_Cx p s m args meth c "FragileRules" cc nL ret hh fr_tbl fr_nw D vwCl (fr_ty ka) A) (hP : va_P D vwCl (fr_cw ka al f Z) H) (hD : va_D A (fr_cw ka al f Z)) (hS : va_S A s.heap H locs) (hsz : ls.size = nL) (hR : 0 + 1 ≤ R.frames ∧ 8 + (2 + 11) + 0 ≤ R.locals) (hw : (rest.map fun v => v.category).sum ≤ 8) (hf : cells + 0 ≤ R.cells ∧ slots + 0 ≤ R.slots) (hu : u < 10) (hdg : decode cc pc = .ok (.invokevirtual 144, 3)) (kk : ∀ (H : Heap) (locs : List Loc), va_P D vwCl (fr_cw ka al f Z) H → va_D A (fr_cw ka al f Z) → va_S A s.heap H locs → W p l e R s m args below meth c H locs (cells + 0) (slots + 0) Q (F0 m (pc + 3) ls (.int (dn_has f u k) :: rest))) : W p l e R s m args below meth c H locs cells slots Q (F0 m pc ls (.int k :: .ref (al (7 + u)) :: rest)) :=
  fr_callVi (As := [.int k]) C hP hD hS (c_has l D ka al Z f u k hu) (cwV 1 C.2.2.2.2.1 (fr_goodV ml_F_144 mi_has msel_has mini_U mc_has) rfl rfl rfl (by decide +kernel) hR) (va_recv C.2.2.2.2.2.1 hP (ci := 1) (q0 := (7 + u)) rfl (fr_cw_u hu)) rfl hsz hw hdg hf kk
def dn_marks_2 : Nat → (Nat) → (Nat → Nat → Int32) → (Int32) → Int32 × (Nat → Nat → Int32)
  | 0, _, _, _ => (0, fun _ _ => 0)
  | n + 1, u, g, x2 => if 16 < x2 then (0, g) else (if (dn_has g u x2) = 0 then (dn_marks_2 n u g (x2 <<< (1 &&& 31))) else (if ((dn_firstRefusing g 2 u u x2).1) = 0 then (dn_marks_2 n u ((dn_firstRefusing g 2 u u x2).2) (x2 <<< (1 &&& 31))) else ((dn_firstRefusing g 2 u u x2).1, (dn_firstRefusing g 2 u u x2).2)))
set_option maxHeartbeats 4000000 in
set_option maxRecDepth 100000 in
theorem k_marks_2 {p : Program} {l : Launch} {e : Env} {s : State} {m : MethodId} {below : List Frame} {meth : Method} {c : Code} {D : va_G} {A : Nat → Prop} {ka : Nat → ClassId} {al : Nat → Nat} {Z : va_W} {f : Nat → Nat → Int32} {u : Nat} (C : fr_Cx p s m ([.ref (al 0), .ref (al (7 + u))] : List Value).toArray meth c "FragileRules" prog_1_method_25_code 4 (some .int) [] fr_tbl fr_nw D vwCl (fr_ty ka) A) (hu : u < 10) (gR : 0 ≤ (f 0 1).toInt ∧ (f 0 1).toInt ≤ 12) (gO : fr_ord f) :
    ∀ (n : Nat) (g : Nat → Nat → Int32) (x2 : Int32) (H : Heap) (locs : List Loc) (ls : Array Slot), fr_mk x2 n → fr_ro g → va_P D vwCl (fr_cw ka al g Z) H → va_D A (fr_cw ka al g Z) → va_S A s.heap H locs → lv_has ls 4 [(0, .ref (al 0)), (1, .ref (al (7 + u))), (2, .int x2)] → W p l e { frames := 4, cells := 0, slots := 0, locals := 94 } s m ([.ref (al 0), .ref (al (7 + u))] : List Value).toArray below meth c H locs 0 0 (MQ below (fr_Qi D vwCl (fr_ty ka) (dn_marks_2 n u g x2).1 (fr_cw ka al ((dn_marks_2 n u g x2).2) Z) A) ([.ref (al 0), .ref (al (7 + u))] : List Value).toArray s 0 0 A) (F0 m 2 ls []) := by
  obtain ⟨hx, hb, hml, hown, ht, hK, hlocks, hr, hA, hN, hZ, hEx⟩ := id C
  intro n
  induction n with
  | zero =>
    intro g x2 H locs ls hm hq hP hD hS hl
    exact fr_mk_0 hm
  | succ n ih =>
    intro g x2 H locs ls hm hq hP hD hS hl
    refine lv_iload_n hx hb dF_firstRefusingMarks_2 rfl (lv_at hl 2 rfl) ?_
    refine lv_bipush (v := 16) hx hb dF_firstRefusingMarks_3 (by decide) ?_
    refine lv_icmp_gt (tgt := 42) hx hb dF_firstRefusingMarks_5 (by decide) (fun c_5 => ?_) (fun c_5 => ?_)
    · skip
      refine lv_iconst (v := 0) hx hb dF_firstRefusingMarks_42 (by decide) ?_
      have hd_ : dn_marks_2 (n + 1) u g x2 = (0, g) := by rw [dn_marks_2, if_pos c_5]
      rw [hd_]
      exact fr_iret C hP hD hS rfl dF_firstRefusingMarks_43
    · skip
      refine lv_aload_n hx hb dF_firstRefusingMarks_8 rfl (lv_at hl 1 rfl) ?_
      refine lv_iload_n hx hb dF_firstRefusingMarks_9 rfl (lv_at hl 2 rfl) ?_
      refine cl_F_144 C hP hD hS hl.1 ⟨Nat.le_of_ble_eq_true rfl, Nat.le_of_ble_eq_true rfl⟩ (Nat.le_of_ble_eq_true rfl) ⟨Nat.le_of_ble_eq_true rfl, Nat.le_of_ble_eq_true rfl⟩ hu dF_firstRefusingMarks_10 (fun H locs hP hD hS => ?_)
      refine lv_if_eq (tgt := 27) hx hb dF_firstRefusingMarks_13 (by decide) (fun c_13 => ?_) (fun c_13 => ?_)
      · skip
        refine lv_iconst (v := 0) hx hb dF_firstRefusingMarks_27 (by decide) ?_
        refine lv_istore_n (lv' := [(3, .int 0), (0, .ref (al 0)), (1, .ref (al (7 + u))), (2, .int x2)]) hx hb dF_firstRefusingMarks_28 rfl hl (by decide) rfl (fun ls hl => ?_)
        refine lv_iload_n hx hb dF_firstRefusingMarks_29 rfl (lv_at hl 0 rfl) ?_
        refine lv_if_eq (tgt := 35) hx hb dF_firstRefusingMarks_30 (by decide) (fun c_30 => ?_) (fun c_30 => absurd c_30 (by decide))
        refine lv_iload_n hx hb dF_firstRefusingMarks_35 rfl (lv_at hl 3 rfl) ?_
        refine lv_iconst (v := 1) hx hb dF_firstRefusingMarks_36 (by decide) ?_
        refine lv_ishl hx hb dF_firstRefusingMarks_37 ?_
        refine lv_istore_n (lv' := [(2, .int (x2 <<< (1 &&& 31))), (3, .int 0), (0, .ref (al 0)), (1, .ref (al (7 + u)))]) hx hb dF_firstRefusingMarks_38 rfl hl (by decide) rfl (fun ls hl => ?_)
        refine lv_goto (tgt := 2) hx hb dF_firstRefusingMarks_39 (by decide) ?_
        have hd_ : dn_marks_2 (n + 1) u g x2 = dn_marks_2 n u g (x2 <<< (1 &&& 31)) := by rw [dn_marks_2, if_neg c_5, if_pos c_13]
        rw [hd_]
        exact ih g (x2 <<< (1 &&& 31)) H locs ls (fr_mk_b hm c_5) hq hP hD hS (lv_sub hl [2, 3, 0] rfl)
      · skip
        refine lv_aload_n hx hb dF_firstRefusingMarks_16 rfl (lv_at hl 0 rfl) ?_
        refine lv_iconst (v := 2) hx hb dF_firstRefusingMarks_17 (by decide) ?_
        refine lv_aload_n hx hb dF_firstRefusingMarks_18 rfl (lv_at hl 1 rfl) ?_
        refine lv_aload_n hx hb dF_firstRefusingMarks_19 rfl (lv_at hl 1 rfl) ?_
        refine lv_iload_n hx hb dF_firstRefusingMarks_20 rfl (lv_at hl 2 rfl) ?_
        refine cl_F_201 C hP hD hS hl.1 ⟨Nat.le_of_ble_eq_true rfl, Nat.le_of_ble_eq_true rfl⟩ (Nat.le_of_ble_eq_true rfl) ⟨Nat.le_of_ble_eq_true rfl, Nat.le_of_ble_eq_true rfl⟩ hu hu hq.1 hq.2 dF_firstRefusingMarks_21 (fun H locs hP hD hS => ?_)
        refine lv_goto (tgt := 28) hx hb dF_firstRefusingMarks_24 (by decide) ?_
        refine lv_istore_n (lv' := [(3, .int ((dn_firstRefusing g 2 u u x2).1)), (0, .ref (al 0)), (1, .ref (al (7 + u))), (2, .int x2)]) hx hb dF_firstRefusingMarks_28 rfl hl (by decide) rfl (fun ls hl => ?_)
        refine lv_iload_n hx hb dF_firstRefusingMarks_29 rfl (lv_at hl 0 rfl) ?_
        refine lv_if_eq (tgt := 35) hx hb dF_firstRefusingMarks_30 (by decide) (fun c_30 => ?_) (fun c_30 => ?_)
        · skip
          refine lv_iload_n hx hb dF_firstRefusingMarks_35 rfl (lv_at hl 3 rfl) ?_
          refine lv_iconst (v := 1) hx hb dF_firstRefusingMarks_36 (by decide) ?_
          refine lv_ishl hx hb dF_firstRefusingMarks_37 ?_
          refine lv_istore_n (lv' := [(2, .int (x2 <<< (1 &&& 31))), (3, .int ((dn_firstRefusing g 2 u u x2).1)), (0, .ref (al 0)), (1, .ref (al (7 + u)))]) hx hb dF_firstRefusingMarks_38 rfl hl (by decide) rfl (fun ls hl => ?_)
          refine lv_goto (tgt := 2) hx hb dF_firstRefusingMarks_39 (by decide) ?_
          have hd_ : dn_marks_2 (n + 1) u g x2 = dn_marks_2 n u ((dn_firstRefusing g 2 u u x2).2) (x2 <<< (1 &&& 31)) := by rw [dn_marks_2, if_neg c_5, if_neg c_13, if_pos c_30]
          rw [hd_]
          exact ih ((dn_firstRefusing g 2 u u x2).2) (x2 <<< (1 &&& 31)) H locs ls (fr_mk_b hm c_5) (fr_ro_fr hq) hP hD hS (lv_sub hl [2, 3, 0] rfl)
        · skip
          refine lv_iload_n hx hb dF_firstRefusingMarks_33 rfl (lv_at hl 0 rfl) ?_
          have hd_ : dn_marks_2 (n + 1) u g x2 = ((dn_firstRefusing g 2 u u x2).1, (dn_firstRefusing g 2 u u x2).2) := by rw [dn_marks_2, if_neg c_5, if_neg c_13, if_neg c_30]
          rw [hd_]
          exact fr_iret C hP hD hS rfl dF_firstRefusingMarks_34
def dn_marks (f : Nat → Nat → Int32) (u : Nat) : Int32 × (Nat → Nat → Int32) := dn_marks_2 6 u f 1
set_option maxHeartbeats 4000000 in
set_option maxRecDepth 100000 in
theorem c_marks (l : Launch) (D : va_G) (ka : Nat → ClassId) (al : Nat → Nat) (Z : va_W) (f : Nat → Nat → Int32) (u : Nat) (hu : u < 10) (gR : 0 ≤ (f 0 1).toInt ∧ (f 0 1).toInt ≤ 12) (gO : fr_ord f) : fr_Mi l y_marks (.code y_marks prog_1_method_25_code 4 (some .int) :: fr_tbl) { frames := 4, cells := 0, slots := 0, locals := 94 } D vwCl (fr_ty ka) fr_nw [.ref (al 0), .ref (al (7 + u))] (fr_cw ka al f Z) ((dn_marks f u).1) (fr_cw ka al ((dn_marks f u).2) Z) 0 0 := by
  refine fr_Mi.of (by decide) (Nat.le_of_ble_eq_true rfl) ?_
  intro p e s m below meth c A H locs ls C hP hD hS hl
  obtain ⟨hx, hb, hml, hown, ht, hK, hlocks, hr, hA, hN, hZ, hEx⟩ := id C
  have hl : lv_has ls 4 [(0, .ref (al 0)), (1, .ref (al (7 + u)))] := hl
  refine lv_iconst (v := 1) hx hb dF_firstRefusingMarks_0 (by decide) ?_
  refine lv_istore_n (lv' := [(2, .int 1), (0, .ref (al 0)), (1, .ref (al (7 + u)))]) hx hb dF_firstRefusingMarks_1 rfl hl (by decide) rfl (fun ls hl => ?_)
  have hd_ : dn_marks f u = dn_marks_2 6 u f 1 := by rw [dn_marks]
  rw [hd_]
  exact k_marks_2 C hu gR gO 6 f 1 H locs ls (Or.inl ⟨rfl, Nat.le_refl _⟩) (⟨gR, gO⟩) hP hD hS (lv_sub hl [1, 2, 0] rfl)
