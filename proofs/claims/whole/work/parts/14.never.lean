def dn_never_18 : Nat → (Nat → Nat → Int32) → (Int32) → (Int32) → (Int32) → Option String × Int32 × (Nat → Nat → Int32)
  | 0, _, _, _, _ => (none, 0, fun _ _ => 0)
  | n + 1, f, x, x2, x3 => if (f 0 1) < x3 then (none, (-1), f) else (if (f 7 ((x3 - 1).toNatClampNeg)) = 0 then (if x2 = x then (none, x3, f) else (dn_never_18 n f x (x2 + 1) (x3 + 1))) else (dn_never_18 n f x x2 (x3 + 1)))
set_option maxHeartbeats 4000000 in
set_option maxRecDepth 100000 in
theorem k_never_18 {p : Program} {l : Launch} {e : Env} {s : State} {m : MethodId} {below : List Frame} {meth : Method} {c : Code} {D : va_G} {A : Nat → Prop} {ka : Nat → ClassId} {al : Nat → Nat} {Z : va_W} {f : Nat → Nat → Int32} {x : Int32} (C : fr_Cx p s m ([.ref (al 0), .int x] : List Value).toArray meth c "FragileRules" prog_1_method_11_code 4 (some .int) [] fr_tbl fr_nw D vwCl (fr_ty ka) A) (gR : 0 ≤ (f 0 1).toInt ∧ (f 0 1).toInt ≤ 12) :
    ∀ (n : Nat) (x2 : Int32) (x3 : Int32) (H : Heap) (locs : List Loc) (ls : Array Slot), 1 ≤ x3.toInt ∧ x3.toInt ≤ (f 0 1).toInt + 1 ∧ (f 0 1).toInt + 1 < x3.toInt + n → va_P D vwCl (fr_cw ka al f Z) H → va_D A (fr_cw ka al f Z) → va_S A s.heap H locs → lv_has ls 4 [(0, .ref (al 0)), (1, .int x), (2, .int x2), (3, .int x3)] → W p l e { frames := 6, cells := 1, slots := 6, locals := 90 } s m ([.ref (al 0), .int x] : List Value).toArray below meth c H locs 0 0 (fr_XQ below (fr_Qi D vwCl (fr_ty ka) (dn_never_18 n f x x2 x3).2.1 (fr_cw ka al ((dn_never_18 n f x x2 x3).2.2) Z) A) D vwCl (fr_ty ka) (dn_never_18 n f x x2 x3).1 (fr_cw ka al ((dn_never_18 n f x x2 x3).2.2) Z) ([.ref (al 0), .int x] : List Value).toArray s 1 6 A) (F0 m 18 ls []) := by
  obtain ⟨hx, hb, hml, hown, ht, hK, hlocks, hr, hA, hN, hZ, hEx⟩ := id C
  intro n
  induction n with
  | zero =>
    intro x2 x3 H locs ls hm hP hD hS hl
    exact absurd hm (by omega)
  | succ n ih =>
    intro x2 x3 H locs ls hm hP hD hS hl
    refine lv_iload_n hx hb dF_never_18 rfl (lv_at hl 3 rfl) ?_
    refine lv_aload_n hx hb dF_never_19 rfl (lv_at hl 0 rfl) ?_
    refine gf_F_25 C hP dF_never_20 ?_
    refine lv_icmp_gt (tgt := 56) hx hb dF_never_23 (by decide) (fun c_23 => ?_) (fun c_23 => ?_)
    · skip
      refine lv_iconst (v := (-1)) hx hb dF_never_56 (by decide) ?_
      have hd_ : dn_never_18 (n + 1) f x x2 x3 = (none, (-1), f) := by rw [dn_never_18, if_pos c_23]
      rw [hd_]
      refine fr_xret rfl ?_
      refine W.widen (k := 1) (n := 6) (by decide) (by decide) ?_
      exact fr_iret C hP hD hS rfl dF_never_57
    · skip
      refine lv_aload_n hx hb dF_never_26 rfl (lv_at hl 0 rfl) ?_
      refine gf_F_21 C hP dF_never_27 ?_
      refine lv_iload_n hx hb dF_never_30 rfl (lv_at hl 3 rfl) ?_
      refine lv_iconst (v := 1) hx hb dF_never_31 (by decide) ?_
      refine lv_isub hx hb dF_never_32 ?_
      have hin_33 : vp_in (x3 - 1) 12 := by have q0 := fr_t2 c_23; have e0 := hm; have e1 := gR; have e2 := fr_sub1 (x := x3) hm.1; skip; rw [vp_in_iff]; omega
      refine ald_aR C hP hin_33 dF_never_33 ?_
      refine gf_F_151 C hP (fr_lt hin_33) dF_never_34 ?_
      refine lv_if_ne (tgt := 50) hx hb dF_never_37 (by decide) (fun c_37 => ?_) (fun c_37 => ?_)
      · skip
        refine lv_iinc (v := x3 + 1) (lv' := [(3, .int (x3 + 1)), (0, .ref (al 0)), (1, .int x), (2, .int x2)]) hx hb dF_never_50 hl (k := 3) rfl rfl (by decide) rfl (fun ls hl => ?_)
        refine lv_goto (tgt := 18) hx hb dF_never_53 (by decide) ?_
        have hd_ : dn_never_18 (n + 1) f x x2 x3 = dn_never_18 n f x x2 (x3 + 1) := by rw [dn_never_18, if_neg c_23, if_neg c_37]
        rw [hd_]
        exact ih x2 (x3 + 1) H locs ls (fr_nv gR hm c_23) hP hD hS (lv_sub hl [1, 2, 3, 0] rfl)
      · skip
        refine lv_iload_n hx hb dF_never_40 rfl (lv_at hl 2 rfl) ?_
        refine lv_iload_n hx hb dF_never_41 rfl (lv_at hl 1 rfl) ?_
        refine lv_icmp_ne (tgt := 47) hx hb dF_never_42 (by decide) (fun c_42 => ?_) (fun c_42 => ?_)
        · skip
          refine lv_iinc (v := x2 + 1) (lv' := [(2, .int (x2 + 1)), (0, .ref (al 0)), (1, .int x), (3, .int x3)]) hx hb dF_never_47 hl (k := 2) rfl rfl (by decide) rfl (fun ls hl => ?_)
          refine lv_iinc (v := x3 + 1) (lv' := [(3, .int (x3 + 1)), (2, .int (x2 + 1)), (0, .ref (al 0)), (1, .int x)]) hx hb dF_never_50 hl (k := 3) rfl rfl (by decide) rfl (fun ls hl => ?_)
          refine lv_goto (tgt := 18) hx hb dF_never_53 (by decide) ?_
          have hd_ : dn_never_18 (n + 1) f x x2 x3 = dn_never_18 n f x (x2 + 1) (x3 + 1) := by rw [dn_never_18, if_neg c_23, if_pos c_37, if_neg c_42]
          rw [hd_]
          exact ih (x2 + 1) (x3 + 1) H locs ls (fr_nv gR hm c_23) hP hD hS (lv_sub hl [2, 3, 1, 0] rfl)
        · skip
          refine lv_iload_n hx hb dF_never_45 rfl (lv_at hl 3 rfl) ?_
          have hd_ : dn_never_18 (n + 1) f x x2 x3 = (none, x3, f) := by rw [dn_never_18, if_neg c_23, if_pos c_37, if_pos c_42]
          rw [hd_]
          refine fr_xret rfl ?_
          refine W.widen (k := 1) (n := 6) (by decide) (by decide) ?_
          exact fr_iret C hP hD hS rfl dF_never_46
def dn_never (f : Nat → Nat → Int32) (x : Int32) : Option String × Int32 × (Nat → Nat → Int32) := if 0 ≤ x then (dn_never_18 13 f x 0 1) else (some "java/lang/IllegalArgumentException", 0, f)
set_option maxHeartbeats 4000000 in
set_option maxRecDepth 100000 in
theorem c_never (l : Launch) (hls : l.stackTraces = false) (D : va_G) (ka : Nat → ClassId) (al : Nat → Nat) (Z : va_W) (f : Nat → Nat → Int32) (x : Int32) (gR : 0 ≤ (f 0 1).toInt ∧ (f 0 1).toInt ≤ 12) : fr_Mx (fr_Qi D vwCl (fr_ty ka)) l y_never (.code y_never prog_1_method_11_code 4 (some .int) :: fr_tbl) { frames := 6, cells := 1, slots := 6, locals := 90 } D vwCl (fr_ty ka) fr_nw [.ref (al 0), .int x] (fr_cw ka al f Z) (dn_never f x).1 (dn_never f x).2.1 (fr_cw ka al ((dn_never f x).2.2) Z) 1 6 := by
  refine fr_Mx.of (by decide) (Nat.le_of_ble_eq_true rfl) ?_
  intro p e s m below meth c A H locs ls C hP hD hS hl
  obtain ⟨hx, hb, hml, hown, ht, hK, hlocks, hr, hA, hN, hZ, hEx⟩ := id C
  have hl : lv_has ls 4 [(0, .ref (al 0)), (1, .int x)] := hl
  refine lv_iload_n hx hb dF_never_0 rfl (lv_at hl 1 rfl) ?_
  refine lv_if_ge (tgt := 14) hx hb dF_never_1 (by decide) (fun c_1 => ?_) (fun c_1 => ?_)
  · skip
    refine lv_iconst (v := 0) hx hb dF_never_14 (by decide) ?_
    refine lv_istore_n (lv' := [(2, .int 0), (0, .ref (al 0)), (1, .int x)]) hx hb dF_never_15 rfl hl (by decide) rfl (fun ls hl => ?_)
    refine lv_iconst (v := 1) hx hb dF_never_16 (by decide) ?_
    refine lv_istore_n (lv' := [(3, .int 1), (2, .int 0), (0, .ref (al 0)), (1, .int x)]) hx hb dF_never_17 rfl hl (by decide) rfl (fun ls hl => ?_)
    have hd_ : dn_never f x = dn_never_18 13 f x 0 1 := by rw [dn_never, if_pos c_1]
    rw [hd_]
    exact k_never_18 C gR 13 0 1 H locs ls (by have z : (1 : Int32).toInt = 1 := rfl; omega) hP hD hS (lv_sub hl [2, 3, 1, 0] rfl)
  · skip
    have hd_ : dn_never f x = (some "java/lang/IllegalArgumentException", 0, f) := by rw [dn_never, if_neg c_1]
    rw [hd_]
    obtain ⟨sa, hsa⟩ := fr_str hown (hN _ str_F_149).2
    exact th_IAE C hl.1 hls hS hsa (Nat.le_of_ble_eq_true rfl) (Nat.le_of_ble_eq_true rfl) (Nat.le_of_ble_eq_true rfl) (Nat.le_of_ble_eq_true rfl) dF_never_4 dF_never_7 dF_never_8 dF_never_10 dF_never_13 (fr_xthrow rfl hK hP hD hS rfl rfl)

theorem cl_F_154 {p : Program} {l : Launch} {e : Env} {R : Room} {s : State} {m : MethodId} {args : Array Value} {below : List Frame} {meth : Method} {c : Code} {H : Heap} {locs : List Loc} {cells slots : Nat} {Q : State → Prop} {D : va_G} {A : Nat → Prop} {cc : ByteArray} {nL pc : Nat} {ret : Option FieldType} {hh : List ExceptionTableEntry} {ls : Array Slot} {rest : List Value} {ka : Nat → ClassId} {al : Nat → Nat} {f : Nat → Nat → Int32} {Z : va_W} {x : Int32} (C : fr_Cx p s m args meth c "FragileRules" cc nL ret hh fr_tbl fr_nw D vwCl (fr_ty ka) A) (hP : va_P D vwCl (fr_cw ka al f Z) H) (hD : va_D A (fr_cw ka al f Z)) (hS : va_S A s.heap H locs) (hsz : ls.size = nL) (hR : 0 + 1 ≤ R.frames ∧ 8 + (2 + 11) + 0 ≤ R.locals) (hw : (rest.map fun v => v.category).sum ≤ 8) (hf : cells + 0 ≤ R.cells ∧ slots + 0 ≤ R.slots) (hdg : decode cc pc = .ok (.invokevirtual 154, 3)) (kk : ∀ (H : Heap) (locs : List Loc), va_P D vwCl (fr_cw ka al f Z) H → va_D A (fr_cw ka al f Z) → va_S A s.heap H locs → W p l e R s m args below meth c H locs (cells + 0) (slots + 0) Q (F0 m (pc + 3) ls (.int (dn_isRuleNumber f x) :: rest))) : W p l e R s m args below meth c H locs cells slots Q (F0 m pc ls (.int x :: .ref (al 0) :: rest)) :=
  fr_callVi (As := [.int x]) C hP hD hS (c_isRuleNumber l D ka al Z f x) (cwV 1 C.2.2.2.2.1 (fr_goodV ml_F_154 mi_isRuleNumber msel_isRuleNumber mini_F mc_isRuleNumber) rfl rfl rfl (by decide +kernel) hR) (va_recv C.2.2.2.2.2.1 hP (ci := 0) (q0 := 0) rfl rfl) rfl hsz hw hdg hf kk
theorem cl_F_161 {p : Program} {l : Launch} {e : Env} {R : Room} {s : State} {m : MethodId} {args : Array Value} {below : List Frame} {meth : Method} {c : Code} {H : Heap} {locs : List Loc} {cells slots : Nat} {Q : State → Prop} {D : va_G} {A : Nat → Prop} {cc : ByteArray} {nL pc : Nat} {ret : Option FieldType} {hh : List ExceptionTableEntry} {ls : Array Slot} {rest : List Value} {ka : Nat → ClassId} {al : Nat → Nat} {f : Nat → Nat → Int32} {Z : va_W} {x : Int32} (C : fr_Cx p s m args meth c "FragileRules" cc nL ret hh fr_tbl fr_nw D vwCl (fr_ty ka) A) (hP : va_P D vwCl (fr_cw ka al f Z) H) (hD : va_D A (fr_cw ka al f Z)) (hS : va_S A s.heap H locs) (hsz : ls.size = nL) (hR : 0 + 1 ≤ R.frames ∧ 8 + (3 + 11) + 0 ≤ R.locals) (hw : (rest.map fun v => v.category).sum ≤ 8) (hf : cells + 0 ≤ R.cells ∧ slots + 0 ≤ R.slots) (gR : 1 ≤ (f 0 1).toInt ∧ (f 0 1).toInt ≤ 12) (hdg : decode cc pc = .ok (.invokevirtual 161, 3)) (kk : ∀ (H : Heap) (locs : List Loc), va_P D vwCl (fr_cw ka al f Z) H → va_D A (fr_cw ka al f Z) → va_S A s.heap H locs → W p l e R s m args below meth c H locs (cells + 0) (slots + 0) Q (F0 m (pc + 3) ls (.int (dn_placeIn f x) :: rest))) : W p l e R s m args below meth c H locs cells slots Q (F0 m pc ls (.int x :: .ref (al 0) :: rest)) :=
  fr_callVi (As := [.int x]) C hP hD hS (c_placeIn l D ka al Z f x gR) (cwV 1 C.2.2.2.2.1 (fr_goodV ml_F_161 mi_placeIn msel_placeIn mini_F mc_placeIn) rfl rfl rfl (by decide +kernel) hR) (va_recv C.2.2.2.2.2.1 hP (ci := 0) (q0 := 0) rfl rfl) rfl hsz hw hdg hf kk
def dn_order (f : Nat → Nat → Int32) (x : Int32) (y : Int32) : Option String × Int32 × (Nat → Nat → Int32) := if (dn_isRuleNumber f x) = 0 then (some "java/util/NoSuchElementException", 0, f) else (if (dn_within y ((f 0 1) - 1)) = 0 then (some "java/lang/IllegalArgumentException", 0, f) else (if y ≤ (dn_placeIn f x) then (none, dn_placeIn f x, fr_up (fr_row f 8 (va_cpy (fun j => f 8 j) (fun j => f 8 j) y.toNatClampNeg (y + 1).toNatClampNeg ((dn_placeIn f x) - y).toNatClampNeg)) 8 y.toNatClampNeg x) else (none, dn_placeIn f x, fr_up (fr_row f 8 (va_cpy (fun j => f 8 j) (fun j => f 8 j) ((dn_placeIn f x) + 1).toNatClampNeg (dn_placeIn f x).toNatClampNeg (y - (dn_placeIn f x)).toNatClampNeg)) 8 y.toNatClampNeg x)))
set_option maxHeartbeats 4000000 in
set_option maxRecDepth 100000 in
theorem c_order (l : Launch) (hls : l.stackTraces = false) (D : va_G) (ka : Nat → ClassId) (al : Nat → Nat) (Z : va_W) (f : Nat → Nat → Int32) (x : Int32) (y : Int32) (gR : 0 ≤ (f 0 1).toInt ∧ (f 0 1).toInt ≤ 12) : fr_Mx (fr_Qi D vwCl (fr_ty ka)) l y_order (.code y_order prog_1_method_12_code 4 (some .int) :: fr_tbl) { frames := 6, cells := 1, slots := 6, locals := 90 } D vwCl (fr_ty ka) fr_nw [.ref (al 0), .int x, .int y] (fr_cw ka al f Z) (dn_order f x y).1 (dn_order f x y).2.1 (fr_cw ka al ((dn_order f x y).2.2) Z) 1 6 := by
  refine fr_Mx.of (by decide) (Nat.le_of_ble_eq_true rfl) ?_
  intro p e s m below meth c A H locs ls C hP hD hS hl
  obtain ⟨hx, hb, hml, hown, ht, hK, hlocks, hr, hA, hN, hZ, hEx⟩ := id C
  have hl : lv_has ls 4 [(0, .ref (al 0)), (1, .int x), (2, .int y)] := hl
  refine lv_aload_n hx hb dF_order_0 rfl (lv_at hl 0 rfl) ?_
  refine lv_iload_n hx hb dF_order_1 rfl (lv_at hl 1 rfl) ?_
  refine cl_F_154 C hP hD hS hl.1 ⟨Nat.le_of_ble_eq_true rfl, Nat.le_of_ble_eq_true rfl⟩ (Nat.le_of_ble_eq_true rfl) ⟨Nat.le_of_ble_eq_true rfl, Nat.le_of_ble_eq_true rfl⟩ dF_order_2 (fun H locs hP hD hS => ?_)
  refine lv_if_ne (tgt := 18) hx hb dF_order_5 (by decide) (fun c_5 => ?_) (fun c_5 => ?_)
  · skip
    refine lv_iload_n hx hb dF_order_18 rfl (lv_at hl 2 rfl) ?_
    refine lv_aload_n hx hb dF_order_19 rfl (lv_at hl 0 rfl) ?_
    refine gf_F_25 C hP dF_order_20 ?_
    refine lv_iconst (v := 1) hx hb dF_order_23 (by decide) ?_
    refine lv_isub hx hb dF_order_24 ?_
    refine cl_F_53 C hP hD hS hl.1 ⟨Nat.le_of_ble_eq_true rfl, Nat.le_of_ble_eq_true rfl⟩ (Nat.le_of_ble_eq_true rfl) ⟨Nat.le_of_ble_eq_true rfl, Nat.le_of_ble_eq_true rfl⟩ dF_order_25 (fun H locs hP hD hS => ?_)
    refine lv_if_ne (tgt := 41) hx hb dF_order_28 (by decide) (fun c_28 => ?_) (fun c_28 => ?_)
    · skip
      refine lv_aload_n hx hb dF_order_41 rfl (lv_at hl 0 rfl) ?_
      refine lv_iload_n hx hb dF_order_42 rfl (lv_at hl 1 rfl) ?_
      refine cl_F_161 C hP hD hS hl.1 ⟨Nat.le_of_ble_eq_true rfl, Nat.le_of_ble_eq_true rfl⟩ (Nat.le_of_ble_eq_true rfl) ⟨Nat.le_of_ble_eq_true rfl, Nat.le_of_ble_eq_true rfl⟩ (fr_or1 gR c_5) dF_order_43 (fun H locs hP hD hS => ?_)
      refine lv_istore_n (lv' := [(3, .int (dn_placeIn f x)), (0, .ref (al 0)), (1, .int x), (2, .int y)]) hx hb dF_order_46 rfl hl (by decide) rfl (fun ls hl => ?_)
      refine lv_iload_n hx hb dF_order_47 rfl (lv_at hl 0 rfl) ?_
      refine lv_iload_n hx hb dF_order_48 rfl (lv_at hl 3 rfl) ?_
      refine lv_icmp_ge (tgt := 73) hx hb dF_order_49 (by decide) (fun c_49 => ?_) (fun c_49 => ?_)
      · skip
        refine lv_aload_n hx hb dF_order_73 rfl (lv_at hl 1 rfl) ?_
        refine gf_F_28 C hP dF_order_74 ?_
        refine lv_iload_n hx hb dF_order_77 rfl (lv_at hl 3 rfl) ?_
        refine lv_aload_n hx hb dF_order_78 rfl (lv_at hl 1 rfl) ?_
        refine gf_F_28 C hP dF_order_79 ?_
        refine lv_iload_n hx hb dF_order_82 rfl (lv_at hl 3 rfl) ?_
        refine lv_iconst (v := 1) hx hb dF_order_83 (by decide) ?_
        refine lv_iadd hx hb dF_order_84 ?_
        refine lv_iload_n hx hb dF_order_85 rfl (lv_at hl 0 rfl) ?_
        refine lv_iload_n hx hb dF_order_86 rfl (lv_at hl 3 rfl) ?_
        refine lv_isub hx hb dF_order_87 ?_
        refine cpy_F_8 C hP hD hS hl.1 (by have q0 := fr_t6 c_5; have q1 := fr_t6 c_28; have q2 := fr_t3 c_49; have z0 : (0 : Int32).toInt = 0 := rfl; have e0 := fr_or3 gR c_5 c_28 c_49; skip; omega) (Nat.le_of_ble_eq_true rfl) (Nat.le_of_ble_eq_true rfl) dF_order_88 (fun H locs hP hD hS => ?_)
        refine lv_aload_n hx hb dF_order_91 rfl (lv_at hl 1 rfl) ?_
        refine gf_F_28 C hP dF_order_92 ?_
        refine lv_iload_n hx hb dF_order_95 rfl (lv_at hl 3 rfl) ?_
        refine lv_iload_n hx hb dF_order_96 rfl (lv_at hl 2 rfl) ?_
        have hin_97 : vp_in y 12 := by have q0 := fr_t6 c_5; have q1 := fr_t6 c_28; have q2 := fr_t3 c_49; have z0 : (0 : Int32).toInt = 0 := rfl; have e0 := fr_or gR c_5 c_28; skip; rw [vp_in_iff]; omega
        refine ast_8 C hP hD hS hin_97 dF_order_97 (fun H locs hP hD hS => ?_)
        refine lv_iload_n hx hb dF_order_98 rfl (lv_at hl 0 rfl) ?_
        have hd_ : dn_order f x y = (none, dn_placeIn f x, fr_up (fr_row f 8 (va_cpy (fun j => f 8 j) (fun j => f 8 j) y.toNatClampNeg (y + 1).toNatClampNeg ((dn_placeIn f x) - y).toNatClampNeg)) 8 y.toNatClampNeg x) := by rw [dn_order, if_neg c_5, if_neg c_28, if_pos c_49]
        rw [hd_]
        refine fr_xret rfl ?_
        refine W.widen (k := 1) (n := 6) (by decide) (by decide) ?_
        exact fr_iret C hP hD hS rfl dF_order_99
      · skip
        refine lv_aload_n hx hb dF_order_52 rfl (lv_at hl 1 rfl) ?_
        refine gf_F_28 C hP dF_order_53 ?_
        refine lv_iload_n hx hb dF_order_56 rfl (lv_at hl 0 rfl) ?_
        refine lv_iconst (v := 1) hx hb dF_order_57 (by decide) ?_
        refine lv_iadd hx hb dF_order_58 ?_
        refine lv_aload_n hx hb dF_order_59 rfl (lv_at hl 1 rfl) ?_
        refine gf_F_28 C hP dF_order_60 ?_
        refine lv_iload_n hx hb dF_order_63 rfl (lv_at hl 0 rfl) ?_
        refine lv_iload_n hx hb dF_order_64 rfl (lv_at hl 3 rfl) ?_
        refine lv_iload_n hx hb dF_order_65 rfl (lv_at hl 0 rfl) ?_
        refine lv_isub hx hb dF_order_66 ?_
        refine cpy_F_8 C hP hD hS hl.1 (by have q0 := fr_t6 c_5; have q1 := fr_t6 c_28; have q2 := fr_t4 c_49; have z0 : (0 : Int32).toInt = 0 := rfl; have e0 := fr_or2 gR c_5 c_28 c_49; skip; omega) (Nat.le_of_ble_eq_true rfl) (Nat.le_of_ble_eq_true rfl) dF_order_67 (fun H locs hP hD hS => ?_)
        refine lv_goto (tgt := 91) hx hb dF_order_70 (by decide) ?_
        refine lv_aload_n hx hb dF_order_91 rfl (lv_at hl 1 rfl) ?_
        refine gf_F_28 C hP dF_order_92 ?_
        refine lv_iload_n hx hb dF_order_95 rfl (lv_at hl 3 rfl) ?_
        refine lv_iload_n hx hb dF_order_96 rfl (lv_at hl 2 rfl) ?_
        have hin_97 : vp_in y 12 := by have q0 := fr_t6 c_5; have q1 := fr_t6 c_28; have q2 := fr_t4 c_49; have z0 : (0 : Int32).toInt = 0 := rfl; have e0 := fr_or gR c_5 c_28; skip; rw [vp_in_iff]; omega
        refine ast_8 C hP hD hS hin_97 dF_order_97 (fun H locs hP hD hS => ?_)
        refine lv_iload_n hx hb dF_order_98 rfl (lv_at hl 0 rfl) ?_
        have hd_ : dn_order f x y = (none, dn_placeIn f x, fr_up (fr_row f 8 (va_cpy (fun j => f 8 j) (fun j => f 8 j) ((dn_placeIn f x) + 1).toNatClampNeg (dn_placeIn f x).toNatClampNeg (y - (dn_placeIn f x)).toNatClampNeg)) 8 y.toNatClampNeg x) := by rw [dn_order, if_neg c_5, if_neg c_28, if_neg c_49]
        rw [hd_]
        refine fr_xret rfl ?_
        refine W.widen (k := 1) (n := 6) (by decide) (by decide) ?_
        exact fr_iret C hP hD hS rfl dF_order_99
    · skip
      have hd_ : dn_order f x y = (some "java/lang/IllegalArgumentException", 0, f) := by rw [dn_order, if_neg c_5, if_pos c_28]
      rw [hd_]
      obtain ⟨sa, hsa⟩ := fr_str hown (hN _ str_F_159).2
      exact th_IAE C hl.1 hls hS hsa (Nat.le_of_ble_eq_true rfl) (Nat.le_of_ble_eq_true rfl) (Nat.le_of_ble_eq_true rfl) (Nat.le_of_ble_eq_true rfl) dF_order_31 dF_order_34 dF_order_35 dF_order_37 dF_order_40 (fr_xthrow rfl hK hP hD hS rfl rfl)
  · skip
    have hd_ : dn_order f x y = (some "java/util/NoSuchElementException", 0, f) := by rw [dn_order, if_pos c_5]
    rw [hd_]
    obtain ⟨sa, hsa⟩ := fr_str hown (hN _ str_F_157).2
    exact th_NSE C hl.1 hls hS hsa (Nat.le_of_ble_eq_true rfl) (Nat.le_of_ble_eq_true rfl) (Nat.le_of_ble_eq_true rfl) (Nat.le_of_ble_eq_true rfl) dF_order_8 dF_order_11 dF_order_12 dF_order_14 dF_order_17 (fr_xthrow rfl hK hP hD hS rfl rfl)

def dn_told (f : Nat → Nat → Int32) (x : Int32) (y : Int32) : Option String × Int32 × (Nat → Nat → Int32) := if (dn_isRuleNumber f x) = 0 then (some "java/util/NoSuchElementException", 0, f) else (if y = 0 then (none, f 4 ((x - 1).toNatClampNeg), f) else (if y = 1 then (none, f 5 ((x - 1).toNatClampNeg), f) else (if y = 2 then (none, f 6 ((x - 1).toNatClampNeg), f) else (if y = 3 then (none, dn_placeIn f x, f) else (if y = 4 then (none, f 7 ((x - 1).toNatClampNeg), f) else (some "java/lang/IllegalArgumentException", 0, f))))))
set_option maxHeartbeats 4000000 in
set_option maxRecDepth 100000 in
theorem c_told (l : Launch) (hls : l.stackTraces = false) (D : va_G) (ka : Nat → ClassId) (al : Nat → Nat) (Z : va_W) (f : Nat → Nat → Int32) (x : Int32) (y : Int32) (gR : 0 ≤ (f 0 1).toInt ∧ (f 0 1).toInt ≤ 12) : fr_Mx (fr_Qi D vwCl (fr_ty ka)) l y_told (.code y_told prog_1_method_13_code 4 (some .int) :: fr_tbl) { frames := 6, cells := 1, slots := 6, locals := 90 } D vwCl (fr_ty ka) fr_nw [.ref (al 0), .int x, .int y] (fr_cw ka al f Z) (dn_told f x y).1 (dn_told f x y).2.1 (fr_cw ka al ((dn_told f x y).2.2) Z) 1 6 := by
  refine fr_Mx.of (by decide) (Nat.le_of_ble_eq_true rfl) ?_
  intro p e s m below meth c A H locs ls C hP hD hS hl
  obtain ⟨hx, hb, hml, hown, ht, hK, hlocks, hr, hA, hN, hZ, hEx⟩ := id C
  have hl : lv_has ls 4 [(0, .ref (al 0)), (1, .int x), (2, .int y)] := hl
  refine lv_aload_n hx hb dF_told_0 rfl (lv_at hl 0 rfl) ?_
  refine lv_iload_n hx hb dF_told_1 rfl (lv_at hl 1 rfl) ?_
  refine cl_F_154 C hP hD hS hl.1 ⟨Nat.le_of_ble_eq_true rfl, Nat.le_of_ble_eq_true rfl⟩ (Nat.le_of_ble_eq_true rfl) ⟨Nat.le_of_ble_eq_true rfl, Nat.le_of_ble_eq_true rfl⟩ dF_told_2 (fun H locs hP hD hS => ?_)
  refine lv_if_ne (tgt := 18) hx hb dF_told_5 (by decide) (fun c_5 => ?_) (fun c_5 => ?_)
  · skip
    refine lv_aload_n hx hb dF_told_18 rfl (lv_at hl 0 rfl) ?_
    refine gf_F_21 C hP dF_told_19 ?_
    refine lv_iload_n hx hb dF_told_22 rfl (lv_at hl 1 rfl) ?_
    refine lv_iconst (v := 1) hx hb dF_told_23 (by decide) ?_
    refine lv_isub hx hb dF_told_24 ?_
    have hin_25 : vp_in (x - 1) 12 := by have q0 := fr_t6 c_5; have z0 : (0 : Int32).toInt = 0 := rfl; have e0 := fr_isR c_5; have e1 := fr_sub1 (fr_isR c_5).1; have e2 := gR; skip; rw [vp_in_iff]; omega
    refine ald_aR C hP hin_25 dF_told_25 ?_
    refine lv_astore_n (lv' := [(3, .ref (al (17 + ((x - 1).toNatClampNeg)))), (0, .ref (al 0)), (1, .int x), (2, .int y)]) hx hb dF_told_26 rfl hl (by decide) rfl (fun ls hl => ?_)
    refine lv_iload_n hx hb dF_told_27 rfl (lv_at hl 3 rfl) ?_
    by_cases c_28_0 : y = 0
    · skip
      refine lv_tableIn (tgt := 64) hx hb dF_told_28 (by rw [c_28_0]; decide) (by rw [c_28_0]; decide) (by rw [c_28_0] <;> rfl) (by decide) ?_
      refine lv_aload_n hx hb dF_told_64 rfl (lv_at hl 0 rfl) ?_
      refine gf_F_171 C hP (fr_lt hin_25) dF_told_65 ?_
      have hd_ : dn_told f x y = (none, f 4 ((x - 1).toNatClampNeg), f) := by rw [dn_told, if_neg c_5, if_pos c_28_0]
      rw [hd_]
      refine fr_xret rfl ?_
      refine W.widen (k := 1) (n := 6) (by decide) (by decide) ?_
      exact fr_iret C hP hD hS rfl dF_told_68
    · skip
      by_cases c_28_1 : y = 1
      · skip
        refine lv_tableIn (tgt := 69) hx hb dF_told_28 (by rw [c_28_1]; decide) (by rw [c_28_1]; decide) (by rw [c_28_1] <;> rfl) (by decide) ?_
        refine lv_aload_n hx hb dF_told_69 rfl (lv_at hl 0 rfl) ?_
        refine gf_F_174 C hP (fr_lt hin_25) dF_told_70 ?_
        have hd_ : dn_told f x y = (none, f 5 ((x - 1).toNatClampNeg), f) := by rw [dn_told, if_neg c_5, if_neg c_28_0, if_pos c_28_1]
        rw [hd_]
        refine fr_xret rfl ?_
        refine W.widen (k := 1) (n := 6) (by decide) (by decide) ?_
        exact fr_iret C hP hD hS rfl dF_told_73
      · skip
        by_cases c_28_2 : y = 2
        · skip
          refine lv_tableIn (tgt := 74) hx hb dF_told_28 (by rw [c_28_2]; decide) (by rw [c_28_2]; decide) (by rw [c_28_2] <;> rfl) (by decide) ?_
          refine lv_aload_n hx hb dF_told_74 rfl (lv_at hl 0 rfl) ?_
          refine gf_F_177 C hP (fr_lt hin_25) dF_told_75 ?_
          have hd_ : dn_told f x y = (none, f 6 ((x - 1).toNatClampNeg), f) := by rw [dn_told, if_neg c_5, if_neg c_28_0, if_neg c_28_1, if_pos c_28_2]
          rw [hd_]
          refine fr_xret rfl ?_
          refine W.widen (k := 1) (n := 6) (by decide) (by decide) ?_
          exact fr_iret C hP hD hS rfl dF_told_78
        · skip
          by_cases c_28_3 : y = 3
          · skip
            refine lv_tableIn (tgt := 79) hx hb dF_told_28 (by rw [c_28_3]; decide) (by rw [c_28_3]; decide) (by rw [c_28_3] <;> rfl) (by decide) ?_
            refine lv_aload_n hx hb dF_told_79 rfl (lv_at hl 1 rfl) ?_
            refine lv_iload_n hx hb dF_told_80 rfl (lv_at hl 2 rfl) ?_
            refine cl_F_161 C hP hD hS hl.1 ⟨Nat.le_of_ble_eq_true rfl, Nat.le_of_ble_eq_true rfl⟩ (Nat.le_of_ble_eq_true rfl) ⟨Nat.le_of_ble_eq_true rfl, Nat.le_of_ble_eq_true rfl⟩ (fr_or1 gR c_5) dF_told_81 (fun H locs hP hD hS => ?_)
            have hd_ : dn_told f x y = (none, dn_placeIn f x, f) := by rw [dn_told, if_neg c_5, if_neg c_28_0, if_neg c_28_1, if_neg c_28_2, if_pos c_28_3]
            rw [hd_]
            refine fr_xret rfl ?_
            refine W.widen (k := 1) (n := 6) (by decide) (by decide) ?_
            exact fr_iret C hP hD hS rfl dF_told_84
          · skip
            by_cases c_28_4 : y = 4
            · skip
              refine lv_tableIn (tgt := 85) hx hb dF_told_28 (by rw [c_28_4]; decide) (by rw [c_28_4]; decide) (by rw [c_28_4] <;> rfl) (by decide) ?_
              refine lv_aload_n hx hb dF_told_85 rfl (lv_at hl 0 rfl) ?_
              refine gf_F_151 C hP (fr_lt hin_25) dF_told_86 ?_
              have hd_ : dn_told f x y = (none, f 7 ((x - 1).toNatClampNeg), f) := by rw [dn_told, if_neg c_5, if_neg c_28_0, if_neg c_28_1, if_neg c_28_2, if_neg c_28_3, if_pos c_28_4]
              rw [hd_]
              refine fr_xret rfl ?_
              refine W.widen (k := 1) (n := 6) (by decide) (by decide) ?_
              exact fr_iret C hP hD hS rfl dF_told_89
            · skip
              refine lv_tableOut (tgt := 90) hx hb dF_told_28 (by have h0 := fr_ne (k := 0) (a := 0) rfl c_28_0; have h1 := fr_ne (k := 1) (a := 1) rfl c_28_1; have h2 := fr_ne (k := 2) (a := 2) rfl c_28_2; have h3 := fr_ne (k := 3) (a := 3) rfl c_28_3; have h4 := fr_ne (k := 4) (a := 4) rfl c_28_4; omega) (by decide) ?_
              have hd_ : dn_told f x y = (some "java/lang/IllegalArgumentException", 0, f) := by rw [dn_told, if_neg c_5, if_neg c_28_0, if_neg c_28_1, if_neg c_28_2, if_neg c_28_3, if_neg c_28_4]
              rw [hd_]
              obtain ⟨sa, hsa⟩ := fr_str hown (hN _ str_F_180).2
              exact th_IAE C hl.1 hls hS hsa (Nat.le_of_ble_eq_true rfl) (Nat.le_of_ble_eq_true rfl) (Nat.le_of_ble_eq_true rfl) (Nat.le_of_ble_eq_true rfl) dF_told_90 dF_told_93 dF_told_94 dF_told_96 dF_told_99 (fr_xthrow rfl hK hP hD hS rfl rfl)
  · skip
    have hd_ : dn_told f x y = (some "java/util/NoSuchElementException", 0, f) := by rw [dn_told, if_pos c_5]
    rw [hd_]
    obtain ⟨sa, hsa⟩ := fr_str hown (hN _ str_F_157).2
    exact th_NSE C hl.1 hls hS hsa (Nat.le_of_ble_eq_true rfl) (Nat.le_of_ble_eq_true rfl) (Nat.le_of_ble_eq_true rfl) (Nat.le_of_ble_eq_true rfl) dF_told_8 dF_told_11 dF_told_12 dF_told_14 dF_told_17 (fr_xthrow rfl hK hP hD hS rfl rfl)

def dn_about (f : Nat → Nat → Int32) (x : Int32) (y : Int32) : Option String × Int32 × (Nat → Nat → Int32) := if (dn_isUnit f x) = 0 then (some "java/util/NoSuchElementException", 0, f) else (if y = 0 then (none, f 1 x.toNatClampNeg, f) else (if y = 1 then (none, f 2 x.toNatClampNeg, f) else (if y = 2 then (none, f 3 x.toNatClampNeg, f) else (some "java/lang/IllegalArgumentException", 0, f))))
set_option maxHeartbeats 4000000 in
set_option maxRecDepth 100000 in
theorem c_about (l : Launch) (hls : l.stackTraces = false) (D : va_G) (ka : Nat → ClassId) (al : Nat → Nat) (Z : va_W) (f : Nat → Nat → Int32) (x : Int32) (y : Int32) (gU : 0 ≤ (f 0 0).toInt ∧ (f 0 0).toInt ≤ 10) : fr_Mx (fr_Qi D vwCl (fr_ty ka)) l y_about (.code y_about prog_1_method_14_code 3 (some .int) :: fr_tbl) { frames := 6, cells := 1, slots := 6, locals := 90 } D vwCl (fr_ty ka) fr_nw [.ref (al 0), .int x, .int y] (fr_cw ka al f Z) (dn_about f x y).1 (dn_about f x y).2.1 (fr_cw ka al ((dn_about f x y).2.2) Z) 1 6 := by
  refine fr_Mx.of (by decide) (Nat.le_of_ble_eq_true rfl) ?_
  intro p e s m below meth c A H locs ls C hP hD hS hl
  obtain ⟨hx, hb, hml, hown, ht, hK, hlocks, hr, hA, hN, hZ, hEx⟩ := id C
  have hl : lv_has ls 3 [(0, .ref (al 0)), (1, .int x), (2, .int y)] := hl
  refine lv_aload_n hx hb dF_about_0 rfl (lv_at hl 0 rfl) ?_
  refine lv_iload_n hx hb dF_about_1 rfl (lv_at hl 1 rfl) ?_
  refine cl_F_119 C hP hD hS hl.1 ⟨Nat.le_of_ble_eq_true rfl, Nat.le_of_ble_eq_true rfl⟩ (Nat.le_of_ble_eq_true rfl) ⟨Nat.le_of_ble_eq_true rfl, Nat.le_of_ble_eq_true rfl⟩ dF_about_2 (fun H locs hP hD hS => ?_)
  refine lv_if_ne (tgt := 18) hx hb dF_about_5 (by decide) (fun c_5 => ?_) (fun c_5 => ?_)
  · skip
    refine lv_iload_n hx hb dF_about_18 rfl (lv_at hl 2 rfl) ?_
    by_cases c_19_0 : y = 0
    · skip
      refine lv_tableIn (tgt := 44) hx hb dF_about_19 (by rw [c_19_0]; decide) (by rw [c_19_0]; decide) (by rw [c_19_0] <;> rfl) (by decide) ?_
      refine lv_aload_n hx hb dF_about_44 rfl (lv_at hl 0 rfl) ?_
      refine gf_F_11 C hP dF_about_45 ?_
      refine lv_iload_n hx hb dF_about_48 rfl (lv_at hl 1 rfl) ?_
      have hin_49 : vp_in x 10 := by have q0 := fr_t6 c_5; have q1 := fr_t5 c_19_0; have z0 : (0 : Int32).toInt = 0 := rfl; have e0 := fr_isU c_5; have e1 := gU; skip; rw [vp_in_iff]; omega
      refine ald_aU C hP hin_49 dF_about_49 ?_
      refine gf_F_69 C hP (fr_lt hin_49) dF_about_50 ?_
      have hd_ : dn_about f x y = (none, f 1 x.toNatClampNeg, f) := by rw [dn_about, if_neg c_5, if_pos c_19_0]
      rw [hd_]
      refine fr_xret rfl ?_
      refine W.widen (k := 1) (n := 6) (by decide) (by decide) ?_
      exact fr_iret C hP hD hS rfl dF_about_53
    · skip
      by_cases c_19_1 : y = 1
      · skip
        refine lv_tableIn (tgt := 54) hx hb dF_about_19 (by rw [c_19_1]; decide) (by rw [c_19_1]; decide) (by rw [c_19_1] <;> rfl) (by decide) ?_
        refine lv_aload_n hx hb dF_about_54 rfl (lv_at hl 0 rfl) ?_
        refine gf_F_11 C hP dF_about_55 ?_
        refine lv_iload_n hx hb dF_about_58 rfl (lv_at hl 1 rfl) ?_
        have hin_59 : vp_in x 10 := by have q0 := fr_t6 c_5; have q1 := fr_t6 c_19_0; have q2 := fr_t5 c_19_1; have z0 : (0 : Int32).toInt = 0 := rfl; have z1 : (1 : Int32).toInt = 1 := rfl; have e0 := fr_isU c_5; have e1 := gU; skip; rw [vp_in_iff]; omega
        refine ald_aU C hP hin_59 dF_about_59 ?_
        refine gf_F_72 C hP (fr_lt hin_59) dF_about_60 ?_
        have hd_ : dn_about f x y = (none, f 2 x.toNatClampNeg, f) := by rw [dn_about, if_neg c_5, if_neg c_19_0, if_pos c_19_1]
        rw [hd_]
        refine fr_xret rfl ?_
        refine W.widen (k := 1) (n := 6) (by decide) (by decide) ?_
        exact fr_iret C hP hD hS rfl dF_about_63
      · skip
        by_cases c_19_2 : y = 2
        · skip
          refine lv_tableIn (tgt := 64) hx hb dF_about_19 (by rw [c_19_2]; decide) (by rw [c_19_2]; decide) (by rw [c_19_2] <;> rfl) (by decide) ?_
          refine lv_aload_n hx hb dF_about_64 rfl (lv_at hl 0 rfl) ?_
          refine gf_F_11 C hP dF_about_65 ?_
          refine lv_iload_n hx hb dF_about_68 rfl (lv_at hl 1 rfl) ?_
          have hin_69 : vp_in x 10 := by have q0 := fr_t6 c_5; have q1 := fr_t6 c_19_0; have q2 := fr_t6 c_19_1; have q3 := fr_t5 c_19_2; have z0 : (0 : Int32).toInt = 0 := rfl; have z1 : (1 : Int32).toInt = 1 := rfl; have z2 : (2 : Int32).toInt = 2 := rfl; have e0 := fr_isU c_5; have e1 := gU; skip; rw [vp_in_iff]; omega
          refine ald_aU C hP hin_69 dF_about_69 ?_
          refine gf_F_75 C hP (fr_lt hin_69) dF_about_70 ?_
          have hd_ : dn_about f x y = (none, f 3 x.toNatClampNeg, f) := by rw [dn_about, if_neg c_5, if_neg c_19_0, if_neg c_19_1, if_pos c_19_2]
          rw [hd_]
          refine fr_xret rfl ?_
          refine W.widen (k := 1) (n := 6) (by decide) (by decide) ?_
          exact fr_iret C hP hD hS rfl dF_about_73
        · skip
          refine lv_tableOut (tgt := 74) hx hb dF_about_19 (by have h0 := fr_ne (k := 0) (a := 0) rfl c_19_0; have h1 := fr_ne (k := 1) (a := 1) rfl c_19_1; have h2 := fr_ne (k := 2) (a := 2) rfl c_19_2; omega) (by decide) ?_
          have hd_ : dn_about f x y = (some "java/lang/IllegalArgumentException", 0, f) := by rw [dn_about, if_neg c_5, if_neg c_19_0, if_neg c_19_1, if_neg c_19_2]
          rw [hd_]
          obtain ⟨sa, hsa⟩ := fr_str hown (hN _ str_F_182).2
          exact th_IAE C hl.1 hls hS hsa (Nat.le_of_ble_eq_true rfl) (Nat.le_of_ble_eq_true rfl) (Nat.le_of_ble_eq_true rfl) (Nat.le_of_ble_eq_true rfl) dF_about_74 dF_about_77 dF_about_78 dF_about_80 dF_about_83 (fr_xthrow rfl hK hP hD hS rfl rfl)
  · skip
    have hd_ : dn_about f x y = (some "java/util/NoSuchElementException", 0, f) := by rw [dn_about, if_pos c_5]
    rw [hd_]
    obtain ⟨sa, hsa⟩ := fr_str hown (hN _ str_F_125).2
    exact th_NSE C hl.1 hls hS hsa (Nat.le_of_ble_eq_true rfl) (Nat.le_of_ble_eq_true rfl) (Nat.le_of_ble_eq_true rfl) (Nat.le_of_ble_eq_true rfl) dF_about_8 dF_about_11 dF_about_12 dF_about_14 dF_about_17 (fr_xthrow rfl hK hP hD hS rfl rfl)
