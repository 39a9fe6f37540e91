theorem cl_M_124 {p : Program} {l : Launch} {e : Env} {R : Room} {s : State} {m : MethodId} {args : Array Value} {below : List Frame} {meth : Method} {c : Code} {H : Heap} {locs : List Loc} {cells slots : Nat} {Q : State → Prop} {D : va_G} {A : Nat → Prop} {cc : ByteArray} {nL pc : Nat} {ret : Option FieldType} {hh : List ExceptionTableEntry} {ls : Array Slot} {rest : List Value} {ka : Nat → ClassId} {al : Nat → Nat} {f : Nat → Nat → Int32} {Z : va_W} {x : Int32} (C : fr_Cx p s m args meth c "FragileRulesModel" cc nL ret hh fr_tbl fr_nw D vwCl (fr_ty ka) A) (hP : va_P D vwCl (fr_mw ka al f Z) H) (hD : va_D A (fr_mw ka al f Z)) (hS : va_S A s.heap H locs) (hsz : ls.size = nL) (hR : 1 + 1 ≤ R.frames ∧ 8 + (2 + 11) + 20 ≤ R.locals) (hw : (rest.map fun v => v.category).sum ≤ 8) (hf : cells + 0 ≤ R.cells ∧ slots + 0 ≤ R.slots) (gS : 0 ≤ (f 0 2).toInt ∧ (f 0 2).toInt ≤ 200) (gP : 0 ≤ (f 0 13).toInt ∧ (f 0 13).toInt ≤ 1000) (hdg : decode cc pc = .ok (.invokevirtual 124, 3)) (kk : ∀ (H : Heap) (locs : List Loc), va_P D vwCl (fr_mw ka al (dn_m_take f x) Z) H → va_D A (fr_mw ka al (dn_m_take f x) Z) → va_S A s.heap H locs → W p l e R s m args below meth c H locs (cells + 0) (slots + 0) Q (F0 m (pc + 3) ls rest)) : W p l e R s m args below meth c H locs cells slots Q (F0 m pc ls (.int x :: .ref (al 0) :: rest)) :=
  fr_callVv (As := [.int x]) C hP hD hS (c_m_take l D ka al Z f x gS gP) (cwV 1 C.2.2.2.2.1 (fr_goodV ml_M_124 mi_m_take msel_m_take mini_M mc_m_take) rfl rfl rfl (by decide +kernel) hR) (va_recv C.2.2.2.2.2.1 hP (ci := 4) (q0 := 0) rfl rfl) rfl hsz hw hdg hf kk
theorem cl_M_128 {p : Program} {l : Launch} {e : Env} {R : Room} {s : State} {m : MethodId} {args : Array Value} {below : List Frame} {meth : Method} {c : Code} {H : Heap} {locs : List Loc} {cells slots : Nat} {Q : State → Prop} {D : va_G} {A : Nat → Prop} {cc : ByteArray} {nL pc : Nat} {ret : Option FieldType} {hh : List ExceptionTableEntry} {ls : Array Slot} {rest : List Value} {ka : Nat → ClassId} {al : Nat → Nat} {f : Nat → Nat → Int32} {Z : va_W} {x : Int32} (C : fr_Cx p s m args meth c "FragileRulesModel" cc nL ret hh fr_tbl fr_nw D vwCl (fr_ty ka) A) (hP : va_P D vwCl (fr_mw ka al f Z) H) (hD : va_D A (fr_mw ka al f Z)) (hS : va_S A s.heap H locs) (hsz : ls.size = nL) (hR : 1 + 1 ≤ R.frames ∧ 8 + (3 + 11) + 22 ≤ R.locals) (hw : (rest.map fun v => v.category).sum ≤ 8) (hf : cells + 0 ≤ R.cells ∧ slots + 0 ≤ R.slots) (gS : 0 ≤ (f 0 2).toInt ∧ (f 0 2).toInt ≤ 200) (gP : 0 ≤ (f 0 13).toInt ∧ (f 0 13).toInt ≤ 1000) (hdg : decode cc pc = .ok (.invokevirtual 128, 3)) (kk : ∀ (H : Heap) (locs : List Loc), va_P D vwCl (fr_mw ka al ((dn_m_digit f x).2) Z) H → va_D A (fr_mw ka al ((dn_m_digit f x).2) Z) → va_S A s.heap H locs → W p l e R s m args below meth c H locs (cells + 0) (slots + 0) Q (F0 m (pc + 3) ls (.int ((dn_m_digit f x).1) :: rest))) : W p l e R s m args below meth c H locs cells slots Q (F0 m pc ls (.int x :: .ref (al 0) :: rest)) :=
  fr_callVi (As := [.int x]) C hP hD hS (c_m_digit l D ka al Z f x gS gP) (cwV 1 C.2.2.2.2.1 (fr_goodV ml_M_128 mi_m_digit msel_m_digit mini_M mc_m_digit) rfl rfl rfl (by decide +kernel) hR) (va_recv C.2.2.2.2.2.1 hP (ci := 4) (q0 := 0) rfl rfl) rfl hsz hw hdg hf kk
theorem cl_M_120 {p : Program} {l : Launch} {e : Env} {R : Room} {s : State} {m : MethodId} {args : Array Value} {below : List Frame} {meth : Method} {c : Code} {H : Heap} {locs : List Loc} {cells slots : Nat} {Q : State → Prop} {D : va_G} {A : Nat → Prop} {cc : ByteArray} {nL pc : Nat} {ret : Option FieldType} {hh : List ExceptionTableEntry} {ls : Array Slot} {rest : List Value} {ka : Nat → ClassId} {al : Nat → Nat} {f : Nat → Nat → Int32} {Z : va_W} {x : Int32} (C : fr_Cx p s m args meth c "FragileRulesModel" cc nL ret hh fr_tbl fr_nw D vwCl (fr_ty ka) A) (hP : va_P D vwCl (fr_mw ka al f Z) H) (hD : va_D A (fr_mw ka al f Z)) (hS : va_S A s.heap H locs) (hsz : ls.size = nL) (hR : 0 + 1 ≤ R.frames ∧ 8 + (1 + 11) + 0 ≤ R.locals) (hw : (rest.map fun v => v.category).sum ≤ 8) (hf : cells + 0 ≤ R.cells ∧ slots + 0 ≤ R.slots) (hdg : decode cc pc = .ok (.invokestatic 120, 3)) (kk : ∀ (H : Heap) (locs : List Loc), va_P D vwCl (fr_mw ka al f Z) H → va_D A (fr_mw ka al f Z) → va_S A s.heap H locs → W p l e R s m args below meth c H locs (cells + 0) (slots + 0) Q (F0 m (pc + 3) ls (.int (dn_m_rowOf x) :: rest))) : W p l e R s m args below meth c H locs cells slots Q (F0 m pc ls (.int x :: rest)) :=
  fr_callSi (As := [.int x]) C hP hD hS (c_m_rowOf l D ka al Z f x) (cwS 1 C.2.2.2.2.1 (fr_goodS ml_M_120 mst_m_rowOf mini_M mc_m_rowOf) rfl rfl rfl (by decide +kernel) hR) rfl hsz hw hdg hf kk
def dn_m_line_114 (x : Int32) (g : Nat → Nat → Int32) (x2 : Int32) (x3 : Int32) (x4 : Int32) : Nat → Nat → Int32 := if 0 ≤ ((dn_m_take g 10) 0 14) then (dn_m_take g 10) else (if x = 0 then (dn_m_take g 10) else (dn_m_add (dn_m_take g 10) x2 x3 x4))
set_option maxHeartbeats 4000000 in
set_option maxRecDepth 100000 in
theorem k_m_line_114 {p : Program} {l : Launch} {e : Env} {s : State} {m : MethodId} {below : List Frame} {meth : Method} {c : Code} {D : va_G} {A : Nat → Prop} {ka : Nat → ClassId} {al : Nat → Nat} {Z : va_W} {f : Nat → Nat → Int32} {x : Int32} (C : fr_Cx p s m ([.ref (al 0), .int x] : List Value).toArray meth c "FragileRulesModel" prog_6_method_22_code 5 none [] fr_tbl fr_nw D vwCl (fr_ty ka) A) (gt : mo_t f 900 x) :
    ∀ (g : Nat → Nat → Int32) (x2 : Int32) (x3 : Int32) (x4 : Int32) (H : Heap) (locs : List Loc) (ls : Array Slot), mo_t g 920 x → va_P D vwCl (fr_mw ka al g Z) H → va_D A (fr_mw ka al g Z) → va_S A s.heap H locs → lv_has ls 5 [(0, .ref (al 0)), (1, .int x), (2, .int x2), (3, .int x3), (4, .int x4)] → W p l e { frames := 2, cells := 0, slots := 0, locals := 44 } s m ([.ref (al 0), .int x] : List Value).toArray below meth c H locs 0 0 (MQ below (fr_Qv D vwCl (fr_ty ka) (fr_mw ka al (dn_m_line_114 x g x2 x3 x4) Z) A) ([.ref (al 0), .int x] : List Value).toArray s 0 0 A) (F0 m 114 ls []) := by
  obtain ⟨hx, hb, hml, hown, ht, hK, hlocks, hr, hA, hN, hZ, hEx⟩ := id C
  intro g x2 x3 x4 H locs ls ht9 hP hD hS hl
  refine lv_aload_n hx hb dM_line_114 rfl (lv_at hl 0 rfl) ?_
  refine lv_bipush (v := 10) hx hb dM_line_115 (by decide) ?_
  refine cl_M_124 C hP hD hS hl.1 ⟨Nat.le_of_ble_eq_true rfl, Nat.le_of_ble_eq_true rfl⟩ (Nat.le_of_ble_eq_true rfl) ⟨Nat.le_of_ble_eq_true rfl, Nat.le_of_ble_eq_true rfl⟩ (mo_t_s ht9) (mo_t_p ht9 (by decide)) dM_line_117 (fun H locs hP hD hS => ?_)
  refine lv_aload_n hx hb dM_line_120 rfl (lv_at hl 0 rfl) ?_
  refine gf_M_111 C hP dM_line_121 ?_
  refine lv_if_ge (tgt := 139) hx hb dM_line_124 (by decide) (fun c_124 => ?_) (fun c_124 => ?_)
  · skip
    have hd_ : dn_m_line_114 x g x2 x3 x4 = dn_m_take g 10 := by rw [dn_m_line_114, if_pos c_124]
    rw [hd_]
    exact fr_vret C hP hD hS dM_line_139
  · skip
    refine lv_iload_n hx hb dM_line_127 rfl (lv_at hl 1 rfl) ?_
    refine lv_if_eq (tgt := 139) hx hb dM_line_128 (by decide) (fun c_128 => ?_) (fun c_128 => ?_)
    · skip
      have hd_ : dn_m_line_114 x g x2 x3 x4 = dn_m_take g 10 := by rw [dn_m_line_114, if_neg c_124, if_pos c_128]
      rw [hd_]
      exact fr_vret C hP hD hS dM_line_139
    · skip
      refine lv_aload_n hx hb dM_line_131 rfl (lv_at hl 0 rfl) ?_
      refine lv_iload_n hx hb dM_line_132 rfl (lv_at hl 2 rfl) ?_
      refine lv_iload_n hx hb dM_line_133 rfl (lv_at hl 3 rfl) ?_
      refine lv_iload hx hb dM_line_134 (lv_at hl 4 rfl) ?_
      refine cl_M_101 C hP hD hS hl.1 ⟨Nat.le_of_ble_eq_true rfl, Nat.le_of_ble_eq_true rfl⟩ (Nat.le_of_ble_eq_true rfl) ⟨Nat.le_of_ble_eq_true rfl, Nat.le_of_ble_eq_true rfl⟩ (((mo_t_take ht9 (by decide))).2.2 c_128) dM_line_136 (fun H locs hP hD hS => ?_)
      have hd_ : dn_m_line_114 x g x2 x3 x4 = dn_m_add (dn_m_take g 10) x2 x3 x4 := by rw [dn_m_line_114, if_neg c_124, if_neg c_128]
      rw [hd_]
      exact fr_vret C hP hD hS dM_line_139

def dn_m_line_69 (x : Int32) (g : Nat → Nat → Int32) (x2 : Int32) (x3 : Int32) (x4 : Int32) : Nat → Nat → Int32 := if 0 ≤ (g 0 14) then (dn_m_line_114 x g x2 x3 x4) else (if x2 = 2 then (if x4 ≤ 0 then (dn_m_line_114 x g x2 x3 x4) else (if (dn_m_within (dn_m_look g) 48 57) = 0 then (dn_m_line_114 x g x2 x3 x4) else (dn_m_line_114 x ((dn_m_digit g 9).2) x2 x3 ((10 * x4) + ((dn_m_digit g 9).1))))) else (dn_m_line_114 x g x2 x3 x4))
set_option maxHeartbeats 4000000 in
set_option maxRecDepth 100000 in
theorem k_m_line_69 {p : Program} {l : Launch} {e : Env} {s : State} {m : MethodId} {below : List Frame} {meth : Method} {c : Code} {D : va_G} {A : Nat → Prop} {ka : Nat → ClassId} {al : Nat → Nat} {Z : va_W} {f : Nat → Nat → Int32} {x : Int32} (C : fr_Cx p s m ([.ref (al 0), .int x] : List Value).toArray meth c "FragileRulesModel" prog_6_method_22_code 5 none [] fr_tbl fr_nw D vwCl (fr_ty ka) A) (gt : mo_t f 900 x) :
    ∀ (g : Nat → Nat → Int32) (x2 : Int32) (x3 : Int32) (x4 : Int32) (H : Heap) (locs : List Loc) (ls : Array Slot), mo_t g 910 x → va_P D vwCl (fr_mw ka al g Z) H → va_D A (fr_mw ka al g Z) → va_S A s.heap H locs → lv_has ls 5 [(0, .ref (al 0)), (1, .int x), (2, .int x2), (3, .int x3), (4, .int x4)] → W p l e { frames := 2, cells := 0, slots := 0, locals := 44 } s m ([.ref (al 0), .int x] : List Value).toArray below meth c H locs 0 0 (MQ below (fr_Qv D vwCl (fr_ty ka) (fr_mw ka al (dn_m_line_69 x g x2 x3 x4) Z) A) ([.ref (al 0), .int x] : List Value).toArray s 0 0 A) (F0 m 69 ls []) := by
  obtain ⟨hx, hb, hml, hown, ht, hK, hlocks, hr, hA, hN, hZ, hEx⟩ := id C
  intro g x2 x3 x4 H locs ls ht9 hP hD hS hl
  refine lv_aload_n hx hb dM_line_69 rfl (lv_at hl 0 rfl) ?_
  refine gf_M_111 C hP dM_line_70 ?_
  refine lv_if_ge (tgt := 114) hx hb dM_line_73 (by decide) (fun c_73 => ?_) (fun c_73 => ?_)
  · skip
    have hd_ : dn_m_line_69 x g x2 x3 x4 = dn_m_line_114 x g x2 x3 x4 := by rw [dn_m_line_69, if_pos c_73]
    rw [hd_]
    exact k_m_line_114 C gt  g x2 x3 x4 H locs ls (mo_t_w ht9 (by decide)) hP hD hS (lv_sub hl [0, 1, 2, 3, 4] rfl)
  · skip
    refine lv_iload_n hx hb dM_line_76 rfl (lv_at hl 2 rfl) ?_
    refine lv_iconst (v := 2) hx hb dM_line_77 (by decide) ?_
    refine lv_icmp_ne (tgt := 114) hx hb dM_line_78 (by decide) (fun c_78 => ?_) (fun c_78 => ?_)
    · skip
      have hd_ : dn_m_line_69 x g x2 x3 x4 = dn_m_line_114 x g x2 x3 x4 := by rw [dn_m_line_69, if_neg c_73, if_neg c_78]
      rw [hd_]
      exact k_m_line_114 C gt  g x2 x3 x4 H locs ls (mo_t_w ht9 (by decide)) hP hD hS (lv_sub hl [0, 1, 2, 3, 4] rfl)
    · skip
      refine lv_iload hx hb dM_line_81 (lv_at hl 4 rfl) ?_
      refine lv_if_le (tgt := 114) hx hb dM_line_83 (by decide) (fun c_83 => ?_) (fun c_83 => ?_)
      · skip
        have hd_ : dn_m_line_69 x g x2 x3 x4 = dn_m_line_114 x g x2 x3 x4 := by rw [dn_m_line_69, if_neg c_73, if_pos c_78, if_pos c_83]
        rw [hd_]
        exact k_m_line_114 C gt  g x2 x3 x4 H locs ls (mo_t_w ht9 (by decide)) hP hD hS (lv_sub hl [0, 1, 2, 3, 4] rfl)
      · skip
        refine lv_aload_n hx hb dM_line_86 rfl (lv_at hl 0 rfl) ?_
        refine cl_M_114 C hP hD hS hl.1 ⟨Nat.le_of_ble_eq_true rfl, Nat.le_of_ble_eq_true rfl⟩ (Nat.le_of_ble_eq_true rfl) ⟨Nat.le_of_ble_eq_true rfl, Nat.le_of_ble_eq_true rfl⟩ (mo_t_s ht9) (mo_t_p ht9 (by decide)) dM_line_87 (fun H locs hP hD hS => ?_)
        refine lv_bipush (v := 48) hx hb dM_line_90 (by decide) ?_
        refine lv_bipush (v := 57) hx hb dM_line_92 (by decide) ?_
        refine cl_M_91 C hP hD hS hl.1 ⟨Nat.le_of_ble_eq_true rfl, Nat.le_of_ble_eq_true rfl⟩ (Nat.le_of_ble_eq_true rfl) ⟨Nat.le_of_ble_eq_true rfl, Nat.le_of_ble_eq_true rfl⟩ dM_line_94 (fun H locs hP hD hS => ?_)
        refine lv_if_eq (tgt := 114) hx hb dM_line_97 (by decide) (fun c_97 => ?_) (fun c_97 => ?_)
        · skip
          have hd_ : dn_m_line_69 x g x2 x3 x4 = dn_m_line_114 x g x2 x3 x4 := by rw [dn_m_line_69, if_neg c_73, if_pos c_78, if_neg c_83, if_pos c_97]
          rw [hd_]
          exact k_m_line_114 C gt  g x2 x3 x4 H locs ls (mo_t_w ht9 (by decide)) hP hD hS (lv_sub hl [0, 1, 2, 3, 4] rfl)
        · skip
          refine lv_bipush (v := 10) hx hb dM_line_100 (by decide) ?_
          refine lv_iload hx hb dM_line_102 (lv_at hl 4 rfl) ?_
          refine lv_imul hx hb dM_line_104 ?_
          refine lv_aload_n hx hb dM_line_105 rfl (lv_at hl 0 rfl) ?_
          refine lv_bipush (v := 9) hx hb dM_line_106 (by decide) ?_
          refine cl_M_128 C hP hD hS hl.1 ⟨Nat.le_of_ble_eq_true rfl, Nat.le_of_ble_eq_true rfl⟩ (Nat.le_of_ble_eq_true rfl) ⟨Nat.le_of_ble_eq_true rfl, Nat.le_of_ble_eq_true rfl⟩ (mo_t_s ht9) (mo_t_p ht9 (by decide)) dM_line_108 (fun H locs hP hD hS => ?_)
          refine lv_iadd hx hb dM_line_111 ?_
          refine lv_istore (lv' := [(4, .int ((10 * x4) + ((dn_m_digit g 9).1))), (0, .ref (al 0)), (1, .int x), (2, .int x2), (3, .int x3)]) hx hb dM_line_112 hl (by decide) rfl (fun ls hl => ?_)
          have hd_ : dn_m_line_69 x g x2 x3 x4 = dn_m_line_114 x ((dn_m_digit g 9).2) x2 x3 ((10 * x4) + ((dn_m_digit g 9).1)) := by rw [dn_m_line_69, if_neg c_73, if_pos c_78, if_neg c_83, if_neg c_97]
          rw [hd_]
          exact k_m_line_114 C gt  ((dn_m_digit g 9).2) x2 x3 ((10 * x4) + ((dn_m_digit g 9).1)) H locs ls (mo_t_w (mo_t_digit ht9 (by decide)) (by decide)) hP hD hS (lv_sub hl [1, 2, 3, 4, 0] rfl)

def dn_m_line_17 (x : Int32) (g : Nat → Nat → Int32) (x2 : Int32) : Nat → Nat → Int32 := if x2 = 2 then (dn_m_line_69 x ((dn_m_digit (dn_m_take ((dn_m_digit (dn_m_take (fr_up g 0 13 ((g 0 13) + 1)) 32) 7).2) 32) 9).2) x2 ((dn_m_digit (dn_m_take (fr_up g 0 13 ((g 0 13) + 1)) 32) 7).1) ((dn_m_digit (dn_m_take ((dn_m_digit (dn_m_take (fr_up g 0 13 ((g 0 13) + 1)) 32) 7).2) 32) 9).1)) else (if x2 = 3 then (dn_m_line_69 x ((dn_m_digit (dn_m_take ((dn_m_digit (dn_m_take (fr_up g 0 13 ((g 0 13) + 1)) 32) 7).2) 32) 9).2) x2 ((dn_m_digit (dn_m_take (fr_up g 0 13 ((g 0 13) + 1)) 32) 7).1) ((dn_m_digit (dn_m_take ((dn_m_digit (dn_m_take (fr_up g 0 13 ((g 0 13) + 1)) 32) 7).2) 32) 9).1)) else (dn_m_line_69 x ((dn_m_digit (dn_m_take ((dn_m_digit (dn_m_take (fr_up g 0 13 ((g 0 13) + 1)) 32) 7).2) 32) 7).2) x2 ((dn_m_digit (dn_m_take (fr_up g 0 13 ((g 0 13) + 1)) 32) 7).1) ((dn_m_digit (dn_m_take ((dn_m_digit (dn_m_take (fr_up g 0 13 ((g 0 13) + 1)) 32) 7).2) 32) 7).1)))
set_option maxHeartbeats 4000000 in
set_option maxRecDepth 100000 in
theorem k_m_line_17 {p : Program} {l : Launch} {e : Env} {s : State} {m : MethodId} {below : List Frame} {meth : Method} {c : Code} {D : va_G} {A : Nat → Prop} {ka : Nat → ClassId} {al : Nat → Nat} {Z : va_W} {f : Nat → Nat → Int32} {x : Int32} (C : fr_Cx p s m ([.ref (al 0), .int x] : List Value).toArray meth c "FragileRulesModel" prog_6_method_22_code 5 none [] fr_tbl fr_nw D vwCl (fr_ty ka) A) (gt : mo_t f 900 x) :
    ∀ (g : Nat → Nat → Int32) (x2 : Int32) (H : Heap) (locs : List Loc) (ls : Array Slot), mo_t g 901 x → va_P D vwCl (fr_mw ka al g Z) H → va_D A (fr_mw ka al g Z) → va_S A s.heap H locs → lv_has ls 5 [(0, .ref (al 0)), (1, .int x), (2, .int x2)] → W p l e { frames := 2, cells := 0, slots := 0, locals := 44 } s m ([.ref (al 0), .int x] : List Value).toArray below meth c H locs 0 0 (MQ below (fr_Qv D vwCl (fr_ty ka) (fr_mw ka al (dn_m_line_17 x g x2) Z) A) ([.ref (al 0), .int x] : List Value).toArray s 0 0 A) (F0 m 17 ls []) := by
  obtain ⟨hx, hb, hml, hown, ht, hK, hlocks, hr, hA, hN, hZ, hEx⟩ := id C
  intro g x2 H locs ls ht9 hP hD hS hl
  refine lv_aload_n hx hb dM_line_17 rfl (lv_at hl 0 rfl) ?_
  refine lv_dup hx hb dM_line_18 rfl ?_
  refine gf_M_108 C hP dM_line_19 ?_
  refine lv_iconst (v := 1) hx hb dM_line_22 (by decide) ?_
  refine lv_iadd hx hb dM_line_23 ?_
  refine pf_M_108 C hP hD hS dM_line_24 (fun H locs hP hD hS => ?_)
  refine lv_aload_n hx hb dM_line_27 rfl (lv_at hl 0 rfl) ?_
  refine lv_bipush (v := 32) hx hb dM_line_28 (by decide) ?_
  refine cl_M_124 C hP hD hS hl.1 ⟨Nat.le_of_ble_eq_true rfl, Nat.le_of_ble_eq_true rfl⟩ (Nat.le_of_ble_eq_true rfl) ⟨Nat.le_of_ble_eq_true rfl, Nat.le_of_ble_eq_true rfl⟩ (mo_t_s (mo_t_inc ht9 (by decide))) (mo_t_p (mo_t_inc ht9 (by decide)) (by decide)) dM_line_30 (fun H locs hP hD hS => ?_)
  refine lv_aload_n hx hb dM_line_33 rfl (lv_at hl 0 rfl) ?_
  refine lv_bipush (v := 7) hx hb dM_line_34 (by decide) ?_
  refine cl_M_128 C hP hD hS hl.1 ⟨Nat.le_of_ble_eq_true rfl, Nat.le_of_ble_eq_true rfl⟩ (Nat.le_of_ble_eq_true rfl) ⟨Nat.le_of_ble_eq_true rfl, Nat.le_of_ble_eq_true rfl⟩ (mo_t_s (mo_t_take (mo_t_inc ht9 (by decide)) (by decide))) (mo_t_p (mo_t_take (mo_t_inc ht9 (by decide)) (by decide)) (by decide)) dM_line_36 (fun H locs hP hD hS => ?_)
  refine lv_istore_n (lv' := [(3, .int ((dn_m_digit (dn_m_take (fr_up g 0 13 ((g 0 13) + 1)) 32) 7).1)), (0, .ref (al 0)), (1, .int x), (2, .int x2)]) hx hb dM_line_39 rfl hl (by decide) rfl (fun ls hl => ?_)
  refine lv_aload_n hx hb dM_line_40 rfl (lv_at hl 1 rfl) ?_
  refine lv_bipush (v := 32) hx hb dM_line_41 (by decide) ?_
  refine cl_M_124 C hP hD hS hl.1 ⟨Nat.le_of_ble_eq_true rfl, Nat.le_of_ble_eq_true rfl⟩ (Nat.le_of_ble_eq_true rfl) ⟨Nat.le_of_ble_eq_true rfl, Nat.le_of_ble_eq_true rfl⟩ (mo_t_s (mo_t_digit (mo_t_take (mo_t_inc ht9 (by decide)) (by decide)) (by decide))) (mo_t_p (mo_t_digit (mo_t_take (mo_t_inc ht9 (by decide)) (by decide)) (by decide)) (by decide)) dM_line_43 (fun H locs hP hD hS => ?_)
  refine lv_aload_n hx hb dM_line_46 rfl (lv_at hl 1 rfl) ?_
  refine lv_iload_n hx hb dM_line_47 rfl (lv_at hl 3 rfl) ?_
  refine lv_iconst (v := 2) hx hb dM_line_48 (by decide) ?_
  refine lv_icmp_eq (tgt := 57) hx hb dM_line_49 (by decide) (fun c_49 => ?_) (fun c_49 => ?_)
  · skip
    refine lv_bipush (v := 9) hx hb dM_line_57 (by decide) ?_
    refine lv_goto (tgt := 64) hx hb dM_line_59 (by decide) ?_
    refine cl_M_128 C hP hD hS hl.1 ⟨Nat.le_of_ble_eq_true rfl, Nat.le_of_ble_eq_true rfl⟩ (Nat.le_of_ble_eq_true rfl) ⟨Nat.le_of_ble_eq_true rfl, Nat.le_of_ble_eq_true rfl⟩ (mo_t_s (mo_t_take (mo_t_digit (mo_t_take (mo_t_inc ht9 (by decide)) (by decide)) (by decide)) (by decide))) (mo_t_p (mo_t_take (mo_t_digit (mo_t_take (mo_t_inc ht9 (by decide)) (by decide)) (by decide)) (by decide)) (by decide)) dM_line_64 (fun H locs hP hD hS => ?_)
    refine lv_istore (lv' := [(4, .int ((dn_m_digit (dn_m_take ((dn_m_digit (dn_m_take (fr_up g 0 13 ((g 0 13) + 1)) 32) 7).2) 32) 9).1)), (3, .int ((dn_m_digit (dn_m_take (fr_up g 0 13 ((g 0 13) + 1)) 32) 7).1)), (0, .ref (al 0)), (1, .int x), (2, .int x2)]) hx hb dM_line_67 hl (by decide) rfl (fun ls hl => ?_)
    have hd_ : dn_m_line_17 x g x2 = dn_m_line_69 x ((dn_m_digit (dn_m_take ((dn_m_digit (dn_m_take (fr_up g 0 13 ((g 0 13) + 1)) 32) 7).2) 32) 9).2) x2 ((dn_m_digit (dn_m_take (fr_up g 0 13 ((g 0 13) + 1)) 32) 7).1) ((dn_m_digit (dn_m_take ((dn_m_digit (dn_m_take (fr_up g 0 13 ((g 0 13) + 1)) 32) 7).2) 32) 9).1) := by rw [dn_m_line_17, if_pos c_49]
    rw [hd_]
    exact k_m_line_69 C gt  ((dn_m_digit (dn_m_take ((dn_m_digit (dn_m_take (fr_up g 0 13 ((g 0 13) + 1)) 32) 7).2) 32) 9).2) x2 ((dn_m_digit (dn_m_take (fr_up g 0 13 ((g 0 13) + 1)) 32) 7).1) ((dn_m_digit (dn_m_take ((dn_m_digit (dn_m_take (fr_up g 0 13 ((g 0 13) + 1)) 32) 7).2) 32) 9).1) H locs ls (mo_t_w (mo_t_digit (mo_t_take (mo_t_digit (mo_t_take (mo_t_inc ht9 (by decide)) (by decide)) (by decide)) (by decide)) (by decide)) (by decide)) hP hD hS (lv_sub hl [2, 3, 4, 1, 0] rfl)
  · skip
    refine lv_iload_n hx hb dM_line_52 rfl (lv_at hl 3 rfl) ?_
    refine lv_iconst (v := 3) hx hb dM_line_53 (by decide) ?_
    refine lv_icmp_ne (tgt := 62) hx hb dM_line_54 (by decide) (fun c_54 => ?_) (fun c_54 => ?_)
    · skip
      refine lv_bipush (v := 7) hx hb dM_line_62 (by decide) ?_
      refine cl_M_128 C hP hD hS hl.1 ⟨Nat.le_of_ble_eq_true rfl, Nat.le_of_ble_eq_true rfl⟩ (Nat.le_of_ble_eq_true rfl) ⟨Nat.le_of_ble_eq_true rfl, Nat.le_of_ble_eq_true rfl⟩ (mo_t_s (mo_t_take (mo_t_digit (mo_t_take (mo_t_inc ht9 (by decide)) (by decide)) (by decide)) (by decide))) (mo_t_p (mo_t_take (mo_t_digit (mo_t_take (mo_t_inc ht9 (by decide)) (by decide)) (by decide)) (by decide)) (by decide)) dM_line_64 (fun H locs hP hD hS => ?_)
      refine lv_istore (lv' := [(4, .int ((dn_m_digit (dn_m_take ((dn_m_digit (dn_m_take (fr_up g 0 13 ((g 0 13) + 1)) 32) 7).2) 32) 7).1)), (3, .int ((dn_m_digit (dn_m_take (fr_up g 0 13 ((g 0 13) + 1)) 32) 7).1)), (0, .ref (al 0)), (1, .int x), (2, .int x2)]) hx hb dM_line_67 hl (by decide) rfl (fun ls hl => ?_)
      have hd_ : dn_m_line_17 x g x2 = dn_m_line_69 x ((dn_m_digit (dn_m_take ((dn_m_digit (dn_m_take (fr_up g 0 13 ((g 0 13) + 1)) 32) 7).2) 32) 7).2) x2 ((dn_m_digit (dn_m_take (fr_up g 0 13 ((g 0 13) + 1)) 32) 7).1) ((dn_m_digit (dn_m_take ((dn_m_digit (dn_m_take (fr_up g 0 13 ((g 0 13) + 1)) 32) 7).2) 32) 7).1) := by rw [dn_m_line_17, if_neg c_49, if_neg c_54]
      rw [hd_]
      exact k_m_line_69 C gt  ((dn_m_digit (dn_m_take ((dn_m_digit (dn_m_take (fr_up g 0 13 ((g 0 13) + 1)) 32) 7).2) 32) 7).2) x2 ((dn_m_digit (dn_m_take (fr_up g 0 13 ((g 0 13) + 1)) 32) 7).1) ((dn_m_digit (dn_m_take ((dn_m_digit (dn_m_take (fr_up g 0 13 ((g 0 13) + 1)) 32) 7).2) 32) 7).1) H locs ls (mo_t_w (mo_t_digit (mo_t_take (mo_t_digit (mo_t_take (mo_t_inc ht9 (by decide)) (by decide)) (by decide)) (by decide)) (by decide)) (by decide)) hP hD hS (lv_sub hl [2, 3, 4, 1, 0] rfl)
    · skip
      refine lv_bipush (v := 9) hx hb dM_line_57 (by decide) ?_
      refine lv_goto (tgt := 64) hx hb dM_line_59 (by decide) ?_
      refine cl_M_128 C hP hD hS hl.1 ⟨Nat.le_of_ble_eq_true rfl, Nat.le_of_ble_eq_true rfl⟩ (Nat.le_of_ble_eq_true rfl) ⟨Nat.le_of_ble_eq_true rfl, Nat.le_of_ble_eq_true rfl⟩ (mo_t_s (mo_t_take (mo_t_digit (mo_t_take (mo_t_inc ht9 (by decide)) (by decide)) (by decide)) (by decide))) (mo_t_p (mo_t_take (mo_t_digit (mo_t_take (mo_t_inc ht9 (by decide)) (by decide)) (by decide)) (by decide)) (by decide)) dM_line_64 (fun H locs hP hD hS => ?_)
      refine lv_istore (lv' := [(4, .int ((dn_m_digit (dn_m_take ((dn_m_digit (dn_m_take (fr_up g 0 13 ((g 0 13) + 1)) 32) 7).2) 32) 9).1)), (3, .int ((dn_m_digit (dn_m_take (fr_up g 0 13 ((g 0 13) + 1)) 32) 7).1)), (0, .ref (al 0)), (1, .int x), (2, .int x2)]) hx hb dM_line_67 hl (by decide) rfl (fun ls hl => ?_)
      have hd_ : dn_m_line_17 x g x2 = dn_m_line_69 x ((dn_m_digit (dn_m_take ((dn_m_digit (dn_m_take (fr_up g 0 13 ((g 0 13) + 1)) 32) 7).2) 32) 9).2) x2 ((dn_m_digit (dn_m_take (fr_up g 0 13 ((g 0 13) + 1)) 32) 7).1) ((dn_m_digit (dn_m_take ((dn_m_digit (dn_m_take (fr_up g 0 13 ((g 0 13) + 1)) 32) 7).2) 32) 9).1) := by rw [dn_m_line_17, if_neg c_49, if_pos c_54]
      rw [hd_]
      exact k_m_line_69 C gt  ((dn_m_digit (dn_m_take ((dn_m_digit (dn_m_take (fr_up g 0 13 ((g 0 13) + 1)) 32) 7).2) 32) 9).2) x2 ((dn_m_digit (dn_m_take (fr_up g 0 13 ((g 0 13) + 1)) 32) 7).1) ((dn_m_digit (dn_m_take ((dn_m_digit (dn_m_take (fr_up g 0 13 ((g 0 13) + 1)) 32) 7).2) 32) 9).1) H locs ls (mo_t_w (mo_t_digit (mo_t_take (mo_t_digit (mo_t_take (mo_t_inc ht9 (by decide)) (by decide)) (by decide)) (by decide)) (by decide)) (by decide)) hP hD hS (lv_sub hl [2, 3, 4, 1, 0] rfl)
def dn_m_line (f : Nat → Nat → Int32) (x : Int32) : Nat → Nat → Int32 := if (dn_m_rowOf (dn_m_look f)) = (-1) then (dn_m_line_17 x (dn_m_fail f) (dn_m_rowOf (dn_m_look f))) else (dn_m_line_17 x f (dn_m_rowOf (dn_m_look f)))
set_option maxHeartbeats 4000000 in
set_option maxRecDepth 100000 in
theorem c_m_line (l : Launch) (D : va_G) (ka : Nat → ClassId) (al : Nat → Nat) (Z : va_W) (f : Nat → Nat → Int32) (x : Int32) (gt : mo_t f 900 x) : fr_Mv l y_m_line (.code y_m_line prog_6_method_22_code 5 none :: fr_tbl) { frames := 2, cells := 0, slots := 0, locals := 44 } D vwCl (fr_ty ka) fr_nw [.ref (al 0), .int x] (fr_mw ka al f Z) (fr_mw ka al (dn_m_line f x) Z) 0 0 := by
  refine fr_Mv.of (by decide) (Nat.le_of_ble_eq_true rfl) ?_
  intro p e s m below meth c A H locs ls C hinit hP hD hS hl
  obtain ⟨hx, hb, hml, hown, ht, hK, hlocks, hr, hA, hN, hZ, hEx⟩ := id C
  have hl : lv_has ls 5 [(0, .ref (al 0)), (1, .int x)] := hl
  refine lv_aload_n hx hb dM_line_0 rfl (lv_at hl 0 rfl) ?_
  refine cl_M_114 C hP hD hS hl.1 ⟨Nat.le_of_ble_eq_true rfl, Nat.le_of_ble_eq_true rfl⟩ (Nat.le_of_ble_eq_true rfl) ⟨Nat.le_of_ble_eq_true rfl, Nat.le_of_ble_eq_true rfl⟩ (mo_t_s gt) (mo_t_p gt (by decide)) dM_line_1 (fun H locs hP hD hS => ?_)
  refine cl_M_120 C hP hD hS hl.1 ⟨Nat.le_of_ble_eq_true rfl, Nat.le_of_ble_eq_true rfl⟩ (Nat.le_of_ble_eq_true rfl) ⟨Nat.le_of_ble_eq_true rfl, Nat.le_of_ble_eq_true rfl⟩ dM_line_4 (fun H locs hP hD hS => ?_)
  refine lv_istore_n (lv' := [(2, .int (dn_m_rowOf (dn_m_look f))), (0, .ref (al 0)), (1, .int x)]) hx hb dM_line_7 rfl hl (by decide) rfl (fun ls hl => ?_)
  refine lv_iload_n hx hb dM_line_8 rfl (lv_at hl 0 rfl) ?_
  refine lv_iconst (v := (-1)) hx hb dM_line_9 (by decide) ?_
  refine lv_icmp_ne (tgt := 17) hx hb dM_line_10 (by decide) (fun c_10 => ?_) (fun c_10 => ?_)
  · skip
    have hd_ : dn_m_line f x = dn_m_line_17 x f (dn_m_rowOf (dn_m_look f)) := by rw [dn_m_line, if_neg c_10]
    rw [hd_]
    exact k_m_line_17 C gt  f (dn_m_rowOf (dn_m_look f)) H locs ls (mo_t_w gt (by decide)) hP hD hS (lv_sub hl [1, 2, 0] rfl)
  · skip
    refine lv_aload_n hx hb dM_line_13 rfl (lv_at hl 1 rfl) ?_
    refine cl_M_117 C hP hD hS hl.1 ⟨Nat.le_of_ble_eq_true rfl, Nat.le_of_ble_eq_true rfl⟩ (Nat.le_of_ble_eq_true rfl) ⟨Nat.le_of_ble_eq_true rfl, Nat.le_of_ble_eq_true rfl⟩ dM_line_14 (fun H locs hP hD hS => ?_)
    have hd_ : dn_m_line f x = dn_m_line_17 x (dn_m_fail f) (dn_m_rowOf (dn_m_look f)) := by rw [dn_m_line, if_pos c_10]
    rw [hd_]
    exact k_m_line_17 C gt  (dn_m_fail f) (dn_m_rowOf (dn_m_look f)) H locs ls (mo_t_w (mo_t_fail gt) (by decide)) hP hD hS (lv_sub hl [1, 2, 0] rfl)
/-- what a reading sees -/
def mo_e (g h : Nat → Nat → Int32) : Prop := g 0 2 = h 0 2 ∧ g 0 13 = h 0 13 ∧ g 0 14 = h 0 14 ∧ ∀ k, g 9 k = h 9 k
theorem mo_e_rf {g : Nat → Nat → Int32} : mo_e g g := ⟨rfl, rfl, rfl, fun _ => rfl⟩
theorem mo_e_sy {g h : Nat → Nat → Int32} (q : mo_e g h) : mo_e h g := ⟨q.1.symm, q.2.1.symm, q.2.2.1.symm, fun k => (q.2.2.2 k).symm⟩
theorem mo_e_tr {g h i : Nat → Nat → Int32} (q : mo_e g h) (r : mo_e h i) : mo_e g i := ⟨q.1.trans r.1, q.2.1.trans r.2.1, q.2.2.1.trans r.2.2.1, fun k => (q.2.2.2 k).trans (r.2.2.2 k)⟩
theorem mo_e_look {g h : Nat → Nat → Int32} (q : mo_e g h) : dn_m_look g = dn_m_look h := by
  unfold dn_m_look
  rw [q.1, q.2.1, q.2.2.2]
theorem mo_e_p {g h : Nat → Nat → Int32} {v : Int32} (q : mo_e g h) : mo_e (fr_up g 0 13 v) (fr_up h 0 13 v) := ⟨q.1, rfl, q.2.2.1, q.2.2.2⟩
theorem mo_e_inc {g h : Nat → Nat → Int32} (q : mo_e g h) : mo_e (fr_up g 0 13 (g 0 13 + 1)) (fr_up h 0 13 (h 0 13 + 1)) := by
  rw [q.2.1]; exact mo_e_p q
theorem mo_e_fail {g h : Nat → Nat → Int32} (q : mo_e g h) : mo_e (dn_m_fail g) (dn_m_fail h) := by
  unfold dn_m_fail
  rw [q.2.2.1, q.2.1]
  split
  · exact q
  · exact ⟨q.1, q.2.1, rfl, q.2.2.2⟩
theorem mo_e_take {g h : Nat → Nat → Int32} {c : Int32} (q : mo_e g h) : mo_e (dn_m_take g c) (dn_m_take h c) := by
  unfold dn_m_take
  rw [q.2.2.1, mo_e_look q]
  split
  · split
    · exact mo_e_inc q
    · exact mo_e_fail q
  · exact q
theorem mo_e_digit {g h : Nat → Nat → Int32} {c : Int32} (q : mo_e g h) : (dn_m_digit g c).1 = (dn_m_digit h c).1 ∧ mo_e (dn_m_digit g c).2 (dn_m_digit h c).2 := by
  unfold dn_m_digit
  rw [q.2.2.1, mo_e_look q]
  repeat' split
  all_goals first | exact ⟨rfl, mo_e_inc q⟩ | exact ⟨rfl, mo_e_fail q⟩ | exact ⟨rfl, q⟩
theorem mo_e_add {g : Nat → Nat → Int32} {a b c : Int32} : mo_e (dn_m_add g a b c) g := by
  unfold dn_m_add
  exact ⟨rfl, rfl, rfl, fun _ => rfl⟩
theorem mo_e_114a {g : Nat → Nat → Int32} {x a b c : Int32} : mo_e (dn_m_line_114 x g a b c) (dn_m_take g 10) := by
  unfold dn_m_line_114
  repeat' split
  all_goals first | exact mo_e_rf | exact mo_e_add
theorem mo_e_114 {g h : Nat → Nat → Int32} {x x' a a' b b' c c' : Int32} (q : mo_e g h) : mo_e (dn_m_line_114 x g a b c) (dn_m_line_114 x' h a' b' c') := mo_e_tr mo_e_114a (mo_e_tr (mo_e_take q) (mo_e_sy mo_e_114a))
theorem mo_e_69 {g h : Nat → Nat → Int32} {x x' a b b' c : Int32} (q : mo_e g h) : mo_e (dn_m_line_69 x g a b c) (dn_m_line_69 x' h a b' c) := by
  unfold dn_m_line_69
  rw [q.2.2.1, mo_e_look q]
  repeat' split
  all_goals first | exact mo_e_114 q | exact mo_e_114 (mo_e_digit q).2
theorem mo_e_17 {g h : Nat → Nat → Int32} {x x' a : Int32} (q : mo_e g h) : mo_e (dn_m_line_17 x g a) (dn_m_line_17 x' h a) := by
  have q1 := mo_e_take (c := 32) (mo_e_inc q)
  have q2 := mo_e_digit (c := 7) q1
  have q3 := mo_e_take (c := 32) q2.2
  have q4 := mo_e_digit (c := 9) q3
  have q5 := mo_e_digit (c := 7) q3
  unfold dn_m_line_17
  rw [q4.1, q5.1]
  by_cases h2 : a = 2
  · rw [if_pos h2, if_pos h2]; exact mo_e_69 q4.2
  · rw [if_neg h2, if_neg h2]
    by_cases h3 : a = 3
    · rw [if_pos h3, if_pos h3]; exact mo_e_69 q4.2
    · rw [if_neg h3, if_neg h3]; exact mo_e_69 q5.2
theorem mo_e_line {g h : Nat → Nat → Int32} {x x' : Int32} (q : mo_e g h) : mo_e (dn_m_line g x) (dn_m_line h x') := by
  unfold dn_m_line
  rw [mo_e_look q]
  split
  · exact mo_e_17 (mo_e_fail q)
  · exact mo_e_17 q
/-- what a reading keeps -/
theorem mo_fail_k {g : Nat → Nat → Int32} {r k : Nat} (h : ¬ (r = 0 ∧ k = 14)) : dn_m_fail g r k = g r k := by
  unfold dn_m_fail
  split
  · rfl
  · simp [fr_up, h]
theorem mo_take_k {g : Nat → Nat → Int32} {c : Int32} {r k : Nat} (h : ¬ (r = 0 ∧ k = 14)) (h3 : ¬ (r = 0 ∧ k = 13)) : dn_m_take g c r k = g r k := by
  unfold dn_m_take
  repeat' split
  all_goals first | rfl | exact mo_fail_k h | simp [fr_up, h3]
theorem mo_digit_k {g : Nat → Nat → Int32} {c : Int32} {r k : Nat} (h : ¬ (r = 0 ∧ k = 14)) (h3 : ¬ (r = 0 ∧ k = 13)) : (dn_m_digit g c).2 r k = g r k := by
  unfold dn_m_digit
  repeat' split
  all_goals first | rfl | exact mo_fail_k h | simp [fr_up, h3]
theorem mo_114_k {g : Nat → Nat → Int32} {a b c : Int32} {r k : Nat} (h : ¬ (r = 0 ∧ k = 14)) (h3 : ¬ (r = 0 ∧ k = 13)) : dn_m_line_114 0 g a b c r k = g r k := by
  unfold dn_m_line_114
  split
  · exact mo_take_k h h3
  · rw [if_pos rfl]; exact mo_take_k h h3
theorem mo_69_k {g : Nat → Nat → Int32} {a b c : Int32} {r k : Nat} (h : ¬ (r = 0 ∧ k = 14)) (h3 : ¬ (r = 0 ∧ k = 13)) : dn_m_line_69 0 g a b c r k = g r k := by
  unfold dn_m_line_69
  repeat' split
  all_goals first | exact mo_114_k h h3 | (rw [mo_114_k h h3, mo_digit_k h h3])
theorem mo_17_k {g : Nat → Nat → Int32} {a : Int32} {r k : Nat} (h : ¬ (r = 0 ∧ k = 14)) (h3 : ¬ (r = 0 ∧ k = 13)) : dn_m_line_17 0 g a r k = g r k := by
  have e : fr_up g 0 13 (g 0 13 + 1) r k = g r k := by simp [fr_up, h3]
  unfold dn_m_line_17
  repeat' split
  all_goals (rw [mo_69_k h h3, mo_digit_k h h3, mo_take_k h h3, mo_digit_k h h3, mo_take_k h h3, e])
theorem mo_line_k {g : Nat → Nat → Int32} {r k : Nat} (h : ¬ (r = 0 ∧ k = 14)) (h3 : ¬ (r = 0 ∧ k = 13)) : dn_m_line g 0 r k = g r k := by
  unfold dn_m_line
  split
  · rw [mo_17_k h h3, mo_fail_k h]
  · exact mo_17_k h h3
/-- where the place comes to lie -/
def mo_b (g : Nat → Nat → Int32) (lo hi : Int) : Prop := 0 ≤ lo ∧ lo ≤ (g 0 13).toInt ∧ (g 0 13).toInt ≤ hi ∧ hi ≤ 1000
theorem mo_b_w {g : Nat → Nat → Int32} {lo hi hi' : Int} (h : mo_b g lo hi) (h1 : hi ≤ hi') (h2 : hi' ≤ 1000) : mo_b g lo hi' := ⟨h.1, h.2.1, Int.le_trans h.2.2.1 h1, h2⟩
theorem mo_b_fail {g : Nat → Nat → Int32} {lo hi : Int} (h : mo_b g lo hi) : mo_b (dn_m_fail g) lo hi := by
  unfold mo_b
  rw [mo_fail_k (by decide)]
  exact h
theorem mo_b_inc {g : Nat → Nat → Int32} {lo hi : Int} (h : mo_b g lo hi) (hh : hi < 1000) : mo_b (fr_up g 0 13 (g 0 13 + 1)) (lo + 1) (hi + 1) := by
  obtain ⟨h0, h1, h2, h3⟩ := h
  have h4 := fr_add1 (x := g 0 13) (by omega) (by omega)
  refine ⟨by omega, ?_, ?_, by omega⟩
  · show lo + 1 ≤ (g 0 13 + 1).toInt; omega
  · show (g 0 13 + 1).toInt ≤ hi + 1; omega
theorem mo_b_lo {g : Nat → Nat → Int32} {lo hi : Int} (h : mo_b g (lo + 1) hi) (h0 : 0 ≤ lo) : mo_b g lo hi := ⟨h0, by have := h.2.1; omega, h.2.2.1, h.2.2.2⟩
theorem mo_b_take {g : Nat → Nat → Int32} {c : Int32} {lo hi : Int} (h : mo_b g lo hi) (hh : hi < 1000) : mo_b (dn_m_take g c) lo (hi + 1) := by
  unfold dn_m_take
  split
  · split
    · exact mo_b_lo (mo_b_inc h hh) h.1
    · exact mo_b_w (mo_b_fail h) (by omega) (by omega)
  · exact mo_b_w h (by omega) (by omega)
theorem mo_b_digit {g : Nat → Nat → Int32} {c : Int32} {lo hi : Int} (h : mo_b g lo hi) (hh : hi < 1000) : mo_b (dn_m_digit g c).2 lo (hi + 1) := by
  unfold dn_m_digit
  split
  · split
    · exact mo_b_w (mo_b_fail h) (by omega) (by omega)
    · split
      · exact mo_b_w (mo_b_fail h) (by omega) (by omega)
      · exact mo_b_lo (mo_b_inc h hh) h.1
  · exact mo_b_w h (by omega) (by omega)
theorem mo_b_114 {g : Nat → Nat → Int32} {x a b c : Int32} {lo hi : Int} (h : mo_b g lo hi) (hh : hi < 1000) : mo_b (dn_m_line_114 x g a b c) lo (hi + 1) := by
  have e := (mo_e_114a (g := g) (x := x) (a := a) (b := b) (c := c)).2.1
  unfold mo_b
  rw [e]
  exact mo_b_take h hh
theorem mo_b_69 {g : Nat → Nat → Int32} {x a b c : Int32} {lo hi : Int} (h : mo_b g lo hi) (hh : hi < 990) : mo_b (dn_m_line_69 x g a b c) lo (hi + 2) := by
  have q := mo_b_w (hi' := hi + 2) (mo_b_114 (x := x) (a := a) (b := b) (c := c) h (by omega)) (by omega) (by omega)
  unfold dn_m_line_69
  split
  · exact q
  · split
    · split
      · exact q
      · split
        · exact q
        · exact mo_b_w (mo_b_114 (mo_b_digit h (by omega)) (by omega)) (by omega) (by omega)
    · exact q
theorem mo_b_17 {g : Nat → Nat → Int32} {x a : Int32} {lo hi : Int} (h : mo_b g lo hi) (hh : hi < 900) : mo_b (dn_m_line_17 x g a) (lo + 1) (hi + 7) := by
  have q1 := mo_b_take (c := 32) (mo_b_inc h (by omega)) (by omega)
  have q2 := mo_b_digit (c := 7) q1 (by omega)
  have q3 := mo_b_take (c := 32) q2 (by omega)
  have q4 := mo_b_digit (c := 9) q3 (by omega)
  have q5 := mo_b_digit (c := 7) q3 (by omega)
  unfold dn_m_line_17
  split
  · exact mo_b_w (mo_b_69 q4 (by omega)) (by omega) (by omega)
  · split
    · exact mo_b_w (mo_b_69 q4 (by omega)) (by omega) (by omega)
    · exact mo_b_w (mo_b_69 q5 (by omega)) (by omega) (by omega)
theorem mo_b_line {g : Nat → Nat → Int32} {x : Int32} {lo hi : Int} (h : mo_b g lo hi) (hh : hi < 900) : mo_b (dn_m_line g x) (lo + 1) (hi + 7) := by
  unfold dn_m_line
  split
  · exact mo_b_17 (mo_b_fail h) hh
  · exact mo_b_17 h hh
/-- how many rules there are behind a line -/
theorem mo_114_r {g : Nat → Nat → Int32} {x a b c : Int32} : dn_m_line_114 x g a b c 0 1 = g 0 1 ∨ dn_m_line_114 x g a b c 0 1 = g 0 1 + 1 := by
  unfold dn_m_line_114
  have e : dn_m_take g 10 0 1 = g 0 1 := mo_take_k (by decide) (by decide)
  repeat' split
  · exact Or.inl e
  · exact Or.inl e
  · right
    show dn_m_take g 10 0 1 + 1 = _
    rw [e]
theorem mo_69_r {g : Nat → Nat → Int32} {x a b c : Int32} : dn_m_line_69 x g a b c 0 1 = g 0 1 ∨ dn_m_line_69 x g a b c 0 1 = g 0 1 + 1 := by
  have e : (dn_m_digit g 9).2 0 1 = g 0 1 := mo_digit_k (by decide) (by decide)
  unfold dn_m_line_69
  repeat' split
  all_goals first | exact mo_114_r | (rw [← e]; exact mo_114_r)
theorem mo_17_r {g : Nat → Nat → Int32} {x a : Int32} : dn_m_line_17 x g a 0 1 = g 0 1 ∨ dn_m_line_17 x g a 0 1 = g 0 1 + 1 := by
  have e : ∀ c : Int32, (dn_m_digit (dn_m_take ((dn_m_digit (dn_m_take (fr_up g 0 13 ((g 0 13) + 1)) 32) 7).2) 32) c).2 0 1 = g 0 1 := fun c => by
    rw [mo_digit_k (by decide) (by decide), mo_take_k (by decide) (by decide), mo_digit_k (by decide) (by decide), mo_take_k (by decide) (by decide)]; rfl
  unfold dn_m_line_17
  split
  · rw [← e 9]; exact mo_69_r
  · split
    · rw [← e 9]; exact mo_69_r
    · rw [← e 7]; exact mo_69_r
theorem mo_line_r {g : Nat → Nat → Int32} {x : Int32} : dn_m_line g x 0 1 = g 0 1 ∨ dn_m_line g x 0 1 = g 0 1 + 1 := by
  unfold dn_m_line
  split
  · have e : dn_m_fail g 0 1 = g 0 1 := mo_fail_k (by decide)
    rw [← e]; exact mo_17_r
  · exact mo_17_r
/-- how many lines are read from here on -/
def mo_cnt : Nat → (Nat → Nat → Int32) → Nat
  | 0, _ => 0
  | n + 1, g => if 0 ≤ g 0 14 then 0 else if g 0 2 ≤ g 0 13 then 0 else mo_cnt n (dn_m_line g 0) + 1
theorem mo_e_cnt : ∀ (n : Nat) {g h : Nat → Nat → Int32}, mo_e g h → mo_cnt n g = mo_cnt n h := by
  intro n
  induction n with
  | zero => intro g h _; rfl
  | succ n ih =>
    intro g h q
    rw [mo_cnt, mo_cnt, q.1, q.2.1, q.2.2.1, ih (mo_e_line q)]
theorem mo_cnt_le : ∀ (n : Nat) (g : Nat → Nat → Int32), mo_cnt n g ≤ n := by
  intro n
  induction n with
  | zero => intro g; exact Nat.le_refl _
  | succ n ih =>
    intro g
    rw [mo_cnt]
    repeat' split
    · omega
    · omega
    · have := ih (dn_m_line g 0)
      omega
/-- at the head of go's loop -/
def mo_g (g : Nat → Nat → Int32) (x : Int32) (n : Nat) : Prop := (0 ≤ (g 0 2).toInt ∧ (g 0 2).toInt ≤ 200) ∧ (0 ≤ (g 0 13).toInt ∧ (g 0 13).toInt ≤ 300) ∧ 1 ≤ n ∧ (g 0 2).toInt < (g 0 13).toInt + (n : Int) ∧ (¬ x = 0 → 0 ≤ (g 0 1).toInt ∧ (g 0 1).toInt + (mo_cnt n g : Int) ≤ 12)
/-- where a reading begins -/
abbrev mo_s (f : Nat → Nat → Int32) : Nat → Nat → Int32 := fr_up (fr_up f 0 13 0) 0 14 (-1)
theorem mo_s_g {f : Nat → Nat → Int32} {x : Int32} (gS : 0 ≤ (f 0 2).toInt ∧ (f 0 2).toInt ≤ 200) (gC : ¬ x = 0 → 0 ≤ (f 0 1).toInt ∧ (f 0 1).toInt + (mo_cnt 202 (mo_s f) : Int) ≤ 12) : mo_g (mo_s f) x 202 := by
  have z : (0 : Int32).toInt = 0 := rfl
  refine ⟨gS, ?_, by decide, ?_, gC⟩
  · show 0 ≤ (0 : Int32).toInt ∧ (0 : Int32).toInt ≤ 300; omega
  · show (f 0 2).toInt < (0 : Int32).toInt + _; omega
theorem mo_g_0 {g : Nat → Nat → Int32} {x : Int32} {P : Prop} (h : mo_g g x 0) : P := absurd h.2.2.1 (by omega)
theorem mo_g_t {g : Nat → Nat → Int32} {x : Int32} {n : Nat} (h : mo_g g x (n + 1)) (c1 : ¬ 0 ≤ g 0 14) (c2 : ¬ g 0 2 ≤ g 0 13) : mo_t g 900 x := by
  obtain ⟨h1, h2, h3, h4, h5⟩ := h
  refine ⟨h1, by omega, fun hx => ?_⟩
  have h6 := h5 hx
  rw [mo_cnt, if_neg c1, if_neg c2] at h6
  omega
theorem mo_g_b {g : Nat → Nat → Int32} {x : Int32} {n : Nat} (h : mo_g g x (n + 1)) (c1 : ¬ 0 ≤ g 0 14) (c2 : ¬ g 0 2 ≤ g 0 13) : mo_g (dn_m_line g x) x n := by
  obtain ⟨h1, h2, h3, h4, h5⟩ := h
  have q2 := fr_t4 c2
  have qb := mo_b_line (g := g) (x := x) (lo := (g 0 13).toInt) (hi := (g 0 13).toInt) ⟨h2.1, Int.le_refl _, Int.le_refl _, by omega⟩ (by omega)
  obtain ⟨b1, b2, b3, b4⟩ := qb
  have e2 : dn_m_line g x 0 2 = g 0 2 := ((mo_e_line (g := g) (h := g) (x := x) (x' := 0) mo_e_rf).1).trans (mo_line_k (by decide) (by decide))
  refine ⟨by rw [e2]; exact h1, by omega, by omega, by rw [e2]; omega, fun hx => ?_⟩
  have h6 := h5 hx
  rw [mo_cnt, if_neg c1, if_neg c2] at h6
  have e3 : mo_cnt n (dn_m_line g x) = mo_cnt n (dn_m_line g 0) := mo_e_cnt n (mo_e_line mo_e_rf)
  rw [e3]
  rcases mo_line_r (g := g) (x := x) with e4 | e4
  · rw [e4]; omega
  · have h7 := fr_add1 (x := g 0 1) h6.1 (by omega)
    rw [e4]; omega

theorem cl_M_131 {p : Program} {l : Launch} {e : Env} {R : Room} {s : State} {m : MethodId} {args : Array Value} {below : List Frame} {meth : Method} {c : Code} {H : Heap} {locs : List Loc} {cells slots : Nat} {Q : State → Prop} {D : va_G} {A : Nat → Prop} {cc : ByteArray} {nL pc : Nat} {ret : Option FieldType} {hh : List ExceptionTableEntry} {ls : Array Slot} {rest : List Value} {ka : Nat → ClassId} {al : Nat → Nat} {f : Nat → Nat → Int32} {Z : va_W} {x : Int32} (C : fr_Cx p s m args meth c "FragileRulesModel" cc nL ret hh fr_tbl fr_nw D vwCl (fr_ty ka) A) (hP : va_P D vwCl (fr_mw ka al f Z) H) (hD : va_D A (fr_mw ka al f Z)) (hS : va_S A s.heap H locs) (hsz : ls.size = nL) (hR : 2 + 1 ≤ R.frames ∧ 8 + (5 + 11) + 44 ≤ R.locals) (hw : (rest.map fun v => v.category).sum ≤ 8) (hf : cells + 0 ≤ R.cells ∧ slots + 0 ≤ R.slots) (gt : mo_t f 900 x) (hdg : decode cc pc = .ok (.invokevirtual 131, 3)) (kk : ∀ (H : Heap) (locs : List Loc), va_P D vwCl (fr_mw ka al (dn_m_line f x) Z) H → va_D A (fr_mw ka al (dn_m_line f x) Z) → va_S A s.heap H locs → W p l e R s m args below meth c H locs (cells + 0) (slots + 0) Q (F0 m (pc + 3) ls rest)) : W p l e R s m args below meth c H locs cells slots Q (F0 m pc ls (.int x :: .ref (al 0) :: rest)) :=
  fr_callVv (As := [.int x]) C hP hD hS (c_m_line l D ka al Z f x gt) (cwV 1 C.2.2.2.2.1 (fr_goodV ml_M_131 mi_m_line msel_m_line mini_M mc_m_line) rfl rfl rfl (by decide +kernel) hR) (va_recv C.2.2.2.2.2.1 hP (ci := 4) (q0 := 0) rfl rfl) rfl hsz hw hdg hf kk
def dn_m_go_12 : Nat → (Int32) → (Nat → Nat → Int32) → (Int32) → Int32 × (Nat → Nat → Int32)
  | 0, _, _, _ => (0, fun _ _ => 0)
  | n + 1, x, g, x2 => if 0 ≤ (g 0 14) then (x2, g) else (if (g 0 2) ≤ (g 0 13) then (x2, g) else (dn_m_go_12 n x (dn_m_line g x) (x2 + 1)))
set_option maxHeartbeats 4000000 in
set_option maxRecDepth 100000 in
theorem k_m_go_12 {p : Program} {l : Launch} {e : Env} {s : State} {m : MethodId} {below : List Frame} {meth : Method} {c : Code} {D : va_G} {A : Nat → Prop} {ka : Nat → ClassId} {al : Nat → Nat} {Z : va_W} {f : Nat → Nat → Int32} {x : Int32} (C : fr_Cx p s m ([.ref (al 0), .int x] : List Value).toArray meth c "FragileRulesModel" prog_6_method_23_code 3 (some .int) [] fr_tbl fr_nw D vwCl (fr_ty ka) A) (gS : 0 ≤ (f 0 2).toInt ∧ (f 0 2).toInt ≤ 200) (gC : ¬ x = 0 → 0 ≤ (f 0 1).toInt ∧ (f 0 1).toInt + (mo_cnt 202 (fr_up (fr_up f 0 13 0) 0 14 (-1)) : Int) ≤ 12) :
    ∀ (n : Nat) (g : Nat → Nat → Int32) (x2 : Int32) (H : Heap) (locs : List Loc) (ls : Array Slot), mo_g g x n → va_P D vwCl (fr_mw ka al g Z) H → va_D A (fr_mw ka al g Z) → va_S A s.heap H locs → lv_has ls 3 [(0, .ref (al 0)), (1, .int x), (2, .int x2)] → W p l e { frames := 3, cells := 0, slots := 0, locals := 68 } s m ([.ref (al 0), .int x] : List Value).toArray below meth c H locs 0 0 (MQ below (fr_Qi D vwCl (fr_ty ka) (dn_m_go_12 n x g x2).1 (fr_mw ka al ((dn_m_go_12 n x g x2).2) Z) A) ([.ref (al 0), .int x] : List Value).toArray s 0 0 A) (F0 m 12 ls []) := by
  obtain ⟨hx, hb, hml, hown, ht, hK, hlocks, hr, hA, hN, hZ, hEx⟩ := id C
  intro n
  induction n with
  | zero =>
    intro g x2 H locs ls hm hP hD hS hl
    exact mo_g_0 hm
  | succ n ih =>
    intro g x2 H locs ls hm hP hD hS hl
    refine lv_aload_n hx hb dM_go_12 rfl (lv_at hl 0 rfl) ?_
    refine gf_M_111 C hP dM_go_13 ?_
    refine lv_if_ge (tgt := 41) hx hb dM_go_16 (by decide) (fun c_16 => ?_) (fun c_16 => ?_)
    · skip
      refine lv_iload_n hx hb dM_go_41 rfl (lv_at hl 2 rfl) ?_
      have hd_ : dn_m_go_12 (n + 1) x g x2 = (x2, g) := by rw [dn_m_go_12, if_pos c_16]
      rw [hd_]
      exact fr_iret C hP hD hS rfl dM_go_42
    · skip
      refine lv_aload_n hx hb dM_go_19 rfl (lv_at hl 0 rfl) ?_
      refine gf_M_108 C hP dM_go_20 ?_
      refine lv_aload_n hx hb dM_go_23 rfl (lv_at hl 0 rfl) ?_
      refine gf_M_105 C hP dM_go_24 ?_
      refine lv_icmp_ge (tgt := 41) hx hb dM_go_27 (by decide) (fun c_27 => ?_) (fun c_27 => ?_)
      · skip
        refine lv_iload_n hx hb dM_go_41 rfl (lv_at hl 2 rfl) ?_
        have hd_ : dn_m_go_12 (n + 1) x g x2 = (x2, g) := by rw [dn_m_go_12, if_neg c_16, if_pos c_27]
        rw [hd_]
        exact fr_iret C hP hD hS rfl dM_go_42
      · skip
        refine lv_aload_n hx hb dM_go_30 rfl (lv_at hl 0 rfl) ?_
        refine lv_iload_n hx hb dM_go_31 rfl (lv_at hl 1 rfl) ?_
        refine cl_M_131 C hP hD hS hl.1 ⟨Nat.le_of_ble_eq_true rfl, Nat.le_of_ble_eq_true rfl⟩ (Nat.le_of_ble_eq_true rfl) ⟨Nat.le_of_ble_eq_true rfl, Nat.le_of_ble_eq_true rfl⟩ (mo_g_t hm c_16 c_27) dM_go_32 (fun H locs hP hD hS => ?_)
        refine lv_iinc (v := x2 + 1) (lv' := [(2, .int (x2 + 1)), (0, .ref (al 0)), (1, .int x)]) hx hb dM_go_35 hl (k := 2) rfl rfl (by decide) rfl (fun ls hl => ?_)
        refine lv_goto (tgt := 12) hx hb dM_go_38 (by decide) ?_
        have hd_ : dn_m_go_12 (n + 1) x g x2 = dn_m_go_12 n x (dn_m_line g x) (x2 + 1) := by rw [dn_m_go_12, if_neg c_16, if_neg c_27]
        rw [hd_]
        exact ih (dn_m_line g x) (x2 + 1) H locs ls (mo_g_b hm c_16 c_27) hP hD hS (lv_sub hl [1, 2, 0] rfl)
def dn_m_go (f : Nat → Nat → Int32) (x : Int32) : Int32 × (Nat → Nat → Int32) := dn_m_go_12 202 x (fr_up (fr_up f 0 13 0) 0 14 (-1)) 0
set_option maxHeartbeats 4000000 in
set_option maxRecDepth 100000 in
theorem c_m_go (l : Launch) (D : va_G) (ka : Nat → ClassId) (al : Nat → Nat) (Z : va_W) (f : Nat → Nat → Int32) (x : Int32) (gS : 0 ≤ (f 0 2).toInt ∧ (f 0 2).toInt ≤ 200) (gC : ¬ x = 0 → 0 ≤ (f 0 1).toInt ∧ (f 0 1).toInt + (mo_cnt 202 (fr_up (fr_up f 0 13 0) 0 14 (-1)) : Int) ≤ 12) : fr_Mi l y_m_go (.code y_m_go prog_6_method_23_code 3 (some .int) :: fr_tbl) { frames := 3, cells := 0, slots := 0, locals := 68 } D vwCl (fr_ty ka) fr_nw [.ref (al 0), .int x] (fr_mw ka al f Z) ((dn_m_go f x).1) (fr_mw ka al ((dn_m_go f x).2) Z) 0 0 := by
  refine fr_Mi.of (by decide) (Nat.le_of_ble_eq_true rfl) ?_
  intro p e s m below meth c A H locs ls C hP hD hS hl
  obtain ⟨hx, hb, hml, hown, ht, hK, hlocks, hr, hA, hN, hZ, hEx⟩ := id C
  have hl : lv_has ls 3 [(0, .ref (al 0)), (1, .int x)] := hl
  refine lv_aload_n hx hb dM_go_0 rfl (lv_at hl 0 rfl) ?_
  refine lv_iconst (v := 0) hx hb dM_go_1 (by decide) ?_
  refine pf_M_108 C hP hD hS dM_go_2 (fun H locs hP hD hS => ?_)
  refine lv_aload_n hx hb dM_go_5 rfl (lv_at hl 0 rfl) ?_
  refine lv_iconst (v := (-1)) hx hb dM_go_6 (by decide) ?_
  refine pf_M_111 C hP hD hS dM_go_7 (fun H locs hP hD hS => ?_)
  refine lv_iconst (v := 0) hx hb dM_go_10 (by decide) ?_
  refine lv_istore_n (lv' := [(2, .int 0), (0, .ref (al 0)), (1, .int x)]) hx hb dM_go_11 rfl hl (by decide) rfl (fun ls hl => ?_)
  have hd_ : dn_m_go f x = dn_m_go_12 202 x (fr_up (fr_up f 0 13 0) 0 14 (-1)) 0 := by rw [dn_m_go]
  rw [hd_]
  exact k_m_go_12 C gS gC 202 (fr_up (fr_up f 0 13 0) 0 14 (-1)) 0 H locs ls (mo_s_g gS gC) hP hD hS (lv_sub hl [1, 2, 0] rfl)
theorem mo_go_c : ∀ (n : Nat) (g : Nat → Nat → Int32) (x2 : Int32), mo_g g 0 n → 0 ≤ x2.toInt → x2.toInt + (n : Int) < 100000 → (dn_m_go_12 n 0 g x2).1.toInt = x2.toInt + (mo_cnt n g : Int) := by
  intro n
  induction n with
  | zero => intro g x2 h; exact mo_g_0 h
  | succ n ih =>
    intro g x2 h h0 h1
    rw [dn_m_go_12, mo_cnt]
    split
    · simp
    · rename_i c1
      split
      · simp
      · rename_i c2
        have h2 := fr_add1 (x := x2) h0 (by omega)
        rw [ih _ _ (mo_g_b h c1 c2) (by omega) (by omega), h2]
        omega
theorem mo_go_k {r k : Nat} (h : ¬ (r = 0 ∧ k = 14)) (h3 : ¬ (r = 0 ∧ k = 13)) : ∀ (n : Nat) (g : Nat → Nat → Int32) (x2 : Int32), mo_g g 0 n → (dn_m_go_12 n 0 g x2).2 r k = g r k := by
  intro n
  induction n with
  | zero => intro g x2 hm; exact mo_g_0 hm
  | succ n ih =>
    intro g x2 hm
    rw [dn_m_go_12]
    split
    · rfl
    · rename_i c1
      split
      · rfl
      · rename_i c2
        rw [ih _ _ (mo_g_b hm c1 c2)]
        exact mo_line_k h h3
theorem mo_go0_k {f : Nat → Nat → Int32} {r k : Nat} (gS : 0 ≤ (f 0 2).toInt ∧ (f 0 2).toInt ≤ 200) (h : ¬ (r = 0 ∧ k = 14)) (h3 : ¬ (r = 0 ∧ k = 13)) : (dn_m_go f 0).2 r k = f r k := by
  rw [dn_m_go, mo_go_k h h3 202 _ _ (mo_s_g gS (fun q => absurd rfl q))]
  simp [fr_up, h, h3]
theorem mo_go0_n {f : Nat → Nat → Int32} (gS : 0 ≤ (f 0 2).toInt ∧ (f 0 2).toInt ≤ 200) : (dn_m_go f 0).1.toInt = (mo_cnt 202 (mo_s f) : Int) := by
  rw [dn_m_go, mo_go_c 202 _ _ (mo_s_g gS (fun q => absurd rfl q)) (Int.le_refl _) (by decide)]
  simp
theorem mo_rd2 {f : Nat → Nat → Int32} (gS : 0 ≤ (f 0 2).toInt ∧ (f 0 2).toInt ≤ 200) : 0 ≤ ((dn_m_go (fr_up f 0 5 0) 0).2 0 2).toInt ∧ ((dn_m_go (fr_up f 0 5 0) 0).2 0 2).toInt ≤ 200 := by
  rw [mo_go0_k (f := fr_up f 0 5 0) gS (by decide) (by decide)]
  exact gS
theorem mo_rd {f : Nat → Nat → Int32} (gS : 0 ≤ (f 0 2).toInt ∧ (f 0 2).toInt ≤ 200) (gR : 0 ≤ (f 0 1).toInt ∧ (f 0 1).toInt ≤ 12) (c : (dn_m_go f 0).2 0 1 + (dn_m_go f 0).1 ≤ 12) : ¬ (1 : Int32) = 0 → 0 ≤ ((dn_m_go f 0).2 0 1).toInt ∧ ((dn_m_go f 0).2 0 1).toInt + (mo_cnt 202 (mo_s (fr_up (dn_m_go f 0).2 0 5 0)) : Int) ≤ 12 := by
  intro _
  have e1 : (dn_m_go f 0).2 0 1 = f 0 1 := mo_go0_k gS (by decide) (by decide)
  have e2 := mo_go0_n gS
  have e3 : mo_cnt 202 (mo_s (fr_up (dn_m_go f 0).2 0 5 0)) = mo_cnt 202 (mo_s f) := mo_e_cnt 202 ⟨mo_go0_k gS (by decide) (by decide), rfl, rfl, fun k => mo_go0_k (r := 9) (k := k) gS (by omega) (by omega)⟩
  have h1 := fr_t3 c
  have h2 := mo_cnt_le 202 (mo_s f)
  have z : (12 : Int32).toInt = 12 := rfl
  rw [e1] at h1 ⊢
  rw [e3]
  have h3 : (f 0 1 + (dn_m_go f 0).1).toInt = (f 0 1).toInt + (dn_m_go f 0).1.toInt := by
    rw [Int32.toInt_add, Int.bmod_def]
    split <;> omega
  omega

theorem cl_M_135 {p : Program} {l : Launch} {e : Env} {R : Room} {s : State} {m : MethodId} {args : Array Value} {below : List Frame} {meth : Method} {c : Code} {H : Heap} {locs : List Loc} {cells slots : Nat} {Q : State → Prop} {D : va_G} {A : Nat → Prop} {cc : ByteArray} {nL pc : Nat} {ret : Option FieldType} {hh : List ExceptionTableEntry} {ls : Array Slot} {rest : List Value} {ka : Nat → ClassId} {al : Nat → Nat} {f : Nat → Nat → Int32} {Z : va_W} {x : Int32} (C : fr_Cx p s m args meth c "FragileRulesModel" cc nL ret hh fr_tbl fr_nw D vwCl (fr_ty ka) A) (hP : va_P D vwCl (fr_mw ka al f Z) H) (hD : va_D A (fr_mw ka al f Z)) (hS : va_S A s.heap H locs) (hsz : ls.size = nL) (hR : 3 + 1 ≤ R.frames ∧ 8 + (3 + 11) + 68 ≤ R.locals) (hw : (rest.map fun v => v.category).sum ≤ 8) (hf : cells + 0 ≤ R.cells ∧ slots + 0 ≤ R.slots) (gS : 0 ≤ (f 0 2).toInt ∧ (f 0 2).toInt ≤ 200) (gC : ¬ x = 0 → 0 ≤ (f 0 1).toInt ∧ (f 0 1).toInt + (mo_cnt 202 (fr_up (fr_up f 0 13 0) 0 14 (-1)) : Int) ≤ 12) (hdg : decode cc pc = .ok (.invokevirtual 135, 3)) (kk : ∀ (H : Heap) (locs : List Loc), va_P D vwCl (fr_mw ka al ((dn_m_go f x).2) Z) H → va_D A (fr_mw ka al ((dn_m_go f x).2) Z) → va_S A s.heap H locs → W p l e R s m args below meth c H locs (cells + 0) (slots + 0) Q (F0 m (pc + 3) ls (.int ((dn_m_go f x).1) :: rest))) : W p l e R s m args below meth c H locs cells slots Q (F0 m pc ls (.int x :: .ref (al 0) :: rest)) :=
  fr_callVi (As := [.int x]) C hP hD hS (c_m_go l D ka al Z f x gS gC) (cwV 1 C.2.2.2.2.1 (fr_goodV ml_M_135 mi_m_go msel_m_go mini_M mc_m_go) rfl rfl rfl (by decide +kernel) hR) (va_recv C.2.2.2.2.2.1 hP (ci := 4) (q0 := 0) rfl rfl) rfl hsz hw hdg hf kk
def dn_m_read (f : Nat → Nat → Int32)  : Int32 × (Nat → Nat → Int32) := if 0 ≤ (((dn_m_go (fr_up f 0 5 0) 0).2) 0 14) then (if (((dn_m_go (fr_up f 0 5 0) 0).2) 0 5) = 0 then (if (((dn_m_go (fr_up f 0 5 0) 0).2) 0 14) < 0 then (((dn_m_go (fr_up f 0 5 0) 0).2) 0 1, fr_up ((dn_m_go (fr_up f 0 5 0) 0).2) 0 2 0) else ((-1) - (((dn_m_go (fr_up f 0 5 0) 0).2) 0 14), fr_up ((dn_m_go (fr_up f 0 5 0) 0).2) 0 2 0)) else (0, fr_up ((dn_m_go (fr_up f 0 5 0) 0).2) 0 2 0)) else (if ((((dn_m_go (fr_up f 0 5 0) 0).2) 0 1) + ((dn_m_go (fr_up f 0 5 0) 0).1)) ≤ 12 then (if (((dn_m_go (fr_up ((dn_m_go (fr_up f 0 5 0) 0).2) 0 5 0) 1).2) 0 5) = 0 then (if (((dn_m_go (fr_up ((dn_m_go (fr_up f 0 5 0) 0).2) 0 5 0) 1).2) 0 14) < 0 then (((dn_m_go (fr_up ((dn_m_go (fr_up f 0 5 0) 0).2) 0 5 0) 1).2) 0 1, fr_up ((dn_m_go (fr_up ((dn_m_go (fr_up f 0 5 0) 0).2) 0 5 0) 1).2) 0 2 0) else ((-1) - (((dn_m_go (fr_up ((dn_m_go (fr_up f 0 5 0) 0).2) 0 5 0) 1).2) 0 14), fr_up ((dn_m_go (fr_up ((dn_m_go (fr_up f 0 5 0) 0).2) 0 5 0) 1).2) 0 2 0)) else (0, fr_up ((dn_m_go (fr_up ((dn_m_go (fr_up f 0 5 0) 0).2) 0 5 0) 1).2) 0 2 0)) else (0, fr_up (fr_up ((dn_m_go (fr_up f 0 5 0) 0).2) 0 5 1) 0 2 0))
set_option maxHeartbeats 4000000 in
set_option maxRecDepth 100000 in
theorem c_m_read (l : Launch) (D : va_G) (ka : Nat → ClassId) (al : Nat → Nat) (Z : va_W) (f : Nat → Nat → Int32)  (gS : 0 ≤ (f 0 2).toInt ∧ (f 0 2).toInt ≤ 200) (gR : 0 ≤ (f 0 1).toInt ∧ (f 0 1).toInt ≤ 12) : fr_Mi l y_m_read (.code y_m_read prog_6_method_24_code 2 (some .int) :: fr_tbl) { frames := 4, cells := 0, slots := 0, locals := 90 } D vwCl (fr_ty ka) fr_nw [.ref (al 0)] (fr_mw ka al f Z) ((dn_m_read f).1) (fr_mw ka al ((dn_m_read f).2) Z) 0 0 := by
  refine fr_Mi.of (by decide) (Nat.le_of_ble_eq_true rfl) ?_
  intro p e s m below meth c A H locs ls C hP hD hS hl
  obtain ⟨hx, hb, hml, hown, ht, hK, hlocks, hr, hA, hN, hZ, hEx⟩ := id C
  have hl : lv_has ls 2 [(0, .ref (al 0))] := hl
  refine lv_aload_n hx hb dM_read_0 rfl (lv_at hl 0 rfl) ?_
  refine lv_iconst (v := 0) hx hb dM_read_1 (by decide) ?_
  refine pf_M_40 C hP hD hS dM_read_2 (fun H locs hP hD hS => ?_)
  refine lv_aload_n hx hb dM_read_5 rfl (lv_at hl 0 rfl) ?_
  refine lv_iconst (v := 0) hx hb dM_read_6 (by decide) ?_
  refine cl_M_135 C hP hD hS hl.1 ⟨Nat.le_of_ble_eq_true rfl, Nat.le_of_ble_eq_true rfl⟩ (Nat.le_of_ble_eq_true rfl) ⟨Nat.le_of_ble_eq_true rfl, Nat.le_of_ble_eq_true rfl⟩ gS (fun q => absurd rfl q) dM_read_7 (fun H locs hP hD hS => ?_)
  refine lv_istore_n (lv' := [(1, .int ((dn_m_go (fr_up f 0 5 0) 0).1)), (0, .ref (al 0))]) hx hb dM_read_10 rfl hl (by decide) rfl (fun ls hl => ?_)
  refine lv_aload_n hx hb dM_read_11 rfl (lv_at hl 1 rfl) ?_
  refine gf_M_111 C hP dM_read_12 ?_
  refine lv_if_ge (tgt := 51) hx hb dM_read_15 (by decide) (fun c_15 => ?_) (fun c_15 => ?_)
  · skip
    refine lv_aload_n hx hb dM_read_51 rfl (lv_at hl 1 rfl) ?_
    refine lv_iconst (v := 0) hx hb dM_read_52 (by decide) ?_
    refine pf_M_105 C hP hD hS dM_read_53 (fun H locs hP hD hS => ?_)
    refine lv_aload_n hx hb dM_read_56 rfl (lv_at hl 1 rfl) ?_
    refine gf_M_40 C hP dM_read_57 ?_
    refine W.eq (g2 := F0 m 60 ls [.int (((dn_m_go (fr_up f 0 5 0) 0).2) 0 5)]) (by first | rfl | simp [fr_up, fr_row]) ?_
    refine lv_if_eq (tgt := 67) hx hb dM_read_60 (by decide) (fun c_60 => ?_) (fun c_60 => ?_)
    · skip
      refine lv_aload_n hx hb dM_read_67 rfl (lv_at hl 1 rfl) ?_
      refine gf_M_111 C hP dM_read_68 ?_
      refine W.eq (g2 := F0 m 71 ls [.int (((dn_m_go (fr_up f 0 5 0) 0).2) 0 14)]) (by first | rfl | simp [fr_up, fr_row]) ?_
      refine lv_if_lt (tgt := 83) hx hb dM_read_71 (by decide) (fun c_71 => ?_) (fun c_71 => ?_)
      · skip
        refine lv_aload_n hx hb dM_read_83 rfl (lv_at hl 1 rfl) ?_
        refine gf_M_72 C hP dM_read_84 ?_
        refine W.eq (g2 := F0 m 87 ls [.int (((dn_m_go (fr_up f 0 5 0) 0).2) 0 1)]) (by first | rfl | simp [fr_up, fr_row]) ?_
        have hd_ : dn_m_read f = (((dn_m_go (fr_up f 0 5 0) 0).2) 0 1, fr_up ((dn_m_go (fr_up f 0 5 0) 0).2) 0 2 0) := by rw [dn_m_read, if_pos c_15, if_pos c_60, if_pos c_71]
        rw [hd_]
        exact fr_iret C hP hD hS rfl dM_read_87
      · skip
        refine lv_iconst (v := (-1)) hx hb dM_read_74 (by decide) ?_
        refine lv_aload_n hx hb dM_read_75 rfl (lv_at hl 1 rfl) ?_
        refine gf_M_111 C hP dM_read_76 ?_
        refine W.eq (g2 := F0 m 79 ls [.int (((dn_m_go (fr_up f 0 5 0) 0).2) 0 14), .int (-1)]) (by first | rfl | simp [fr_up, fr_row]) ?_
        refine lv_isub hx hb dM_read_79 ?_
        refine lv_goto (tgt := 87) hx hb dM_read_80 (by decide) ?_
        have hd_ : dn_m_read f = ((-1) - (((dn_m_go (fr_up f 0 5 0) 0).2) 0 14), fr_up ((dn_m_go (fr_up f 0 5 0) 0).2) 0 2 0) := by rw [dn_m_read, if_pos c_15, if_pos c_60, if_neg c_71]
        rw [hd_]
        exact fr_iret C hP hD hS rfl dM_read_87
    · skip
      refine lv_iconst (v := 0) hx hb dM_read_63 (by decide) ?_
      refine lv_goto (tgt := 87) hx hb dM_read_64 (by decide) ?_
      have hd_ : dn_m_read f = (0, fr_up ((dn_m_go (fr_up f 0 5 0) 0).2) 0 2 0) := by rw [dn_m_read, if_pos c_15, if_neg c_60]
      rw [hd_]
      exact fr_iret C hP hD hS rfl dM_read_87
  · skip
    refine lv_aload_n hx hb dM_read_18 rfl (lv_at hl 1 rfl) ?_
    refine lv_aload_n hx hb dM_read_19 rfl (lv_at hl 1 rfl) ?_
    refine gf_M_72 C hP dM_read_20 ?_
    refine lv_iload_n hx hb dM_read_23 rfl (lv_at hl 0 rfl) ?_
    refine lv_iadd hx hb dM_read_24 ?_
    refine lv_bipush (v := 12) hx hb dM_read_25 (by decide) ?_
    refine lv_icmp_le (tgt := 34) hx hb dM_read_27 (by decide) (fun c_27 => ?_) (fun c_27 => ?_)
    · skip
      refine lv_iconst (v := 0) hx hb dM_read_34 (by decide) ?_
      refine pf_M_40 C hP hD hS dM_read_35 (fun H locs hP hD hS => ?_)
      refine lv_aload_n hx hb dM_read_38 rfl (lv_at hl 1 rfl) ?_
      refine gf_M_40 C hP dM_read_39 ?_
      refine W.eq (g2 := F0 m 42 ls [.int 0]) (by first | rfl | simp [fr_up, fr_row]) ?_
      refine lv_if_ne (tgt := 51) hx hb dM_read_42 (by decide) (fun c_42 => absurd c_42 (by decide)) (fun c_42 => ?_)
      refine lv_aload_n hx hb dM_read_45 rfl (lv_at hl 1 rfl) ?_
      refine lv_iconst (v := 1) hx hb dM_read_46 (by decide) ?_
      refine cl_M_135 C hP hD hS hl.1 ⟨Nat.le_of_ble_eq_true rfl, Nat.le_of_ble_eq_true rfl⟩ (Nat.le_of_ble_eq_true rfl) ⟨Nat.le_of_ble_eq_true rfl, Nat.le_of_ble_eq_true rfl⟩ (mo_rd2 gS) (mo_rd (f := fr_up f 0 5 0) gS gR c_27) dM_read_47 (fun H locs hP hD hS => ?_)
      refine lv_pop hx hb dM_read_50 rfl ?_
      refine lv_aload_n hx hb dM_read_51 rfl (lv_at hl 1 rfl) ?_
      refine lv_iconst (v := 0) hx hb dM_read_52 (by decide) ?_
      refine pf_M_105 C hP hD hS dM_read_53 (fun H locs hP hD hS => ?_)
      refine lv_aload_n hx hb dM_read_56 rfl (lv_at hl 1 rfl) ?_
      refine gf_M_40 C hP dM_read_57 ?_
      refine W.eq (g2 := F0 m 60 ls [.int (((dn_m_go (fr_up ((dn_m_go (fr_up f 0 5 0) 0).2) 0 5 0) 1).2) 0 5)]) (by first | rfl | simp [fr_up, fr_row]) ?_
      refine lv_if_eq (tgt := 67) hx hb dM_read_60 (by decide) (fun c_60 => ?_) (fun c_60 => ?_)
      · skip
        refine lv_aload_n hx hb dM_read_67 rfl (lv_at hl 1 rfl) ?_
        refine gf_M_111 C hP dM_read_68 ?_
        refine W.eq (g2 := F0 m 71 ls [.int (((dn_m_go (fr_up ((dn_m_go (fr_up f 0 5 0) 0).2) 0 5 0) 1).2) 0 14)]) (by first | rfl | simp [fr_up, fr_row]) ?_
        refine lv_if_lt (tgt := 83) hx hb dM_read_71 (by decide) (fun c_71 => ?_) (fun c_71 => ?_)
        · skip
          refine lv_aload_n hx hb dM_read_83 rfl (lv_at hl 1 rfl) ?_
          refine gf_M_72 C hP dM_read_84 ?_
          refine W.eq (g2 := F0 m 87 ls [.int (((dn_m_go (fr_up ((dn_m_go (fr_up f 0 5 0) 0).2) 0 5 0) 1).2) 0 1)]) (by first | rfl | simp [fr_up, fr_row]) ?_
          have hd_ : dn_m_read f = (((dn_m_go (fr_up ((dn_m_go (fr_up f 0 5 0) 0).2) 0 5 0) 1).2) 0 1, fr_up ((dn_m_go (fr_up ((dn_m_go (fr_up f 0 5 0) 0).2) 0 5 0) 1).2) 0 2 0) := by rw [dn_m_read, if_neg c_15, if_pos c_27, if_pos c_60, if_pos c_71]
          rw [hd_]
          exact fr_iret C hP hD hS rfl dM_read_87
        · skip
          refine lv_iconst (v := (-1)) hx hb dM_read_74 (by decide) ?_
          refine lv_aload_n hx hb dM_read_75 rfl (lv_at hl 1 rfl) ?_
          refine gf_M_111 C hP dM_read_76 ?_
          refine W.eq (g2 := F0 m 79 ls [.int (((dn_m_go (fr_up ((dn_m_go (fr_up f 0 5 0) 0).2) 0 5 0) 1).2) 0 14), .int (-1)]) (by first | rfl | simp [fr_up, fr_row]) ?_
          refine lv_isub hx hb dM_read_79 ?_
          refine lv_goto (tgt := 87) hx hb dM_read_80 (by decide) ?_
          have hd_ : dn_m_read f = ((-1) - (((dn_m_go (fr_up ((dn_m_go (fr_up f 0 5 0) 0).2) 0 5 0) 1).2) 0 14), fr_up ((dn_m_go (fr_up ((dn_m_go (fr_up f 0 5 0) 0).2) 0 5 0) 1).2) 0 2 0) := by rw [dn_m_read, if_neg c_15, if_pos c_27, if_pos c_60, if_neg c_71]
          rw [hd_]
          exact fr_iret C hP hD hS rfl dM_read_87
      · skip
        refine lv_iconst (v := 0) hx hb dM_read_63 (by decide) ?_
        refine lv_goto (tgt := 87) hx hb dM_read_64 (by decide) ?_
        have hd_ : dn_m_read f = (0, fr_up ((dn_m_go (fr_up ((dn_m_go (fr_up f 0 5 0) 0).2) 0 5 0) 1).2) 0 2 0) := by rw [dn_m_read, if_neg c_15, if_pos c_27, if_neg c_60]
        rw [hd_]
        exact fr_iret C hP hD hS rfl dM_read_87
    · skip
      refine lv_iconst (v := 1) hx hb dM_read_30 (by decide) ?_
      refine lv_goto (tgt := 35) hx hb dM_read_31 (by decide) ?_
      refine pf_M_40 C hP hD hS dM_read_35 (fun H locs hP hD hS => ?_)
      refine lv_aload_n hx hb dM_read_38 rfl (lv_at hl 1 rfl) ?_
      refine gf_M_40 C hP dM_read_39 ?_
      refine W.eq (g2 := F0 m 42 ls [.int 1]) (by first | rfl | simp [fr_up, fr_row]) ?_
      refine lv_if_ne (tgt := 51) hx hb dM_read_42 (by decide) (fun c_42 => ?_) (fun c_42 => absurd c_42 (by decide))
      refine lv_aload_n hx hb dM_read_51 rfl (lv_at hl 1 rfl) ?_
      refine lv_iconst (v := 0) hx hb dM_read_52 (by decide) ?_
      refine pf_M_105 C hP hD hS dM_read_53 (fun H locs hP hD hS => ?_)
      refine lv_aload_n hx hb dM_read_56 rfl (lv_at hl 1 rfl) ?_
      refine gf_M_40 C hP dM_read_57 ?_
      refine W.eq (g2 := F0 m 60 ls [.int 1]) (by first | rfl | simp [fr_up, fr_row]) ?_
      refine lv_if_eq (tgt := 67) hx hb dM_read_60 (by decide) (fun c_60 => absurd c_60 (by decide)) (fun c_60 => ?_)
      refine lv_iconst (v := 0) hx hb dM_read_63 (by decide) ?_
      refine lv_goto (tgt := 87) hx hb dM_read_64 (by decide) ?_
      have hd_ : dn_m_read f = (0, fr_up (fr_up ((dn_m_go (fr_up f 0 5 0) 0).2) 0 5 1) 0 2 0) := by rw [dn_m_read, if_neg c_15, if_neg c_27]
      rw [hd_]
      exact fr_iret C hP hD hS rfl dM_read_87
