theorem cl_M_124 {p : Program} {l : Launch} {e : Env} {R : Room} {s : State} {m : MethodId} {args : Array Value} {below : List Frame} {meth : Method} {c : Code} {H : Heap} {locs : List Loc} {cells slots : Nat} {Q : State → Prop} {D : va_G} {A : Nat → Prop} {cc : ByteArray} {nL pc : Nat} {ret : Option FieldType} {hh : List ExceptionTableEntry} {ls : Array Slot} {rest : List Value} {ka : Nat → ClassId} {al : Nat → Nat} {f : Nat → Nat → Int32} {Z : va_W} {x : Int32} (C : fr_Cx p s m args meth c "FragileRulesModel" cc nL ret hh fr_tbl fr_nw D vwCl (fr_ty ka) A) (hP : va_P D vwCl (fr_mw ka al f Z) H) (hD : va_D A (fr_mw ka al f Z)) (hS : va_S A s.heap H locs) (hsz : ls.size = nL) (hR : 1 + 1 ≤ R.frames ∧ 8 + (2 + 11) + 20 ≤ R.locals) (hw : (rest.map fun v => v.category).sum ≤ 8) (hf : cells + 0 ≤ R.cells ∧ slots + 0 ≤ R.slots) (gS : 0 ≤ (f 0 2).toInt ∧ (f 0 2).toInt ≤ 200) (gP : 0 ≤ (f 0 13).toInt ∧ (f 0 13).toInt ≤ 1000) (hdg : decode cc pc = .ok (.invokevirtual 124, 3)) (kk : ∀ (H : Heap) (locs : List Loc), va_P D vwCl (fr_mw ka al (dn_m_take f x) Z) H → va_D A (fr_mw ka al (dn_m_take f x) Z) → va_S A s.heap H locs → W p l e R s m args below meth c H locs (cells + 0) (slots + 0) Q (F0 m (pc + 3) ls rest)) : W p l e R s m args below meth c H locs cells slots Q (F0 m pc ls (.int x :: .ref (al 0) :: rest)) :=
  fr_callVv (As := [.int x]) C hP hD hS (c_m_take l D ka al Z f x gS gP) (cwV 1 C.2.2.2.2.1 (fr_goodV ml_M_124 mi_m_take msel_m_take mini_M mc_m_take) rfl rfl rfl (by decide +kernel) hR) (va_recv C.2.2.2.2.2.1 hP (ci := 4) (q0 := 0) rfl rfl) rfl hsz hw hdg hf kk
theorem cl_M_128 {p : Program} {l : Launch} {e : Env} {R : Room} {s : State} {m : MethodId} {args : Array Value} {below : List Frame} {meth : Method} {c : Code} {H : Heap} {locs : List Loc} {cells slots : Nat} {Q : State → Prop} {D : va_G} {A : Nat → Prop} {cc : ByteArray} {nL pc : Nat} {ret : Option FieldType} {hh : List ExceptionTableEntry} {ls : Array Slot} {rest : List Value} {ka : Nat → ClassId} {al : Nat → Nat} {f : Nat → Nat → Int32} {Z : va_W} {x : Int32} (C : fr_Cx p s m args meth c "FragileRulesModel" cc nL ret hh fr_tbl fr_nw D vwCl (fr_ty ka) A) (hP : va_P D vwCl (fr_mw ka al f Z) H) (hD : va_D A (fr_mw ka al f Z)) (hS : va_S A s.heap H locs) (hsz : ls.size = nL) (hR : 1 + 1 ≤ R.frames ∧ 8 + (3 + 11) + 22 ≤ R.locals) (hw : (rest.map fun v => v.category).sum ≤ 8) (hf : cells + 0 ≤ R.cells ∧ slots + 0 ≤ R.slots) (gS : 0 ≤ (f 0 2).toInt ∧ (f 0 2).toInt ≤ 200) (gP : 0 ≤ (f 0 13).toInt ∧ (f 0 13).toInt ≤ 1000) (hdg : decode cc pc = .ok (.invokevirtual 128, 3)) (kk : ∀ (H : Heap) (locs : List Loc), va_P D vwCl (fr_mw ka al ((dn_m_digit f x).2) Z) H → va_D A (fr_mw ka al ((dn_m_digit f x).2) Z) → va_S A s.heap H locs → W p l e R s m args below meth c H locs (cells + 0) (slots + 0) Q (F0 m (pc + 3) ls (.int ((dn_m_digit f x).1) :: rest))) : W p l e R s m args below meth c H locs cells slots Q (F0 m pc ls (.int x :: .ref (al 0) :: rest)) :=
  fr_callVi (As := [.int x]) C hP hD hS (c_m_digit l D ka al Z f x gS gP) (cwV 1 C.2.2.2.2.1 (fr_goodV ml_M_128 mi_m_digit msel_m_digit mini_M mc_m_digit) rfl rfl rfl (by decide +kernel) hR) (va_recv C.2.2.2.2.2.1 hP (ci := 4) (q0 := 0) rfl rfl) rfl hsz hw hdg hf kk
theorem cl_M_120 {p : Program} {l : Launch} {e : Env} {R : Room} {s : State} {m : MethodId} {args : Array Value} {below : List Frame} {meth : Method} {c : Code} {H : Heap} {locs : List Loc} {cells slots : Nat} {Q : State → Prop} {D : va_G} {A : Nat → Prop} {cc : ByteArray} {nL pc : Nat} {ret : Option FieldType} {hh : List ExceptionTableEntry} {ls : Array Slot} {rest : List Value} {ka : Nat → ClassId} {al : Nat → Nat} {f : Nat → Nat → Int32} {Z : va_W} {x : Int32} (C : fr_Cx p s m args meth c "FragileRulesModel" cc nL ret hh fr_tbl fr_nw D vwCl (fr_ty ka) A) (hP : va_P D vwCl (fr_mw ka al f Z) H) (hD : va_D A (fr_mw ka al f Z)) (hS : va_S A s.heap H locs) (hsz : ls.size = nL) (hR : 0 + 1 ≤ R.frames ∧ 8 + (1 + 11) + 0 ≤ R.locals) (hw : (rest.map fun v => v.category).sum ≤ 8) (hf : cells + 0 ≤ R.cells ∧ slots + 0 ≤ R.slots) (hdg : decode cc pc = .ok (.invokestatic 120, 3)) (kk : ∀ (H : Heap) (locs : List Loc), va_P D vwCl (fr_mw ka al f Z) H → va_D A (fr_mw ka al f Z) → va_S A s.heap H locs → W p l e R s m args below meth c H locs (cells + 0) (slots + 0) Q (F0 m (pc + 3) ls (.int (dn_m_rowOf x) :: rest))) : W p l e R s m args below meth c H locs cells slots Q (F0 m pc ls (.int x :: rest)) :=
  fr_callSi (As := [.int x]) C hP hD hS (c_m_rowOf l D ka al Z f x) (cwS 1 C.2.2.2.2.1 (fr_goodS ml_M_120 mst_m_rowOf mini_M mc_m_rowOf) rfl rfl rfl (by decide +kernel) hR) rfl hsz hw hdg hf kk
def dn_m_line_114 (x : Int32) (g : Nat → Nat → Int32) (x2 : Int32) (x3 : Int32) (x4 : Int32) : Nat → Nat → Int32 := if 0 ≤ ((dn_m_take g 10) 0 14) then (dn_m_take g 10) else (if x = 0 then (dn_m_take g 10) else (dn_m_add (dn_m_take g 10) x2 x3 x4))
set_option maxHeartbeats 4000000 in
set_option maxRecDepth 100000 in
theorem k_m_line_114 {p : Program} {l : Launch} {e : Env} {s : State} {m : MethodId} {below : List Frame} {meth : Method} {c : Code} {D : va_G} {A : Nat → Prop} {ka : Nat → ClassId} {al : Nat → Nat} {Z : va_W} {f : Nat → Nat → Int32} {x : Int32} (C : fr_Cx p s m ([.ref (al 0), .int x] : List Value).toArray meth c "FragileRulesModel" prog_6_method_22_code 5 none [] fr_tbl fr_nw D vwCl (fr_ty ka) A) (gt : mo_t f 900 x) :
    ∀ (g : Nat → Nat → Int32) (x2 : Int32) (x3 : Int32) (x4 : Int32) (H : Heap) (locs : List Loc) (ls : Array Slot), mo_t g 920 x → va_P D vwCl (fr_mw ka al g Z) H → va_D A (fr_mw ka al g Z) → va_S A s.heap H locs → lv_has ls 5 [(0, .ref (al 0)), (1, .int x), (2, .int x2), (3, .int x3), (4, .int x4)] → W p l e { frames := 2, cells := 0, slots := 0, locals := 44 } s m ([.ref (al 0), .int x] : List Value).toArray below meth c H locs 0 0 (MQ below (fr_Qv D vwCl (fr_ty ka) (fr_mw ka al (dn_m_line_114 x g x2 x3 x4) Z) A) ([.ref (al 0), .int x] : List Value).toArray s 0 0 A) (F0 m 114 ls []) := by
  obtain ⟨hx, hb, hml, hown, ht, hK, hlocks, hr, hA, hN, hZ, hEx⟩ := id C
  intro g x2 x3 x4 H locs ls ht9 hP hD hS hl
  refine lv_aload_n hx hb dM_line_114 rfl (lv_at hl 0 rfl) ?_
  refine lv_bipush (v := 10) hx hb dM_line_115 (by decide) ?_
  refine cl_M_124 C hP hD hS hl.1 ⟨Nat.le_of_ble_eq_true rfl, Nat.le_of_ble_eq_true rfl⟩ (Nat.le_of_ble_eq_true rfl) ⟨Nat.le_of_ble_eq_true rfl, Nat.le_of_ble_eq_true rfl⟩ (mo_t_s ht9) (mo_t_p ht9 (by decide)) dM_line_117 (fun H locs hP hD hS => ?_)
  refine lv_aload_n hx hb dM_line_120 rfl (lv_at hl 0 rfl) ?_
  refine gf_M_111 C hP dM_line_121 ?_
  refine lv_if_ge (tgt := 139) hx hb dM_line_124 (by decide) (fun c_124 => ?_) (fun c_124 => ?_)
  · skip
    have hd_ : dn_m_line_114 x g x2 x3 x4 = dn_m_take g 10 := by rw [dn_m_line_114, if_pos c_124]
    rw [hd_]
    exact fr_vret C hP hD hS dM_line_139
  · skip
    refine lv_iload_n hx hb dM_line_127 rfl (lv_at hl 1 rfl) ?_
    refine lv_if_eq (tgt := 139) hx hb dM_line_128 (by decide) (fun c_128 => ?_) (fun c_128 => ?_)
    · skip
      have hd_ : dn_m_line_114 x g x2 x3 x4 = dn_m_take g 10 := by rw [dn_m_line_114, if_neg c_124, if_pos c_128]
      rw [hd_]
      exact fr_vret C hP hD hS dM_line_139
    · skip
      refine lv_aload_n hx hb dM_line_131 rfl (lv_at hl 0 rfl) ?_
      refine lv_iload_n hx hb dM_line_132 rfl (lv_at hl 2 rfl) ?_
      refine lv_iload_n hx hb dM_line_133 rfl (lv_at hl 3 rfl) ?_
      refine lv_iload hx hb dM_line_134 (lv_at hl 4 rfl) ?_
      refine cl_M_101 C hP hD hS hl.1 ⟨Nat.le_of_ble_eq_true rfl, Nat.le_of_ble_eq_true rfl⟩ (Nat.le_of_ble_eq_true rfl) ⟨Nat.le_of_ble_eq_true rfl, Nat.le_of_ble_eq_true rfl⟩ (((mo_t_take ht9 (by decide))).2.2 c_128) dM_line_136 (fun H locs hP hD hS => ?_)
      have hd_ : dn_m_line_114 x g x2 x3 x4 = dn_m_add (dn_m_take g 10) x2 x3 x4 := by rw [dn_m_line_114, if_neg c_124, if_neg c_128]
      rw [hd_]
      exact fr_vret C hP hD hS dM_line_139

def dn_m_line_69 (x : Int32) (g : Nat → Nat → Int32) (x2 : Int32) (x3 : Int32) (x4 : Int32) : Nat → Nat → Int32 := if 0 ≤ (g 0 14) then (dn_m_line_114 x g x2 x3 x4) else (if x2 = 2 then (if x4 ≤ 0 then (dn_m_line_114 x g x2 x3 x4) else (if (dn_m_within (dn_m_look g) 48 57) = 0 then (dn_m_line_114 x g x2 x3 x4) else (dn_m_line_114 x ((dn_m_digit g 9).2) x2 x3 ((10 * x4) + ((dn_m_digit g 9).1))))) else (dn_m_line_114 x g x2 x3 x4))
set_option maxHeartbeats 4000000 in
set_option maxRecDepth 100000 in
theorem k_m_line_69 {p : Program} {l : Launch} {e : Env} {s : State} {m : MethodId} {below : List Frame} {meth : Method} {c : Code} {D : va_G} {A : Nat → Prop} {ka : Nat → ClassId} {al : Nat → Nat} {Z : va_W} {f : Nat → Nat → Int32} {x : Int32} (C : fr_Cx p s m ([.ref (al 0), .int x] : List Value).toArray meth c "FragileRulesModel" prog_6_method_22_code 5 none [] fr_tbl fr_nw D vwCl (fr_ty ka) A) (gt : mo_t f 900 x) :
    ∀ (g : Nat → Nat → Int32) (x2 : Int32) (x3 : Int32) (x4 : Int32) (H : Heap) (locs : List Loc) (ls : Array Slot), mo_t g 910 x → va_P D vwCl (fr_mw ka al g Z) H → va_D A (fr_mw ka al g Z) → va_S A s.heap H locs → lv_has ls 5 [(0, .ref (al 0)), (1, .int x), (2, .int x2), (3, .int x3), (4, .int x4)] → W p l e { frames := 2, cells := 0, slots := 0, locals := 44 } s m ([.ref (al 0), .int x] : List Value).toArray below meth c H locs 0 0 (MQ below (fr_Qv D vwCl (fr_ty ka) (fr_mw ka al (dn_m_line_69 x g x2 x3 x4) Z) A) ([.ref (al 0), .int x] : List Value).toArray s 0 0 A) (F0 m 69 ls []) := by
  obtain ⟨hx, hb, hml, hown, ht, hK, hlocks, hr, hA, hN, hZ, hEx⟩ := id C
  intro g x2 x3 x4 H locs ls ht9 hP hD hS hl
  refine lv_aload_n hx hb dM_line_69 rfl (lv_at hl 0 rfl) ?_
  refine gf_M_111 C hP dM_line_70 ?_
  refine lv_if_ge (tgt := 114) hx hb dM_line_73 (by decide) (fun c_73 => ?_) (fun c_73 => ?_)
  · skip
    have hd_ : dn_m_line_69 x g x2 x3 x4 = dn_m_line_114 x g x2 x3 x4 := by rw [dn_m_line_69, if_pos c_73]
    rw [hd_]
    exact k_m_line_114 C gt  g x2 x3 x4 H locs ls (mo_t_w ht9 (by decide)) hP hD hS (lv_sub hl [0, 1, 2, 3, 4] rfl)
  · skip
    refine lv_iload_n hx hb dM_line_76 rfl (lv_at hl 2 rfl) ?_
    refine lv_iconst (v := 2) hx hb dM_line_77 (by decide) ?_
    refine lv_icmp_ne (tgt := 114) hx hb dM_line_78 (by decide) (fun c_78 => ?_) (fun c_78 => ?_)
    · skip
      have hd_ : dn_m_line_69 x g x2 x3 x4 = dn_m_line_114 x g x2 x3 x4 := by rw [dn_m_line_69, if_neg c_73, if_neg c_78]
      rw [hd_]
      exact k_m_line_114 C gt  g x2 x3 x4 H locs ls (mo_t_w ht9 (by decide)) hP hD hS (lv_sub hl [0, 1, 2, 3, 4] rfl)
    · skip
      refine lv_iload hx hb dM_line_81 (lv_at hl 4 rfl) ?_
      refine lv_if_le (tgt := 114) hx hb dM_line_83 (by decide) (fun c_83 => ?_) (fun c_83 => ?_)
      · skip
        have hd_ : dn_m_line_69 x g x2 x3 x4 = dn_m_line_114 x g x2 x3 x4 := by rw [dn_m_line_69, if_neg c_73, if_pos c_78, if_pos c_83]
        rw [hd_]
        exact k_m_line_114 C gt  g x2 x3 x4 H locs ls (mo_t_w ht9 (by decide)) hP hD hS (lv_sub hl [0, 1, 2, 3, 4] rfl)
      · skip
        refine lv_aload_n hx hb dM_line_86 rfl (lv_at hl 0 rfl) ?_
        refine cl_M_114 C hP hD hS hl.1 ⟨Nat.le_of_ble_eq_true rfl, Nat.le_of_ble_eq_true rfl⟩ (Nat.le_of_ble_eq_true rfl) ⟨Nat.le_of_ble_eq_true rfl, Nat.le_of_ble_eq_true rfl⟩ (mo_t_s ht9) (mo_t_p ht9 (by decide)) dM_line_87 (fun H locs hP hD hS => ?_)
        refine lv_bipush (v := 48) hx hb dM_line_90 (by decide) ?_
        refine lv_bipush (v := 57) hx hb dM_line_92 (by decide) ?_
        refine cl_M_91 C hP hD hS hl.1 ⟨Nat.le_of_ble_eq_true rfl, Nat.le_of_ble_eq_true rfl⟩ (Nat.le_of_ble_eq_true rfl) ⟨Nat.le_of_ble_eq_true rfl, Nat.le_of_ble_eq_true rfl⟩ dM_line_94 (fun H locs hP hD hS => ?_)
        refine lv_if_eq (tgt := 114) hx hb dM_line_97 (by decide) (fun c_97 => ?_) (fun c_97 => ?_)
        · skip
          have hd_ : dn_m_line_69 x g x2 x3 x4 = dn_m_line_114 x g x2 x3 x4 := by rw [dn_m_line_69, if_neg c_73, if_pos c_78, if_neg c_83, if_pos c_97]
          rw [hd_]
          exact k_m_line_114 C gt  g x2 x3 x4 H locs ls (mo_t_w ht9 (by decide)) hP hD hS (lv_sub hl [0, 1, 2, 3, 4] rfl)
        · skip
          refine lv_bipush (v := 10) hx hb dM_line_100 (by decide) ?_
          refine lv_iload hx hb dM_line_102 (lv_at hl 4 rfl) ?_
          refine lv_imul hx hb dM_line_104 ?_
          refine lv_aload_n hx hb dM_line_105 rfl (lv_at hl 0 rfl) ?_
          refine lv_bipush (v := 9) hx hb dM_line_106 (by decide) ?_
          refine cl_M_128 C hP hD hS hl.1 ⟨Nat.le_of_ble_eq_true rfl, Nat.le_of_ble_eq_true rfl⟩ (Nat.le_of_ble_eq_true rfl) ⟨Nat.le_of_ble_eq_true rfl, Nat.le_of_ble_eq_true rfl⟩ (mo_t_s ht9) (mo_t_p ht9 (by decide)) dM_line_108 (fun H locs hP hD hS => ?_)
          refine lv_iadd hx hb dM_line_111 ?_
          refine lv_istore (lv' := [(4, .int ((10 * x4) + ((dn_m_digit g 9).1))), (0, .ref (al 0)), (1, .int x), (2, .int x2), (3, .int x3)]) hx hb dM_line_112 hl (by decide) rfl (fun ls hl => ?_)
          have hd_ : dn_m_line_69 x g x2 x3 x4 = dn_m_line_114 x ((dn_m_digit g 9).2) x2 x3 ((10 * x4) + ((dn_m_digit g 9).1)) := by rw [dn_m_line_69, if_neg c_73, if_pos c_78, if_neg c_83, if_neg c_97]
          rw [hd_]
          exact k_m_line_114 C gt  ((dn_m_digit g 9).2) x2 x3 ((10 * x4) + ((dn_m_digit g 9).1)) H locs ls (mo_t_w (mo_t_digit ht9 (by decide)) (by decide)) hP hD hS (lv_sub hl [1, 2, 3, 4, 0] rfl)

def dn_m_line_17 (x : Int32) (g : Nat → Nat → Int32) (x2 : Int32) : Nat → Nat → Int32 := if x2 = 2 then (dn_m_line_69 x ((dn_m_digit (dn_m_take ((dn_m_digit (dn_m_take (fr_up g 0 13 ((g 0 13) + 1)) 32) 7).2) 32) 9).2) x2 ((dn_m_digit (dn_m_take (fr_up g 0 13 ((g 0 13) + 1)) 32) 7).1) ((dn_m_digit (dn_m_take ((dn_m_digit (dn_m_take (fr_up g 0 13 ((g 0 13) + 1)) 32) 7).2) 32) 9).1)) else (if x2 = 3 then (dn_m_line_69 x ((dn_m_digit (dn_m_take ((dn_m_digit (dn_m_take (fr_up g 0 13 ((g 0 13) + 1)) 32) 7).2) 32) 9).2) x2 ((dn_m_digit (dn_m_take (fr_up g 0 13 ((g 0 13) + 1)) 32) 7).1) ((dn_m_digit (dn_m_take ((dn_m_digit (dn_m_take (fr_up g 0 13 ((g 0 13) + 1)) 32) 7).2) 32) 9).1)) else (dn_m_line_69 x ((dn_m_digit (dn_m_take ((dn_m_digit (dn_m_take (fr_up g 0 13 ((g 0 13) + 1)) 32) 7).2) 32) 7).2) x2 ((dn_m_digit (dn_m_take (fr_up g 0 13 ((g 0 13) + 1)) 32) 7).1) ((dn_m_digit (dn_m_take ((dn_m_digit (dn_m_take (fr_up g 0 13 ((g 0 13) + 1)) 32) 7).2) 32) 7).1)))
set_option maxHeartbeats 4000000 in
set_option maxRecDepth 100000 in
theorem k_m_line_17 {p : Program} {l : Launch} {e : Env} {s : State} {m : MethodId} {below : List Frame} {meth : Method} {c : Code} {D : va_G} {A : Nat → Prop} {ka : Nat → ClassId} {al : Nat → Nat} {Z : va_W} {f : Nat → Nat → Int32} {x : Int32} (C : fr_Cx p s m ([.ref (al 0), .int x] : List Value).toArray meth c "FragileRulesModel" prog_6_method_22_code 5 none [] fr_tbl fr_nw D vwCl (fr_ty ka) A) (gt : mo_t f 900 x) :
    ∀ (g : Nat → Nat → Int32) (x2 : Int32) (H : Heap) (locs : List Loc) (ls : Array Slot), mo_t g 901 x → va_P D vwCl (fr_mw ka al g Z) H → va_D A (fr_mw ka al g Z) → va_S A s.heap H locs → lv_has ls 5 [(0, .ref (al 0)), (1, .int x), (2, .int x2)] → W p l e { frames := 2, cells := 0, slots := 0, locals := 44 } s m ([.ref (al 0), .int x] : List Value).toArray below meth c H locs 0 0 (MQ below (fr_Qv D vwCl (fr_ty ka) (fr_mw ka al (dn_m_line_17 x g x2) Z) A) ([.ref (al 0), .int x] : List Value).toArray s 0 0 A) (F0 m 17 ls []) := by
  obtain ⟨hx, hb, hml, hown, ht, hK, hlocks, hr, hA, hN, hZ, hEx⟩ := id C
  intro g x2 H locs ls ht9 hP hD hS hl
  refine lv_aload_n hx hb dM_line_17 rfl (lv_at hl 0 rfl) ?_
  refine lv_dup hx hb dM_line_18 rfl ?_
  refine gf_M_108 C hP dM_line_19 ?_
  refine lv_iconst (v := 1) hx hb dM_line_22 (by decide) ?_
  refine lv_iadd hx hb dM_line_23 ?_
  refine pf_M_108 C hP hD hS dM_line_24 (fun H locs hP hD hS => ?_)
  refine lv_aload_n hx hb dM_line_27 rfl (lv_at hl 0 rfl) ?_
  refine lv_bipush (v := 32) hx hb dM_line_28 (by decide) ?_
  refine cl_M_124 C hP hD hS hl.1 ⟨Nat.le_of_ble_eq_true rfl, Nat.le_of_ble_eq_true rfl⟩ (Nat.le_of_ble_eq_true rfl) ⟨Nat.le_of_ble_eq_true rfl, Nat.le_of_ble_eq_true rfl⟩ (mo_t_s (mo_t_inc ht9 (by decide))) (mo_t_p (mo_t_inc ht9 (by decide)) (by decide)) dM_line_30 (fun H locs hP hD hS => ?_)
  refine lv_aload_n hx hb dM_line_33 rfl (lv_at hl 0 rfl) ?_
  refine lv_bipush (v := 7) hx hb dM_line_34 (by decide) ?_
  refine cl_M_128 C hP hD hS hl.1 ⟨Nat.le_of_ble_eq_true rfl, Nat.le_of_ble_eq_true rfl⟩ (Nat.le_of_ble_eq_true rfl) ⟨Nat.le_of_ble_eq_true rfl, Nat.le_of_ble_eq_true rfl⟩ (mo_t_s (mo_t_take (mo_t_inc ht9 (by decide)) (by decide))) (mo_t_p (mo_t_take (mo_t_inc ht9 (by decide)) (by decide)) (by decide)) dM_line_36 (fun H locs hP hD hS => ?_)
  refine lv_istore_n (lv' := [(3, .int ((dn_m_digit (dn_m_take (fr_up g 0 13 ((g 0 13) + 1)) 32) 7).1)), (0, .ref (al 0)), (1, .int x), (2, .int x2)]) hx hb dM_line_39 rfl hl (by decide) rfl (fun ls hl => ?_)
  refine lv_aload_n hx hb dM_line_40 rfl (lv_at hl 1 rfl) ?_
  refine lv_bipush (v := 32) hx hb dM_line_41 (by decide) ?_
  refine cl_M_124 C hP hD hS hl.1 ⟨Nat.le_of_ble_eq_true rfl, Nat.le_of_ble_eq_true rfl⟩ (Nat.le_of_ble_eq_true rfl) ⟨Nat.le_of_ble_eq_true rfl, Nat.le_of_ble_eq_true rfl⟩ (mo_t_s (mo_t_digit (mo_t_take (mo_t_inc ht9 (by decide)) (by decide)) (by decide))) (mo_t_p (mo_t_digit (mo_t_take (mo_t_inc ht9 (by decide)) (by decide)) (by decide)) (by decide)) dM_line_43 (fun H locs hP hD hS => ?_)
  refine lv_aload_n hx hb dM_line_46 rfl (lv_at hl 1 rfl) ?_
  refine lv_iload_n hx hb dM_line_47 rfl (lv_at hl 3 rfl) ?_
  refine lv_iconst (v := 2) hx hb dM_line_48 (by decide) ?_
  refine lv_icmp_eq (tgt := 57) hx hb dM_line_49 (by decide) (fun c_49 => ?_) (fun c_49 => ?_)
  · skip
    refine lv_bipush (v := 9) hx hb dM_line_57 (by decide) ?_
    refine lv_goto (tgt := 64) hx hb dM_line_59 (by decide) ?_
    refine cl_M_128 C hP hD hS hl.1 ⟨Nat.le_of_ble_eq_true rfl, Nat.le_of_ble_eq_true rfl⟩ (Nat.le_of_ble_eq_true rfl) ⟨Nat.le_of_ble_eq_true rfl, Nat.le_of_ble_eq_true rfl⟩ (mo_t_s (mo_t_take (mo_t_digit (mo_t_take (mo_t_inc ht9 (by decide)) (by decide)) (by decide)) (by decide))) (mo_t_p (mo_t_take (mo_t_digit (mo_t_take (mo_t_inc ht9 (by decide)) (by decide)) (by decide)) (by decide)) (by decide)) dM_line_64 (fun H locs hP hD hS => ?_)
    refine lv_istore (lv' := [(4, .int ((dn_m_digit (dn_m_take ((dn_m_digit (dn_m_take (fr_up g 0 13 ((g 0 13) + 1)) 32) 7).2) 32) 9).1)), (3, .int ((dn_m_digit (dn_m_take (fr_up g 0 13 ((g 0 13) + 1)) 32) 7).1)), (0, .ref (al 0)), (1, .int x), (2, .int x2)]) hx hb dM_line_67 hl (by decide) rfl (fun ls hl => ?_)
    have hd_ : dn_m_line_17 x g x2 = dn_m_line_69 x ((dn_m_digit (dn_m_take ((dn_m_digit (dn_m_take (fr_up g 0 13 ((g 0 13) + 1)) 32) 7).2) 32) 9).2) x2 ((dn_m_digit (dn_m_take (fr_up g 0 13 ((g 0 13) + 1)) 32) 7).1) ((dn_m_digit (dn_m_take ((dn_m_digit (dn_m_take (fr_up g 0 13 ((g 0 13) + 1)) 32) 7).2) 32) 9).1) := by rw [dn_m_line_17, if_pos c_49]
    rw [hd_]
    exact k_m_line_69 C gt  ((dn_m_digit (dn_m_take ((dn_m_digit (dn_m_take (fr_up g 0 13 ((g 0 13) + 1)) 32) 7).2) 32) 9).2) x2 ((dn_m_digit (dn_m_take (fr_up g 0 13 ((g 0 13) + 1)) 32) 7).1) ((dn_m_digit (dn_m_take ((dn_m_digit (dn_m_take (fr_up g 0 13 ((g 0 13) + 1)) 32) 7).2) 32) 9).1) H locs ls (mo_t_w (mo_t_digit (mo_t_take (mo_t_digit (mo_t_take (mo_t_inc ht9 (by decide)) (by decide)) (by decide)) (by decide)) (by decide)) (by decide)) hP hD hS (lv_sub hl [2, 3, 4, 1, 0] rfl)
  · skip
    refine lv_iload_n hx hb dM_line_52 rfl (lv_at hl 3 rfl) ?_
    refine lv_iconst (v := 3) hx hb dM_line_53 (by decide) ?_
    refine lv_icmp_ne (tgt := 62) hx hb dM_line_54 (by decide) (fun c_54 => ?_) (fun c_54 => ?_)
    · skip
      refine lv_bipush (v := 7) hx hb dM_line_62 (by decide) ?_
      refine cl_M_128 C hP hD hS hl.1 ⟨Nat.le_of_ble_eq_true rfl, Nat.le_of_ble_eq_true rfl⟩ (Nat.le_of_ble_eq_true rfl) ⟨Nat.le_of_ble_eq_true rfl, Nat.le_of_ble_eq_true rfl⟩ (mo_t_s (mo_t_take (mo_t_digit (mo_t_take (mo_t_inc ht9 (by decide)) (by decide)) (by decide)) (by decide))) (mo_t_p (mo_t_take (mo_t_digit (mo_t_take (mo_t_inc ht9 (by decide)) (by decide)) (by decide)) (by decide)) (by decide)) dM_line_64 (fun H locs hP hD hS => ?_)
      refine lv_istore (lv' := [(4, .int ((dn_m_digit (dn_m_take ((dn_m_digit (dn_m_take (fr_up g 0 13 ((g 0 13) + 1)) 32) 7).2) 32) 7).1)), (3, .int ((dn_m_digit (dn_m_take (fr_up g 0 13 ((g 0 13) + 1)) 32) 7).1)), (0, .ref (al 0)), (1, .int x), (2, .int x2)]) hx hb dM_line_67 hl (by decide) rfl (fun ls hl => ?_)
      have hd_ : dn_m_line_17 x g x2 = dn_m_line_69 x ((dn_m_digit (dn_m_take ((dn_m_digit (dn_m_take (fr_up g 0 13 ((g 0 13) + 1)) 32) 7).2) 32) 7).2) x2 ((dn_m_digit (dn_m_take (fr_up g 0 13 ((g 0 13) + 1)) 32) 7).1) ((dn_m_digit (dn_m_take ((dn_m_digit (dn_m_take (fr_up g 0 13 ((g 0 13) + 1)) 32) 7).2) 32) 7).1) := by rw [dn_m_line_17, if_neg c_49, if_neg c_54]
      rw [hd_]
      exact k_m_line_69 C gt  ((dn_m_digit (dn_m_take ((dn_m_digit (dn_m_take (fr_up g 0 13 ((g 0 13) + 1)) 32) 7).2) 32) 7).2) x2 ((dn_m_digit (dn_m_take (fr_up g 0 13 ((g 0 13) + 1)) 32) 7).1) ((dn_m_digit (dn_m_take ((dn_m_digit (dn_m_take (fr_up g 0 13 ((g 0 13) + 1)) 32) 7).2) 32) 7).1) H locs ls (mo_t_w (mo_t_digit (mo_t_take (mo_t_digit (mo_t_take (mo_t_inc ht9 (by decide)) (by decide)) (by decide)) (by decide)) (by decide)) (by decide)) hP hD hS (lv_sub hl [2, 3, 4, 1, 0] rfl)
    · skip
      refine lv_bipush (v := 9) hx hb dM_line_57 (by decide) ?_
      refine lv_goto (tgt := 64) hx hb dM_line_59 (by decide) ?_
      refine cl_M_128 C hP hD hS hl.1 ⟨Nat.le_of_ble_eq_true rfl, Nat.le_of_ble_eq_true rfl⟩ (Nat.le_of_ble_eq_true rfl) ⟨Nat.le_of_ble_eq_true rfl, Nat.le_of_ble_eq_true rfl⟩ (mo_t_s (mo_t_take (mo_t_digit (mo_t_take (mo_t_inc ht9 (by decide)) (by decide)) (by decide)) (by decide))) (mo_t_p (mo_t_take (mo_t_digit (mo_t_take (mo_t_inc ht9 (by decide)) (by decide)) (by decide)) (by decide)) (by decide)) dM_line_64 (fun H locs hP hD hS => ?_)
      refine lv_istore (lv' := [(4, .int ((dn_m_digit (dn_m_take ((dn_m_digit (dn_m_take (fr_up g 0 13 ((g 0 13) + 1)) 32) 7).2) 32) 9).1)), (3, .int ((dn_m_digit (dn_m_take (fr_up g 0 13 ((g 0 13) + 1)) 32) 7).1)), (0, .ref (al 0)), (1, .int x), (2, .int x2)]) hx hb dM_line_67 hl (by decide) rfl (fun ls hl => ?_)
      have hd_ : dn_m_line_17 x g x2 = dn_m_line_69 x ((dn_m_digit (dn_m_take ((dn_m_digit (dn_m_take (fr_up g 0 13 ((g 0 13) + 1)) 32) 7).2) 32) 9).2) x2 ((dn_m_digit (dn_m_take (fr_up g 0 13 ((g 0 13) + 1)) 32) 7).1) ((dn_m_digit (dn_m_take ((dn_m_digit (dn_m_take (fr_up g 0 13 ((g 0 13) + 1)) 32) 7).2) 32) 9).1) := by rw [dn_m_line_17, if_neg c_49, if_pos c_54]
      rw [hd_]
      exact k_m_line_69 C gt  ((dn_m_digit (dn_m_take ((dn_m_digit (dn_m_take (fr_up g 0 13 ((g 0 13) + 1)) 32) 7).2) 32) 9).2) x2 ((dn_m_digit (dn_m_take (fr_up g 0 13 ((g 0 13) + 1)) 32) 7).1) ((dn_m_digit (dn_m_take ((dn_m_digit (dn_m_take (fr_up g 0 13 ((g 0 13) + 1)) 32) 7).2) 32) 9).1) H locs ls (mo_t_w (mo_t_digit (mo_t_take (mo_t_digit (mo_t_take (mo_t_inc ht9 (by decide)) (by decide)) (by decide)) (by decide)) (by decide)) (by decide)) hP hD hS (lv_sub hl [2, 3, 4, 1, 0] rfl)
def dn_m_line (f : Nat → Nat → Int32) (x : Int32) : Nat → Nat → Int32 := if (dn_m_rowOf (dn_m_look f)) = (-1) then (dn_m_line_17 x (dn_m_fail f) (dn_m_rowOf (dn_m_look f))) else (dn_m_line_17 x f (dn_m_rowOf (dn_m_look f)))
set_option maxHeartbeats 4000000 in
set_option maxRecDepth 100000 in
theorem c_m_line (l : Launch) (D : va_G) (ka : Nat → ClassId) (al : Nat → Nat) (Z : va_W) (f : Nat → Nat → Int32) (x : Int32) (gt : mo_t f 900 x) : fr_Mv l y_m_line (.code y_m_line prog_6_method_22_code 5 none :: fr_tbl) { frames := 2, cells := 0, slots := 0, locals := 44 } D vwCl (fr_ty ka) fr_nw [.ref (al 0), .int x] (fr_mw ka al f Z) (fr_mw ka al (dn_m_line f x) Z) 0 0 := by
  refine fr_Mv.of (by decide) (Nat.le_of_ble_eq_true rfl) ?_
  intro p e s m below meth c A H locs ls C hinit hP hD hS hl
  obtain ⟨hx, hb, hml, hown, ht, hK, hlocks, hr, hA, hN, hZ, hEx⟩ := id C
  have hl : lv_has ls 5 [(0, .ref (al 0)), (1, .int x)] := hl
  refine lv_aload_n hx hb dM_line_0 rfl (lv_at hl 0 rfl) ?_
  refine cl_M_114 C hP hD hS hl.1 ⟨Nat.le_of_ble_eq_true rfl, Nat.le_of_ble_eq_true rfl⟩ (Nat.le_of_ble_eq_true rfl) ⟨Nat.le_of_ble_eq_true rfl, Nat.le_of_ble_eq_true rfl⟩ (mo_t_s gt) (mo_t_p gt (by decide)) dM_line_1 (fun H locs hP hD hS => ?_)
  refine cl_M_120 C hP hD hS hl.1 ⟨Nat.le_of_ble_eq_true rfl, Nat.le_of_ble_eq_true rfl⟩ (Nat.le_of_ble_eq_true rfl) ⟨Nat.le_of_ble_eq_true rfl, Nat.le_of_ble_eq_true rfl⟩ dM_line_4 (fun H locs hP hD hS => ?_)
  refine lv_istore_n (lv' := [(2, .int (dn_m_rowOf (dn_m_look f))), (0, .ref (al 0)), (1, .int x)]) hx hb dM_line_7 rfl hl (by decide) rfl (fun ls hl => ?_)
  refine lv_iload_n hx hb dM_line_8 rfl (lv_at hl 0 rfl) ?_
  refine lv_iconst (v := (-1)) hx hb dM_line_9 (by decide) ?_
  refine lv_icmp_ne (tgt := 17) hx hb dM_line_10 (by decide) (fun c_10 => ?_) (fun c_10 => ?_)
  · skip
    have hd_ : dn_m_line f x = dn_m_line_17 x f (dn_m_rowOf (dn_m_look f)) := by rw [dn_m_line, if_neg c_10]
    rw [hd_]
    exact k_m_line_17 C gt  f (dn_m_rowOf (dn_m_look f)) H locs ls (mo_t_w gt (by decide)) hP hD hS (lv_sub hl [1, 2, 0] rfl)
  · skip
    refine lv_aload_n hx hb dM_line_13 rfl (lv_at hl 1 rfl) ?_
    refine cl_M_117 C hP hD hS hl.1 ⟨Nat.le_of_ble_eq_true rfl, Nat.le_of_ble_eq_true rfl⟩ (Nat.le_of_ble_eq_true rfl) ⟨Nat.le_of_ble_eq_true rfl, Nat.le_of_ble_eq_true rfl⟩ dM_line_14 (fun H locs hP hD hS => ?_)
    have hd_ : dn_m_line f x = dn_m_line_17 x (dn_m_fail f) (dn_m_rowOf (dn_m_look f)) := by rw [dn_m_line, if_pos c_10]
    rw [hd_]
    exact k_m_line_17 C gt  (dn_m_fail f) (dn_m_rowOf (dn_m_look f)) H locs ls (mo_t_w (mo_t_fail gt) (by decide)) hP hD hS (lv_sub hl [1, 2, 0] rfl)
