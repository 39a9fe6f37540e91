theorem cl_M_75 {p : Program} {l : Launch} {e : Env} {R : Room} {s : State} {m : MethodId} {args : Array Value} {below : List Frame} {meth : Method} {c : Code} {H : Heap} {locs : List Loc} {cells slots : Nat} {Q : State → Prop} {D : va_G} {A : Nat → Prop} {cc : ByteArray} {nL pc : Nat} {ret : Option FieldType} {hh : List ExceptionTableEntry} {ls : Array Slot} {rest : List Value} {ka : Nat → ClassId} {al : Nat → Nat} {f : Nat → Nat → Int32} {Z : va_W} {x : Int32} (C : fr_Cx p s m args meth c "FragileRulesModel" cc nL ret hh fr_tbl fr_nw D vwCl (fr_ty ka) A) (hP : va_P D vwCl (fr_mw ka al f Z) H) (hD : va_D A (fr_mw ka al f Z)) (hS : va_S A s.heap H locs) (hsz : ls.size = nL) (hR : 0 + 1 ≤ R.frames ∧ 8 + (2 + 11) + 0 ≤ R.locals) (hw : (rest.map fun v => v.category).sum ≤ 8) (hf : cells + 0 ≤ R.cells ∧ slots + 0 ≤ R.slots) (gX : 0 ≤ x.toInt ∧ x.toInt < 12) (hdg : decode cc pc = .ok (.invokevirtual 75, 3)) (kk : ∀ (H : Heap) (locs : List Loc), va_P D vwCl (fr_mw ka al f Z) H → va_D A (fr_mw ka al f Z) → va_S A s.heap H locs → W p l e R s m args below meth c H locs (cells + 0) (slots + 0) Q (F0 m (pc + 3) ls (.int (dn_m_concerns f x) :: rest))) : W p l e R s m args below meth c H locs cells slots Q (F0 m pc ls (.int x :: .ref (al 0) :: rest)) :=
  fr_callVi (As := [.int x]) C hP hD hS (c_m_concerns l D ka al Z f x gX) (cwV 1 C.2.2.2.2.1 (fr_goodV ml_M_75 mi_m_concerns msel_m_concerns mini_M mc_m_concerns) rfl rfl rfl (by decide +kernel) hR) (va_recv C.2.2.2.2.2.1 hP (ci := 4) (q0 := 0) rfl rfl) rfl hsz hw hdg hf kk
theorem cl_M_78 {p : Program} {l : Launch} {e : Env} {R : Room} {s : State} {m : MethodId} {args : Array Value} {below : List Frame} {meth : Method} {c : Code} {H : Heap} {locs : List Loc} {cells slots : Nat} {Q : State → Prop} {D : va_G} {A : Nat → Prop} {cc : ByteArray} {nL pc : Nat} {ret : Option FieldType} {hh : List ExceptionTableEntry} {ls : Array Slot} {rest : List Value} {ka : Nat → ClassId} {al : Nat → Nat} {f : Nat → Nat → Int32} {Z : va_W} {x : Int32} (C : fr_Cx p s m args meth c "FragileRulesModel" cc nL ret hh fr_tbl fr_nw D vwCl (fr_ty ka) A) (hP : va_P D vwCl (fr_mw ka al f Z) H) (hD : va_D A (fr_mw ka al f Z)) (hS : va_S A s.heap H locs) (hsz : ls.size = nL) (hR : 1 + 1 ≤ R.frames ∧ 8 + (4 + 11) + 22 ≤ R.locals) (hw : (rest.map fun v => v.category).sum ≤ 8) (hf : cells + 0 ≤ R.cells ∧ slots + 0 ≤ R.slots) (gX : 0 ≤ x.toInt ∧ x.toInt < 12) (gB : (0 ≤ (f 0 8).toInt ∧ (f 0 8).toInt < 10) ∧ 0 ≤ (f 0 9).toInt ∧ (f 0 9).toInt < 10) (hdg : decode cc pc = .ok (.invokevirtual 78, 3)) (kk : ∀ (H : Heap) (locs : List Loc), va_P D vwCl (fr_mw ka al f Z) H → va_D A (fr_mw ka al f Z) → va_S A s.heap H locs → W p l e R s m args below meth c H locs (cells + 0) (slots + 0) Q (F0 m (pc + 3) ls (.int (dn_m_refuses f x) :: rest))) : W p l e R s m args below meth c H locs cells slots Q (F0 m pc ls (.int x :: .ref (al 0) :: rest)) :=
  fr_callVi (As := [.int x]) C hP hD hS (c_m_refuses l D ka al Z f x gX gB) (cwV 1 C.2.2.2.2.1 (fr_goodV ml_M_78 mi_m_refuses msel_m_refuses mini_M mc_m_refuses) rfl rfl rfl (by decide +kernel) hR) (va_recv C.2.2.2.2.2.1 hP (ci := 4) (q0 := 0) rfl rfl) rfl hsz hw hdg hf kk
def dn_m_ask_7 : Nat → (Nat → Nat → Int32) → (Int32) → Int32 × (Nat → Nat → Int32)
  | 0, _, _ => (0, fun _ _ => 0)
  | n + 1, g, x1 => if (g 0 1) ≤ x1 then (0, g) else (if (dn_m_concerns g (g 8 x1.toNatClampNeg)) = 0 then (dn_m_ask_7 n g (x1 + 1)) else (if (dn_m_refuses (fr_up (fr_up g 10 ((g 0 6).toNatClampNeg) ((g 8 x1.toNatClampNeg) + 1)) 0 6 ((g 0 6) + 1)) (g 8 x1.toNatClampNeg)) = 0 then (dn_m_ask_7 n (fr_up (fr_up g 10 ((g 0 6).toNatClampNeg) ((g 8 x1.toNatClampNeg) + 1)) 0 6 ((g 0 6) + 1)) (x1 + 1)) else ((g 8 x1.toNatClampNeg) + 1, fr_up (fr_up (fr_up g 10 ((g 0 6).toNatClampNeg) ((g 8 x1.toNatClampNeg) + 1)) 0 6 ((g 0 6) + 1)) 7 ((g 8 x1.toNatClampNeg).toNatClampNeg) ((g 7 ((g 8 x1.toNatClampNeg).toNatClampNeg)) + 1))))
set_option maxHeartbeats 4000000 in
set_option maxRecDepth 100000 in
theorem k_m_ask_7 {p : Program} {l : Launch} {e : Env} {s : State} {m : MethodId} {below : List Frame} {meth : Method} {c : Code} {D : va_G} {A : Nat → Prop} {ka : Nat → ClassId} {al : Nat → Nat} {Z : va_W} {f : Nat → Nat → Int32} (C : fr_Cx p s m ([.ref (al 0)] : List Value).toArray meth c "FragileRulesModel" prog_6_method_9_code 3 (some .int) [] fr_tbl fr_nw D vwCl (fr_ty ka) A) (gR : 0 ≤ (f 0 1).toInt ∧ (f 0 1).toInt ≤ 12) (gO : mo_ord f) (gB : mo_B f) :
    ∀ (n : Nat) (g : Nat → Nat → Int32) (x1 : Int32) (H : Heap) (locs : List Loc) (ls : Array Slot), mm_lp g x1 n → va_P D vwCl (fr_mw ka al g Z) H → va_D A (fr_mw ka al g Z) → va_S A s.heap H locs → lv_has ls 3 [(0, .ref (al 0)), (1, .int x1)] → W p l e { frames := 2, cells := 0, slots := 0, locals := 45 } s m ([.ref (al 0)] : List Value).toArray below meth c H locs 0 0 (MQ below (fr_Qi D vwCl (fr_ty ka) (dn_m_ask_7 n g x1).1 (fr_mw ka al ((dn_m_ask_7 n g x1).2) Z) A) ([.ref (al 0)] : List Value).toArray s 0 0 A) (F0 m 7 ls []) := by
  obtain ⟨hx, hb, hml, hown, ht, hK, hlocks, hr, hA, hN, hZ, hEx⟩ := id C
  intro n
  induction n with
  | zero =>
    intro g x1 H locs ls hm hP hD hS hl
    exact mm_lp_0 hm
  | succ n ih =>
    intro g x1 H locs ls hm hP hD hS hl
    refine lv_iload_n hx hb dM_ask_7 rfl (lv_at hl 1 rfl) ?_
    refine lv_aload_n hx hb dM_ask_8 rfl (lv_at hl 0 rfl) ?_
    refine gf_M_72 C hP dM_ask_9 ?_
    refine lv_icmp_ge (tgt := 80) hx hb dM_ask_12 (by decide) (fun c_12 => ?_) (fun c_12 => ?_)
    · skip
      refine lv_iconst (v := 0) hx hb dM_ask_80 (by decide) ?_
      have hd_ : dn_m_ask_7 (n + 1) g x1 = (0, g) := by rw [dn_m_ask_7, if_pos c_12]
      rw [hd_]
      exact fr_iret C hP hD hS rfl dM_ask_81
    · skip
      refine lv_aload_n hx hb dM_ask_15 rfl (lv_at hl 0 rfl) ?_
      refine gf_M_31 C hP dM_ask_16 ?_
      refine lv_iload_n hx hb dM_ask_19 rfl (lv_at hl 1 rfl) ?_
      have hin_20 : vp_in x1 12 := by have q0 := fr_t4 c_12; have e0 := hm.1; have e1 := mm_k hm; skip; rw [vp_in_iff]; omega
      refine mald_8 C hP hin_20 dM_ask_20 ?_
      refine lv_istore_n (lv' := [(2, .int (g 8 x1.toNatClampNeg)), (0, .ref (al 0)), (1, .int x1)]) hx hb dM_ask_21 rfl hl (by decide) rfl (fun ls hl => ?_)
      refine lv_aload_n hx hb dM_ask_22 rfl (lv_at hl 1 rfl) ?_
      refine lv_iload_n hx hb dM_ask_23 rfl (lv_at hl 0 rfl) ?_
      refine cl_M_75 C hP hD hS hl.1 ⟨Nat.le_of_ble_eq_true rfl, Nat.le_of_ble_eq_true rfl⟩ (Nat.le_of_ble_eq_true rfl) ⟨Nat.le_of_ble_eq_true rfl, Nat.le_of_ble_eq_true rfl⟩ (mm_x hm c_12) dM_ask_24 (fun H locs hP hD hS => ?_)
      refine lv_if_eq (tgt := 74) hx hb dM_ask_27 (by decide) (fun c_27 => ?_) (fun c_27 => ?_)
      · skip
        refine lv_iinc (v := x1 + 1) (lv' := [(1, .int (x1 + 1)), (2, .int (g 8 x1.toNatClampNeg)), (0, .ref (al 0))]) hx hb dM_ask_74 hl (k := 2) rfl rfl (by decide) rfl (fun ls hl => ?_)
        refine lv_goto (tgt := 7) hx hb dM_ask_77 (by decide) ?_
        have hd_ : dn_m_ask_7 (n + 1) g x1 = dn_m_ask_7 n g (x1 + 1) := by rw [dn_m_ask_7, if_neg c_12, if_pos c_27]
        rw [hd_]
        exact ih g (x1 + 1) H locs ls (mm_lp_a hm c_12) hP hD hS (lv_sub hl [2, 0] rfl)
      · skip
        refine lv_aload_n hx hb dM_ask_30 rfl (lv_at hl 1 rfl) ?_
        refine gf_M_37 C hP dM_ask_31 ?_
        refine lv_aload_n hx hb dM_ask_34 rfl (lv_at hl 1 rfl) ?_
        refine gf_M_69 C hP dM_ask_35 ?_
        refine lv_iload_n hx hb dM_ask_38 rfl (lv_at hl 0 rfl) ?_
        refine lv_iconst (v := 1) hx hb dM_ask_39 (by decide) ?_
        refine lv_iadd hx hb dM_ask_40 ?_
        have hin_41 : vp_in (g 0 6) 12 := by have q0 := fr_t4 c_12; have q1 := fr_t6 c_27; have z0 : (0 : Int32).toInt = 0 := rfl; have e0 := hm.1; have e1 := mm_k hm; have e2 := mm_a hm; skip; rw [vp_in_iff]; omega
        refine mast_10 C hP hD hS hin_41 dM_ask_41 (fun H locs hP hD hS => ?_)
        refine lv_aload_n hx hb dM_ask_42 rfl (lv_at hl 1 rfl) ?_
        refine lv_dup hx hb dM_ask_43 rfl ?_
        refine gf_M_69 C hP dM_ask_44 ?_
        refine W.eq (g2 := F0 m 47 ls [.int (g 0 6), .ref (al 0)]) (by first | rfl | simp [fr_up, fr_row]) ?_
        refine lv_iconst (v := 1) hx hb dM_ask_47 (by decide) ?_
        refine lv_iadd hx hb dM_ask_48 ?_
        refine pf_M_69 C hP hD hS dM_ask_49 (fun H locs hP hD hS => ?_)
        refine lv_aload_n hx hb dM_ask_52 rfl (lv_at hl 1 rfl) ?_
        refine lv_iload_n hx hb dM_ask_53 rfl (lv_at hl 0 rfl) ?_
        refine cl_M_78 C hP hD hS hl.1 ⟨Nat.le_of_ble_eq_true rfl, Nat.le_of_ble_eq_true rfl⟩ (Nat.le_of_ble_eq_true rfl) ⟨Nat.le_of_ble_eq_true rfl, Nat.le_of_ble_eq_true rfl⟩ (mm_x (g := g) hm c_12) (mm_B (g := g) hm) dM_ask_54 (fun H locs hP hD hS => ?_)
        refine lv_if_eq (tgt := 74) hx hb dM_ask_57 (by decide) (fun c_57 => ?_) (fun c_57 => ?_)
        · skip
          refine lv_iinc (v := x1 + 1) (lv' := [(1, .int (x1 + 1)), (2, .int (g 8 x1.toNatClampNeg)), (0, .ref (al 0))]) hx hb dM_ask_74 hl (k := 2) rfl rfl (by decide) rfl (fun ls hl => ?_)
          refine lv_goto (tgt := 7) hx hb dM_ask_77 (by decide) ?_
          have hd_ : dn_m_ask_7 (n + 1) g x1 = dn_m_ask_7 n (fr_up (fr_up g 10 ((g 0 6).toNatClampNeg) ((g 8 x1.toNatClampNeg) + 1)) 0 6 ((g 0 6) + 1)) (x1 + 1) := by rw [dn_m_ask_7, if_neg c_12, if_neg c_27, if_pos c_57]
          rw [hd_]
          exact ih (fr_up (fr_up g 10 ((g 0 6).toNatClampNeg) ((g 8 x1.toNatClampNeg) + 1)) 0 6 ((g 0 6) + 1)) (x1 + 1) H locs ls (mm_lp_b hm c_12) hP hD hS (lv_sub hl [2, 0] rfl)
        · skip
          refine lv_aload_n hx hb dM_ask_60 rfl (lv_at hl 1 rfl) ?_
          refine gf_M_28 C hP dM_ask_61 ?_
          refine lv_iload_n hx hb dM_ask_64 rfl (lv_at hl 0 rfl) ?_
          refine lv_dup2_11 hx hb dM_ask_65 rfl rfl ?_
          have hin_66 : vp_in (g 8 x1.toNatClampNeg) 12 := by have q0 := fr_t4 c_12; have q1 := fr_t6 c_27; have q2 := fr_t6 c_57; have z0 : (0 : Int32).toInt = 0 := rfl; have e0 := mm_x hm c_12; skip; rw [vp_in_iff]; omega
          refine mald_7 C hP hin_66 dM_ask_66 ?_
          refine W.eq (g2 := F0 m 67 ls [.int (g 7 ((g 8 x1.toNatClampNeg).toNatClampNeg)), .int (g 8 x1.toNatClampNeg), .ref (al 7)]) (by first | rfl | simp [fr_up, fr_row]) ?_
          refine lv_iconst (v := 1) hx hb dM_ask_67 (by decide) ?_
          refine lv_iadd hx hb dM_ask_68 ?_
          have hin_69 : vp_in (g 8 x1.toNatClampNeg) 12 := by have q0 := fr_t4 c_12; have q1 := fr_t6 c_27; have q2 := fr_t6 c_57; have z0 : (0 : Int32).toInt = 0 := rfl; have e0 := mm_x hm c_12; skip; rw [vp_in_iff]; omega
          refine mast_7 C hP hD hS hin_69 dM_ask_69 (fun H locs hP hD hS => ?_)
          refine lv_iload_n hx hb dM_ask_70 rfl (lv_at hl 0 rfl) ?_
          refine lv_iconst (v := 1) hx hb dM_ask_71 (by decide) ?_
          refine lv_iadd hx hb dM_ask_72 ?_
          have hd_ : dn_m_ask_7 (n + 1) g x1 = ((g 8 x1.toNatClampNeg) + 1, fr_up (fr_up (fr_up g 10 ((g 0 6).toNatClampNeg) ((g 8 x1.toNatClampNeg) + 1)) 0 6 ((g 0 6) + 1)) 7 ((g 8 x1.toNatClampNeg).toNatClampNeg) ((g 7 ((g 8 x1.toNatClampNeg).toNatClampNeg)) + 1)) := by rw [dn_m_ask_7, if_neg c_12, if_neg c_27, if_neg c_57]
          rw [hd_]
          exact fr_iret C hP hD hS rfl dM_ask_73
def dn_m_ask (f : Nat → Nat → Int32)  : Int32 × (Nat → Nat → Int32) := dn_m_ask_7 13 (fr_up f 0 6 0) 0
set_option maxHeartbeats 4000000 in
set_option maxRecDepth 100000 in
theorem c_m_ask (l : Launch) (D : va_G) (ka : Nat → ClassId) (al : Nat → Nat) (Z : va_W) (f : Nat → Nat → Int32)  (gR : 0 ≤ (f 0 1).toInt ∧ (f 0 1).toInt ≤ 12) (gO : mo_ord f) (gB : mo_B f) : fr_Mi l y_m_ask (.code y_m_ask prog_6_method_9_code 3 (some .int) :: fr_tbl) { frames := 2, cells := 0, slots := 0, locals := 45 } D vwCl (fr_ty ka) fr_nw [.ref (al 0)] (fr_mw ka al f Z) ((dn_m_ask f).1) (fr_mw ka al ((dn_m_ask f).2) Z) 0 0 := by
  refine fr_Mi.of (by decide) (Nat.le_of_ble_eq_true rfl) ?_
  intro p e s m below meth c A H locs ls C hP hD hS hl
  obtain ⟨hx, hb, hml, hown, ht, hK, hlocks, hr, hA, hN, hZ, hEx⟩ := id C
  have hl : lv_has ls 3 [(0, .ref (al 0))] := hl
  refine lv_aload_n hx hb dM_ask_0 rfl (lv_at hl 0 rfl) ?_
  refine lv_iconst (v := 0) hx hb dM_ask_1 (by decide) ?_
  refine pf_M_69 C hP hD hS dM_ask_2 (fun H locs hP hD hS => ?_)
  refine lv_iconst (v := 0) hx hb dM_ask_5 (by decide) ?_
  refine lv_istore_n (lv' := [(1, .int 0), (0, .ref (al 0))]) hx hb dM_ask_6 rfl hl (by decide) rfl (fun ls hl => ?_)
  have hd_ : dn_m_ask f = dn_m_ask_7 13 (fr_up f 0 6 0) 0 := by rw [dn_m_ask]
  rw [hd_]
  exact k_m_ask_7 C gR gO gB 13 (fr_up f 0 6 0) 0 H locs ls (mm_lp_in gR gO gB) hP hD hS (lv_sub hl [1, 0] rfl)
theorem mo_ask7_keep {r k : Nat} (h7 : r ≠ 7) (h9 : r ≠ 10) (h2 : ¬ (r = 0 ∧ k = 6)) : ∀ (n : Nat) (g : Nat → Nat → Int32) (x1 : Int32), (g 0 1).toInt < x1.toInt + n → 0 ≤ x1.toInt → (dn_m_ask_7 n g x1).2 r k = g r k ∨ n = 0 := by
  intro n
  induction n with
  | zero => intro g x1 _ _; exact Or.inr rfl
  | succ n ih =>
    intro g x1 hm h0
    left
    rw [dn_m_ask_7]
    have key : ∀ g' : Nat → Nat → Int32, g' 0 1 = g 0 1 → g' r k = g r k → ¬ g 0 1 ≤ x1 → (dn_m_ask_7 n g' (x1 + 1)).2 r k = g r k := by
      intro g' e1 e2 c
      have q1 := fr_t4 c
      have q4 := (g 0 1).toInt_lt
      have q2 := fr_add1 (x := x1) h0 (by omega)
      rcases ih g' (x1 + 1) (by rw [e1]; omega) (by omega) with h | h
      · rw [h, e2]
      · subst h; omega
    repeat' split
    all_goals first
      | rfl
      | (apply key <;> first | rfl | assumption)
      | (simp [fr_up, h7, h9, h2]; done)
      | (apply key <;> first | rfl | assumption | (simp [fr_up, h7, h9, h2]; done))
theorem mo_ask_keep {f : Nat → Nat → Int32} {r k : Nat} (gR : 0 ≤ (f 0 1).toInt ∧ (f 0 1).toInt ≤ 12) (h7 : r ≠ 7) (h9 : r ≠ 10) (h2 : ¬ (r = 0 ∧ k = 6)) : (dn_m_ask f).2 r k = f r k := by
  rw [dn_m_ask]
  have z : (0 : Int32).toInt = 0 := rfl
  rcases mo_ask7_keep h7 h9 h2 13 (fr_up f 0 6 0) 0 (by show (f 0 1).toInt < _; omega) (Int.le_refl _) with h | h
  · rw [h]; simp [fr_up, h2]
  · cases h
theorem mo_q_ask {g : Nat → Nat → Int32} {v : Int32} (h : mo_q g) : mo_q (dn_m_ask (fr_up g 0 11 v)).2 := by
  obtain ⟨h1, h2, h3, h4⟩ := h
  have e : ∀ r k : Nat, r ≠ 7 → r ≠ 10 → ¬ (r = 0 ∧ k = 6) → (dn_m_ask (fr_up g 0 11 v)).2 r k = fr_up g 0 11 v r k := fun r k a b c => mo_ask_keep (f := fr_up g 0 11 v) h1 a b c
  have e1 : (dn_m_ask (fr_up g 0 11 v)).2 0 1 = g 0 1 := e 0 1 (by decide) (by decide) (by decide)
  have e0 : (dn_m_ask (fr_up g 0 11 v)).2 0 0 = g 0 0 := e 0 0 (by decide) (by decide) (by decide)
  have e8 : (dn_m_ask (fr_up g 0 11 v)).2 0 8 = g 0 8 := e 0 8 (by decide) (by decide) (by decide)
  have e9 : (dn_m_ask (fr_up g 0 11 v)).2 0 9 = g 0 9 := e 0 9 (by decide) (by decide) (by decide)
  refine ⟨by rw [e1]; exact h1, fun k hk => ?_, ?_, by rw [e0]; exact h4⟩
  · rw [e1] at hk ⊢
    rw [e 8 k (by decide) (by decide) (by omega)]
    exact h2 k hk
  · unfold mo_B
    rw [e8, e9]
    exact h3

theorem cl_M_81 {p : Program} {l : Launch} {e : Env} {R : Room} {s : State} {m : MethodId} {args : Array Value} {below : List Frame} {meth : Method} {c : Code} {H : Heap} {locs : List Loc} {cells slots : Nat} {Q : State → Prop} {D : va_G} {A : Nat → Prop} {cc : ByteArray} {nL pc : Nat} {ret : Option FieldType} {hh : List ExceptionTableEntry} {ls : Array Slot} {rest : List Value} {ka : Nat → ClassId} {al : Nat → Nat} {f : Nat → Nat → Int32} {Z : va_W}  (C : fr_Cx p s m args meth c "FragileRulesModel" cc nL ret hh fr_tbl fr_nw D vwCl (fr_ty ka) A) (hP : va_P D vwCl (fr_mw ka al f Z) H) (hD : va_D A (fr_mw ka al f Z)) (hS : va_S A s.heap H locs) (hsz : ls.size = nL) (hR : 2 + 1 ≤ R.frames ∧ 8 + (3 + 11) + 45 ≤ R.locals) (hw : (rest.map fun v => v.category).sum ≤ 8) (hf : cells + 0 ≤ R.cells ∧ slots + 0 ≤ R.slots) (gR : 0 ≤ (f 0 1).toInt ∧ (f 0 1).toInt ≤ 12) (gO : mo_ord f) (gB : mo_B f) (hdg : decode cc pc = .ok (.invokevirtual 81, 3)) (kk : ∀ (H : Heap) (locs : List Loc), va_P D vwCl (fr_mw ka al ((dn_m_ask f).2) Z) H → va_D A (fr_mw ka al ((dn_m_ask f).2) Z) → va_S A s.heap H locs → W p l e R s m args below meth c H locs (cells + 0) (slots + 0) Q (F0 m (pc + 3) ls (.int ((dn_m_ask f).1) :: rest))) : W p l e R s m args below meth c H locs cells slots Q (F0 m pc ls (.ref (al 0) :: rest)) :=
  fr_callVi (As := []) C hP hD hS (c_m_ask l D ka al Z f gR gO gB) (cwV 0 C.2.2.2.2.1 (fr_goodV ml_M_81 mi_m_ask msel_m_ask mini_M mc_m_ask) rfl rfl rfl (by decide +kernel) hR) (va_recv C.2.2.2.2.2.1 hP (ci := 4) (q0 := 0) rfl rfl) rfl hsz hw hdg hf kk
def dn_m_verdict (f : Nat → Nat → Int32)  : Int32 × (Nat → Nat → Int32) := if ((dn_m_ask f).1) ≤ 0 then ((dn_m_ask f).1, fr_up ((dn_m_ask f).2) 0 3 ((((dn_m_ask f).2) 0 3) + 1)) else ((dn_m_ask f).1, fr_up (fr_up ((dn_m_ask f).2) 0 3 ((((dn_m_ask f).2) 0 3) + 1)) 0 4 ((((dn_m_ask f).2) 0 4) + 1))
set_option maxHeartbeats 4000000 in
set_option maxRecDepth 100000 in
theorem c_m_verdict (l : Launch) (D : va_G) (ka : Nat → ClassId) (al : Nat → Nat) (Z : va_W) (f : Nat → Nat → Int32)  (gR : 0 ≤ (f 0 1).toInt ∧ (f 0 1).toInt ≤ 12) (gO : mo_ord f) (gB : mo_B f) : fr_Mi l y_m_verdict (.code y_m_verdict prog_6_method_10_code 2 (some .int) :: fr_tbl) { frames := 3, cells := 0, slots := 0, locals := 67 } D vwCl (fr_ty ka) fr_nw [.ref (al 0)] (fr_mw ka al f Z) ((dn_m_verdict f).1) (fr_mw ka al ((dn_m_verdict f).2) Z) 0 0 := by
  refine fr_Mi.of (by decide) (Nat.le_of_ble_eq_true rfl) ?_
  intro p e s m below meth c A H locs ls C hP hD hS hl
  obtain ⟨hx, hb, hml, hown, ht, hK, hlocks, hr, hA, hN, hZ, hEx⟩ := id C
  have hl : lv_has ls 2 [(0, .ref (al 0))] := hl
  refine lv_aload_n hx hb dM_verdict_0 rfl (lv_at hl 0 rfl) ?_
  refine cl_M_81 C hP hD hS hl.1 ⟨Nat.le_of_ble_eq_true rfl, Nat.le_of_ble_eq_true rfl⟩ (Nat.le_of_ble_eq_true rfl) ⟨Nat.le_of_ble_eq_true rfl, Nat.le_of_ble_eq_true rfl⟩ gR gO gB dM_verdict_1 (fun H locs hP hD hS => ?_)
  refine lv_istore_n (lv' := [(1, .int ((dn_m_ask f).1)), (0, .ref (al 0))]) hx hb dM_verdict_4 rfl hl (by decide) rfl (fun ls hl => ?_)
  refine lv_aload_n hx hb dM_verdict_5 rfl (lv_at hl 1 rfl) ?_
  refine lv_dup hx hb dM_verdict_6 rfl ?_
  refine gf_M_85 C hP dM_verdict_7 ?_
  refine lv_iconst (v := 1) hx hb dM_verdict_10 (by decide) ?_
  refine lv_iadd hx hb dM_verdict_11 ?_
  refine pf_M_85 C hP hD hS dM_verdict_12 (fun H locs hP hD hS => ?_)
  refine lv_iload_n hx hb dM_verdict_15 rfl (lv_at hl 0 rfl) ?_
  refine lv_if_le (tgt := 29) hx hb dM_verdict_16 (by decide) (fun c_16 => ?_) (fun c_16 => ?_)
  · skip
    refine lv_iload_n hx hb dM_verdict_29 rfl (lv_at hl 0 rfl) ?_
    have hd_ : dn_m_verdict f = ((dn_m_ask f).1, fr_up ((dn_m_ask f).2) 0 3 ((((dn_m_ask f).2) 0 3) + 1)) := by rw [dn_m_verdict, if_pos c_16]
    rw [hd_]
    exact fr_iret C hP hD hS rfl dM_verdict_30
  · skip
    refine lv_aload_n hx hb dM_verdict_19 rfl (lv_at hl 1 rfl) ?_
    refine lv_dup hx hb dM_verdict_20 rfl ?_
    refine gf_M_88 C hP dM_verdict_21 ?_
    refine W.eq (g2 := F0 m 24 ls [.int (((dn_m_ask f).2) 0 4), .ref (al 0)]) (by first | rfl | simp [fr_up, fr_row]) ?_
    refine lv_iconst (v := 1) hx hb dM_verdict_24 (by decide) ?_
    refine lv_iadd hx hb dM_verdict_25 ?_
    refine pf_M_88 C hP hD hS dM_verdict_26 (fun H locs hP hD hS => ?_)
    refine lv_iload_n hx hb dM_verdict_29 rfl (lv_at hl 0 rfl) ?_
    have hd_ : dn_m_verdict f = ((dn_m_ask f).1, fr_up (fr_up ((dn_m_ask f).2) 0 3 ((((dn_m_ask f).2) 0 3) + 1)) 0 4 ((((dn_m_ask f).2) 0 4) + 1)) := by rw [dn_m_verdict, if_neg c_16]
    rw [hd_]
    exact fr_iret C hP hD hS rfl dM_verdict_30

theorem cl_M_91 {p : Program} {l : Launch} {e : Env} {R : Room} {s : State} {m : MethodId} {args : Array Value} {below : List Frame} {meth : Method} {c : Code} {H : Heap} {locs : List Loc} {cells slots : Nat} {Q : State → Prop} {D : va_G} {A : Nat → Prop} {cc : ByteArray} {nL pc : Nat} {ret : Option FieldType} {hh : List ExceptionTableEntry} {ls : Array Slot} {rest : List Value} {ka : Nat → ClassId} {al : Nat → Nat} {f : Nat → Nat → Int32} {Z : va_W} {x : Int32} {y : Int32} {k : Int32} (C : fr_Cx p s m args meth c "FragileRulesModel" cc nL ret hh fr_tbl fr_nw D vwCl (fr_ty ka) A) (hP : va_P D vwCl (fr_mw ka al f Z) H) (hD : va_D A (fr_mw ka al f Z)) (hS : va_S A s.heap H locs) (hsz : ls.size = nL) (hR : 0 + 1 ≤ R.frames ∧ 8 + (3 + 11) + 0 ≤ R.locals) (hw : (rest.map fun v => v.category).sum ≤ 8) (hf : cells + 0 ≤ R.cells ∧ slots + 0 ≤ R.slots) (hdg : decode cc pc = .ok (.invokestatic 91, 3)) (kk : ∀ (H : Heap) (locs : List Loc), va_P D vwCl (fr_mw ka al f Z) H → va_D A (fr_mw ka al f Z) → va_S A s.heap H locs → W p l e R s m args below meth c H locs (cells + 0) (slots + 0) Q (F0 m (pc + 3) ls (.int (dn_m_within x y k) :: rest))) : W p l e R s m args below meth c H locs cells slots Q (F0 m pc ls (.int k :: .int y :: .int x :: rest)) :=
  fr_callSi (As := [.int x, .int y, .int k]) C hP hD hS (c_m_within l D ka al Z f x y k) (cwS 3 C.2.2.2.2.1 (fr_goodS ml_M_91 mst_m_within mini_M mc_m_within) rfl rfl rfl (by decide +kernel) hR) rfl hsz hw hdg hf kk
def dn_m_unit_90 : Nat → (Int32) → (Int32) → (Int32) → (Nat → Nat → Int32) → (Int32) → (Int32) → Int32 × (Nat → Nat → Int32)
  | 0, _, _, _, _, _, _ => (0, fun _ _ => 0)
  | n + 1, x, y, k, g, x5, x6 => if 16 < x6 then (if x5 ≤ 0 then (((g 0 0) + 1) - 1, fr_up (fr_up (fr_up (fr_up (fr_up g 0 6 0) 1 ((g 0 0).toNatClampNeg) x) 2 ((g 0 0).toNatClampNeg) y) 3 ((g 0 0).toNatClampNeg) k) 0 0 ((g 0 0) + 1)) else ((-1) - x5, fr_up g 0 6 0)) else (if x5 = 0 then (if (k &&& x6) = 0 then (dn_m_unit_90 n x y k (fr_up g 0 11 x6) x5 (x6 * 2)) else (dn_m_unit_90 n x y k ((dn_m_ask (fr_up g 0 11 x6)).2) ((dn_m_ask (fr_up g 0 11 x6)).1) (x6 * 2))) else (if x5 ≤ 0 then (((g 0 0) + 1) - 1, fr_up (fr_up (fr_up (fr_up (fr_up g 0 6 0) 1 ((g 0 0).toNatClampNeg) x) 2 ((g 0 0).toNatClampNeg) y) 3 ((g 0 0).toNatClampNeg) k) 0 0 ((g 0 0) + 1)) else ((-1) - x5, fr_up g 0 6 0)))
set_option maxHeartbeats 4000000 in
set_option maxRecDepth 100000 in
theorem k_m_unit_90 {p : Program} {l : Launch} {e : Env} {s : State} {m : MethodId} {below : List Frame} {meth : Method} {c : Code} {D : va_G} {A : Nat → Prop} {ka : Nat → ClassId} {al : Nat → Nat} {Z : va_W} {f : Nat → Nat → Int32} {x : Int32} {y : Int32} {k : Int32} (C : fr_Cx p s m ([.ref (al 0), .int x, .int y, .int k] : List Value).toArray meth c "FragileRulesModel" prog_6_method_11_code 7 (some .int) [] fr_tbl fr_nw D vwCl (fr_ty ka) A) (gU : 0 ≤ (f 0 0).toInt ∧ (f 0 0).toInt ≤ 10) (gR : 0 ≤ (f 0 1).toInt ∧ (f 0 1).toInt ≤ 12) (gO : mo_ord f) (gB : mo_B f) :
    ∀ (n : Nat) (g : Nat → Nat → Int32) (x5 : Int32) (x6 : Int32) (H : Heap) (locs : List Loc) (ls : Array Slot), fr_mk x6 n → mo_q g → va_P D vwCl (fr_mw ka al g Z) H → va_D A (fr_mw ka al g Z) → va_S A s.heap H locs → lv_has ls 7 [(0, .ref (al 0)), (1, .int x), (2, .int y), (3, .int k), (5, .int x5), (6, .int x6)] → W p l e { frames := 3, cells := 0, slots := 0, locals := 67 } s m ([.ref (al 0), .int x, .int y, .int k] : List Value).toArray below meth c H locs 0 0 (MQ below (fr_Qi D vwCl (fr_ty ka) (dn_m_unit_90 n x y k g x5 x6).1 (fr_mw ka al ((dn_m_unit_90 n x y k g x5 x6).2) Z) A) ([.ref (al 0), .int x, .int y, .int k] : List Value).toArray s 0 0 A) (F0 m 90 ls []) := by
  obtain ⟨hx, hb, hml, hown, ht, hK, hlocks, hr, hA, hN, hZ, hEx⟩ := id C
  intro n
  induction n with
  | zero =>
    intro g x5 x6 H locs ls hm hq hP hD hS hl
    exact fr_mk_0 hm
  | succ n ih =>
    intro g x5 x6 H locs ls hm hq hP hD hS hl
    refine lv_iload hx hb dM_unit_90 (lv_at hl 5 rfl) ?_
    refine lv_bipush (v := 16) hx hb dM_unit_92 (by decide) ?_
    refine lv_icmp_gt (tgt := 130) hx hb dM_unit_94 (by decide) (fun c_94 => ?_) (fun c_94 => ?_)
    · skip
      refine lv_aload_n hx hb dM_unit_130 rfl (lv_at hl 0 rfl) ?_
      refine lv_iconst (v := 0) hx hb dM_unit_131 (by decide) ?_
      refine pf_M_69 C hP hD hS dM_unit_132 (fun H locs hP hD hS => ?_)
      refine lv_iload hx hb dM_unit_135 (lv_at hl 4 rfl) ?_
      refine lv_if_le (tgt := 145) hx hb dM_unit_137 (by decide) (fun c_137 => ?_) (fun c_137 => ?_)
      · skip
        refine lv_aload_n hx hb dM_unit_145 rfl (lv_at hl 0 rfl) ?_
        refine gf_M_7 C hP dM_unit_146 ?_
        refine lv_aload_n hx hb dM_unit_149 rfl (lv_at hl 0 rfl) ?_
        refine gf_M_44 C hP dM_unit_150 ?_
        refine W.eq (g2 := F0 m 153 ls [.int (g 0 0), .ref (al 1)]) (by first | rfl | simp [fr_up, fr_row]) ?_
        refine lv_iload_n hx hb dM_unit_153 rfl (lv_at hl 1 rfl) ?_
        have hin_154 : vp_in (g 0 0) 10 := by have q0 := fr_t1 c_94; have q1 := fr_t3 c_137; have z0 : (0 : Int32).toInt = 0 := rfl; have z1 : (16 : Int32).toInt = 16 := rfl; have e0 := hq.2.2.2; skip; rw [vp_in_iff]; omega
        refine mast_1 C hP hD hS hin_154 dM_unit_154 (fun H locs hP hD hS => ?_)
        refine lv_aload_n hx hb dM_unit_155 rfl (lv_at hl 0 rfl) ?_
        refine gf_M_13 C hP dM_unit_156 ?_
        refine lv_aload_n hx hb dM_unit_159 rfl (lv_at hl 0 rfl) ?_
        refine gf_M_44 C hP dM_unit_160 ?_
        refine W.eq (g2 := F0 m 163 ls [.int (g 0 0), .ref (al 2)]) (by first | rfl | simp [fr_up, fr_row]) ?_
        refine lv_iload_n hx hb dM_unit_163 rfl (lv_at hl 2 rfl) ?_
        have hin_164 : vp_in (g 0 0) 10 := by have q0 := fr_t1 c_94; have q1 := fr_t3 c_137; have z0 : (0 : Int32).toInt = 0 := rfl; have z1 : (16 : Int32).toInt = 16 := rfl; have e0 := hq.2.2.2; skip; rw [vp_in_iff]; omega
        refine mast_2 C hP hD hS hin_164 dM_unit_164 (fun H locs hP hD hS => ?_)
        refine lv_aload_n hx hb dM_unit_165 rfl (lv_at hl 0 rfl) ?_
        refine gf_M_16 C hP dM_unit_166 ?_
        refine lv_aload_n hx hb dM_unit_169 rfl (lv_at hl 0 rfl) ?_
        refine gf_M_44 C hP dM_unit_170 ?_
        refine W.eq (g2 := F0 m 173 ls [.int (g 0 0), .ref (al 3)]) (by first | rfl | simp [fr_up, fr_row]) ?_
        refine lv_iload_n hx hb dM_unit_173 rfl (lv_at hl 3 rfl) ?_
        have hin_174 : vp_in (g 0 0) 10 := by have q0 := fr_t1 c_94; have q1 := fr_t3 c_137; have z0 : (0 : Int32).toInt = 0 := rfl; have z1 : (16 : Int32).toInt = 16 := rfl; have e0 := hq.2.2.2; skip; rw [vp_in_iff]; omega
        refine mast_3 C hP hD hS hin_174 dM_unit_174 (fun H locs hP hD hS => ?_)
        refine lv_aload_n hx hb dM_unit_175 rfl (lv_at hl 0 rfl) ?_
        refine lv_dup hx hb dM_unit_176 rfl ?_
        refine gf_M_44 C hP dM_unit_177 ?_
        refine W.eq (g2 := F0 m 180 ls [.int (g 0 0), .ref (al 0)]) (by first | rfl | simp [fr_up, fr_row]) ?_
        refine lv_iconst (v := 1) hx hb dM_unit_180 (by decide) ?_
        refine lv_iadd hx hb dM_unit_181 ?_
        refine pf_M_44 C hP hD hS dM_unit_182 (fun H locs hP hD hS => ?_)
        refine lv_aload_n hx hb dM_unit_185 rfl (lv_at hl 0 rfl) ?_
        refine gf_M_44 C hP dM_unit_186 ?_
        refine W.eq (g2 := F0 m 189 ls [.int ((g 0 0) + 1)]) (by first | rfl | simp [fr_up, fr_row]) ?_
        refine lv_iconst (v := 1) hx hb dM_unit_189 (by decide) ?_
        refine lv_isub hx hb dM_unit_190 ?_
        have hd_ : dn_m_unit_90 (n + 1) x y k g x5 x6 = (((g 0 0) + 1) - 1, fr_up (fr_up (fr_up (fr_up (fr_up g 0 6 0) 1 ((g 0 0).toNatClampNeg) x) 2 ((g 0 0).toNatClampNeg) y) 3 ((g 0 0).toNatClampNeg) k) 0 0 ((g 0 0) + 1)) := by rw [dn_m_unit_90, if_pos c_94, if_pos c_137]
        rw [hd_]
        exact fr_iret C hP hD hS rfl dM_unit_191
      · skip
        refine lv_iconst (v := (-1)) hx hb dM_unit_140 (by decide) ?_
        refine lv_iload hx hb dM_unit_141 (lv_at hl 4 rfl) ?_
        refine lv_isub hx hb dM_unit_143 ?_
        have hd_ : dn_m_unit_90 (n + 1) x y k g x5 x6 = ((-1) - x5, fr_up g 0 6 0) := by rw [dn_m_unit_90, if_pos c_94, if_neg c_137]
        rw [hd_]
        exact fr_iret C hP hD hS rfl dM_unit_144
    · skip
      refine lv_iload hx hb dM_unit_97 (lv_at hl 4 rfl) ?_
      refine lv_if_ne (tgt := 130) hx hb dM_unit_99 (by decide) (fun c_99 => ?_) (fun c_99 => ?_)
      · skip
        refine lv_aload_n hx hb dM_unit_130 rfl (lv_at hl 0 rfl) ?_
        refine lv_iconst (v := 0) hx hb dM_unit_131 (by decide) ?_
        refine pf_M_69 C hP hD hS dM_unit_132 (fun H locs hP hD hS => ?_)
        refine lv_iload hx hb dM_unit_135 (lv_at hl 4 rfl) ?_
        refine lv_if_le (tgt := 145) hx hb dM_unit_137 (by decide) (fun c_137 => ?_) (fun c_137 => ?_)
        · skip
          refine lv_aload_n hx hb dM_unit_145 rfl (lv_at hl 0 rfl) ?_
          refine gf_M_7 C hP dM_unit_146 ?_
          refine lv_aload_n hx hb dM_unit_149 rfl (lv_at hl 0 rfl) ?_
          refine gf_M_44 C hP dM_unit_150 ?_
          refine W.eq (g2 := F0 m 153 ls [.int (g 0 0), .ref (al 1)]) (by first | rfl | simp [fr_up, fr_row]) ?_
          refine lv_iload_n hx hb dM_unit_153 rfl (lv_at hl 1 rfl) ?_
          have hin_154 : vp_in (g 0 0) 10 := by have q0 := fr_t2 c_94; have q1 := fr_t6 c_99; have q2 := fr_t3 c_137; have z0 : (0 : Int32).toInt = 0 := rfl; have z1 : (16 : Int32).toInt = 16 := rfl; have e0 := hq.2.2.2; skip; rw [vp_in_iff]; omega
          refine mast_1 C hP hD hS hin_154 dM_unit_154 (fun H locs hP hD hS => ?_)
          refine lv_aload_n hx hb dM_unit_155 rfl (lv_at hl 0 rfl) ?_
          refine gf_M_13 C hP dM_unit_156 ?_
          refine lv_aload_n hx hb dM_unit_159 rfl (lv_at hl 0 rfl) ?_
          refine gf_M_44 C hP dM_unit_160 ?_
          refine W.eq (g2 := F0 m 163 ls [.int (g 0 0), .ref (al 2)]) (by first | rfl | simp [fr_up, fr_row]) ?_
          refine lv_iload_n hx hb dM_unit_163 rfl (lv_at hl 2 rfl) ?_
          have hin_164 : vp_in (g 0 0) 10 := by have q0 := fr_t2 c_94; have q1 := fr_t6 c_99; have q2 := fr_t3 c_137; have z0 : (0 : Int32).toInt = 0 := rfl; have z1 : (16 : Int32).toInt = 16 := rfl; have e0 := hq.2.2.2; skip; rw [vp_in_iff]; omega
          refine mast_2 C hP hD hS hin_164 dM_unit_164 (fun H locs hP hD hS => ?_)
          refine lv_aload_n hx hb dM_unit_165 rfl (lv_at hl 0 rfl) ?_
          refine gf_M_16 C hP dM_unit_166 ?_
          refine lv_aload_n hx hb dM_unit_169 rfl (lv_at hl 0 rfl) ?_
          refine gf_M_44 C hP dM_unit_170 ?_
          refine W.eq (g2 := F0 m 173 ls [.int (g 0 0), .ref (al 3)]) (by first | rfl | simp [fr_up, fr_row]) ?_
          refine lv_iload_n hx hb dM_unit_173 rfl (lv_at hl 3 rfl) ?_
          have hin_174 : vp_in (g 0 0) 10 := by have q0 := fr_t2 c_94; have q1 := fr_t6 c_99; have q2 := fr_t3 c_137; have z0 : (0 : Int32).toInt = 0 := rfl; have z1 : (16 : Int32).toInt = 16 := rfl; have e0 := hq.2.2.2; skip; rw [vp_in_iff]; omega
          refine mast_3 C hP hD hS hin_174 dM_unit_174 (fun H locs hP hD hS => ?_)
          refine lv_aload_n hx hb dM_unit_175 rfl (lv_at hl 0 rfl) ?_
          refine lv_dup hx hb dM_unit_176 rfl ?_
          refine gf_M_44 C hP dM_unit_177 ?_
          refine W.eq (g2 := F0 m 180 ls [.int (g 0 0), .ref (al 0)]) (by first | rfl | simp [fr_up, fr_row]) ?_
          refine lv_iconst (v := 1) hx hb dM_unit_180 (by decide) ?_
          refine lv_iadd hx hb dM_unit_181 ?_
          refine pf_M_44 C hP hD hS dM_unit_182 (fun H locs hP hD hS => ?_)
          refine lv_aload_n hx hb dM_unit_185 rfl (lv_at hl 0 rfl) ?_
          refine gf_M_44 C hP dM_unit_186 ?_
          refine W.eq (g2 := F0 m 189 ls [.int ((g 0 0) + 1)]) (by first | rfl | simp [fr_up, fr_row]) ?_
          refine lv_iconst (v := 1) hx hb dM_unit_189 (by decide) ?_
          refine lv_isub hx hb dM_unit_190 ?_
          have hd_ : dn_m_unit_90 (n + 1) x y k g x5 x6 = (((g 0 0) + 1) - 1, fr_up (fr_up (fr_up (fr_up (fr_up g 0 6 0) 1 ((g 0 0).toNatClampNeg) x) 2 ((g 0 0).toNatClampNeg) y) 3 ((g 0 0).toNatClampNeg) k) 0 0 ((g 0 0) + 1)) := by rw [dn_m_unit_90, if_neg c_94, if_neg c_99, if_pos c_137]
          rw [hd_]
          exact fr_iret C hP hD hS rfl dM_unit_191
        · skip
          refine lv_iconst (v := (-1)) hx hb dM_unit_140 (by decide) ?_
          refine lv_iload hx hb dM_unit_141 (lv_at hl 4 rfl) ?_
          refine lv_isub hx hb dM_unit_143 ?_
          have hd_ : dn_m_unit_90 (n + 1) x y k g x5 x6 = ((-1) - x5, fr_up g 0 6 0) := by rw [dn_m_unit_90, if_neg c_94, if_neg c_99, if_neg c_137]
          rw [hd_]
          exact fr_iret C hP hD hS rfl dM_unit_144
      · skip
        refine lv_aload_n hx hb dM_unit_102 rfl (lv_at hl 0 rfl) ?_
        refine lv_iload hx hb dM_unit_103 (lv_at hl 5 rfl) ?_
        refine pf_M_59 C hP hD hS dM_unit_105 (fun H locs hP hD hS => ?_)
        refine lv_iload_n hx hb dM_unit_108 rfl (lv_at hl 3 rfl) ?_
        refine lv_iload hx hb dM_unit_109 (lv_at hl 5 rfl) ?_
        refine lv_iand hx hb dM_unit_111 ?_
        refine lv_if_eq (tgt := 121) hx hb dM_unit_112 (by decide) (fun c_112 => ?_) (fun c_112 => ?_)
        · skip
          refine lv_iload hx hb dM_unit_121 (lv_at hl 5 rfl) ?_
          refine lv_iconst (v := 2) hx hb dM_unit_123 (by decide) ?_
          refine lv_imul hx hb dM_unit_124 ?_
          refine lv_istore (lv' := [(6, .int (x6 * 2)), (0, .ref (al 0)), (1, .int x), (2, .int y), (3, .int k), (5, .int x5)]) hx hb dM_unit_125 hl (by decide) rfl (fun ls hl => ?_)
          refine lv_goto (tgt := 90) hx hb dM_unit_127 (by decide) ?_
          have hd_ : dn_m_unit_90 (n + 1) x y k g x5 x6 = dn_m_unit_90 n x y k (fr_up g 0 11 x6) x5 (x6 * 2) := by rw [dn_m_unit_90, if_neg c_94, if_pos c_99, if_pos c_112]
          rw [hd_]
          exact ih (fr_up g 0 11 x6) x5 (x6 * 2) H locs ls (mo_mk_b hm c_94) hq hP hD hS (lv_sub hl [1, 2, 3, 4, 5, 0] rfl)
        · skip
          refine lv_aload_n hx hb dM_unit_115 rfl (lv_at hl 0 rfl) ?_
          refine cl_M_81 C hP hD hS hl.1 ⟨Nat.le_of_ble_eq_true rfl, Nat.le_of_ble_eq_true rfl⟩ (Nat.le_of_ble_eq_true rfl) ⟨Nat.le_of_ble_eq_true rfl, Nat.le_of_ble_eq_true rfl⟩ hq.1 hq.2.1 hq.2.2.1 dM_unit_116 (fun H locs hP hD hS => ?_)
          refine lv_istore (lv' := [(5, .int ((dn_m_ask (fr_up g 0 11 x6)).1)), (0, .ref (al 0)), (1, .int x), (2, .int y), (3, .int k), (6, .int x6)]) hx hb dM_unit_119 hl (by decide) rfl (fun ls hl => ?_)
          refine lv_iload hx hb dM_unit_121 (lv_at hl 5 rfl) ?_
          refine lv_iconst (v := 2) hx hb dM_unit_123 (by decide) ?_
          refine lv_imul hx hb dM_unit_124 ?_
          refine lv_istore (lv' := [(6, .int (x6 * 2)), (5, .int ((dn_m_ask (fr_up g 0 11 x6)).1)), (0, .ref (al 0)), (1, .int x), (2, .int y), (3, .int k)]) hx hb dM_unit_125 hl (by decide) rfl (fun ls hl => ?_)
          refine lv_goto (tgt := 90) hx hb dM_unit_127 (by decide) ?_
          have hd_ : dn_m_unit_90 (n + 1) x y k g x5 x6 = dn_m_unit_90 n x y k ((dn_m_ask (fr_up g 0 11 x6)).2) ((dn_m_ask (fr_up g 0 11 x6)).1) (x6 * 2) := by rw [dn_m_unit_90, if_neg c_94, if_pos c_99, if_neg c_112]
          rw [hd_]
          exact ih ((dn_m_ask (fr_up g 0 11 x6)).2) ((dn_m_ask (fr_up g 0 11 x6)).1) (x6 * 2) H locs ls (mo_mk_b hm c_94) (mo_q_ask hq) hP hD hS (lv_sub hl [2, 3, 4, 5, 1, 0] rfl)
def dn_m_unit (f : Nat → Nat → Int32) (x : Int32) (y : Int32) (k : Int32) : Int32 × (Nat → Nat → Int32) := if (dn_m_within x 0 7) = 0 then (0, fr_up f 0 5 1) else (if (dn_m_within y 0 1000) = 0 then (0, fr_up f 0 5 1) else (if (dn_m_within k 0 31) = 0 then (0, fr_up f 0 5 1) else (if (f 0 0) = 10 then (0, fr_up f 0 5 2) else (dn_m_unit_90 6 x y k (fr_up (fr_up (fr_up f 0 5 0) 0 7 2) 0 12 k) 0 1))))
set_option maxHeartbeats 4000000 in
set_option maxRecDepth 100000 in
theorem c_m_unit (l : Launch) (D : va_G) (ka : Nat → ClassId) (al : Nat → Nat) (Z : va_W) (f : Nat → Nat → Int32) (x : Int32) (y : Int32) (k : Int32) (gU : 0 ≤ (f 0 0).toInt ∧ (f 0 0).toInt ≤ 10) (gR : 0 ≤ (f 0 1).toInt ∧ (f 0 1).toInt ≤ 12) (gO : mo_ord f) (gB : mo_B f) : fr_Mi l y_m_unit (.code y_m_unit prog_6_method_11_code 7 (some .int) :: fr_tbl) { frames := 3, cells := 0, slots := 0, locals := 67 } D vwCl (fr_ty ka) fr_nw [.ref (al 0), .int x, .int y, .int k] (fr_mw ka al f Z) ((dn_m_unit f x y k).1) (fr_mw ka al ((dn_m_unit f x y k).2) Z) 0 0 := by
  refine fr_Mi.of (by decide) (Nat.le_of_ble_eq_true rfl) ?_
  intro p e s m below meth c A H locs ls C hP hD hS hl
  obtain ⟨hx, hb, hml, hown, ht, hK, hlocks, hr, hA, hN, hZ, hEx⟩ := id C
  have hl : lv_has ls 7 [(0, .ref (al 0)), (1, .int x), (2, .int y), (3, .int k)] := hl
  refine lv_iload_n hx hb dM_unit_0 rfl (lv_at hl 1 rfl) ?_
  refine lv_iconst (v := 0) hx hb dM_unit_1 (by decide) ?_
  refine lv_bipush (v := 7) hx hb dM_unit_2 (by decide) ?_
  refine cl_M_91 C hP hD hS hl.1 ⟨Nat.le_of_ble_eq_true rfl, Nat.le_of_ble_eq_true rfl⟩ (Nat.le_of_ble_eq_true rfl) ⟨Nat.le_of_ble_eq_true rfl, Nat.le_of_ble_eq_true rfl⟩ dM_unit_4 (fun H locs hP hD hS => ?_)
  refine lv_if_eq (tgt := 35) hx hb dM_unit_7 (by decide) (fun c_7 => ?_) (fun c_7 => ?_)
  · skip
    refine lv_iconst (v := 0) hx hb dM_unit_35 (by decide) ?_
    refine lv_istore (lv' := [(4, .int 0), (0, .ref (al 0)), (1, .int x), (2, .int y), (3, .int k)]) hx hb dM_unit_36 hl (by decide) rfl (fun ls hl => ?_)
    refine lv_aload_n hx hb dM_unit_38 rfl (lv_at hl 1 rfl) ?_
    refine lv_iload hx hb dM_unit_39 (lv_at hl 0 rfl) ?_
    refine lv_if_ne (tgt := 48) hx hb dM_unit_41 (by decide) (fun c_41 => absurd c_41 (by decide)) (fun c_41 => ?_)
    refine lv_iconst (v := 1) hx hb dM_unit_44 (by decide) ?_
    refine lv_goto (tgt := 62) hx hb dM_unit_45 (by decide) ?_
    refine pf_M_40 C hP hD hS dM_unit_62 (fun H locs hP hD hS => ?_)
    refine lv_aload_n hx hb dM_unit_65 rfl (lv_at hl 1 rfl) ?_
    refine gf_M_40 C hP dM_unit_66 ?_
    refine W.eq (g2 := F0 m 69 ls [.int 1]) (by first | rfl | simp [fr_up, fr_row]) ?_
    refine lv_if_eq (tgt := 74) hx hb dM_unit_69 (by decide) (fun c_69 => absurd c_69 (by decide)) (fun c_69 => ?_)
    refine lv_iconst (v := 0) hx hb dM_unit_72 (by decide) ?_
    have hd_ : dn_m_unit f x y k = (0, fr_up f 0 5 1) := by rw [dn_m_unit, if_pos c_7]
    rw [hd_]
    exact fr_iret C hP hD hS rfl dM_unit_73
  · skip
    refine lv_iload_n hx hb dM_unit_10 rfl (lv_at hl 2 rfl) ?_
    refine lv_iconst (v := 0) hx hb dM_unit_11 (by decide) ?_
    refine lv_sipush (v := 1000) hx hb dM_unit_12 (by decide) ?_
    refine cl_M_91 C hP hD hS hl.1 ⟨Nat.le_of_ble_eq_true rfl, Nat.le_of_ble_eq_true rfl⟩ (Nat.le_of_ble_eq_true rfl) ⟨Nat.le_of_ble_eq_true rfl, Nat.le_of_ble_eq_true rfl⟩ dM_unit_15 (fun H locs hP hD hS => ?_)
    refine lv_if_eq (tgt := 35) hx hb dM_unit_18 (by decide) (fun c_18 => ?_) (fun c_18 => ?_)
    · skip
      refine lv_iconst (v := 0) hx hb dM_unit_35 (by decide) ?_
      refine lv_istore (lv' := [(4, .int 0), (0, .ref (al 0)), (1, .int x), (2, .int y), (3, .int k)]) hx hb dM_unit_36 hl (by decide) rfl (fun ls hl => ?_)
      refine lv_aload_n hx hb dM_unit_38 rfl (lv_at hl 1 rfl) ?_
      refine lv_iload hx hb dM_unit_39 (lv_at hl 0 rfl) ?_
      refine lv_if_ne (tgt := 48) hx hb dM_unit_41 (by decide) (fun c_41 => absurd c_41 (by decide)) (fun c_41 => ?_)
      refine lv_iconst (v := 1) hx hb dM_unit_44 (by decide) ?_
      refine lv_goto (tgt := 62) hx hb dM_unit_45 (by decide) ?_
      refine pf_M_40 C hP hD hS dM_unit_62 (fun H locs hP hD hS => ?_)
      refine lv_aload_n hx hb dM_unit_65 rfl (lv_at hl 1 rfl) ?_
      refine gf_M_40 C hP dM_unit_66 ?_
      refine W.eq (g2 := F0 m 69 ls [.int 1]) (by first | rfl | simp [fr_up, fr_row]) ?_
      refine lv_if_eq (tgt := 74) hx hb dM_unit_69 (by decide) (fun c_69 => absurd c_69 (by decide)) (fun c_69 => ?_)
      refine lv_iconst (v := 0) hx hb dM_unit_72 (by decide) ?_
      have hd_ : dn_m_unit f x y k = (0, fr_up f 0 5 1) := by rw [dn_m_unit, if_neg c_7, if_pos c_18]
      rw [hd_]
      exact fr_iret C hP hD hS rfl dM_unit_73
    · skip
      refine lv_iload_n hx hb dM_unit_21 rfl (lv_at hl 3 rfl) ?_
      refine lv_iconst (v := 0) hx hb dM_unit_22 (by decide) ?_
      refine lv_bipush (v := 31) hx hb dM_unit_23 (by decide) ?_
      refine cl_M_91 C hP hD hS hl.1 ⟨Nat.le_of_ble_eq_true rfl, Nat.le_of_ble_eq_true rfl⟩ (Nat.le_of_ble_eq_true rfl) ⟨Nat.le_of_ble_eq_true rfl, Nat.le_of_ble_eq_true rfl⟩ dM_unit_25 (fun H locs hP hD hS => ?_)
      refine lv_if_eq (tgt := 35) hx hb dM_unit_28 (by decide) (fun c_28 => ?_) (fun c_28 => ?_)
      · skip
        refine lv_iconst (v := 0) hx hb dM_unit_35 (by decide) ?_
        refine lv_istore (lv' := [(4, .int 0), (0, .ref (al 0)), (1, .int x), (2, .int y), (3, .int k)]) hx hb dM_unit_36 hl (by decide) rfl (fun ls hl => ?_)
        refine lv_aload_n hx hb dM_unit_38 rfl (lv_at hl 1 rfl) ?_
        refine lv_iload hx hb dM_unit_39 (lv_at hl 0 rfl) ?_
        refine lv_if_ne (tgt := 48) hx hb dM_unit_41 (by decide) (fun c_41 => absurd c_41 (by decide)) (fun c_41 => ?_)
        refine lv_iconst (v := 1) hx hb dM_unit_44 (by decide) ?_
        refine lv_goto (tgt := 62) hx hb dM_unit_45 (by decide) ?_
        refine pf_M_40 C hP hD hS dM_unit_62 (fun H locs hP hD hS => ?_)
        refine lv_aload_n hx hb dM_unit_65 rfl (lv_at hl 1 rfl) ?_
        refine gf_M_40 C hP dM_unit_66 ?_
        refine W.eq (g2 := F0 m 69 ls [.int 1]) (by first | rfl | simp [fr_up, fr_row]) ?_
        refine lv_if_eq (tgt := 74) hx hb dM_unit_69 (by decide) (fun c_69 => absurd c_69 (by decide)) (fun c_69 => ?_)
        refine lv_iconst (v := 0) hx hb dM_unit_72 (by decide) ?_
        have hd_ : dn_m_unit f x y k = (0, fr_up f 0 5 1) := by rw [dn_m_unit, if_neg c_7, if_neg c_18, if_pos c_28]
        rw [hd_]
        exact fr_iret C hP hD hS rfl dM_unit_73
      · skip
        refine lv_iconst (v := 1) hx hb dM_unit_31 (by decide) ?_
        refine lv_goto (tgt := 36) hx hb dM_unit_32 (by decide) ?_
        refine lv_istore (lv' := [(4, .int 1), (0, .ref (al 0)), (1, .int x), (2, .int y), (3, .int k)]) hx hb dM_unit_36 hl (by decide) rfl (fun ls hl => ?_)
        refine lv_aload_n hx hb dM_unit_38 rfl (lv_at hl 1 rfl) ?_
        refine lv_iload hx hb dM_unit_39 (lv_at hl 0 rfl) ?_
        refine lv_if_ne (tgt := 48) hx hb dM_unit_41 (by decide) (fun c_41 => ?_) (fun c_41 => absurd c_41 (by decide))
        refine lv_aload_n hx hb dM_unit_48 rfl (lv_at hl 1 rfl) ?_
        refine gf_M_44 C hP dM_unit_49 ?_
        refine lv_bipush (v := 10) hx hb dM_unit_52 (by decide) ?_
        refine lv_icmp_ne (tgt := 61) hx hb dM_unit_54 (by decide) (fun c_54 => ?_) (fun c_54 => ?_)
        · skip
          refine lv_iconst (v := 0) hx hb dM_unit_61 (by decide) ?_
          refine pf_M_40 C hP hD hS dM_unit_62 (fun H locs hP hD hS => ?_)
          refine lv_aload_n hx hb dM_unit_65 rfl (lv_at hl 1 rfl) ?_
          refine gf_M_40 C hP dM_unit_66 ?_
          refine W.eq (g2 := F0 m 69 ls [.int 0]) (by first | rfl | simp [fr_up, fr_row]) ?_
          refine lv_if_eq (tgt := 74) hx hb dM_unit_69 (by decide) (fun c_69 => ?_) (fun c_69 => absurd c_69 (by decide))
          refine lv_aload_n hx hb dM_unit_74 rfl (lv_at hl 1 rfl) ?_
          refine lv_iconst (v := 2) hx hb dM_unit_75 (by decide) ?_
          refine pf_M_47 C hP hD hS dM_unit_76 (fun H locs hP hD hS => ?_)
          refine lv_aload_n hx hb dM_unit_79 rfl (lv_at hl 1 rfl) ?_
          refine lv_iload_n hx hb dM_unit_80 rfl (lv_at hl 4 rfl) ?_
          refine pf_M_62 C hP hD hS dM_unit_81 (fun H locs hP hD hS => ?_)
          refine lv_iconst (v := 0) hx hb dM_unit_84 (by decide) ?_
          refine lv_istore (lv' := [(5, .int 0), (4, .int 1), (0, .ref (al 0)), (1, .int x), (2, .int y), (3, .int k)]) hx hb dM_unit_85 hl (by decide) rfl (fun ls hl => ?_)
          refine lv_iconst (v := 1) hx hb dM_unit_87 (by decide) ?_
          refine lv_istore (lv' := [(6, .int 1), (5, .int 0), (4, .int 1), (0, .ref (al 0)), (1, .int x), (2, .int y), (3, .int k)]) hx hb dM_unit_88 hl (by decide) rfl (fun ls hl => ?_)
          have hd_ : dn_m_unit f x y k = dn_m_unit_90 6 x y k (fr_up (fr_up (fr_up f 0 5 0) 0 7 2) 0 12 k) 0 1 := by rw [dn_m_unit, if_neg c_7, if_neg c_18, if_neg c_28, if_neg c_54]
          rw [hd_]
          exact k_m_unit_90 C gU gR gO gB 6 (fr_up (fr_up (fr_up f 0 5 0) 0 7 2) 0 12 k) 0 1 H locs ls (Or.inl ⟨rfl, Nat.le_refl _⟩) (⟨gR, gO, gB, mo_u gU c_54⟩) hP hD hS (lv_sub hl [3, 4, 5, 6, 1, 0] rfl)
        · skip
          refine lv_iconst (v := 2) hx hb dM_unit_57 (by decide) ?_
          refine lv_goto (tgt := 62) hx hb dM_unit_58 (by decide) ?_
          refine pf_M_40 C hP hD hS dM_unit_62 (fun H locs hP hD hS => ?_)
          refine lv_aload_n hx hb dM_unit_65 rfl (lv_at hl 1 rfl) ?_
          refine gf_M_40 C hP dM_unit_66 ?_
          refine W.eq (g2 := F0 m 69 ls [.int 2]) (by first | rfl | simp [fr_up, fr_row]) ?_
          refine lv_if_eq (tgt := 74) hx hb dM_unit_69 (by decide) (fun c_69 => absurd c_69 (by decide)) (fun c_69 => ?_)
          refine lv_iconst (v := 0) hx hb dM_unit_72 (by decide) ?_
          have hd_ : dn_m_unit f x y k = (0, fr_up f 0 5 2) := by rw [dn_m_unit, if_neg c_7, if_neg c_18, if_neg c_28, if_pos c_54]
          rw [hd_]
          exact fr_iret C hP hD hS rfl dM_unit_73

def dn_m_add (f : Nat → Nat → Int32) (x : Int32) (y : Int32) (k : Int32) : Nat → Nat → Int32 := fr_up (fr_up (fr_up (fr_up (fr_up (fr_up f 4 ((f 0 1).toNatClampNeg) x) 5 ((f 0 1).toNatClampNeg) y) 6 ((f 0 1).toNatClampNeg) k) 7 ((f 0 1).toNatClampNeg) 0) 8 ((f 0 1).toNatClampNeg) (f 0 1)) 0 1 ((f 0 1) + 1)
set_option maxHeartbeats 4000000 in
set_option maxRecDepth 100000 in
theorem c_m_add (l : Launch) (D : va_G) (ka : Nat → ClassId) (al : Nat → Nat) (Z : va_W) (f : Nat → Nat → Int32) (x : Int32) (y : Int32) (k : Int32) (gR : 0 ≤ (f 0 1).toInt ∧ (f 0 1).toInt < 12) : fr_Mv l y_m_add (.code y_m_add prog_6_method_12_code 4 none :: fr_tbl) { frames := 0, cells := 0, slots := 0, locals := 0 } D vwCl (fr_ty ka) fr_nw [.ref (al 0), .int x, .int y, .int k] (fr_mw ka al f Z) (fr_mw ka al (dn_m_add f x y k) Z) 0 0 := by
  refine fr_Mv.of (by decide) (Nat.le_of_ble_eq_true rfl) ?_
  intro p e s m below meth c A H locs ls C hinit hP hD hS hl
  obtain ⟨hx, hb, hml, hown, ht, hK, hlocks, hr, hA, hN, hZ, hEx⟩ := id C
  have hl : lv_has ls 4 [(0, .ref (al 0)), (1, .int x), (2, .int y), (3, .int k)] := hl
  refine lv_aload_n hx hb dM_add_0 rfl (lv_at hl 0 rfl) ?_
  refine gf_M_19 C hP dM_add_1 ?_
  refine lv_aload_n hx hb dM_add_4 rfl (lv_at hl 0 rfl) ?_
  refine gf_M_72 C hP dM_add_5 ?_
  refine lv_iload_n hx hb dM_add_8 rfl (lv_at hl 1 rfl) ?_
  have hin_9 : vp_in (f 0 1) 12 := by skip; rw [vp_in_iff]; omega
  refine mast_4 C hP hD hS hin_9 dM_add_9 (fun H locs hP hD hS => ?_)
  refine lv_aload_n hx hb dM_add_10 rfl (lv_at hl 0 rfl) ?_
  refine gf_M_22 C hP dM_add_11 ?_
  refine lv_aload_n hx hb dM_add_14 rfl (lv_at hl 0 rfl) ?_
  refine gf_M_72 C hP dM_add_15 ?_
  refine W.eq (g2 := F0 m 18 ls [.int (f 0 1), .ref (al 5)]) (by first | rfl | simp [fr_up, fr_row]) ?_
  refine lv_iload_n hx hb dM_add_18 rfl (lv_at hl 2 rfl) ?_
  have hin_19 : vp_in (f 0 1) 12 := by skip; rw [vp_in_iff]; omega
  refine mast_5 C hP hD hS hin_19 dM_add_19 (fun H locs hP hD hS => ?_)
  refine lv_aload_n hx hb dM_add_20 rfl (lv_at hl 0 rfl) ?_
  refine gf_M_25 C hP dM_add_21 ?_
  refine lv_aload_n hx hb dM_add_24 rfl (lv_at hl 0 rfl) ?_
  refine gf_M_72 C hP dM_add_25 ?_
  refine W.eq (g2 := F0 m 28 ls [.int (f 0 1), .ref (al 6)]) (by first | rfl | simp [fr_up, fr_row]) ?_
  refine lv_iload_n hx hb dM_add_28 rfl (lv_at hl 3 rfl) ?_
  have hin_29 : vp_in (f 0 1) 12 := by skip; rw [vp_in_iff]; omega
  refine mast_6 C hP hD hS hin_29 dM_add_29 (fun H locs hP hD hS => ?_)
  refine lv_aload_n hx hb dM_add_30 rfl (lv_at hl 0 rfl) ?_
  refine gf_M_28 C hP dM_add_31 ?_
  refine lv_aload_n hx hb dM_add_34 rfl (lv_at hl 0 rfl) ?_
  refine gf_M_72 C hP dM_add_35 ?_
  refine W.eq (g2 := F0 m 38 ls [.int (f 0 1), .ref (al 7)]) (by first | rfl | simp [fr_up, fr_row]) ?_
  refine lv_iconst (v := 0) hx hb dM_add_38 (by decide) ?_
  have hin_39 : vp_in (f 0 1) 12 := by skip; rw [vp_in_iff]; omega
  refine mast_7 C hP hD hS hin_39 dM_add_39 (fun H locs hP hD hS => ?_)
  refine lv_aload_n hx hb dM_add_40 rfl (lv_at hl 0 rfl) ?_
  refine gf_M_31 C hP dM_add_41 ?_
  refine lv_aload_n hx hb dM_add_44 rfl (lv_at hl 0 rfl) ?_
  refine gf_M_72 C hP dM_add_45 ?_
  refine W.eq (g2 := F0 m 48 ls [.int (f 0 1), .ref (al 8)]) (by first | rfl | simp [fr_up, fr_row]) ?_
  refine lv_aload_n hx hb dM_add_48 rfl (lv_at hl 0 rfl) ?_
  refine gf_M_72 C hP dM_add_49 ?_
  refine W.eq (g2 := F0 m 52 ls [.int (f 0 1), .int (f 0 1), .ref (al 8)]) (by first | rfl | simp [fr_up, fr_row]) ?_
  have hin_52 : vp_in (f 0 1) 12 := by skip; rw [vp_in_iff]; omega
  refine mast_8 C hP hD hS hin_52 dM_add_52 (fun H locs hP hD hS => ?_)
  refine lv_aload_n hx hb dM_add_53 rfl (lv_at hl 0 rfl) ?_
  refine lv_dup hx hb dM_add_54 rfl ?_
  refine gf_M_72 C hP dM_add_55 ?_
  refine W.eq (g2 := F0 m 58 ls [.int (f 0 1), .ref (al 0)]) (by first | rfl | simp [fr_up, fr_row]) ?_
  refine lv_iconst (v := 1) hx hb dM_add_58 (by decide) ?_
  refine lv_iadd hx hb dM_add_59 ?_
  refine pf_M_72 C hP hD hS dM_add_60 (fun H locs hP hD hS => ?_)
  have hd_ : dn_m_add f x y k = fr_up (fr_up (fr_up (fr_up (fr_up (fr_up f 4 ((f 0 1).toNatClampNeg) x) 5 ((f 0 1).toNatClampNeg) y) 6 ((f 0 1).toNatClampNeg) k) 7 ((f 0 1).toNatClampNeg) 0) 8 ((f 0 1).toNatClampNeg) (f 0 1)) 0 1 ((f 0 1) + 1) := by rw [dn_m_add]
  rw [hd_]
  exact fr_vret C hP hD hS dM_add_63

theorem cl_M_95 {p : Program} {l : Launch} {e : Env} {R : Room} {s : State} {m : MethodId} {args : Array Value} {below : List Frame} {meth : Method} {c : Code} {H : Heap} {locs : List Loc} {cells slots : Nat} {Q : State → Prop} {D : va_G} {A : Nat → Prop} {cc : ByteArray} {nL pc : Nat} {ret : Option FieldType} {hh : List ExceptionTableEntry} {ls : Array Slot} {rest : List Value} {ka : Nat → ClassId} {al : Nat → Nat} {f : Nat → Nat → Int32} {Z : va_W} {x : Int32} (C : fr_Cx p s m args meth c "FragileRulesModel" cc nL ret hh fr_tbl fr_nw D vwCl (fr_ty ka) A) (hP : va_P D vwCl (fr_mw ka al f Z) H) (hD : va_D A (fr_mw ka al f Z)) (hS : va_S A s.heap H locs) (hsz : ls.size = nL) (hR : 0 + 1 ≤ R.frames ∧ 8 + (1 + 11) + 0 ≤ R.locals) (hw : (rest.map fun v => v.category).sum ≤ 8) (hf : cells + 0 ≤ R.cells ∧ slots + 0 ≤ R.slots) (hdg : decode cc pc = .ok (.invokestatic 95, 3)) (kk : ∀ (H : Heap) (locs : List Loc), va_P D vwCl (fr_mw ka al f Z) H → va_D A (fr_mw ka al f Z) → va_S A s.heap H locs → W p l e R s m args below meth c H locs (cells + 0) (slots + 0) Q (F0 m (pc + 3) ls (.int (dn_m_isMark x) :: rest))) : W p l e R s m args below meth c H locs cells slots Q (F0 m pc ls (.int x :: rest)) :=
  fr_callSi (As := [.int x]) C hP hD hS (c_m_isMark l D ka al Z f x) (cwS 1 C.2.2.2.2.1 (fr_goodS ml_M_95 mst_m_isMark mini_M mc_m_isMark) rfl rfl rfl (by decide +kernel) hR) rfl hsz hw hdg hf kk
def dn_m_isRule (x : Int32) (y : Int32) (k : Int32) : Int32 := if x = 4 then (if (dn_m_isMark y) = 0 then 0 else (if (dn_m_isMark k) = 0 then 0 else (if y = k then 0 else 1))) else (if x = 2 then (if (dn_m_within x 0 3) = 0 then 0 else (if (dn_m_within y 0 7) = 0 then 0 else (if (dn_m_within k 0 99) = 0 then 0 else 1))) else (if x = 3 then (if (dn_m_within x 0 3) = 0 then 0 else (if (dn_m_within y 0 7) = 0 then 0 else (if (dn_m_within k 0 9) = 0 then 0 else 1))) else (if (dn_m_within x 0 3) = 0 then 0 else (if (dn_m_within y 0 7) = 0 then 0 else (if (dn_m_within k 0 7) = 0 then 0 else 1)))))
set_option maxHeartbeats 4000000 in
set_option maxRecDepth 100000 in
theorem c_m_isRule (l : Launch) (D : va_G) (ka : Nat → ClassId) (al : Nat → Nat) (Z : va_W) (f : Nat → Nat → Int32) (x : Int32) (y : Int32) (k : Int32) : fr_Mi l y_m_isRule (.code y_m_isRule prog_6_method_13_code 4 (some .boolean) :: fr_tbl) { frames := 1, cells := 0, slots := 0, locals := 22 } D vwCl (fr_ty ka) fr_nw [.int x, .int y, .int k] (fr_mw ka al f Z) (dn_m_isRule x y k) (fr_mw ka al f Z) 0 0 := by
  refine fr_Mi.of (by decide) (Nat.le_of_ble_eq_true rfl) ?_
  intro p e s m below meth c A H locs ls C hP hD hS hl
  obtain ⟨hx, hb, hml, hown, ht, hK, hlocks, hr, hA, hN, hZ, hEx⟩ := id C
  have hl : lv_has ls 4 [(0, .int x), (1, .int y), (2, .int k)] := hl
  refine lv_iload_n hx hb dM_isRule_0 rfl (lv_at hl 0 rfl) ?_
  refine lv_iconst (v := 4) hx hb dM_isRule_1 (by decide) ?_
  refine lv_icmp_ne (tgt := 30) hx hb dM_isRule_2 (by decide) (fun c_2 => ?_) (fun c_2 => ?_)
  · skip
    refine lv_iload_n hx hb dM_isRule_30 rfl (lv_at hl 0 rfl) ?_
    refine lv_iconst (v := 2) hx hb dM_isRule_31 (by decide) ?_
    refine lv_icmp_ne (tgt := 40) hx hb dM_isRule_32 (by decide) (fun c_32 => ?_) (fun c_32 => ?_)
    · skip
      refine lv_iload_n hx hb dM_isRule_40 rfl (lv_at hl 0 rfl) ?_
      refine lv_iconst (v := 3) hx hb dM_isRule_41 (by decide) ?_
      refine lv_icmp_ne (tgt := 50) hx hb dM_isRule_42 (by decide) (fun c_42 => ?_) (fun c_42 => ?_)
      · skip
        refine lv_bipush (v := 7) hx hb dM_isRule_50 (by decide) ?_
        refine lv_istore_n (lv' := [(3, .int 7), (0, .int x), (1, .int y), (2, .int k)]) hx hb dM_isRule_52 rfl hl (by decide) rfl (fun ls hl => ?_)
        refine lv_iload_n hx hb dM_isRule_53 rfl (lv_at hl 1 rfl) ?_
        refine lv_iconst (v := 0) hx hb dM_isRule_54 (by decide) ?_
        refine lv_iconst (v := 3) hx hb dM_isRule_55 (by decide) ?_
        refine cl_M_91 C hP hD hS hl.1 ⟨Nat.le_of_ble_eq_true rfl, Nat.le_of_ble_eq_true rfl⟩ (Nat.le_of_ble_eq_true rfl) ⟨Nat.le_of_ble_eq_true rfl, Nat.le_of_ble_eq_true rfl⟩ dM_isRule_56 (fun H locs hP hD hS => ?_)
        refine lv_if_eq (tgt := 85) hx hb dM_isRule_59 (by decide) (fun c_59 => ?_) (fun c_59 => ?_)
        · skip
          refine lv_iconst (v := 0) hx hb dM_isRule_85 (by decide) ?_
          have hd_ : dn_m_isRule x y k = 0 := by rw [dn_m_isRule, if_neg c_2, if_neg c_32, if_neg c_42, if_pos c_59]
          exact fr_zret C hP hD hS hd_.symm (Or.inl rfl) dM_isRule_86
        · skip
          refine lv_iload_n hx hb dM_isRule_62 rfl (lv_at hl 2 rfl) ?_
          refine lv_iconst (v := 0) hx hb dM_isRule_63 (by decide) ?_
          refine lv_bipush (v := 7) hx hb dM_isRule_64 (by decide) ?_
          refine cl_M_91 C hP hD hS hl.1 ⟨Nat.le_of_ble_eq_true rfl, Nat.le_of_ble_eq_true rfl⟩ (Nat.le_of_ble_eq_true rfl) ⟨Nat.le_of_ble_eq_true rfl, Nat.le_of_ble_eq_true rfl⟩ dM_isRule_66 (fun H locs hP hD hS => ?_)
          refine lv_if_eq (tgt := 85) hx hb dM_isRule_69 (by decide) (fun c_69 => ?_) (fun c_69 => ?_)
          · skip
            refine lv_iconst (v := 0) hx hb dM_isRule_85 (by decide) ?_
            have hd_ : dn_m_isRule x y k = 0 := by rw [dn_m_isRule, if_neg c_2, if_neg c_32, if_neg c_42, if_neg c_59, if_pos c_69]
            exact fr_zret C hP hD hS hd_.symm (Or.inl rfl) dM_isRule_86
          · skip
            refine lv_iload_n hx hb dM_isRule_72 rfl (lv_at hl 3 rfl) ?_
            refine lv_iconst (v := 0) hx hb dM_isRule_73 (by decide) ?_
            refine lv_iload_n hx hb dM_isRule_74 rfl (lv_at hl 0 rfl) ?_
            refine cl_M_91 C hP hD hS hl.1 ⟨Nat.le_of_ble_eq_true rfl, Nat.le_of_ble_eq_true rfl⟩ (Nat.le_of_ble_eq_true rfl) ⟨Nat.le_of_ble_eq_true rfl, Nat.le_of_ble_eq_true rfl⟩ dM_isRule_75 (fun H locs hP hD hS => ?_)
            refine lv_if_eq (tgt := 85) hx hb dM_isRule_78 (by decide) (fun c_78 => ?_) (fun c_78 => ?_)
            · skip
              refine lv_iconst (v := 0) hx hb dM_isRule_85 (by decide) ?_
              have hd_ : dn_m_isRule x y k = 0 := by rw [dn_m_isRule, if_neg c_2, if_neg c_32, if_neg c_42, if_neg c_59, if_neg c_69, if_pos c_78]
              exact fr_zret C hP hD hS hd_.symm (Or.inl rfl) dM_isRule_86
            · skip
              refine lv_iconst (v := 1) hx hb dM_isRule_81 (by decide) ?_
              refine lv_goto (tgt := 86) hx hb dM_isRule_82 (by decide) ?_
              have hd_ : dn_m_isRule x y k = 1 := by rw [dn_m_isRule, if_neg c_2, if_neg c_32, if_neg c_42, if_neg c_59, if_neg c_69, if_neg c_78]
              exact fr_zret C hP hD hS hd_.symm (Or.inr rfl) dM_isRule_86
      · skip
        refine lv_bipush (v := 9) hx hb dM_isRule_45 (by decide) ?_
        refine lv_goto (tgt := 52) hx hb dM_isRule_47 (by decide) ?_
        refine lv_istore_n (lv' := [(3, .int 9), (0, .int x), (1, .int y), (2, .int k)]) hx hb dM_isRule_52 rfl hl (by decide) rfl (fun ls hl => ?_)
        refine lv_iload_n hx hb dM_isRule_53 rfl (lv_at hl 1 rfl) ?_
        refine lv_iconst (v := 0) hx hb dM_isRule_54 (by decide) ?_
        refine lv_iconst (v := 3) hx hb dM_isRule_55 (by decide) ?_
        refine cl_M_91 C hP hD hS hl.1 ⟨Nat.le_of_ble_eq_true rfl, Nat.le_of_ble_eq_true rfl⟩ (Nat.le_of_ble_eq_true rfl) ⟨Nat.le_of_ble_eq_true rfl, Nat.le_of_ble_eq_true rfl⟩ dM_isRule_56 (fun H locs hP hD hS => ?_)
        refine lv_if_eq (tgt := 85) hx hb dM_isRule_59 (by decide) (fun c_59 => ?_) (fun c_59 => ?_)
        · skip
          refine lv_iconst (v := 0) hx hb dM_isRule_85 (by decide) ?_
          have hd_ : dn_m_isRule x y k = 0 := by rw [dn_m_isRule, if_neg c_2, if_neg c_32, if_pos c_42, if_pos c_59]
          exact fr_zret C hP hD hS hd_.symm (Or.inl rfl) dM_isRule_86
        · skip
          refine lv_iload_n hx hb dM_isRule_62 rfl (lv_at hl 2 rfl) ?_
          refine lv_iconst (v := 0) hx hb dM_isRule_63 (by decide) ?_
          refine lv_bipush (v := 7) hx hb dM_isRule_64 (by decide) ?_
          refine cl_M_91 C hP hD hS hl.1 ⟨Nat.le_of_ble_eq_true rfl, Nat.le_of_ble_eq_true rfl⟩ (Nat.le_of_ble_eq_true rfl) ⟨Nat.le_of_ble_eq_true rfl, Nat.le_of_ble_eq_true rfl⟩ dM_isRule_66 (fun H locs hP hD hS => ?_)
          refine lv_if_eq (tgt := 85) hx hb dM_isRule_69 (by decide) (fun c_69 => ?_) (fun c_69 => ?_)
          · skip
            refine lv_iconst (v := 0) hx hb dM_isRule_85 (by decide) ?_
            have hd_ : dn_m_isRule x y k = 0 := by rw [dn_m_isRule, if_neg c_2, if_neg c_32, if_pos c_42, if_neg c_59, if_pos c_69]
            exact fr_zret C hP hD hS hd_.symm (Or.inl rfl) dM_isRule_86
          · skip
            refine lv_iload_n hx hb dM_isRule_72 rfl (lv_at hl 3 rfl) ?_
            refine lv_iconst (v := 0) hx hb dM_isRule_73 (by decide) ?_
            refine lv_iload_n hx hb dM_isRule_74 rfl (lv_at hl 0 rfl) ?_
            refine cl_M_91 C hP hD hS hl.1 ⟨Nat.le_of_ble_eq_true rfl, Nat.le_of_ble_eq_true rfl⟩ (Nat.le_of_ble_eq_true rfl) ⟨Nat.le_of_ble_eq_true rfl, Nat.le_of_ble_eq_true rfl⟩ dM_isRule_75 (fun H locs hP hD hS => ?_)
            refine lv_if_eq (tgt := 85) hx hb dM_isRule_78 (by decide) (fun c_78 => ?_) (fun c_78 => ?_)
            · skip
              refine lv_iconst (v := 0) hx hb dM_isRule_85 (by decide) ?_
              have hd_ : dn_m_isRule x y k = 0 := by rw [dn_m_isRule, if_neg c_2, if_neg c_32, if_pos c_42, if_neg c_59, if_neg c_69, if_pos c_78]
              exact fr_zret C hP hD hS hd_.symm (Or.inl rfl) dM_isRule_86
            · skip
              refine lv_iconst (v := 1) hx hb dM_isRule_81 (by decide) ?_
              refine lv_goto (tgt := 86) hx hb dM_isRule_82 (by decide) ?_
              have hd_ : dn_m_isRule x y k = 1 := by rw [dn_m_isRule, if_neg c_2, if_neg c_32, if_pos c_42, if_neg c_59, if_neg c_69, if_neg c_78]
              exact fr_zret C hP hD hS hd_.symm (Or.inr rfl) dM_isRule_86
    · skip
      refine lv_bipush (v := 99) hx hb dM_isRule_35 (by decide) ?_
      refine lv_goto (tgt := 52) hx hb dM_isRule_37 (by decide) ?_
      refine lv_istore_n (lv' := [(3, .int 99), (0, .int x), (1, .int y), (2, .int k)]) hx hb dM_isRule_52 rfl hl (by decide) rfl (fun ls hl => ?_)
      refine lv_iload_n hx hb dM_isRule_53 rfl (lv_at hl 1 rfl) ?_
      refine lv_iconst (v := 0) hx hb dM_isRule_54 (by decide) ?_
      refine lv_iconst (v := 3) hx hb dM_isRule_55 (by decide) ?_
      refine cl_M_91 C hP hD hS hl.1 ⟨Nat.le_of_ble_eq_true rfl, Nat.le_of_ble_eq_true rfl⟩ (Nat.le_of_ble_eq_true rfl) ⟨Nat.le_of_ble_eq_true rfl, Nat.le_of_ble_eq_true rfl⟩ dM_isRule_56 (fun H locs hP hD hS => ?_)
      refine lv_if_eq (tgt := 85) hx hb dM_isRule_59 (by decide) (fun c_59 => ?_) (fun c_59 => ?_)
      · skip
        refine lv_iconst (v := 0) hx hb dM_isRule_85 (by decide) ?_
        have hd_ : dn_m_isRule x y k = 0 := by rw [dn_m_isRule, if_neg c_2, if_pos c_32, if_pos c_59]
        exact fr_zret C hP hD hS hd_.symm (Or.inl rfl) dM_isRule_86
      · skip
        refine lv_iload_n hx hb dM_isRule_62 rfl (lv_at hl 2 rfl) ?_
        refine lv_iconst (v := 0) hx hb dM_isRule_63 (by decide) ?_
        refine lv_bipush (v := 7) hx hb dM_isRule_64 (by decide) ?_
        refine cl_M_91 C hP hD hS hl.1 ⟨Nat.le_of_ble_eq_true rfl, Nat.le_of_ble_eq_true rfl⟩ (Nat.le_of_ble_eq_true rfl) ⟨Nat.le_of_ble_eq_true rfl, Nat.le_of_ble_eq_true rfl⟩ dM_isRule_66 (fun H locs hP hD hS => ?_)
        refine lv_if_eq (tgt := 85) hx hb dM_isRule_69 (by decide) (fun c_69 => ?_) (fun c_69 => ?_)
        · skip
          refine lv_iconst (v := 0) hx hb dM_isRule_85 (by decide) ?_
          have hd_ : dn_m_isRule x y k = 0 := by rw [dn_m_isRule, if_neg c_2, if_pos c_32, if_neg c_59, if_pos c_69]
          exact fr_zret C hP hD hS hd_.symm (Or.inl rfl) dM_isRule_86
        · skip
          refine lv_iload_n hx hb dM_isRule_72 rfl (lv_at hl 3 rfl) ?_
          refine lv_iconst (v := 0) hx hb dM_isRule_73 (by decide) ?_
          refine lv_iload_n hx hb dM_isRule_74 rfl (lv_at hl 0 rfl) ?_
          refine cl_M_91 C hP hD hS hl.1 ⟨Nat.le_of_ble_eq_true rfl, Nat.le_of_ble_eq_true rfl⟩ (Nat.le_of_ble_eq_true rfl) ⟨Nat.le_of_ble_eq_true rfl, Nat.le_of_ble_eq_true rfl⟩ dM_isRule_75 (fun H locs hP hD hS => ?_)
          refine lv_if_eq (tgt := 85) hx hb dM_isRule_78 (by decide) (fun c_78 => ?_) (fun c_78 => ?_)
          · skip
            refine lv_iconst (v := 0) hx hb dM_isRule_85 (by decide) ?_
            have hd_ : dn_m_isRule x y k = 0 := by rw [dn_m_isRule, if_neg c_2, if_pos c_32, if_neg c_59, if_neg c_69, if_pos c_78]
            exact fr_zret C hP hD hS hd_.symm (Or.inl rfl) dM_isRule_86
          · skip
            refine lv_iconst (v := 1) hx hb dM_isRule_81 (by decide) ?_
            refine lv_goto (tgt := 86) hx hb dM_isRule_82 (by decide) ?_
            have hd_ : dn_m_isRule x y k = 1 := by rw [dn_m_isRule, if_neg c_2, if_pos c_32, if_neg c_59, if_neg c_69, if_neg c_78]
            exact fr_zret C hP hD hS hd_.symm (Or.inr rfl) dM_isRule_86
  · skip
    refine lv_iload_n hx hb dM_isRule_5 rfl (lv_at hl 1 rfl) ?_
    refine cl_M_95 C hP hD hS hl.1 ⟨Nat.le_of_ble_eq_true rfl, Nat.le_of_ble_eq_true rfl⟩ (Nat.le_of_ble_eq_true rfl) ⟨Nat.le_of_ble_eq_true rfl, Nat.le_of_ble_eq_true rfl⟩ dM_isRule_6 (fun H locs hP hD hS => ?_)
    refine lv_if_eq (tgt := 28) hx hb dM_isRule_9 (by decide) (fun c_9 => ?_) (fun c_9 => ?_)
    · skip
      refine lv_iconst (v := 0) hx hb dM_isRule_28 (by decide) ?_
      have hd_ : dn_m_isRule x y k = 0 := by rw [dn_m_isRule, if_pos c_2, if_pos c_9]
      exact fr_zret C hP hD hS hd_.symm (Or.inl rfl) dM_isRule_29
    · skip
      refine lv_iload_n hx hb dM_isRule_12 rfl (lv_at hl 2 rfl) ?_
      refine cl_M_95 C hP hD hS hl.1 ⟨Nat.le_of_ble_eq_true rfl, Nat.le_of_ble_eq_true rfl⟩ (Nat.le_of_ble_eq_true rfl) ⟨Nat.le_of_ble_eq_true rfl, Nat.le_of_ble_eq_true rfl⟩ dM_isRule_13 (fun H locs hP hD hS => ?_)
      refine lv_if_eq (tgt := 28) hx hb dM_isRule_16 (by decide) (fun c_16 => ?_) (fun c_16 => ?_)
      · skip
        refine lv_iconst (v := 0) hx hb dM_isRule_28 (by decide) ?_
        have hd_ : dn_m_isRule x y k = 0 := by rw [dn_m_isRule, if_pos c_2, if_neg c_9, if_pos c_16]
        exact fr_zret C hP hD hS hd_.symm (Or.inl rfl) dM_isRule_29
      · skip
        refine lv_iload_n hx hb dM_isRule_19 rfl (lv_at hl 1 rfl) ?_
        refine lv_iload_n hx hb dM_isRule_20 rfl (lv_at hl 2 rfl) ?_
        refine lv_icmp_eq (tgt := 28) hx hb dM_isRule_21 (by decide) (fun c_21 => ?_) (fun c_21 => ?_)
        · skip
          refine lv_iconst (v := 0) hx hb dM_isRule_28 (by decide) ?_
          have hd_ : dn_m_isRule x y k = 0 := by rw [dn_m_isRule, if_pos c_2, if_neg c_9, if_neg c_16, if_pos c_21]
          exact fr_zret C hP hD hS hd_.symm (Or.inl rfl) dM_isRule_29
        · skip
          refine lv_iconst (v := 1) hx hb dM_isRule_24 (by decide) ?_
          refine lv_goto (tgt := 29) hx hb dM_isRule_25 (by decide) ?_
          have hd_ : dn_m_isRule x y k = 1 := by rw [dn_m_isRule, if_pos c_2, if_neg c_9, if_neg c_16, if_neg c_21]
          exact fr_zret C hP hD hS hd_.symm (Or.inr rfl) dM_isRule_29
theorem bz_m_isRule {x : Int32} {y : Int32} {k : Int32} : dn_m_isRule x y k = 0 ∨ dn_m_isRule x y k = 1 := by
  unfold dn_m_isRule
  repeat' split
  all_goals first | exact Or.inl rfl | exact Or.inr rfl | exact bz_m_ownRefuses
