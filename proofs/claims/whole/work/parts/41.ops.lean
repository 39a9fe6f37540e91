/-! THE CALLS, one by one: the same answers, and the two sides agree again. -/
def xI : Option String := some "java/lang/IllegalArgumentException"
def xU : Option String := some "java/lang/UnsupportedOperationException"
def xN : Option String := some "java/util/NoSuchElementException"
def xS : Option String := some "java/lang/IllegalStateException"
def rl_c1 (x : Option String) : Int32 := if x = none then 0 else 1
def rl_c2 (a x : Option String) : Int32 := if x = none then 0 else if x = a then 1 else 2
def rl_c3 (a b x : Option String) : Int32 := if x = none then 0 else if x = a then 1 else if x = b then 2 else 3
/-- a call's two ends -/
def ro (cd : Option String → Int32) (F : Option String × Int32 × (Nat → Nat → Int32)) (G : Int32 × (Nat → Nat → Int32)) : Prop := G.2 0 5 = cd F.1 ∧ (F.1 = none → F.2.1 = G.1) ∧ rl F.2.2 G.2
theorem ro_x {cd : Option String → Int32} {f g : Nat → Nat → Int32} {E : String} {b c : Int32} (h : rl f g) (hc : cd (some E) = c) : ro cd (some E, 0, f) (b, fr_up g 0 5 c) := ⟨hc.symm, (fun z => by cases z), h⟩
theorem ro_n {cd : Option String → Int32} {f g : Nat → Nat → Int32} {r b : Int32} (h : rl f g) (hc : cd none = 0) (hr : r = b) : ro cd (none, r, f) (b, fr_up g 0 5 0) := ⟨hc.symm, fun _ => hr, h⟩
theorem rl_unit_eq {f g : Nat → Nat → Int32} (h : rl f g) (x : Int32) : dn_m_isUnit g x = dn_isUnit f x := by
  unfold dn_m_isUnit dn_isUnit
  rw [h.1.1]
theorem rl_num_eq {f g : Nat → Nat → Int32} (h : rl f g) (x : Int32) : dn_m_isNumber g x = dn_isRuleNumber f x := by
  unfold dn_m_isNumber dn_isRuleNumber
  rw [h.1.2.1]
theorem rl_within (x k : Int32) : dn_m_within x 0 k = dn_within x k := by
  unfold dn_m_within dn_within
  rfl
theorem rl_full {x : Int32} {n : Int} {c : Int32} (hc : c.toInt = n) (h : x.toInt ≤ n) : x < c ↔ ¬ x = c := by
  constructor
  · intro z e
    have := fr_t1 z
    rw [e] at this
    omega
  · intro z
    have := fr_t6 z
    rw [Int32.lt_iff_toInt_lt]
    omega
theorem ro_count {f g : Nat → Nat → Int32} (h : rl f g) (x : Int32) : dn_count f x = (dn_m_count g x).1 ∧ rl f (dn_m_count g x).2 := by
  obtain ⟨n1, n2, n3, n4, n5, n6⟩ := id h.1
  unfold dn_count dn_m_count
  rw [n1, n2, n4, n5, n6]
  repeat' split
  all_goals exact ⟨rfl, h⟩
theorem ro_asked {f g : Nat → Nat → Int32} (h : rl f g) (x : Int32) : dn_asked f x = (dn_m_asked g x).1 ∧ rl f (dn_m_asked g x).2 := by
  obtain ⟨n1, n2, n3, n4, n5, n6⟩ := id h.1
  unfold dn_asked dn_m_asked
  rw [n3]
  by_cases c : x < 0
  · rw [if_pos c, if_pos c]; exact ⟨rfl, h⟩
  · rw [if_neg c, if_neg c]
    by_cases c2 : g 0 6 ≤ x
    · have c3 : ¬ x < g 0 6 := fun z => by
        have := fr_t1 z
        have := fr_t3 c2
        omega
      rw [if_pos c2, if_neg c3]; exact ⟨rfl, h⟩
    · have c3 : x < g 0 6 := by
        have := fr_t4 c2
        rw [Int32.lt_iff_toInt_lt]; omega
      rw [if_neg c2, if_pos c3]
      exact ⟨(h.2.2.2.1 _).2.2.2.2.1, h⟩
theorem ro_about {f g : Nat → Nat → Int32} (h : rl f g) (x y : Int32) : ro (rl_c2 xN) (dn_about f x y) (dn_m_about g x y) := by
  unfold dn_about dn_m_about
  rw [rl_unit_eq h, rl_within]
  by_cases c : dn_isUnit f x = 0
  · rw [if_pos c, if_pos c]; exact ro_x h rfl
  · rw [if_neg c, if_neg c]
    have hx := fr_isU c
    obtain ⟨u1, u2, u3⟩ := h.2.2.1 x.toNatClampNeg (by rw [fr_clamp hx.1]; exact hx.2)
    by_cases y0 : y = 0
    · subst y0
      rw [if_pos rfl, if_neg (by decide), if_pos rfl]; exact ro_n h rfl u1
    · by_cases y1 : y = 1
      · subst y1
        rw [if_neg (by decide), if_pos rfl, if_neg (by decide), if_neg (by decide), if_pos rfl]; exact ro_n h rfl u2
      · by_cases y2 : y = 2
        · subst y2
          rw [if_neg (by decide), if_neg (by decide), if_pos rfl, if_neg (by decide), if_neg (by decide), if_neg (by decide)]; exact ro_n h rfl u3
        · have cw : dn_within y 2 = 0 := by
            by_cases z : dn_within y 2 = 0
            · exact z
            · have q := fr_wi z
              have q0 := fr_t6 y0
              have q1 := fr_t6 y1
              have q2 := fr_t6 y2
              have e0 : (0 : Int32).toInt = 0 := rfl
              have e1 : (1 : Int32).toInt = 1 := rfl
              have e2 : (2 : Int32).toInt = 2 := rfl
              omega
          rw [if_neg y0, if_neg y1, if_neg y2, if_pos cw]; exact ro_x h rfl
/-! the rules -/
theorem rl_add {f g : Nat → Nat → Int32} {x y k : Int32} (h : rl f g) (hx : 0 ≤ x.toInt ∧ x.toInt ≤ 5) (hR : (f 0 1).toInt < 12) : rl (dn_addRule f x y k).2 (dn_m_add g x y k) := by
  obtain ⟨⟨n1, n2, n3, n4, n5, n6⟩, ⟨b1, b2, b3, b4⟩, hu, hr, hz, hk, ho, ha, hB⟩ := h
  have hi := fr_clamp b2.1
  have hadd := fr_add1 (x := f 0 1) b2.1 (by omega)
  unfold dn_addRule dn_m_add
  rw [← n2]
  generalize hI : (f 0 1).toNatClampNeg = i at hi ⊢
  have q7 : f 7 i = 0 := hz i (by omega)
  refine ⟨⟨n1, rfl, n3, n4, n5, n6⟩, ⟨b1, ?_, b3, b4⟩, hu, fun j => ?_, fun j hj => ?_, fun j hj => ?_, fun j hj => ?_, fun x0 h0 h1 => ?_, hB⟩
  · show 0 ≤ (f 0 1 + 1).toInt ∧ (f 0 1 + 1).toInt ≤ 12; omega
  · obtain ⟨r4, r5, r6, r7, r9, r10⟩ := hr j
    refine ⟨?_, ?_, ?_, ?_, r9, r10⟩
    · show fr_up f 4 i x 4 j = fr_up g 4 i x 4 j
      by_cases e : j = i
      · subst e; rw [fr_up_s, fr_up_s]
      · rw [fr_up_k e, fr_up_k e]; exact r4
    · show fr_up f 5 i y 5 j = fr_up g 5 i y 5 j
      by_cases e : j = i
      · subst e; rw [fr_up_s, fr_up_s]
      · rw [fr_up_k e, fr_up_k e]; exact r5
    · show fr_up f 6 i k 6 j = fr_up g 6 i k 6 j
      by_cases e : j = i
      · subst e; rw [fr_up_s, fr_up_s]
      · rw [fr_up_k e, fr_up_k e]; exact r6
    · show f 7 j = fr_up g 7 i 0 7 j
      by_cases e : j = i
      · subst e; rw [fr_up_s]; exact q7
      · rw [fr_up_k e]; exact r7
  · have hj : (f 0 1 + 1).toInt ≤ (j : Int) := hj
    exact hz j (by omega)
  · have hj : (j : Int) < (f 0 1 + 1).toInt := hj
    show 0 ≤ (fr_up f 4 i x 4 j).toInt ∧ (fr_up f 4 i x 4 j).toInt ≤ 5
    by_cases e : j = i
    · subst e; rw [fr_up_s]; exact hx
    · rw [fr_up_k e]; exact hk j (by omega)
  · have hj : (j : Int) < (f 0 1 + 1).toInt := hj
    show fr_up f 8 i (f 0 1 + 1) 8 j = fr_up g 8 i (f 0 1) 8 j + 1 ∧ 0 ≤ (fr_up g 8 i (f 0 1) 8 j).toInt ∧ (fr_up g 8 i (f 0 1) 8 j).toInt < (f 0 1 + 1).toInt
    by_cases e : j = i
    · subst e; rw [fr_up_s, fr_up_s]; exact ⟨rfl, b2.1, by omega⟩
    · rw [fr_up_k e, fr_up_k e]
      obtain ⟨o1, o2, o3⟩ := ho j (by omega)
      exact ⟨o1, o2, by omega⟩
  · have h1 : x0.toInt < (f 0 1 + 1).toInt := h1
    show ∃ j : Nat, (j : Int) < (f 0 1 + 1).toInt ∧ fr_up g 8 i (f 0 1) 8 j = x0
    by_cases e : x0 = f 0 1
    · exact ⟨i, by omega, by rw [fr_up_s, e]⟩
    · have e' := fr_t6 e
      obtain ⟨j, hj, hj2⟩ := ha x0 h0 (by rw [← n2]; omega)
      rw [← n2] at hj
      exact ⟨j, by omega, by rw [fr_up_k (by omega)]; exact hj2⟩
theorem rl_mark17 {x : Int32} (h : ¬ dn_within x 16 = 0) : x = 0 ∨ x = 1 ∨ x = 2 ∨ x = 3 ∨ x = 4 ∨ x = 5 ∨ x = 6 ∨ x = 7 ∨ x = 8 ∨ x = 9 ∨ x = 10 ∨ x = 11 ∨ x = 12 ∨ x = 13 ∨ x = 14 ∨ x = 15 ∨ x = 16 := by
  have q := fr_wi h
  have e16 : (16 : Int32).toInt = 16 := rfl
  have e : x.toInt = 0 ∨ x.toInt = 1 ∨ x.toInt = 2 ∨ x.toInt = 3 ∨ x.toInt = 4 ∨ x.toInt = 5 ∨ x.toInt = 6 ∨ x.toInt = 7 ∨ x.toInt = 8 ∨ x.toInt = 9 ∨ x.toInt = 10 ∨ x.toInt = 11 ∨ x.toInt = 12 ∨ x.toInt = 13 ∨ x.toInt = 14 ∨ x.toInt = 15 ∨ x.toInt = 16 := by omega
  have i0 : (0 : Int32).toInt = 0 := rfl
  rcases e with e | e | e | e | e | e | e | e | e | e | e | e | e | e | e | e | e <;> (have e' := (Int32.ofInt_toInt x).symm; rw [e] at e'; subst e'; decide)
theorem rl_isMark (x : Int32) : dn_isMark x = dn_m_isMark x := by
  by_cases h : dn_within x 16 = 0
  · have e : dn_isMark x = 0 := by unfold dn_isMark; rw [if_pos h]
    rw [e]
    unfold dn_m_isMark
    have n : ∀ c : Int32, dn_within c 16 = 1 → ¬ x = c := fun c hc z => by rw [z, hc] at h; exact absurd h (by decide)
    rw [if_neg (n 1 (by decide)), if_neg (n 2 (by decide)), if_neg (n 4 (by decide)), if_neg (n 8 (by decide)), if_neg (n 16 (by decide))]
  · rcases rl_mark17 h with e | e | e | e | e | e | e | e | e | e | e | e | e | e | e | e | e <;> subst e <;> decide +kernel
theorem rl_w3 {x : Int32} (h0 : ¬ x = 0) (h1 : ¬ x = 1) (h2 : ¬ x = 2) (h3 : ¬ x = 3) : dn_within x 3 = 0 := by
  by_cases z : dn_within x 3 = 0
  · exact z
  · have q := fr_wi z
    have q0 := fr_t6 h0
    have q1 := fr_t6 h1
    have q2 := fr_t6 h2
    have q3 := fr_t6 h3
    have e0 : (0 : Int32).toInt = 0 := rfl
    have e1 : (1 : Int32).toInt = 1 := rfl
    have e2 : (2 : Int32).toInt = 2 := rfl
    have e3 : (3 : Int32).toInt = 3 := rfl
    omega
theorem rl_isRule (x y k : Int32) : dn_isRule x y k = dn_m_isRule x y k := by
  unfold dn_isRule dn_m_isRule
  simp only [rl_within, rl_isMark]
  by_cases x4 : x = 4
  · subst x4; simp
  · by_cases x0 : x = 0
    · subst x0; simp [show dn_within 0 3 = 1 from by decide]
    · by_cases x1 : x = 1
      · subst x1; simp [show dn_within 1 3 = 1 from by decide]
      · by_cases x2 : x = 2
        · subst x2; simp [show dn_within 2 3 = 1 from by decide]
        · by_cases x3 : x = 3
          · subst x3; simp [show dn_within 3 3 = 1 from by decide]
          · simp [x4, x0, x1, x2, x3, rl_w3 x0 x1 x2 x3]
theorem rl_isRule_b {x y k : Int32} (h : ¬ dn_isRule x y k = 0) : 0 ≤ x.toInt ∧ x.toInt ≤ 5 := by
  unfold dn_isRule at h
  by_cases x0 : x = 0
  · subst x0; decide
  · by_cases x1 : x = 1
    · subst x1; decide
    · by_cases x2 : x = 2
      · subst x2; decide
      · by_cases x3 : x = 3
        · subst x3; decide
        · by_cases x4 : x = 4
          · subst x4; decide
          · simp [x0, x1, x2, x3, x4] at h
theorem ro_added {f g : Nat → Nat → Int32} {x y k : Int32} (h : rl f g) (hx : 0 ≤ x.toInt ∧ x.toInt ≤ 5) (hR : (f 0 1).toInt < 12) : ro (rl_c2 xI) (none, (dn_addRule f x y k).1, (dn_addRule f x y k).2) ((dn_m_add (fr_up g 0 5 0) x y k) 0 1, dn_m_add (fr_up g 0 5 0) x y k) := by
  refine ⟨rfl, fun _ => ?_, rl_add (g := fr_up g 0 5 0) h hx hR⟩
  show f 0 1 + 1 = g 0 1 + 1
  rw [h.1.2.1]
theorem ro_rule {f g : Nat → Nat → Int32} (h : rl f g) (x y k : Int32) : ro (rl_c2 xI) (dn_rule f x y k) (dn_m_rule g x y k) := by
  unfold dn_rule dn_m_rule
  rw [← rl_isRule]
  by_cases c : dn_isRule x y k = 0
  · rw [if_pos c, if_pos c]; exact ro_x h rfl
  · rw [if_neg c, if_neg c]
    have hb := h.2.1.2.1
    by_cases c2 : f 0 1 < 12
    · have c3 : ¬ g 0 1 = 12 := by rw [← h.1.2.1]; exact (rl_full rfl hb.2).mp c2
      rw [if_pos c2, if_neg c3]
      exact ro_added h (rl_isRule_b c) (by have := fr_t1 c2; exact this)
    · have c3 : g 0 1 = 12 := by
        rw [← h.1.2.1]
        by_cases z : f 0 1 = 12
        · exact z
        · exact absurd ((rl_full rfl hb.2).mpr z) c2
      rw [if_neg c2, if_pos c3]; exact ro_x h rfl
theorem ro_own {f g : Nat → Nat → Int32} (h : rl f g) (x y : Int32) : ro (rl_c2 xI) (dn_own f x y) (dn_m_own g x y) := by
  unfold dn_own dn_m_own
  rw [rl_within]
  by_cases c : dn_within x 3 = 0
  · rw [if_pos c, if_pos c]; exact ro_x h rfl
  · rw [if_neg c, if_neg c]
    have hb := h.2.1.2.1
    by_cases c2 : f 0 1 < 12
    · have c3 : ¬ g 0 1 = 12 := by rw [← h.1.2.1]; exact (rl_full rfl hb.2).mp c2
      rw [if_pos c2, if_neg c3]
      by_cases y0 : y = 0
      · rw [if_pos y0, if_pos y0]; exact ro_added h (by decide) (by have := fr_t1 c2; exact this)
      · rw [if_neg y0, if_neg y0]; exact ro_added h (by decide) (by have := fr_t1 c2; exact this)
    · have c3 : g 0 1 = 12 := by
        rw [← h.1.2.1]
        by_cases z : f 0 1 = 12
        · exact z
        · exact absurd ((rl_full rfl hb.2).mpr z) c2
      rw [if_neg c2, if_pos c3]; exact ro_x h rfl
/-! the signs -/
theorem ro_signed {f g : Nat → Nat → Int32} {x : Int32} (h : rl f g) (hR : (f 0 5).toInt < 200) : rl (fr_up (fr_up f 10 (f 0 5).toNatClampNeg x) 0 5 (f 0 5 + 1)) (fr_up (fr_up (fr_up g 0 5 0) 9 (g 0 2).toNatClampNeg x) 0 2 (g 0 2 + 1)) := by
  obtain ⟨⟨n1, n2, n3, n4, n5, n6⟩, ⟨b1, b2, b3, b4⟩, hu, hr, hz, hk, ho, ha, hB⟩ := h
  have hadd := fr_add1 (x := f 0 5) b4.1 (by omega)
  rw [← n6]
  generalize (f 0 5).toNatClampNeg = i
  refine ⟨⟨n1, n2, n3, n4, n5, rfl⟩, ⟨b1, b2, b3, ?_⟩, hu, fun j => ?_, hz, hk, ho, ha, hB⟩
  · show 0 ≤ (f 0 5 + 1).toInt ∧ (f 0 5 + 1).toInt ≤ 200; omega
  · obtain ⟨r4, r5, r6, r7, r9, r10⟩ := hr j
    refine ⟨r4, r5, r6, r7, r9, ?_⟩
    show fr_up f 10 i x 10 j = fr_up (fr_up g 0 5 0) 9 i x 9 j
    by_cases e : j = i
    · subst e; rw [fr_up_s, fr_up_s]
    · rw [fr_up_k e, fr_up_k e]; exact r10
theorem ro_sign {f g : Nat → Nat → Int32} (h : rl f g) (x : Int32) : ro (rl_c2 xI) (dn_sign f x) (0, dn_m_sign g x) := by
  unfold dn_sign dn_m_sign
  have hb := h.2.1.2.2.2
  have n6 : f 0 5 = g 0 2 := h.1.2.2.2.2.2
  have key : ro (rl_c2 xI) (if f 0 5 < 200 then (none, 0, fr_up (fr_up f 10 (f 0 5).toNatClampNeg x) 0 5 (f 0 5 + 1)) else (some "java/lang/UnsupportedOperationException", 0, f)) (0, if g 0 2 = 200 then fr_up g 0 5 2 else fr_up (fr_up (fr_up g 0 5 0) 9 (g 0 2).toNatClampNeg x) 0 2 (g 0 2 + 1)) := by
    by_cases c2 : f 0 5 < 200
    · have c3 : ¬ g 0 2 = 200 := by rw [← n6]; exact (rl_full rfl hb.2).mp c2
      rw [if_pos c2, if_neg c3]
      exact ⟨rfl, fun _ => rfl, ro_signed h (by have := fr_t1 c2; exact this)⟩
    · have c3 : g 0 2 = 200 := by
        rw [← n6]
        by_cases z : f 0 5 = 200
        · exact z
        · exact absurd ((rl_full rfl hb.2).mpr z) c2
      rw [if_neg c2, if_pos c3]; exact ro_x h rfl
  by_cases x10 : x = 10
  · rw [if_pos x10, if_pos x10]; exact key
  · rw [if_neg x10, if_neg x10]
    unfold dn_m_within
    by_cases c : x < 32
    · rw [if_pos c, if_pos c, if_pos rfl]; exact ro_x h rfl
    · rw [if_neg c, if_neg c]
      by_cases c2 : x ≤ 126
      · have c3 : ¬ 126 < x := fun z => by
          have := fr_t1 z
          have := fr_t3 c2
          omega
        rw [if_pos c2, if_neg c3, if_neg (show ¬ (1 : Int32) = 0 by decide)]; exact key
      · have c3 : 126 < x := by
          have := fr_t4 c2
          rw [Int32.lt_iff_toInt_lt]; omega
        rw [if_neg c2, if_pos c3, if_pos rfl]; exact ro_x h rfl
