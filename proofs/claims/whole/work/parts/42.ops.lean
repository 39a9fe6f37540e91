/-! where a rule stands in the order -/
theorem rl_place2 {f g : Nat → Nat → Int32} {x : Int32} (b2 : 0 ≤ (f 0 1).toInt ∧ (f 0 1).toInt ≤ 12) (ho : rl_o f g) : ∀ (n : Nat) (x2 : Int32), 0 ≤ x2.toInt → (∃ j : Nat, (j : Int) < (f 0 1).toInt ∧ x2.toInt ≤ (j : Int) ∧ g 8 j = x - 1) → (f 0 1).toInt ≤ x2.toInt + (n : Int) → dn_placeIn_2 n f x x2 = dn_m_placeOf_2 n g (x - 1) x2 ∧ g 8 (dn_m_placeOf_2 n g (x - 1) x2).toNatClampNeg = x - 1 ∧ 0 ≤ (dn_m_placeOf_2 n g (x - 1) x2).toInt ∧ (dn_m_placeOf_2 n g (x - 1) x2).toInt < (f 0 1).toInt := by
  intro n
  induction n with
  | zero => intro x2 h0 ⟨j, hj, hj2, _⟩ h1; exact absurd h1 (by omega)
  | succ n ih =>
    intro x2 h0 ⟨j, hj, hj2, hj3⟩ h1
    have hs := fr_sub1 (x := f 0 1) (by omega)
    have hc := fr_clamp h0
    obtain ⟨o1, o2, o3⟩ := ho x2.toNatClampNeg (by omega)
    have e8 : f 8 x2.toNatClampNeg = x ↔ g 8 x2.toNatClampNeg = x - 1 := by
      rw [o1]
      constructor
      · intro z; rw [← z, Int32.add_sub_cancel]
      · intro z; rw [z, Int32.sub_add_cancel]
    rw [dn_placeIn_2, dn_m_placeOf_2]
    by_cases c : g 8 x2.toNatClampNeg = x - 1
    · rw [if_pos c, if_pos (e8.mpr c)]
      refine ⟨?_, c, h0, by omega⟩
      split <;> rfl
    · have hne : x2.toInt ≠ (j : Int) := fun z => by
        have : x2.toNatClampNeg = j := by omega
        rw [this] at c
        exact c hj3
      have c1 : ¬ f 0 1 - 1 ≤ x2 := fun z => by
        have := fr_t3 z
        omega
      have h2 := fr_add1 (x := x2) h0 (by omega)
      rw [if_neg c, if_neg c1, if_neg (fun z => c (e8.mp z))]
      exact ih _ (by omega) ⟨j, hj, by omega, hj3⟩ (by omega)
theorem rl_place {f g : Nat → Nat → Int32} {x : Int32} (h : rl f g) (hx : 1 ≤ x.toInt ∧ x.toInt ≤ (f 0 1).toInt) : dn_placeIn f x = dn_m_placeOf g (x - 1) ∧ g 8 (dn_m_placeOf g (x - 1)).toNatClampNeg = x - 1 ∧ 0 ≤ (dn_m_placeOf g (x - 1)).toInt ∧ (dn_m_placeOf g (x - 1)).toInt < (f 0 1).toInt := by
  obtain ⟨⟨n1, n2, n3, n4, n5, n6⟩, ⟨b1, b2, b3, b4⟩, hu, hr, hz, hk, ho, ha, hB⟩ := h
  have hs := fr_sub1 (x := x) hx.1
  obtain ⟨j, hj, hj2⟩ := ha (x - 1) (by omega) (by rw [← n2]; omega)
  rw [← n2] at hj
  have z : (0 : Int32).toInt = 0 := rfl
  rw [dn_placeIn, dn_m_placeOf]
  exact rl_place2 b2 ho 12 0 (by omega) ⟨j, hj, by omega, hj2⟩ (by omega)
theorem ro_told {f g : Nat → Nat → Int32} (h : rl f g) (x y : Int32) : ro (rl_c2 xN) (dn_told f x y) (dn_m_told g x y) := by
  unfold dn_told dn_m_told
  rw [rl_num_eq h, rl_within]
  by_cases c : dn_isRuleNumber f x = 0
  · rw [if_pos c, if_pos c]; exact ro_x h rfl
  · rw [if_neg c, if_neg c]
    have hx := fr_isR c
    have hs := fr_sub1 hx.1
    obtain ⟨r4, r5, r6, r7, -, -⟩ := h.2.2.2.1 (x - 1).toNatClampNeg
    have hp := (rl_place h hx).1
    by_cases y0 : y = 0
    · subst y0; simp [show dn_within 0 4 = 1 from by decide]; exact ro_n h rfl r4
    · by_cases y1 : y = 1
      · subst y1; simp [show dn_within 1 4 = 1 from by decide]; exact ro_n h rfl r5
      · by_cases y2 : y = 2
        · subst y2; simp [show dn_within 2 4 = 1 from by decide]; exact ro_n h rfl r6
        · by_cases y3 : y = 3
          · subst y3; simp [show dn_within 3 4 = 1 from by decide]; exact ro_n h rfl (by rw [hp]; rfl)
          · by_cases y4 : y = 4
            · subst y4; simp [show dn_within 4 4 = 1 from by decide]; exact ro_n h rfl r7
            · have cw : dn_within y 4 = 0 := by
                by_cases z : dn_within y 4 = 0
                · exact z
                · have q := fr_wi z
                  have q0 := fr_t6 y0
                  have q1 := fr_t6 y1
                  have q2 := fr_t6 y2
                  have q3 := fr_t6 y3
                  have q4 := fr_t6 y4
                  have e0 : (0 : Int32).toInt = 0 := rfl
                  have e1 : (1 : Int32).toInt = 1 := rfl
                  have e2 : (2 : Int32).toInt = 2 := rfl
                  have e3 : (3 : Int32).toInt = 3 := rfl
                  have e4 : (4 : Int32).toInt = 4 := rfl
                  omega
              rw [if_neg y0, if_neg y1, if_neg y2, if_neg y3, if_neg y4, if_pos cw]; exact ro_x h rfl
theorem rl_never {f g : Nat → Nat → Int32} {x : Int32} (n2 : f 0 1 = g 0 1) (b2 : 0 ≤ (f 0 1).toInt ∧ (f 0 1).toInt ≤ 12) (h7 : ∀ k, f 7 k = g 7 k) : ∀ (n : Nat) (x2 x3 : Int32), 0 ≤ x3.toInt → x3.toInt ≤ (f 0 1).toInt → (f 0 1).toInt < x3.toInt + (n : Int) → ∃ v : Int32, dn_never_18 n f x x2 (x3 + 1) = (none, v, f) ∧ dn_m_never_26 n x g x2 x3 = (v, g) := by
  intro n
  induction n with
  | zero => intro x2 x3 _ h1 h2; exact absurd h2 (by omega)
  | succ n ih =>
    intro x2 x3 h0 h1 h2
    have h3 := fr_add1 (x := x3) h0 (by omega)
    rw [dn_never_18, dn_m_never_26, Int32.add_sub_cancel]
    by_cases c : g 0 1 ≤ x3
    · have c' : f 0 1 < x3 + 1 := by
        have := fr_t3 c
        rw [Int32.lt_iff_toInt_lt, h3, n2]; omega
      rw [if_pos c, if_pos c']; exact ⟨_, rfl, rfl⟩
    · have c9 := fr_t4 c
      rw [← n2] at c9
      have c' : ¬ f 0 1 < x3 + 1 := fun z => by
        have := fr_t1 z
        omega
      rw [if_neg c, if_neg c', h7]
      by_cases c2 : g 7 x3.toNatClampNeg = 0
      · rw [if_pos c2, if_pos c2]
        by_cases c3 : x2 = x
        · rw [if_pos c3, if_pos c3]; exact ⟨_, rfl, rfl⟩
        · rw [if_neg c3, if_neg c3]; exact ih _ _ (by omega) (by omega) (by omega)
      · rw [if_neg c2, if_neg c2]; exact ih _ _ (by omega) (by omega) (by omega)
theorem ro_never {f g : Nat → Nat → Int32} (h : rl f g) (x : Int32) : ro rl_c1 (dn_never f x) (dn_m_never g x) := by
  unfold dn_never dn_m_never
  by_cases c : 0 ≤ x
  · rw [if_pos c, if_pos c]
    have b2 := h.2.1.2.1
    have z : (0 : Int32).toInt = 0 := rfl
    obtain ⟨v, h1, h2⟩ := rl_never (f := f) (g := fr_up g 0 5 0) (x := x) h.1.2.1 b2 (fun k => (h.2.2.2.1 k).2.2.2.1) 13 0 0 (by omega) (by omega) (by omega)
    have e : (0 : Int32) + 1 = 1 := by decide
    rw [e] at h1
    rw [h1, h2]
    exact ro_n h rfl rfl
  · rw [if_neg c, if_neg c]; exact ro_x h rfl
/-! the askings -/
theorem rl_at {f g : Nat → Nat → Int32} {x : Int32} (h : rl f g) (c : ¬ dn_isUnit f x = 0) : f 1 x.toNatClampNeg = g 1 x.toNatClampNeg ∧ f 2 x.toNatClampNeg = g 2 x.toNatClampNeg ∧ f 3 x.toNatClampNeg = g 3 x.toNatClampNeg := by
  have hx := fr_isU c
  exact h.2.2.1 x.toNatClampNeg (by rw [fr_clamp hx.1]; exact hx.2)
theorem rl_B {f g : Nat → Nat → Int32} (h : rl f g) {g' : Nat → Nat → Int32} (h' : rl f g → mo_B g' → rl f g') {x y : Int32} (cx : ¬ dn_isUnit f x = 0) (cy : ¬ dn_isUnit f y = 0) (e8 : g' 0 8 = x) (e9 : g' 0 9 = y) : rl f g' := by
  have hx := fr_isU cx
  have hy := fr_isU cy
  have b1 := h.2.1.1
  refine h' h ?_
  unfold mo_B
  rw [e8, e9]
  exact ⟨⟨hx.1, by omega⟩, hy.1, by omega⟩
theorem ro_verdict {cd : Option String → Int32} {f g g' : Nat → Nat → Int32} {y x : Int32} {u v : Nat} (h : rl f g') (hq : rq f g' y u v x) (h5 : g' 0 5 = cd none) : ro cd (none, (dn_verdict f y u v x).1, (dn_verdict f y u v x).2) ((dn_m_verdict g').1, (dn_m_verdict g').2) := by
  obtain ⟨h1, h2, h3, -, -⟩ := rl_verdict h hq
  exact ⟨h3.trans h5, fun _ => h1, h2⟩
theorem ro_may {f g : Nat → Nat → Int32} (h : rl f g) (x y k : Int32) : ro (rl_c3 xN xI) (dn_may f x y k) (dn_m_may g x y k) := by
  unfold dn_may dn_m_may
  rw [rl_unit_eq h, rl_unit_eq h, rl_within]
  by_cases c : dn_isUnit f x = 0
  · rw [if_pos c, if_pos c]; exact ro_x h rfl
  · rw [if_neg c, if_neg c]
    by_cases c2 : dn_isUnit f y = 0
    · rw [if_pos c2, if_pos c2]; exact ro_x h rfl
    · rw [if_neg c2, if_neg c2]
      by_cases c3 : dn_within k 9 = 0
      · rw [if_pos c3, if_pos c3]; exact ro_x h rfl
      · rw [if_neg c3, if_neg c3]
        by_cases c4 : x = y
        · rw [if_pos c4, if_pos c4]; exact ro_x h rfl
        · rw [if_neg c4, if_neg c4]
          have h' : rl f (fr_up (fr_up (fr_up (fr_up (fr_up g 0 5 0) 0 7 0) 0 8 x) 0 9 y) 0 10 k) := rl_B h (fun q b => ⟨q.1, q.2.1, q.2.2.1, q.2.2.2.1, q.2.2.2.2.1, q.2.2.2.2.2.1, q.2.2.2.2.2.2.1, q.2.2.2.2.2.2.2.1, b⟩) c c2 rfl rfl
          exact ro_verdict (g := g) h' ⟨rfl, Or.inr ⟨Or.inr ⟨rfl, rfl⟩, rfl, rfl, rl_at h' c, rl_at h' c2⟩⟩ rfl
theorem ro_together {f g : Nat → Nat → Int32} (h : rl f g) (x y : Int32) : ro (rl_c2 xN) (dn_together f x y) (dn_m_together g x y) := by
  unfold dn_together dn_m_together
  rw [rl_unit_eq h, rl_unit_eq h]
  by_cases c : dn_isUnit f x = 0
  · rw [if_pos c, if_pos c]; exact ro_x h rfl
  · rw [if_neg c, if_neg c]
    by_cases c2 : dn_isUnit f y = 0
    · rw [if_pos c2, if_pos c2]; exact ro_x h rfl
    · rw [if_neg c2, if_neg c2]
      by_cases c4 : x = y
      · rw [if_pos c4, if_pos c4]; exact ro_x h rfl
      · rw [if_neg c4, if_neg c4]
        have h' : rl f (fr_up (fr_up (fr_up (fr_up g 0 5 0) 0 7 1) 0 8 x) 0 9 y) := rl_B h (fun q b => ⟨q.1, q.2.1, q.2.2.1, q.2.2.2.1, q.2.2.2.2.1, q.2.2.2.2.2.1, q.2.2.2.2.2.2.1, q.2.2.2.2.2.2.2.1, b⟩) c c2 rfl rfl
        exact ro_verdict (g := g) h' ⟨rfl, Or.inr ⟨Or.inl rfl, rfl, rfl, rl_at h' c, rl_at h' c2⟩⟩ rfl
theorem rl_up3 {f g : Nat → Nat → Int32} {u : Nat} {y : Int32} (h : rl f g) (hu : (u : Int) < (f 0 0).toInt) : rl (fr_up f 3 u (f 3 u ||| y)) (fr_up g 3 u (g 3 u ||| y)) := by
  obtain ⟨hn, hb, h2, r⟩ := h
  refine ⟨hn, hb, fun k hk => ?_, r⟩
  obtain ⟨a1, a2, a3⟩ := h2 k hk
  refine ⟨a1, a2, ?_⟩
  by_cases e : k = u
  · subst e; rw [fr_up_s, fr_up_s, a3]
  · rw [fr_up_k e, fr_up_k e]; exact a3
theorem ro_mark {f g : Nat → Nat → Int32} (h : rl f g) (x y : Int32) : ro (rl_c3 xN xI) (dn_mark f x y) (dn_m_mark g x y) := by
  unfold dn_mark dn_m_mark
  rw [rl_unit_eq h, ← rl_isMark]
  by_cases c : dn_isUnit f x = 0
  · rw [if_pos c, if_pos c]; exact ro_x h rfl
  · rw [if_neg c, if_neg c]
    have hx := fr_isU c
    by_cases c2 : dn_isMark y = 0
    · rw [if_pos c2, if_pos c2]; exact ro_x h rfl
    · rw [if_neg c2, if_neg c2, ← (rl_at h c).2.2]
      unfold dn_has
      by_cases c3 : f 3 x.toNatClampNeg &&& y = 0
      · rw [if_pos c3, if_pos rfl, if_pos c3]
        have h' : rl f (fr_up (fr_up (fr_up (fr_up g 0 5 0) 0 7 2) 0 11 y) 0 12 (f 3 x.toNatClampNeg)) := h
        have hq : rq f (fr_up (fr_up (fr_up (fr_up g 0 5 0) 0 7 2) 0 11 y) 0 12 (f 3 x.toNatClampNeg)) 2 x.toNatClampNeg x.toNatClampNeg y := ⟨rfl, Or.inl ⟨rfl, rfl, rfl⟩⟩
        obtain ⟨h1, h2, h3, h4, h5⟩ := rl_verdict h' hq
        by_cases c4 : (dn_verdict f 2 x.toNatClampNeg x.toNatClampNeg y).1 = 0
        · rw [if_pos c4, if_pos (h1 ▸ c4)]
          exact ⟨h3, fun _ => h1, rl_up3 h2 (by rw [h5, fr_clamp hx.1]; exact hx.2)⟩
        · rw [if_neg c4, if_neg (h1 ▸ c4)]
          exact ⟨h3, fun _ => h1, h2⟩
      · rw [if_neg c3, if_neg (show ¬ (1 : Int32) = 0 by decide), if_neg c3]
        exact ro_x h rfl
