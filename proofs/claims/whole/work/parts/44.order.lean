/-! a rule moves in the order -/
/-- the order behind a move from place a to place b, but for the moved rule itself -/
def rl_mv (h : Nat → Int32) (a b : Int) (j : Nat) : Int32 := if a ≤ (j : Int) ∧ (j : Int) < b then h (j + 1) else if b < (j : Int) ∧ (j : Int) ≤ a then h (j - 1) else h j
theorem rl_84 {x y x3 : Int32} (hy : 0 ≤ y.toInt) : ∀ (n : Nat) (g : Nat → Nat → Int32) (x4 : Int32), 0 ≤ x4.toInt → x4.toInt < y.toInt + (n : Int) → x4.toInt ≤ 12 → 1 ≤ n → ∃ g', dn_m_order_84 n x y g x3 x4 = (x3, g') ∧ (∀ r k : Nat, r ≠ 8 → g' r k = g r k) ∧ ∀ j : Nat, g' 8 j = if (j : Int) = y.toInt then x - 1 else if y.toInt < (j : Int) ∧ (j : Int) ≤ x4.toInt then g 8 (j - 1) else g 8 j := by
  intro n
  induction n with
  | zero =>
    intro g x4 h0 h1 h2 h3
    exact absurd h3 (by omega)
  | succ n ih =>
    intro g x4 h0 h1 h2 h3
    rw [dn_m_order_84]
    by_cases c : x4 ≤ y
    · have c1 := fr_t3 c
      rw [if_pos c]
      refine ⟨_, rfl, fun r k h => fr_up_r h, fun j => ?_⟩
      have hc := fr_clamp hy
      by_cases e : j = y.toNatClampNeg
      · subst e; rw [fr_up_s, if_pos hc]
      · rw [fr_up_k e, if_neg (by omega), if_neg (by omega)]
    · have c1 := fr_t4 c
      rw [if_neg c, mo_dec]
      have hs := fr_sub1 (x := x4) (by omega)
      have hc := fr_clamp h0
      have hc2 := fr_clamp (x := x4 - 1) (by omega)
      obtain ⟨g', e1, e2, e3⟩ := ih (fr_up g 8 x4.toNatClampNeg (g 8 ((x4 - 1).toNatClampNeg))) (x4 - 1) (by omega) (by omega) (by omega) (by omega)
      refine ⟨g', e1, fun r k h => (e2 r k h).trans (fr_up_r h), fun j => ?_⟩
      rw [e3]
      by_cases q1 : (j : Int) = y.toInt
      · rw [if_pos q1, if_pos q1]
      · rw [if_neg q1, if_neg q1]
        by_cases q2 : (j : Int) = x4.toInt
        · rw [if_neg (by omega), if_pos (by omega)]
          have : j = x4.toNatClampNeg := by omega
          subst this
          rw [fr_up_s]
          congr 1
          omega
        · by_cases q3 : y.toInt < (j : Int) ∧ (j : Int) ≤ x4.toInt
          · rw [if_pos (by omega), if_pos q3, fr_up_k (by omega)]
          · rw [if_neg (by omega), if_neg q3, fr_up_k (by omega)]
theorem rl_53 {x y x3 : Int32} (hy : y.toInt ≤ 12) : ∀ (n : Nat) (g : Nat → Nat → Int32) (x4 : Int32), 0 ≤ x4.toInt → y.toInt < x4.toInt + (n : Int) → 1 ≤ n → ∃ g', dn_m_order_53 n x y g x3 x4 = dn_m_order_84 13 x y g' x3 x3 ∧ (∀ r k : Nat, r ≠ 8 → g' r k = g r k) ∧ ∀ j : Nat, g' 8 j = if x4.toInt ≤ (j : Int) ∧ (j : Int) < y.toInt then g 8 (j + 1) else g 8 j := by
  intro n
  induction n with
  | zero => intro g x4 h0 h1 h2; exact absurd h2 (by omega)
  | succ n ih =>
    intro g x4 h0 h1 h2
    rw [dn_m_order_53]
    by_cases c : y ≤ x4
    · have c1 := fr_t3 c
      rw [if_pos c]
      exact ⟨g, rfl, fun _ _ _ => rfl, fun j => by rw [if_neg (by omega)]⟩
    · have c1 := fr_t4 c
      rw [if_neg c]
      have ha := fr_add1 (x := x4) h0 (by omega)
      have hc := fr_clamp h0
      have hc2 := fr_clamp (x := x4 + 1) (by omega)
      obtain ⟨g', e1, e2, e3⟩ := ih (fr_up g 8 x4.toNatClampNeg (g 8 ((x4 + 1).toNatClampNeg))) (x4 + 1) (by omega) (by omega) (by omega)
      refine ⟨g', e1, fun r k h => (e2 r k h).trans (fr_up_r h), fun j => ?_⟩
      rw [e3]
      by_cases q2 : (j : Int) = x4.toInt
      · rw [if_neg (by omega), if_pos (by omega)]
        have : j = x4.toNatClampNeg := by omega
        subst this
        rw [fr_up_s]
        congr 1
        omega
      · by_cases q3 : x4.toInt ≤ (j : Int) ∧ (j : Int) < y.toInt
        · rw [if_pos (by omega), if_pos q3, fr_up_k (by omega)]
        · rw [if_neg (by omega), if_neg q3, fr_up_k (by omega)]
theorem rl_moved {x y w : Int32} {g : Nat → Nat → Int32} (hy : 0 ≤ y.toInt ∧ y.toInt < 12) (hw : 0 ≤ w.toInt ∧ w.toInt < 12) : ∃ g', dn_m_order_53 13 x y g w w = (w, g') ∧ (∀ r k : Nat, r ≠ 8 → g' r k = g r k) ∧ ∀ j : Nat, g' 8 j = if (j : Int) = y.toInt then x - 1 else rl_mv (fun k => g 8 k) w.toInt y.toInt j := by
  obtain ⟨g1, e1, e2, e3⟩ := rl_53 (x := x) (y := y) (x3 := w) (by omega) 13 g w hw.1 (by omega) (by omega)
  obtain ⟨g2, d1, d2, d3⟩ := rl_84 (x := x) (y := y) (x3 := w) hy.1 13 g1 w hw.1 (by omega) (by omega) (by omega)
  refine ⟨g2, e1.trans d1, fun r k h => (d2 r k h).trans (e2 r k h), fun j => ?_⟩
  rw [d3]
  by_cases q1 : (j : Int) = y.toInt
  · rw [if_pos q1, if_pos q1]
  · rw [if_neg q1, if_neg q1]
    unfold rl_mv
    by_cases q2 : y.toInt < (j : Int) ∧ (j : Int) ≤ w.toInt
    · rw [if_pos q2, if_neg (by omega), if_pos q2, e3, if_neg (by omega)]
    · rw [if_neg q2, e3]
      by_cases q3 : w.toInt ≤ (j : Int) ∧ (j : Int) < y.toInt
      · rw [if_pos q3, if_pos q3]
      · rw [if_neg q3, if_neg q3, if_neg q2]
/-- the class's arraycopy is the same move -/
theorem rl_cpy1 {h : Nat → Int32} {a b : Int32} (ha : 0 ≤ a.toInt ∧ a.toInt < 12) (hb : 0 ≤ b.toInt) (hab : b.toInt ≤ a.toInt) (j : Nat) : va_cpy h h b.toNatClampNeg (b + 1).toNatClampNeg (a - b).toNatClampNeg j = rl_mv h a.toInt b.toInt j ∨ (j : Int) = b.toInt := by
  have h1 := fr_add1 (x := b) hb (by omega)
  have h2 := fr_sub (a := a) (b := b) hab hb
  have c1 := fr_clamp hb
  have c2 := fr_clamp (x := b + 1) (by omega)
  have c3 := fr_clamp (x := a - b) (by omega)
  by_cases q : (j : Int) = b.toInt
  · exact Or.inr q
  · left
    unfold va_cpy rl_mv
    by_cases q2 : b.toInt < (j : Int) ∧ (j : Int) ≤ a.toInt
    · rw [if_pos (by omega), if_neg (by omega), if_pos q2]
      congr 1
      omega
    · rw [if_neg (by omega), if_neg (by omega), if_neg q2]
theorem rl_cpy2 {h : Nat → Int32} {a b : Int32} (ha : 0 ≤ a.toInt) (hb : b.toInt < 12) (hab : a.toInt < b.toInt) (j : Nat) : va_cpy h h (a + 1).toNatClampNeg a.toNatClampNeg (b - a).toNatClampNeg j = rl_mv h a.toInt b.toInt j ∨ (j : Int) = b.toInt := by
  have h1 := fr_add1 (x := a) ha (by omega)
  have h2 := fr_sub (a := b) (b := a) (by omega) ha
  have c1 := fr_clamp ha
  have c2 := fr_clamp (x := a + 1) (by omega)
  have c3 := fr_clamp (x := b - a) (by omega)
  by_cases q : (j : Int) = b.toInt
  · exact Or.inr q
  · left
    unfold va_cpy rl_mv
    by_cases q2 : a.toInt ≤ (j : Int) ∧ (j : Int) < b.toInt
    · rw [if_pos (by omega), if_pos q2]
      congr 1
      omega
    · rw [if_neg (by omega), if_neg q2, if_neg (by omega)]
theorem rl_ordered {f g f' g' : Nat → Nat → Int32} {x : Int32} {a b : Int} (h : rl f g) (hf : ∀ r k : Nat, r ≠ 8 → f' r k = f r k) (hg : ∀ r k : Nat, r ≠ 8 → g' r k = g r k) (hx : 1 ≤ x.toInt ∧ x.toInt ≤ (f 0 1).toInt) (ha : 0 ≤ a ∧ a < (f 0 1).toInt) (hb : 0 ≤ b ∧ b < (f 0 1).toInt) (hw : g 8 a.toNat = x - 1)
    (e1 : ∀ j : Nat, f' 8 j = if (j : Int) = b then x else rl_mv (fun k => f 8 k) a b j) (e2 : ∀ j : Nat, g' 8 j = if (j : Int) = b then x - 1 else rl_mv (fun k => g 8 k) a b j) : rl f' g' := by
  obtain ⟨⟨n1, n2, n3, n4, n5, n6⟩, ⟨b1, b2, b3, b4⟩, hu, hr, hz, hk, ho, ha9, hB⟩ := h
  have F : ∀ k, f' 0 k = f 0 k := fun k => hf 0 k (by decide)
  have G : ∀ k, g' 0 k = g 0 k := fun k => hg 0 k (by decide)
  have hs := fr_sub1 hx.1
  have A : ∀ j : Nat, (j : Int) < (f 0 1).toInt → f' 8 j = g' 8 j + 1 ∧ 0 ≤ (g' 8 j).toInt ∧ (g' 8 j).toInt < (f 0 1).toInt := by
    intro j hj
    rw [e1, e2]
    by_cases q : (j : Int) = b
    · rw [if_pos q, if_pos q]
      exact ⟨(Int32.sub_add_cancel _ _).symm, by omega, by omega⟩
    · rw [if_neg q, if_neg q]
      unfold rl_mv
      by_cases q2 : a ≤ (j : Int) ∧ (j : Int) < b
      · rw [if_pos q2, if_pos q2]; exact ho (j + 1) (by omega)
      · rw [if_neg q2, if_neg q2]
        by_cases q3 : b < (j : Int) ∧ (j : Int) ≤ a
        · rw [if_pos q3, if_pos q3]; exact ho (j - 1) (by omega)
        · rw [if_neg q3, if_neg q3]; exact ho j hj
  refine ⟨?_, ?_, fun k hk9 => ?_, fun k => ?_, fun k hk9 => ?_, fun k hk9 => ?_, fun k hk9 => ?_, fun x0 h0 h1 => ?_, ?_⟩
  · unfold rl_n; simp only [F, G]; exact ⟨n1, n2, n3, n4, n5, n6⟩
  · unfold rl_b; simp only [F]; exact ⟨b1, b2, b3, b4⟩
  · rw [F] at hk9
    rw [hf 1 k (by decide), hf 2 k (by decide), hf 3 k (by decide), hg 1 k (by decide), hg 2 k (by decide), hg 3 k (by decide)]
    exact hu k hk9
  · rw [hf 4 k (by decide), hf 5 k (by decide), hf 6 k (by decide), hf 7 k (by decide), hf 9 k (by decide), hf 10 k (by decide), hg 4 k (by decide), hg 5 k (by decide), hg 6 k (by decide), hg 7 k (by decide), hg 9 k (by decide), hg 10 k (by decide)]
    exact hr k
  · rw [F] at hk9
    rw [hf 7 k (by decide)]; exact hz k hk9
  · rw [F] at hk9
    rw [hf 4 k (by decide)]; exact hk k hk9
  · rw [F] at hk9 ⊢
    exact A k hk9
  · rw [G, ← n2] at h1
    rw [G, ← n2]
    obtain ⟨j, hj, hj2⟩ := ha9 x0 h0 (by rw [← n2]; exact h1)
    rw [← n2] at hj
    by_cases q : (j : Int) = a
    · have : a.toNat = j := by omega
      rw [this] at hw
      exact ⟨b.toNat, by omega, by rw [e2, if_pos (by omega), ← hw, hj2]⟩
    · by_cases q2 : a < (j : Int) ∧ (j : Int) ≤ b
      · refine ⟨j - 1, by omega, ?_⟩
        rw [e2, if_neg (by omega)]
        unfold rl_mv
        rw [if_pos (by omega), show j - 1 + 1 = j by omega]
        exact hj2
      · by_cases q3 : b ≤ (j : Int) ∧ (j : Int) < a
        · refine ⟨j + 1, by omega, ?_⟩
          rw [e2, if_neg (by omega)]
          unfold rl_mv
          rw [if_neg (by omega), if_pos (by omega)]
          exact hj2
        · refine ⟨j, hj, ?_⟩
          rw [e2, if_neg (by omega)]
          unfold rl_mv
          rw [if_neg (by omega), if_neg (by omega)]
          exact hj2
  · unfold mo_B; rw [G, G]; exact hB
theorem ro_order {f g : Nat → Nat → Int32} (h : rl f g) (x y : Int32) : ro (rl_c2 xN) (dn_order f x y) (dn_m_order g x y) := by
  unfold dn_order dn_m_order
  rw [rl_num_eq h]
  by_cases c : dn_isRuleNumber f x = 0
  · rw [if_pos c, if_pos c]; exact ro_x h rfl
  · rw [if_neg c, if_neg c]
    have hx := fr_isR c
    have b2 := h.2.1.2.1
    have n2 : f 0 1 = g 0 1 := h.1.2.1
    have hs := fr_sub1 (x := f 0 1) (by omega)
    by_cases c2 : dn_within y (f 0 1 - 1) = 0
    · rw [if_pos c2]
      unfold dn_within at c2
      by_cases y0 : y < 0
      · rw [if_pos y0]; exact ro_x h rfl
      · rw [if_neg y0] at c2 ⊢
        by_cases y1 : f 0 1 - 1 < y
        · have : ¬ y < g 0 1 := fun z => by
            have q1 := fr_t1 z
            have q2 := fr_t1 y1
            rw [← n2] at q1
            omega
          rw [if_neg this]; exact ro_x h rfl
        · rw [if_neg y1] at c2; exact absurd c2 (by decide)
    · rw [if_neg c2]
      have hy := fr_wi c2
      have y0 : ¬ y < 0 := fun z => by
        have := fr_t1 z
        have : (0 : Int32).toInt = 0 := rfl
        omega
      have y1 : y < g 0 1 := by rw [Int32.lt_iff_toInt_lt, ← n2]; omega
      rw [if_neg y0, if_pos y1]
      have h' : rl f (fr_up g 0 5 0) := h
      obtain ⟨p1, p2, p3, p4⟩ := rl_place h' hx
      rw [p1]
      generalize dn_m_placeOf (fr_up g 0 5 0) (x - 1) = w at p2 p3 p4 ⊢
      obtain ⟨g', e1, e2, e3⟩ := rl_moved (x := x) (y := y) (w := w) (g := fr_up g 0 5 0) ⟨hy.1, by omega⟩ ⟨p3, by omega⟩
      rw [e1]
      have hw : (fr_up g 0 5 0) 8 w.toInt.toNat = x - 1 := p2
      have cy := fr_clamp hy.1
      by_cases c3 : y ≤ w
      · rw [if_pos c3]
        have c4 := fr_t3 c3
        refine ⟨(e2 0 5 (by decide)).trans rfl, fun _ => rfl, rl_ordered (x := x) (a := w.toInt) (b := y.toInt) h' (fun r k hr => ?_) e2 hx ⟨p3, p4⟩ ⟨hy.1, by omega⟩ hw (fun j => ?_) e3⟩
        · dsimp only
          rw [fr_up_r hr, fr_row, if_neg hr]
        · dsimp only
          by_cases e : j = y.toNatClampNeg
          · subst e; rw [fr_up_s, if_pos cy]
          · rw [fr_up_k e, if_neg (by omega), fr_row, if_pos rfl]
            rcases rl_cpy1 (h := fun j => f 8 j) (a := w) (b := y) ⟨p3, by omega⟩ hy.1 c4 j with q | q
            · exact q
            · exact absurd q (by omega)
      · rw [if_neg c3]
        have c4 := fr_t4 c3
        refine ⟨(e2 0 5 (by decide)).trans rfl, fun _ => rfl, rl_ordered (x := x) (a := w.toInt) (b := y.toInt) h' (fun r k hr => ?_) e2 hx ⟨p3, p4⟩ ⟨hy.1, by omega⟩ hw (fun j => ?_) e3⟩
        · dsimp only
          rw [fr_up_r hr, fr_row, if_neg hr]
        · dsimp only
          by_cases e : j = y.toNatClampNeg
          · subst e; rw [fr_up_s, if_pos cy]
          · rw [fr_up_k e, if_neg (by omega), fr_row, if_pos rfl]
            rcases rl_cpy2 (h := fun j => f 8 j) (a := w) (b := y) p3 (by omega) c4 j with q | q
            · exact q
            · exact absurd q (by omega)
