/-! THE REFERENCE's WORLD: one object and ten arrays of ints. Its numbers: row 0: 0 units, 1 rules, 2 signs, 3 verdicts, 4 refusals, 5 thrown, 6 askedMany, 7 question, 8 below, 9 above, 10 place, 11 mark, 12 had, 13 p, 14 bad; rows 1 .. 10: kind, weight, marks, row, first, second, refused, order, text, asked; array i lies at al i. -/
def fr_mo (al : Nat → Nat) (f : Nat → Nat → Int32) : Nat × va_E := (al 0, .inr (4, [.int (f 0 0), .int (f 0 1), .int (f 0 2), .int (f 0 3), .int (f 0 4), .int (f 0 5), .ref (al 1), .ref (al 2), .ref (al 3), .ref (al 4), .ref (al 5), .ref (al 6), .ref (al 7), .ref (al 8), .ref (al 9), .ref (al 10), .int (f 0 6), .int (f 0 7), .int (f 0 8), .int (f 0 9), .int (f 0 10), .int (f 0 11), .int (f 0 12), .int (f 0 13), .int (f 0 14)]))
def fr_mw (ka : Nat → ClassId) (al : Nat → Nat) (f : Nat → Nat → Int32) (Z : va_W) : va_W :=
  fr_mo al f :: fr_ia (ka 2) 10 (al 1) (fun j => f 1 j) :: fr_ia (ka 2) 10 (al 2) (fun j => f 2 j) :: fr_ia (ka 2) 10 (al 3) (fun j => f 3 j) :: fr_ia (ka 2) 12 (al 4) (fun j => f 4 j) :: fr_ia (ka 2) 12 (al 5) (fun j => f 5 j) :: fr_ia (ka 2) 12 (al 6) (fun j => f 6 j) :: fr_ia (ka 2) 12 (al 7) (fun j => f 7 j) :: fr_ia (ka 2) 12 (al 8) (fun j => f 8 j) :: fr_ia (ka 2) 200 (al 9) (fun j => f 9 j) :: fr_ia (ka 2) 12 (al 10) (fun j => f 10 j) :: Z
/-- the order's entries are rules -/
def mo_ord (f : Nat → Nat → Int32) : Prop := ∀ k : Nat, (k : Int) < (f 0 1).toInt → 0 ≤ (f 8 k).toInt ∧ (f 8 k).toInt < (f 0 1).toInt
abbrev mo_B (f : Nat → Nat → Int32) : Prop := (0 ≤ (f 0 8).toInt ∧ (f 0 8).toInt < 10) ∧ 0 ≤ (f 0 9).toInt ∧ (f 0 9).toInt < 10
def mo_q (g : Nat → Nat → Int32) : Prop := (0 ≤ (g 0 1).toInt ∧ (g 0 1).toInt ≤ 12) ∧ mo_ord g ∧ mo_B g ∧ 0 ≤ (g 0 0).toInt ∧ (g 0 0).toInt < 10
/-- at the head of ask's loop -/
def mm_lp (g : Nat → Nat → Int32) (x : Int32) (n : Nat) : Prop := (0 ≤ (g 0 1).toInt ∧ (g 0 1).toInt ≤ 12) ∧ mo_ord g ∧ mo_B g ∧ 0 ≤ (g 0 6).toInt ∧ (g 0 6).toInt ≤ x.toInt ∧ 0 ≤ x.toInt ∧ x.toInt ≤ (g 0 1).toInt ∧ (g 0 1).toInt < x.toInt + (n : Int)
theorem mm_lp_0 {g : Nat → Nat → Int32} {x : Int32} {P : Prop} (h : mm_lp g x 0) : P := by
  obtain ⟨h1, h2, hB, h3, h4, h5, h6, h7⟩ := h
  exact absurd h7 (by omega)
theorem mm_k {g : Nat → Nat → Int32} {x : Int32} {n : Nat} (h : mm_lp g x n) : 0 ≤ x.toInt ∧ x.toInt ≤ (g 0 1).toInt := ⟨h.2.2.2.2.2.1, h.2.2.2.2.2.2.1⟩
theorem mm_a {g : Nat → Nat → Int32} {x : Int32} {n : Nat} (h : mm_lp g x n) : 0 ≤ (g 0 6).toInt ∧ (g 0 6).toInt ≤ x.toInt := ⟨h.2.2.2.1, h.2.2.2.2.1⟩
theorem mm_B {g : Nat → Nat → Int32} {x : Int32} {n : Nat} (h : mm_lp g x n) : mo_B g := h.2.2.1
theorem mm_x {g : Nat → Nat → Int32} {x : Int32} {n : Nat} (h : mm_lp g x n) (c : ¬ g 0 1 ≤ x) : 0 ≤ (g 8 x.toNatClampNeg).toInt ∧ (g 8 x.toNatClampNeg).toInt < 12 := by
  obtain ⟨h1, h2, hB, h3, h4, h5, h6, h7⟩ := h
  have h8 := fr_t4 c
  have h9 := h2 x.toNatClampNeg (by rw [fr_clamp h5]; exact h8)
  omega
theorem mm_lp_in {f : Nat → Nat → Int32} (gR : 0 ≤ (f 0 1).toInt ∧ (f 0 1).toInt ≤ 12) (gO : mo_ord f) (gB : mo_B f) : mm_lp (fr_up f 0 6 0) 0 13 := by
  have z : (0 : Int32).toInt = 0 := rfl
  refine ⟨gR, gO, gB, ?_, ?_, ?_, ?_, ?_⟩
  · show 0 ≤ (0 : Int32).toInt; omega
  · show (0 : Int32).toInt ≤ _; omega
  · omega
  · show _ ≤ (f 0 1).toInt; omega
  · show (f 0 1).toInt < _; omega
theorem mm_lp_a {g : Nat → Nat → Int32} {x : Int32} {n : Nat} (h : mm_lp g x (n + 1)) (c : ¬ g 0 1 ≤ x) : mm_lp g (x + 1) n := by
  obtain ⟨h1, h2, hB, h3, h4, h5, h6, h7⟩ := h
  have h8 := fr_t4 c
  have h9 := fr_add1 (x := x) h5 (by omega)
  exact ⟨h1, h2, hB, h3, by omega, by omega, by omega, by omega⟩
theorem mm_lp_b {g : Nat → Nat → Int32} {x v : Int32} {n k : Nat} (h : mm_lp g x (n + 1)) (c : ¬ g 0 1 ≤ x) : mm_lp (fr_up (fr_up g 10 k v) 0 6 (g 0 6 + 1)) (x + 1) n := by
  obtain ⟨h1, h2, hB, h3, h4, h5, h6, h7⟩ := h
  have h8 := fr_t4 c
  have h9 := fr_add1 (x := x) h5 (by omega)
  have h10 := fr_add1 (x := g 0 6) h3 (by omega)
  have e1 : fr_up (fr_up g 10 k v) 0 6 (g 0 6 + 1) 0 6 = g 0 6 + 1 := rfl
  have e2 : fr_up (fr_up g 10 k v) 0 6 (g 0 6 + 1) 0 1 = g 0 1 := rfl
  refine ⟨h1, h2, hB, ?_, ?_, by omega, ?_, ?_⟩
  · rw [e1]; omega
  · rw [e1]; omega
  · rw [e2]; omega
  · rw [e2]; omega
theorem mo_mk_b {x : Int32} {n : Nat} (h : fr_mk x (n + 1)) (c : ¬ 16 < x) : fr_mk (x * 2) n := by
  rcases h with ⟨rfl, h⟩ | ⟨rfl, h⟩ | ⟨rfl, h⟩ | ⟨rfl, h⟩ | ⟨rfl, h⟩ | ⟨rfl, h⟩
  · exact Or.inr (Or.inl ⟨by decide, by omega⟩)
  · exact Or.inr (Or.inr (Or.inl ⟨by decide, by omega⟩))
  · exact Or.inr (Or.inr (Or.inr (Or.inl ⟨by decide, by omega⟩)))
  · exact Or.inr (Or.inr (Or.inr (Or.inr (Or.inl ⟨by decide, by omega⟩))))
  · exact Or.inr (Or.inr (Or.inr (Or.inr (Or.inr ⟨by decide, by omega⟩))))
  · exact absurd (by decide) c
theorem mo_u {f : Nat → Nat → Int32} (gU : 0 ≤ (f 0 0).toInt ∧ (f 0 0).toInt ≤ 10) (c : ¬ f 0 0 = 10) : 0 ≤ (f 0 0).toInt ∧ (f 0 0).toInt < 10 := by
  have h := fr_t6 c
  have z : (10 : Int32).toInt = 10 := rfl
  omega
theorem mo_r1 {f : Nat → Nat → Int32} (gR : 0 ≤ (f 0 1).toInt ∧ (f 0 1).toInt ≤ 12) (c : ¬ f 0 1 = 12) : 0 ≤ (f 0 1).toInt ∧ (f 0 1).toInt < 12 := by
  have h := fr_t6 c
  have z : (12 : Int32).toInt = 12 := rfl
  omega
/-- a rule has a place in the order -/
def mo_has (f : Nat → Nat → Int32) (x : Int32) : Prop := ∃ j : Nat, j < 12 ∧ f 8 j = x
def mo_all (f : Nat → Nat → Int32) : Prop := ∀ x : Int32, 0 ≤ x.toInt → x.toInt < (f 0 1).toInt → mo_has f x
def mo_pl (f : Nat → Nat → Int32) (x x2 : Int32) (n : Nat) : Prop := ∃ j : Nat, j < 12 ∧ f 8 j = x ∧ 0 ≤ x2.toInt ∧ x2.toInt ≤ (j : Int) ∧ (j : Int) < x2.toInt + (n : Int)
theorem mo_pl_0 {f : Nat → Nat → Int32} {x x2 : Int32} {P : Prop} (h : mo_pl f x x2 0) : P := by
  obtain ⟨j, h1, h2, h3, h4, h5⟩ := h
  exact absurd h5 (by omega)
theorem mo_pl_k {f : Nat → Nat → Int32} {x x2 : Int32} {n : Nat} (h : mo_pl f x x2 n) : 0 ≤ x2.toInt ∧ x2.toInt < 12 := by
  obtain ⟨j, h1, h2, h3, h4, h5⟩ := h
  omega
theorem mo_pl_in {f : Nat → Nat → Int32} {x : Int32} (h : mo_has f x) : mo_pl f x 0 12 := by
  obtain ⟨j, h1, h2⟩ := h
  have z : (0 : Int32).toInt = 0 := rfl
  exact ⟨j, h1, h2, by omega, by omega, by omega⟩
theorem mo_pl_b {f : Nat → Nat → Int32} {x x2 : Int32} {n : Nat} (h : mo_pl f x x2 (n + 1)) (c : ¬ f 8 x2.toNatClampNeg = x) : mo_pl f x (x2 + 1) n := by
  obtain ⟨j, h1, h2, h3, h4, h5⟩ := h
  have h6 := fr_add1 (x := x2) h3 (by omega)
  have h7 : x2.toInt ≠ (j : Int) := by
    intro q
    have h8 := fr_clamp h3
    have h9 : x2.toNatClampNeg = j := by omega
    rw [h9] at c
    exact c h2
  exact ⟨j, h1, h2, by omega, by omega, by omega⟩
