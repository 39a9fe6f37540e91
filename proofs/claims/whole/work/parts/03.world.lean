/-! THE CLASS's WORLD. Its numbers are one function f: row 0: 0 unitCount, 1 ruleCount, 2 askedCount, 3 verdictCount, 4 refusedCount, 5 text.length; rows 1, 2, 3: a unit's kind, weight, marks; 4, 5, 6, 7: a rule's row, a, b, refusals; 8 the order, 9 what was asked, 10 the signs.
Its addresses are one function al: 0 the object, 1 units, 2 rules, 3 order, 4 asked, 5 the text, 6 its signs, 7 + i unit i, 17 + i rule i. ka: the array classes' numbers: 0 of units, 1 of rules, 2 of ints, 3 of longs. -/
def fr_up (f : Nat → Nat → Int32) (r k : Nat) (v : Int32) : Nat → Nat → Int32 := fun r' k' => if r' = r ∧ k' = k then v else f r' k'
def fr_uc (al : Nat → Nat) (f : Nat → Nat → Int32) (i : Nat) : Nat × va_E := (al (7 + i), .inr (1, [.int (f 1 i), .int (f 2 i), .int (f 3 i)]))
def fr_rc (al : Nat → Nat) (f : Nat → Nat → Int32) (i : Nat) : Nat × va_E := (al (17 + i), .inr (2, [.int (f 4 i), .int (f 5 i), .int (f 6 i), .int (f 7 i)]))
def fr_oc (al : Nat → Nat) (f : Nat → Nat → Int32) : Nat × va_E := (al 0, .inr (0, [.ref (al 1), .int (f 0 0), .ref (al 2), .int (f 0 1), .ref (al 3), .ref (al 4), .int (f 0 2), .ref (al 5), .int (f 0 3), .int (f 0 4)]))
def fr_tc (al : Nat → Nat) (f : Nat → Nat → Int32) : Nat × va_E := (al 5, .inr (3, [.ref (al 6), .int (f 0 5)]))
def fr_ia (c : ClassId) (n a : Nat) (f : Nat → Int32) : Nat × va_E := (a, .inl (c, n, .inl f))
def fr_qa (c : ClassId) (n a : Nat) (g : Nat → Option Nat) : Nat × va_E := (a, .inl (c, n, .inr (.inr (.inr (.inr g)))))
def fr_cw (ka : Nat → ClassId) (al : Nat → Nat) (f : Nat → Nat → Int32) (Z : va_W) : va_W :=
  fr_oc al f :: fr_qa (ka 0) 10 (al 1) (fun i => some (al (7 + i))) :: fr_qa (ka 1) 12 (al 2) (fun i => some (al (17 + i))) :: fr_ia (ka 2) 12 (al 3) (fun j => f 8 j) :: fr_ia (ka 2) 12 (al 4) (fun j => f 9 j) :: fr_tc al f :: fr_ia (ka 2) 200 (al 6) (fun j => f 10 j) ::
    ((List.range 10).map (fr_uc al f) ++ ((List.range 12).map (fr_rc al f) ++ Z))
theorem fr_cw_u {ka : Nat → ClassId} {al : Nat → Nat} {f : Nat → Nat → Int32} {Z : va_W} {i : Nat} (h : i < 10) : (fr_cw ka al f Z)[7 + i]? = some (fr_uc al f i) := by
  rw [show 7 + i = i + 7 from Nat.add_comm _ _]
  show ((List.range 10).map (fr_uc al f) ++ ((List.range 12).map (fr_rc al f) ++ Z))[i]? = _
  rw [List.getElem?_append_left (by simpa using h)]
  simp [List.getElem?_range, h]
theorem fr_cw_r {ka : Nat → ClassId} {al : Nat → Nat} {f : Nat → Nat → Int32} {Z : va_W} {i : Nat} (h : i < 12) : (fr_cw ka al f Z)[17 + i]? = some (fr_rc al f i) := by
  rw [show 17 + i = (i + 10) + 7 from by omega]
  show ((List.range 10).map (fr_uc al f) ++ ((List.range 12).map (fr_rc al f) ++ Z))[i + 10]? = _
  rw [List.getElem?_append_right (by simp), List.getElem?_append_left (by simpa using h)]
  simp [List.getElem?_range, h]
/-- a cell of a row of cells is written: the row of the new numbers -/
theorem fr_map_set {β : Type} (F G : Nat → β) (n i : Nat) (h : i < n) (hne : ∀ j, j ≠ i → F j = G j) : ((List.range n).map F).set i (G i) = (List.range n).map G := by
  apply List.ext_getElem?
  intro j
  by_cases hj : j = i
  · subst hj
    rw [List.getElem?_set_self (by simpa using h)]
    simp [List.getElem?_range, h]
  · rw [List.getElem?_set_ne (Ne.symm hj)]
    simp only [List.getElem?_map]
    by_cases hl : j < n
    · simp [List.getElem?_range, hl, hne j hj]
    · simp [List.getElem?_range, hl]
theorem fr_up_s {f : Nat → Nat → Int32} {r k : Nat} {v : Int32} : fr_up f r k v r k = v := by simp [fr_up]
theorem fr_up_r {f : Nat → Nat → Int32} {r k r' k' : Nat} {v : Int32} (h : r' ≠ r) : fr_up f r k v r' k' = f r' k' := by simp [fr_up, h]
theorem fr_up_k {f : Nat → Nat → Int32} {r k r' k' : Nat} {v : Int32} (h : k' ≠ k) : fr_up f r k v r' k' = f r' k' := by simp [fr_up, h]
/-! NUMBERS -/
theorem fr_t1 {x y : Int32} (h : x < y) : x.toInt < y.toInt := Int32.lt_iff_toInt_lt.mp h
theorem fr_t2 {x y : Int32} (h : ¬ x < y) : y.toInt ≤ x.toInt := by rw [Int32.lt_iff_toInt_lt] at h; omega
theorem fr_t3 {x y : Int32} (h : x ≤ y) : x.toInt ≤ y.toInt := Int32.le_iff_toInt_le.mp h
theorem fr_t4 {x y : Int32} (h : ¬ x ≤ y) : y.toInt < x.toInt := by rw [Int32.le_iff_toInt_le] at h; omega
theorem fr_t5 {x y : Int32} (h : x = y) : x.toInt = y.toInt := by rw [h]
theorem fr_t6 {x y : Int32} (h : ¬ x = y) : x.toInt ≠ y.toInt := fun q => h (Int32.toInt_inj.mp q)
theorem fr_no {P : Prop} {Q : Prop} (h : P) (g : ¬ P) : Q := absurd h g
theorem fr_lt {x : Int32} {n : Nat} (h : vp_in x n) : x.toNatClampNeg < n := Nat.not_le.mp fun q => h (Or.inr q)
theorem fr_clamp {x : Int32} (h : 0 ≤ x.toInt) : (x.toNatClampNeg : Int) = x.toInt := Int.toNat_of_nonneg h
theorem fr_sub1 {x : Int32} (h : 1 ≤ x.toInt) : (x - 1).toInt = x.toInt - 1 := by
  have h1 := x.toInt_lt
  rw [Int32.toInt_sub, show (1 : Int32).toInt = 1 from rfl, Int.bmod_def]
  split <;> omega
theorem fr_add1 {x : Int32} (h0 : 0 ≤ x.toInt) (h : x.toInt < 2147483647) : (x + 1).toInt = x.toInt + 1 := by
  rw [Int32.toInt_add, show (1 : Int32).toInt = 1 from rfl, Int.bmod_def]
  split <;> omega
theorem fr_step {x B : Int32} {b : Int} {n : Nat} (hB : B.toInt = b) (c : ¬ B ≤ x) (h : 0 ≤ x.toInt ∧ x.toInt ≤ b ∧ b < x.toInt + ((n + 1 : Nat) : Int)) : 0 ≤ (x + 1).toInt ∧ (x + 1).toInt ≤ b ∧ b < (x + 1).toInt + (n : Int) := by
  have h1 := fr_t4 c
  have h2 := B.toInt_lt
  have h3 := fr_add1 (x := x) h.1 (by omega)
  omega
theorem fr_start {B : Int32} {k : Int} {n : Nat} (h : 0 ≤ B.toInt ∧ B.toInt ≤ k) (hk : k < (n : Int)) : 0 ≤ (0 : Int32).toInt ∧ (0 : Int32).toInt ≤ B.toInt ∧ B.toInt < (0 : Int32).toInt + (n : Int) := by
  have z : (0 : Int32).toInt = 0 := rfl
  omega
/-- the order's numbers are rules' numbers -/
def fr_ord (f : Nat → Nat → Int32) : Prop := ∀ k : Nat, (k : Int) < (f 0 1).toInt → 1 ≤ (f 8 k).toInt ∧ (f 8 k).toInt ≤ (f 0 1).toInt
/-- at the head of the asking loop -/
def fr_lp (g : Nat → Nat → Int32) (x : Int32) (n : Nat) : Prop := (0 ≤ (g 0 1).toInt ∧ (g 0 1).toInt ≤ 12) ∧ fr_ord g ∧ 0 ≤ (g 0 2).toInt ∧ (g 0 2).toInt ≤ x.toInt ∧ 0 ≤ x.toInt ∧ x.toInt ≤ (g 0 1).toInt ∧ (g 0 1).toInt < x.toInt + (n : Int)
theorem fr_lp_0 {g : Nat → Nat → Int32} {x : Int32} {P : Prop} (h : fr_lp g x 0) : P := by
  obtain ⟨h1, h2, h3, h4, h5, h6, h7⟩ := h
  exact absurd h7 (by omega)
theorem fr_lp_ord {g : Nat → Nat → Int32} {x : Int32} {n : Nat} (h : fr_lp g x n) (c : ¬ g 0 1 ≤ x) : 1 ≤ (g 8 x.toNatClampNeg).toInt ∧ (g 8 x.toNatClampNeg).toInt ≤ (g 0 1).toInt := by
  obtain ⟨h1, h2, h3, h4, h5, h6, h7⟩ := h
  have h8 := fr_t4 c
  exact h2 _ (by rw [fr_clamp h5]; exact h8)
theorem fr_lp_in {f : Nat → Nat → Int32} (gR : 0 ≤ (f 0 1).toInt ∧ (f 0 1).toInt ≤ 12) (gO : fr_ord f) : fr_lp (fr_up f 0 2 0) 0 13 := by
  have z : (0 : Int32).toInt = 0 := rfl
  refine ⟨gR, gO, ?_, ?_, ?_, ?_, ?_⟩
  · show 0 ≤ (0 : Int32).toInt; omega
  · show (0 : Int32).toInt ≤ _; omega
  · omega
  · show _ ≤ (f 0 1).toInt; omega
  · show (f 0 1).toInt < _; omega
theorem fr_lp_a {g : Nat → Nat → Int32} {x : Int32} {n : Nat} (h : fr_lp g x (n + 1)) (c : ¬ g 0 1 ≤ x) : fr_lp g (x + 1) n := by
  obtain ⟨h1, h2, h3, h4, h5, h6, h7⟩ := h
  have h8 := fr_t4 c
  have h9 := fr_add1 (x := x) h5 (by omega)
  exact ⟨h1, h2, h3, by omega, by omega, by omega, by omega⟩
theorem fr_lp_b {g : Nat → Nat → Int32} {x v : Int32} {n k : Nat} (h : fr_lp g x (n + 1)) (c : ¬ g 0 1 ≤ x) : fr_lp (fr_up (fr_up g 9 k v) 0 2 (g 0 2 + 1)) (x + 1) n := by
  obtain ⟨h1, h2, h3, h4, h5, h6, h7⟩ := h
  have h8 := fr_t4 c
  have h9 := fr_add1 (x := x) h5 (by omega)
  have h10 := fr_add1 (x := g 0 2) h3 (by omega)
  have e1 : fr_up (fr_up g 9 k v) 0 2 (g 0 2 + 1) 0 2 = g 0 2 + 1 := rfl
  have e2 : fr_up (fr_up g 9 k v) 0 2 (g 0 2 + 1) 0 1 = g 0 1 := rfl
  refine ⟨h1, h2, ?_, ?_, by omega, ?_, ?_⟩
  · rw [e1]; omega
  · rw [e1]; omega
  · rw [e2]; omega
  · rw [e2]; omega
def fr_row (f : Nat → Nat → Int32) (r : Nat) (h : Nat → Int32) : Nat → Nat → Int32 := fun r' k' => if r' = r then h k' else f r' k'
def fr_ro (g : Nat → Nat → Int32) : Prop := (0 ≤ (g 0 1).toInt ∧ (g 0 1).toInt ≤ 12) ∧ fr_ord g
/-- at the head of the loop over the marks -/
def fr_mk (x : Int32) (n : Nat) : Prop := (x = 1 ∧ 6 ≤ n) ∨ (x = 2 ∧ 5 ≤ n) ∨ (x = 4 ∧ 4 ≤ n) ∨ (x = 8 ∧ 3 ≤ n) ∨ (x = 16 ∧ 2 ≤ n) ∨ (x = 32 ∧ 1 ≤ n)
theorem fr_mk_0 {x : Int32} {P : Prop} (h : fr_mk x 0) : P := by
  rcases h with ⟨-, h⟩ | ⟨-, h⟩ | ⟨-, h⟩ | ⟨-, h⟩ | ⟨-, h⟩ | ⟨-, h⟩ <;> exact absurd h (by omega)
theorem fr_mk_b {x : Int32} {n : Nat} (h : fr_mk x (n + 1)) (c : ¬ 16 < x) : fr_mk (x <<< ((1 : Int32) &&& 31)) n := by
  rcases h with ⟨rfl, h⟩ | ⟨rfl, h⟩ | ⟨rfl, h⟩ | ⟨rfl, h⟩ | ⟨rfl, h⟩ | ⟨rfl, h⟩
  · exact Or.inr (Or.inl ⟨by decide, by omega⟩)
  · exact Or.inr (Or.inr (Or.inl ⟨by decide, by omega⟩))
  · exact Or.inr (Or.inr (Or.inr (Or.inl ⟨by decide, by omega⟩)))
  · exact Or.inr (Or.inr (Or.inr (Or.inr (Or.inl ⟨by decide, by omega⟩))))
  · exact Or.inr (Or.inr (Or.inr (Or.inr (Or.inr ⟨by decide, by omega⟩))))
  · exact absurd (by decide) c
/-- at the head of the loop over the lines -/
def fr_al (g : Nat → Nat → Int32) (x y : Int32) (n : Nat) : Prop := (0 ≤ (g 0 5).toInt ∧ (g 0 5).toInt ≤ 200) ∧ 0 ≤ (g 0 1).toInt ∧ (g 0 1).toInt + (x.toInt - y.toInt) ≤ 12 ∧ 0 ≤ y.toInt ∧ y.toInt ≤ x.toInt ∧ x.toInt < y.toInt + (n : Int)
theorem fr_al_0 {g : Nat → Nat → Int32} {x y : Int32} {P : Prop} (h : fr_al g x y 0) : P := by
  obtain ⟨-, -, -, -, h1, h2⟩ := h
  exact absurd h2 (by omega)
theorem fr_al_in {f : Nat → Nat → Int32} {x : Int32} (gT : 0 ≤ (f 0 5).toInt ∧ (f 0 5).toInt ≤ 200) (gR : 0 ≤ (f 0 1).toInt ∧ (f 0 1).toInt + x.toInt ≤ 12 ∧ 0 ≤ x.toInt) : fr_al f x 0 13 := by
  have z : (0 : Int32).toInt = 0 := rfl
  exact ⟨gT, gR.1, by omega, by omega, by omega, by omega⟩
theorem fr_al_r {g : Nat → Nat → Int32} {x y : Int32} {n : Nat} (h : fr_al g x y n) (c : ¬ x ≤ y) : 0 ≤ (g 0 1).toInt ∧ (g 0 1).toInt < 12 := by
  obtain ⟨-, h1, h2, h3, h4, h5⟩ := h
  have := fr_t4 c
  omega
theorem fr_nv {f : Nat → Nat → Int32} {x3 : Int32} {n : Nat} (gR : 0 ≤ (f 0 1).toInt ∧ (f 0 1).toInt ≤ 12) (hm : 1 ≤ x3.toInt ∧ x3.toInt ≤ (f 0 1).toInt + 1 ∧ (f 0 1).toInt + 1 < x3.toInt + ((n + 1 : Nat) : Int)) (c : ¬ f 0 1 < x3) : 1 ≤ (x3 + 1).toInt ∧ (x3 + 1).toInt ≤ (f 0 1).toInt + 1 ∧ (f 0 1).toInt + 1 < (x3 + 1).toInt + (n : Int) := by
  have h1 := fr_t2 c
  have h2 := fr_add1 (x := x3) (by omega) (by omega)
  omega
