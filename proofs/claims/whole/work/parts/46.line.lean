theorem rd_row {f : Nat → Nat → Int32} {q : Int32} : dn_rowAt f q = dn_m_rowOf (dn_signAt f q) := by
  unfold dn_rowAt dn_m_rowOf
  generalize dn_signAt f q = s
  by_cases h1 : s = 65
  · subst h1; decide
  · by_cases h2 : s = 66
    · subst h2; decide
    · by_cases h3 : s = 76
      · subst h3; decide
      · by_cases h4 : s = 78
        · subst h4; decide
        · simp [h1, h2, h3, h4]
theorem rd_row_b {f : Nat → Nat → Int32} {q : Int32} (h : ¬ dn_rowAt f q = -1) : 0 ≤ (dn_rowAt f q).toInt ∧ (dn_rowAt f q).toInt ≤ 5 := by
  unfold dn_rowAt at h ⊢
  generalize dn_signAt f q = s at h ⊢
  by_cases h1 : s = 65
  · subst h1; decide
  · by_cases h2 : s = 66
    · subst h2; decide
    · by_cases h3 : s = 76
      · subst h3; decide
      · by_cases h4 : s = 78
        · subst h4; decide
        · simp [h1, h2, h3, h4] at h
theorem rd_sign {f g : Nat → Nat → Int32} (hs : f 0 5 = g 0 2) (ht : ∀ k, f 10 k = g 9 k) {x : Int32} (hx : 0 ≤ x.toInt) : dn_signAt f x = lk g x := by
  unfold dn_signAt lk
  have c : ¬ x < 0 := fun z => by
    have := fr_t1 z
    have : (0 : Int32).toInt = 0 := rfl
    omega
  rw [if_neg c, hs, ht]
theorem rd_neg {q c d : Int32} (hq : 0 ≤ q.toInt ∧ q.toInt ≤ 1000) (hc : -10 ≤ c.toInt ∧ c.toInt ≤ -1) (hd : d.toInt = -1 - c.toInt) : (-1) - (c - q) = q + d ∧ c - q < 0 ∧ 0 ≤ q + d := by
  have e1 : (-1 : Int32).toInt = -1 := rfl
  have z : (0 : Int32).toInt = 0 := rfl
  have h1 : (c - q).toInt = c.toInt - q.toInt := by
    rw [Int32.toInt_sub, Int.bmod_def]; split <;> omega
  have h2 : (q + d).toInt = q.toInt + d.toInt := by
    rw [Int32.toInt_add, Int.bmod_def]; split <;> omega
  have h3 : ((-1) - (c - q)).toInt = -1 - (c.toInt - q.toInt) := by
    rw [Int32.toInt_sub, h1, e1, Int.bmod_def]; split <;> omega
  refine ⟨Int32.toInt_inj.mp (by omega), ?_, ?_⟩
  · rw [Int32.lt_iff_toInt_lt]; omega
  · rw [Int32.le_iff_toInt_le]; omega
theorem rd_plus {q i : Int32} (hq : 0 ≤ q.toInt ∧ q.toInt ≤ 1000) (hi : 0 ≤ i.toInt ∧ i.toInt ≤ 10) : (q + i).toInt = q.toInt + i.toInt := by
  rw [Int32.toInt_add, Int.bmod_def]; split <;> omega
/-- what a line comes to -/
def rd_L (f g : Nat → Nat → Int32) (q x b : Int32) (M : Nat → Nat → Int32) (row a c : Int32) : Prop :=
  ((b = q + 6 ∨ b = q + 7) ∧ M = pq (if x = 0 then g else dn_m_add g row a c) b (-1)) ∨ (b < 0 ∧ 0 ≤ (-1) - b ∧ ∃ q', M = pq g q' ((-1) - b))
theorem rd_end {f g : Nat → Nat → Int32} (hs : f 0 5 = g 0 2) (ht : ∀ k, f 10 k = g 9 k) {q e x row a c : Int32} (he : 0 ≤ e.toInt ∧ e.toInt ≤ 1000) (hq : e + 1 = q + 6 ∨ e + 1 = q + 7) : rd_L f g q x (if dn_signAt f e = 10 then e + 1 else (-1) - e) (dn_m_line_114 x (pq g e (-1)) row a c) row a c := by
  have z : (0 : Int32).toInt = 0 := rfl
  have h0 : 0 ≤ e := by rw [Int32.le_iff_toInt_le]; omega
  rw [rd_114 h0, rd_sign hs ht he.1]
  by_cases h : lk g e = 10
  · rw [if_pos h, if_pos h]
    refine Or.inl ⟨hq, ?_⟩
    by_cases hx : x = 0
    · rw [if_pos hx, if_pos hx]
    · rw [if_neg hx, if_neg hx, pq_add]
  · rw [if_neg h, if_neg h]
    obtain ⟨n1, n2, n3⟩ := rd_neg (q := e) (c := -1) (d := 0) he (by decide) (by decide)
    rw [Int32.add_zero] at n1 n3
    refine Or.inr ⟨n2, by rw [n1]; exact n3, e, by rw [n1]⟩
theorem rd_line {f g : Nat → Nat → Int32} (hs : f 0 5 = g 0 2) (ht : ∀ k, f 10 k = g 9 k) {q x : Int32} (hq : 0 ≤ q.toInt ∧ q.toInt ≤ 900) : rd_L f g q x (dn_behind f q) (dn_m_line (pq g q (-1)) x) (dn_rowAt f q) (dn_digitAt f (q + 2)) (dn_numberAt f (q + 4)) ∧ (0 ≤ dn_behind f q → ¬ dn_rowAt f q = -1) := by
  have z : (0 : Int32).toInt = 0 := rfl
  have P : ∀ i : Int32, 0 ≤ i.toInt → i.toInt ≤ 10 → (q + i).toInt = q.toInt + i.toInt := fun i h1 h2 => rd_plus ⟨hq.1, by omega⟩ ⟨h1, h2⟩
  have S : ∀ i : Int32, 0 ≤ i.toInt → i.toInt ≤ 10 → dn_signAt f (q + i) = lk g (q + i) := fun i h1 h2 => rd_sign hs ht (by rw [P i h1 h2]; omega)
  have N : ∀ i : Int32, 0 ≤ i.toInt → i.toInt ≤ 10 → 0 ≤ q + i := fun i h1 h2 => by rw [Int32.le_iff_toInt_le, P i h1 h2]; omega
  have hq' : 0 ≤ q.toInt ∧ q.toInt ≤ 1000 := ⟨hq.1, by omega⟩
  have a2 : q + 1 + 1 = q + 2 := by rw [Int32.add_assoc]; rfl
  have a3 : q + 2 + 1 = q + 3 := by rw [Int32.add_assoc]; rfl
  have a4 : q + 3 + 1 = q + 4 := by rw [Int32.add_assoc]; rfl
  have a5 : q + 4 + 1 = q + 5 := by rw [Int32.add_assoc]; rfl
  have a6 : q + 5 + 1 = q + 6 := by rw [Int32.add_assoc]; rfl
  have a7 : q + 6 + 1 = q + 7 := by rw [Int32.add_assoc]; rfl
  have s0 : dn_signAt f q = lk g q := rd_sign hs ht hq.1
  have s1 := S 1 (by decide) (by decide)
  have s2 := S 2 (by decide) (by decide)
  have s3 := S 3 (by decide) (by decide)
  have s4 := S 4 (by decide) (by decide)
  have s5 := S 5 (by decide) (by decide)
  have s6 := S 6 (by decide) (by decide)
  have i5 : 0 ≤ (q + 5).toInt ∧ (q + 5).toInt ≤ 1000 := by
    have := P 5 (by decide) (by decide)
    have : (5 : Int32).toInt = 5 := rfl
    omega
  have i6 : 0 ≤ (q + 6).toInt ∧ (q + 6).toInt ≤ 1000 := by
    have := P 6 (by decide) (by decide)
    have : (6 : Int32).toInt = 6 := rfl
    omega
  have hline : dn_m_line (pq g q (-1)) x = if dn_rowAt f q = -1 then dn_m_line_17 x (pq g q q) (dn_rowAt f q) else dn_m_line_17 x (pq g q (-1)) (dn_rowAt f q) := by
    unfold dn_m_line
    rw [pq_look, pq_fail, rd_row, s0]
  rw [hline]
  have num : ∀ d : Int32, dg (lk g (q + 5)) = d → dn_numberAt f (q + 4) = if d = -1 then dg (lk g (q + 4)) else 10 * dg (lk g (q + 4)) + d := fun d hd => by
    unfold dn_numberAt
    rw [a5, dg_at, dg_at, s5, s4, hd]
  unfold dn_behind
  rw [dg_at, dg_at, dg_at, s1, s2, s3, s4, s5]
  generalize hR : dn_rowAt f q = R
  by_cases r1 : R = -1
  · rw [if_pos r1, if_pos r1]
    obtain ⟨n1, n2, n3⟩ := rd_neg (c := -1) (d := 0) hq' (by decide) (by decide)
    rw [Int32.add_zero] at n1 n3
    rw [rd_17n0 n3]
    exact ⟨Or.inr ⟨n2, by rw [n1]; exact n3, q + 1, by rw [n1]⟩, fun h => by
      have := fr_t3 h
      have := fr_t1 n2
      omega⟩
  · rw [if_neg r1, if_neg r1]
    refine ⟨?_, fun _ => r1⟩
    by_cases c1 : lk g (q + 1) = 32
    · rw [if_pos c1]
      have k2 := dg_in (s := lk g (q + 2)) (m := 7) (by decide) (by decide)
      by_cases c2 : dn_within (dg (lk g (q + 2))) 7 = 0
      · rw [if_pos c2]
        obtain ⟨n1, n2, n3⟩ := rd_neg (c := -3) (d := 2) hq' (by decide) (by decide)
        rw [rd_17n2 (by rw [a2]; exact n3) c1 (by rw [a2]; exact k2.mp c2), a2]
        exact Or.inr ⟨n2, by rw [n1]; exact n3, q + 2, by rw [n1]⟩
      · rw [if_neg c2]
        have c2a : ¬ lk g (q + 1 + 1) = -1 := fun w => c2 (k2.mpr (Or.inl (a2 ▸ w)))
        have c2b : ¬ dn_m_within (lk g (q + 1 + 1) - 48) 0 7 = 0 := fun w => c2 (k2.mpr (Or.inr (a2 ▸ w)))
        by_cases c3 : lk g (q + 3) = 32
        · rw [if_pos c3, rd_17y c1 c2a c2b (by rw [a2, a3]; exact c3), a2, a3, a4, ← dg_val c2]
          have five : ∀ m : Int32, 0 ≤ m.toInt → m.toInt ≤ 9 → dn_within (dg (lk g (q + 4))) m = 0 → rd_L f g q x ((-5) - q) (dn_m_line_69 x (dn_m_digit (pq g (q + 4) (-1)) m).2 R (dg (lk g (q + 2))) (dn_m_digit (pq g (q + 4) (-1)) m).1) R (dg (lk g (q + 2))) (dn_numberAt f (q + 4)) := by
            intro m m0 m9 hm
            obtain ⟨n1, n2, n3⟩ := rd_neg (c := -5) (d := 4) hq' (by decide) (by decide)
            rw [pq_digit_n ((dg_in m0 m9).mp hm)]
            dsimp only
            rw [pb_69 n3]
            exact Or.inr ⟨n2, by rw [n1]; exact n3, q + 4, by rw [n1]⟩
          have good : ∀ m : Int32, 0 ≤ m.toInt → m.toInt ≤ 9 → ¬ dn_within (dg (lk g (q + 4))) m = 0 → dn_m_digit (pq g (q + 4) (-1)) m = (dg (lk g (q + 4)), pq g (q + 5) (-1)) := by
            intro m m0 m9 hm
            rw [pq_digit_y (fun w => hm ((dg_in m0 m9).mpr (Or.inl w))) (fun w => hm ((dg_in m0 m9).mpr (Or.inr w))), a5, dg_val hm]
          have one : lk g (q + 5) = 10 → dn_numberAt f (q + 4) = dg (lk g (q + 4)) := fun w => by
            have := num (-1) (by rw [w]; decide)
            rw [this, if_pos rfl]
          have end5 : rd_L f g q x (if lk g (q + 5) = 10 then (q + 5) + 1 else (-1) - (q + 5)) (dn_m_line_114 x (pq g (q + 5) (-1)) R (dg (lk g (q + 2))) (dg (lk g (q + 4)))) R (dg (lk g (q + 2))) (dn_numberAt f (q + 4)) := by
            have K := rd_end (x := x) (row := R) (a := dg (lk g (q + 2))) (c := dg (lk g (q + 4))) hs ht (q := q) (e := q + 5) i5 (Or.inl a6)
            rw [s5] at K
            by_cases w : lk g (q + 5) = 10
            · rw [one w]; exact K
            · rw [if_neg w] at K ⊢
              rcases K with ⟨K1, -⟩ | K
              · exfalso
                obtain ⟨-, n2, -⟩ := rd_neg (q := q + 5) (c := -1) (d := 0) i5 (by decide) (by decide)
                have := fr_t1 n2
                have p6 := P 6 (by decide) (by decide)
                have p7 := P 7 (by decide) (by decide)
                have e6 : (6 : Int32).toInt = 6 := rfl
                have e7 : (7 : Int32).toInt = 7 := rfl
                rcases K1 with K1 | K1 <;> rw [K1] at this <;> omega
              · exact Or.inr K
          have neg1 : ¬ (0 : Int32) ≤ pq g (q + 5) (-1) 0 14 := (by decide : ¬ (0 : Int32) ≤ -1)
          by_cases r2 : R = 2
          · rw [if_pos r2, if_pos r2]
            by_cases c4 : dn_within (dg (lk g (q + 4))) 9 = 0
            · rw [if_pos c4]; exact five 9 (by decide) (by decide) c4
            · rw [if_neg c4, good 9 (by decide) (by decide) c4]
              dsimp only
              unfold dn_m_line_69
              rw [if_neg neg1, if_pos r2, pq_look]
              have w4 := fr_wi c4
              by_cases c5 : dg (lk g (q + 4)) = 0
              · have c5' : dg (lk g (q + 4)) ≤ 0 := by rw [c5]; exact Int32.le_refl _
                rw [if_pos c5, if_pos c5']
                exact end5
              · have c5' : ¬ dg (lk g (q + 4)) ≤ 0 := fun w => by
                  have := fr_t3 w
                  have := fr_t6 c5
                  omega
                rw [if_neg c5, if_neg c5']
                by_cases c6 : dg (lk g (q + 5)) = -1
                · rw [if_pos c6, if_pos (dg_no.mp c6)]
                  exact end5
                · have c6' : ¬ dn_m_within (lk g (q + 5)) 48 57 = 0 := fun w => c6 (dg_no.mpr w)
                  rw [if_neg c6, if_neg c6']
                  have w9 : ¬ dn_within (dg (lk g (q + 5))) 9 = 0 := by
                    unfold dg
                    unfold dn_m_within at c6'
                    by_cases t1 : lk g (q + 5) < 48
                    · rw [if_pos t1] at c6'; exact absurd rfl c6'
                    · rw [if_neg t1] at c6' ⊢
                      by_cases t2 : 57 < lk g (q + 5)
                      · rw [if_pos t2] at c6'; exact absurd rfl c6'
                      · rw [if_neg t2]
                        have t3 := dg_sub t1
                        have t4 := fr_t2 t1
                        have t5 := fr_t2 t2
                        have e48 : (48 : Int32).toInt = 48 := rfl
                        have e57 : (57 : Int32).toInt = 57 := rfl
                        have e9 : (9 : Int32).toInt = 9 := rfl
                        unfold dn_within
                        rw [if_neg (fun w => by have := fr_t1 w; omega), if_neg (fun w => by have := fr_t1 w; omega)]
                        decide
                  have d5 : dn_m_digit (pq g (q + 5) (-1)) 9 = (dg (lk g (q + 5)), pq g (q + 6) (-1)) := by
                    rw [pq_digit_y (fun w => w9 ((dg_in (by decide) (by decide)).mpr (Or.inl w))) (fun w => w9 ((dg_in (by decide) (by decide)).mpr (Or.inr w))), a6, dg_val w9]
                  have n2 : dn_numberAt f (q + 4) = 10 * dg (lk g (q + 4)) + dg (lk g (q + 5)) := by
                    rw [num _ rfl, if_neg c6]
                  rw [d5, n2]
                  exact rd_end (x := x) hs ht (q := q) (e := q + 6) i6 (Or.inr a7)
          · rw [if_neg r2, if_neg r2]
            by_cases r3 : R = 3
            · rw [if_pos r3, if_pos r3]
              by_cases c4 : dn_within (dg (lk g (q + 4))) 9 = 0
              · rw [if_pos c4]; exact five 9 (by decide) (by decide) c4
              · rw [if_neg c4, good 9 (by decide) (by decide) c4]
                dsimp only
                unfold dn_m_line_69
                rw [if_neg neg1, if_neg r2]
                exact end5
            · rw [if_neg r3, if_neg r3]
              by_cases c4 : dn_within (dg (lk g (q + 4))) 7 = 0
              · rw [if_pos c4]; exact five 7 (by decide) (by decide) c4
              · rw [if_neg c4, good 7 (by decide) (by decide) c4]
                dsimp only
                unfold dn_m_line_69
                rw [if_neg neg1, if_neg r2]
                exact end5
        · rw [if_neg c3]
          obtain ⟨n1, n2, n3⟩ := rd_neg (c := -4) (d := 3) hq' (by decide) (by decide)
          rw [rd_17n3 (by rw [a2, a3]; exact n3) c1 c2a c2b (by rw [a2, a3]; exact c3), a2, a3]
          exact Or.inr ⟨n2, by rw [n1]; exact n3, q + 3, by rw [n1]⟩
    · rw [if_neg c1]
      obtain ⟨n1, n2, n3⟩ := rd_neg (c := -2) (d := 1) hq' (by decide) (by decide)
      rw [rd_17n1 n3 c1]
      exact Or.inr ⟨n2, by rw [n1]; exact n3, q + 1, by rw [n1]⟩
