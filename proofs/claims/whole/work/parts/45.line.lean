/-! READING: a line of the text, on both sides. -/
abbrev pq (g : Nat → Nat → Int32) (q b : Int32) : Nat → Nat → Int32 := fr_up (fr_up g 0 13 q) 0 14 b
def lk (g : Nat → Nat → Int32) (q : Int32) : Int32 := if g 0 2 ≤ q then -1 else g 9 q.toNatClampNeg
theorem pq_look {g : Nat → Nat → Int32} {q b : Int32} : dn_m_look (pq g q b) = lk g q := rfl
theorem pq_up {g : Nat → Nat → Int32} {q b v : Int32} : fr_up (pq g q b) 0 13 v = pq g v b := by
  funext r k
  unfold pq fr_up
  by_cases h1 : r = 0 ∧ k = 13
  · have h2 : ¬ (r = 0 ∧ k = 14) := by omega
    simp only [if_pos h1, if_neg h2]
  · simp only [if_neg h1]
theorem pq_bad {g : Nat → Nat → Int32} {q b v : Int32} : fr_up (pq g q b) 0 14 v = pq g q v := by
  funext r k
  unfold pq fr_up
  by_cases h1 : r = 0 ∧ k = 14
  · simp only [if_pos h1]
  · simp only [if_neg h1]
theorem pq_fail {g : Nat → Nat → Int32} {q : Int32} : dn_m_fail (pq g q (-1)) = pq g q q := by
  unfold dn_m_fail
  rw [if_neg (show ¬ (0 : Int32) ≤ pq g q (-1) 0 14 from (by decide : ¬ (0 : Int32) ≤ -1))]
  exact pq_bad
theorem pq_take_y {g : Nat → Nat → Int32} {q c : Int32} (h : lk g q = c) : dn_m_take (pq g q (-1)) c = pq g (q + 1) (-1) := by
  unfold dn_m_take
  rw [if_pos (show pq g q (-1) 0 14 < 0 from (by decide : (-1 : Int32) < 0)), pq_look, if_pos h]
  exact pq_up
theorem pq_take_n {g : Nat → Nat → Int32} {q c : Int32} (h : ¬ lk g q = c) : dn_m_take (pq g q (-1)) c = pq g q q := by
  unfold dn_m_take
  rw [if_pos (show pq g q (-1) 0 14 < 0 from (by decide : (-1 : Int32) < 0)), pq_look, if_neg h]
  exact pq_fail
theorem pq_digit_y {g : Nat → Nat → Int32} {q c : Int32} (h : ¬ lk g q = -1) (h2 : ¬ dn_m_within (lk g q - 48) 0 c = 0) : dn_m_digit (pq g q (-1)) c = (lk g q - 48, pq g (q + 1) (-1)) := by
  unfold dn_m_digit
  rw [if_pos (show pq g q (-1) 0 14 < 0 from (by decide : (-1 : Int32) < 0)), pq_look, if_neg h, if_neg h2]
  exact congrArg _ pq_up
theorem pq_digit_n {g : Nat → Nat → Int32} {q c : Int32} (h : lk g q = -1 ∨ dn_m_within (lk g q - 48) 0 c = 0) : dn_m_digit (pq g q (-1)) c = (-1, pq g q q) := by
  unfold dn_m_digit
  rw [if_pos (show pq g q (-1) 0 14 < 0 from (by decide : (-1 : Int32) < 0)), pq_look, pq_fail]
  by_cases z : lk g q = -1
  · rw [if_pos z]
  · rcases h with h | h
    · exact absurd h z
    · rw [if_neg z, if_pos h]
/-! once it is wrong, it stays so -/
theorem pb_take {g : Nat → Nat → Int32} {q b c : Int32} (hb : 0 ≤ b) : dn_m_take (pq g q b) c = pq g q b := by
  unfold dn_m_take
  rw [if_neg (show ¬ pq g q b 0 14 < 0 from fun z => by
    have z : b < 0 := z
    have := fr_t1 z
    have := fr_t3 hb
    omega)]
theorem pb_digit {g : Nat → Nat → Int32} {q b c : Int32} (hb : 0 ≤ b) : dn_m_digit (pq g q b) c = (-1, pq g q b) := by
  unfold dn_m_digit
  rw [if_neg (show ¬ pq g q b 0 14 < 0 from fun z => by
    have z : b < 0 := z
    have := fr_t1 z
    have := fr_t3 hb
    omega)]
theorem pb_114 {g : Nat → Nat → Int32} {q b x x2 x3 x4 : Int32} (hb : 0 ≤ b) : dn_m_line_114 x (pq g q b) x2 x3 x4 = pq g q b := by
  unfold dn_m_line_114
  rw [pb_take hb, if_pos (show 0 ≤ pq g q b 0 14 from hb)]
theorem pb_69 {g : Nat → Nat → Int32} {q b x x2 x3 x4 : Int32} (hb : 0 ≤ b) : dn_m_line_69 x (pq g q b) x2 x3 x4 = pq g q b := by
  unfold dn_m_line_69
  rw [if_pos (show 0 ≤ pq g q b 0 14 from hb)]
  exact pb_114 hb
theorem rd_17 {g : Nat → Nat → Int32} {x R : Int32} : dn_m_line_17 x g R = dn_m_line_69 x (dn_m_digit (dn_m_take ((dn_m_digit (dn_m_take (fr_up g 0 13 ((g 0 13) + 1)) 32) 7).2) 32) (if R = 2 then 9 else if R = 3 then 9 else 7)).2 R ((dn_m_digit (dn_m_take (fr_up g 0 13 ((g 0 13) + 1)) 32) 7).1) (dn_m_digit (dn_m_take ((dn_m_digit (dn_m_take (fr_up g 0 13 ((g 0 13) + 1)) 32) 7).2) 32) (if R = 2 then 9 else if R = 3 then 9 else 7)).1 := by
  unfold dn_m_line_17
  by_cases h2 : R = 2
  · rw [if_pos h2, if_pos h2]
  · rw [if_neg h2, if_neg h2]
    by_cases h3 : R = 3
    · rw [if_pos h3, if_pos h3]
    · rw [if_neg h3, if_neg h3]
/-- the line's head: sign, blank, digit, blank, digit; wrong at b, or come to the second digit's end -/
theorem rd_17n0 {g : Nat → Nat → Int32} {x R q b : Int32} (hb : 0 ≤ b) : dn_m_line_17 x (pq g q b) R = pq g (q + 1) b := by
  rw [rd_17, pq_up, pb_take hb, pb_digit hb]
  dsimp only
  rw [pb_take hb, pb_digit hb]
  exact pb_69 hb
theorem rd_17n1 {g : Nat → Nat → Int32} {x R q : Int32} (hb : 0 ≤ q + 1) (h1 : ¬ lk g (q + 1) = 32) : dn_m_line_17 x (pq g q (-1)) R = pq g (q + 1) (q + 1) := by
  rw [rd_17, pq_up]
  show dn_m_line_69 x (dn_m_digit (dn_m_take ((dn_m_digit (dn_m_take (pq g (q + 1) (-1)) 32) 7).2) 32) _).2 R _ _ = _
  rw [pq_take_n h1, pb_digit hb]
  dsimp only
  rw [pb_take hb, pb_digit hb]
  exact pb_69 hb
theorem rd_17n2 {g : Nat → Nat → Int32} {x R q : Int32} (hb : 0 ≤ q + 1 + 1) (h1 : lk g (q + 1) = 32) (h2 : lk g (q + 1 + 1) = -1 ∨ dn_m_within (lk g (q + 1 + 1) - 48) 0 7 = 0) : dn_m_line_17 x (pq g q (-1)) R = pq g (q + 1 + 1) (q + 1 + 1) := by
  rw [rd_17, pq_up]
  show dn_m_line_69 x (dn_m_digit (dn_m_take ((dn_m_digit (dn_m_take (pq g (q + 1) (-1)) 32) 7).2) 32) _).2 R _ _ = _
  rw [pq_take_y h1, pq_digit_n h2]
  dsimp only
  rw [pb_take hb, pb_digit hb]
  exact pb_69 hb
theorem rd_17n3 {g : Nat → Nat → Int32} {x R q : Int32} (hb : 0 ≤ q + 1 + 1 + 1) (h1 : lk g (q + 1) = 32) (h2 : ¬ lk g (q + 1 + 1) = -1) (h2' : ¬ dn_m_within (lk g (q + 1 + 1) - 48) 0 7 = 0) (h3 : ¬ lk g (q + 1 + 1 + 1) = 32) : dn_m_line_17 x (pq g q (-1)) R = pq g (q + 1 + 1 + 1) (q + 1 + 1 + 1) := by
  rw [rd_17, pq_up]
  show dn_m_line_69 x (dn_m_digit (dn_m_take ((dn_m_digit (dn_m_take (pq g (q + 1) (-1)) 32) 7).2) 32) _).2 R _ _ = _
  rw [pq_take_y h1, pq_digit_y h2 h2']
  dsimp only
  rw [pq_take_n h3, pb_digit hb]
  exact pb_69 hb
theorem rd_17y {g : Nat → Nat → Int32} {x R q : Int32} (h1 : lk g (q + 1) = 32) (h2 : ¬ lk g (q + 1 + 1) = -1) (h2' : ¬ dn_m_within (lk g (q + 1 + 1) - 48) 0 7 = 0) (h3 : lk g (q + 1 + 1 + 1) = 32) : dn_m_line_17 x (pq g q (-1)) R = dn_m_line_69 x (dn_m_digit (pq g (q + 1 + 1 + 1 + 1) (-1)) (if R = 2 then 9 else if R = 3 then 9 else 7)).2 R (lk g (q + 1 + 1) - 48) (dn_m_digit (pq g (q + 1 + 1 + 1 + 1) (-1)) (if R = 2 then 9 else if R = 3 then 9 else 7)).1 := by
  rw [rd_17, pq_up]
  show dn_m_line_69 x (dn_m_digit (dn_m_take ((dn_m_digit (dn_m_take (pq g (q + 1) (-1)) 32) 7).2) 32) _).2 R (dn_m_digit (dn_m_take (pq g (q + 1) (-1)) 32) 7).1 (dn_m_digit (dn_m_take ((dn_m_digit (dn_m_take (pq g (q + 1) (-1)) 32) 7).2) 32) _).1 = _
  rw [pq_take_y h1, pq_digit_y h2 h2']
  dsimp only
  rw [pq_take_y h3]
theorem rd_114 {g : Nat → Nat → Int32} {x x2 x3 x4 q : Int32} (hb : 0 ≤ q) : dn_m_line_114 x (pq g q (-1)) x2 x3 x4 = if lk g q = 10 then (if x = 0 then pq g (q + 1) (-1) else dn_m_add (pq g (q + 1) (-1)) x2 x3 x4) else pq g q q := by
  unfold dn_m_line_114
  by_cases h : lk g q = 10
  · rw [pq_take_y h, if_pos h, if_neg (show ¬ (0 : Int32) ≤ pq g (q + 1) (-1) 0 14 from (by decide : ¬ (0 : Int32) ≤ -1))]
  · rw [pq_take_n h, if_neg h, if_pos (show 0 ≤ pq g q q 0 14 from hb)]
theorem pq_add {g : Nat → Nat → Int32} {x y k q b : Int32} : dn_m_add (pq g q b) x y k = pq (dn_m_add g x y k) q b := by
  funext r j
  unfold dn_m_add pq
  show fr_up (fr_up (fr_up (fr_up (fr_up (fr_up (fr_up (fr_up g 0 13 q) 0 14 b) 4 (g 0 1).toNatClampNeg x) 5 (g 0 1).toNatClampNeg y) 6 (g 0 1).toNatClampNeg k) 7 (g 0 1).toNatClampNeg 0) 8 (g 0 1).toNatClampNeg (g 0 1)) 0 1 (g 0 1 + 1) r j = _
  unfold fr_up
  by_cases h0 : r = 0
  · subst h0
    by_cases h1 : j = 1
    · subst h1; rfl
    · by_cases h13 : j = 13
      · subst h13; rfl
      · by_cases h14 : j = 14
        · subst h14; rfl
        · simp [h1, h13, h14]
  · simp [h0]
/-! the class's digits -/
def dg (s : Int32) : Int32 := if s < 48 then -1 else if 57 < s then -1 else s - 48
theorem dg_at {f : Nat → Nat → Int32} {x : Int32} : dn_digitAt f x = dg (dn_signAt f x) := rfl
theorem dg_sub {s : Int32} (h : ¬ s < 48) : (s - 48).toInt = s.toInt - 48 := by
  have := fr_t2 h
  have e : (48 : Int32).toInt = 48 := rfl
  exact (fr_sub (a := s) (b := 48) (by omega) (by omega)).trans (by omega)
theorem dg_in {s m : Int32} (hm0 : 0 ≤ m.toInt) (hm : m.toInt ≤ 9) : dn_within (dg s) m = 0 ↔ (s = -1 ∨ dn_m_within (s - 48) 0 m = 0) := by
  have z : (0 : Int32).toInt = 0 := rfl
  have e48 : (48 : Int32).toInt = 48 := rfl
  have e57 : (57 : Int32).toInt = 57 := rfl
  unfold dg
  by_cases h1 : s < 48
  · rw [if_pos h1]
    have e : dn_within (-1) m = 0 := by unfold dn_within; rw [if_pos (by decide)]
    refine ⟨fun _ => Or.inr ?_, fun _ => e⟩
    have h2 := fr_t1 h1
    have h3 : (s - 48).toInt < 0 ∨ 9 < (s - 48).toInt := by
      have := s.le_toInt
      rw [Int32.toInt_sub, e48, Int.bmod_def]
      split <;> omega
    unfold dn_m_within
    by_cases q : s - 48 < 0
    · rw [if_pos q]
    · have q1 := fr_t2 q
      rw [if_neg q, if_pos (by rw [Int32.lt_iff_toInt_lt]; omega)]
  · rw [if_neg h1]
    have h2 := dg_sub h1
    have h1' := fr_t2 h1
    by_cases h3 : 57 < s
    · rw [if_pos h3]
      have e : dn_within (-1) m = 0 := by unfold dn_within; rw [if_pos (by decide)]
      refine ⟨fun _ => Or.inr ?_, fun _ => e⟩
      have h4 := fr_t1 h3
      unfold dn_m_within
      have q : ¬ s - 48 < 0 := fun w => by
        have := fr_t1 w
        omega
      rw [if_neg q, if_pos (by rw [Int32.lt_iff_toInt_lt]; omega)]
    · rw [if_neg h3]
      constructor
      · intro w; exact Or.inr w
      · intro w
        rcases w with w | w
        · rw [w] at h1'; exact absurd h1' (by decide)
        · exact w
theorem dg_val {s m : Int32} (h : ¬ dn_within (dg s) m = 0) : dg s = s - 48 := by
  have e : dn_within (-1) m = 0 := by unfold dn_within; rw [if_pos (by decide)]
  unfold dg at h ⊢
  by_cases h1 : s < 48
  · rw [if_pos h1] at h; exact absurd e h
  · rw [if_neg h1] at h ⊢
    by_cases h3 : 57 < s
    · rw [if_pos h3] at h; exact absurd e h
    · rw [if_neg h3]
theorem dg_no {s : Int32} : dg s = -1 ↔ dn_m_within s 48 57 = 0 := by
  unfold dg dn_m_within
  by_cases h1 : s < 48
  · rw [if_pos h1, if_pos h1]; exact ⟨fun _ => rfl, fun _ => rfl⟩
  · rw [if_neg h1, if_neg h1]
    by_cases h3 : 57 < s
    · rw [if_pos h3, if_pos h3]; exact ⟨fun _ => rfl, fun _ => rfl⟩
    · rw [if_neg h3, if_neg h3]
      have h2 := dg_sub h1
      have h1' := fr_t2 h1
      have e48 : (48 : Int32).toInt = 48 := rfl
      refine ⟨fun w => ?_, fun w => absurd w (by decide)⟩
      rw [w] at h2
      have : (-1 : Int32).toInt = -1 := rfl
      omega
