theorem rd_lines {f g : Nat → Nat → Int32} (hs : f 0 5 = g 0 2) (ht : ∀ k, f 10 k = g 9 k) (hL : 0 ≤ (f 0 5).toInt ∧ (f 0 5).toInt ≤ 200) : ∀ (n N n' : Nat) (q c : Int32), rd_ok (f 0 5) (dn_behind f) N q → 0 ≤ q.toInt ∧ q.toInt ≤ 300 → (f 0 5).toInt < q.toInt + (n : Int) ∧ 1 ≤ n → (f 0 5).toInt < q.toInt + (n' : Int) ∧ 1 ≤ n' → 0 ≤ c.toInt ∧ c.toInt ≤ q.toInt → (dn_lineCount_4 n' f c q).toInt = c.toInt + (mo_cnt n (pq g q (-1)) : Int) := by
  intro n
  induction n with
  | zero => intro N n' q c _ _ h; exact absurd h.2 (by omega)
  | succ n ih =>
    intro N n' q c hk hq hn hn' hc
    cases N with
    | zero => exact absurd hk id
    | succ N =>
      rw [mo_cnt, if_neg rd_m1]
      rcases hk with hk | ⟨h1, h2, h3⟩
      · rw [if_pos (show pq g q (-1) 0 2 ≤ pq g q (-1) 0 13 by show g 0 2 ≤ q; rw [← hs]; exact hk)]
        cases n' with
        | zero => exact absurd hn'.2 (by omega)
        | succ m => rw [dn_lineCount_4, if_pos hk]; omega
      · have hlt := fr_t4 h1
        rw [if_neg (show ¬ pq g q (-1) 0 2 ≤ pq g q (-1) 0 13 by show ¬ g 0 2 ≤ q; rw [← hs]; exact h1)]
        obtain ⟨m, m1, m2, m3, m4, m5⟩ := rd_seg (f := f) (q := q) ⟨hq.1, by omega⟩ h2
        rcases (rd_line (x := 0) hs ht (q := q) ⟨hq.1, by omega⟩).1 with ⟨q1, q2⟩ | ⟨q1, -, -⟩
        · rw [q2, if_pos rfl]
          have e : n' = (n' - m) + m := by omega
          rw [e, m5]
          have hc1 := fr_add1 (x := c) hc.1 (by omega)
          have K := ih N (n' - m) (dn_behind f q) (c + 1) h3 ⟨by omega, by omega⟩ ⟨by omega, by omega⟩ ⟨by omega, by omega⟩ ⟨by omega, by omega⟩
          rw [K, hc1]
          omega
        · exact absurd h2 (rd_nn q1)
theorem rd_adds : ∀ (n N n' : Nat) (f g : Nat → Nat → Int32) (q cnt lines j : Int32), rl f g → rd_ok (f 0 5) (dn_behind f) N q → 0 ≤ q.toInt ∧ q.toInt ≤ 300 → (f 0 5).toInt < q.toInt + (n : Int) ∧ 1 ≤ n → 0 ≤ j.toInt → lines.toInt = j.toInt + (mo_cnt n (pq g q (-1)) : Int) → (f 0 1).toInt + (lines.toInt - j.toInt) ≤ 12 → lines.toInt < j.toInt + (n' : Int) → ∃ (c q' : Int32) (g' : Nat → Nat → Int32), dn_m_go_12 n 1 (pq g q (-1)) cnt = (c, pq g' q' (-1)) ∧ rl (dn_addLines_4 n' lines f q j) g' ∧ g' 0 5 = g 0 5 := by
  intro n
  induction n with
  | zero => intro N n' f g q cnt lines j _ _ _ h; exact absurd h.2 (by omega)
  | succ n ih =>
    intro N n' f g q cnt lines j hr hk hq hn hj hl hR hn'
    have hs : f 0 5 = g 0 2 := hr.1.2.2.2.2.2
    have ht : ∀ k, f 10 k = g 9 k := fun k => (hr.2.2.2.1 k).2.2.2.2.2
    have hL := hr.2.1.2.2.2
    cases N with
    | zero => exact absurd hk id
    | succ N =>
      cases n' with
      | zero => exact absurd hn' (by omega)
      | succ m =>
        rw [mo_cnt, if_neg rd_m1] at hl
        rw [dn_m_go_12, if_neg rd_m1, dn_addLines_4]
        rcases hk with hk | ⟨h1, h2, h3⟩
        · have c' : pq g q (-1) 0 2 ≤ pq g q (-1) 0 13 := by show g 0 2 ≤ q; rw [← hs]; exact hk
          rw [if_pos c'] at hl
          rw [if_pos c', if_pos (show lines ≤ j by rw [Int32.le_iff_toInt_le]; omega)]
          exact ⟨cnt, q, g, rfl, hr, rfl⟩
        · have hlt := fr_t4 h1
          have c' : ¬ pq g q (-1) 0 2 ≤ pq g q (-1) 0 13 := by show ¬ g 0 2 ≤ q; rw [← hs]; exact h1
          rw [if_neg c'] at hl
          have hrow := (rd_line (x := 0) hs ht (q := q) ⟨hq.1, by omega⟩).2 h2
          rcases (rd_line (x := 0) hs ht (q := q) ⟨hq.1, by omega⟩).1 with ⟨q1, q2⟩ | ⟨q1, -, -⟩
          · rcases (rd_line (x := 1) hs ht (q := q) ⟨hq.1, by omega⟩).1 with ⟨-, p2⟩ | ⟨q1, -, -⟩
            · rw [q2, if_pos rfl] at hl
              rw [if_neg (show ¬ (1 : Int32) = 0 by decide)] at p2
              have hb := rd_up ⟨hq.1, by omega⟩ q1
              have lj : j.toInt < lines.toInt := by omega
              have h12 := hr.2.1.2.1
              have hj1 := fr_add1 (x := j) hj (by have := lines.toInt_lt; omega)
              have ha := fr_add1 (x := f 0 1) h12.1 (by omega)
              rw [if_neg c', if_neg (show ¬ lines ≤ j from fun z => by have := fr_t3 z; omega), p2]
              have ce : mo_cnt n (pq (dn_m_add g (dn_rowAt f q) (dn_digitAt f (q + 2)) (dn_numberAt f (q + 4))) (dn_behind f q) (-1)) = mo_cnt n (pq g (dn_behind f q) (-1)) := mo_e_cnt n ⟨rfl, rfl, rfl, fun _ => rfl⟩
              exact ih N m (dn_addRule f (dn_rowAt f q) (dn_digitAt f (q + 2)) (dn_numberAt f (q + 4))).2 (dn_m_add g (dn_rowAt f q) (dn_digitAt f (q + 2)) (dn_numberAt f (q + 4))) (dn_behind f q) _ lines (j + 1) (rl_add hr (rd_row_b hrow) (by omega)) h3 ⟨by omega, by omega⟩ ⟨by show (f 0 5).toInt < _; omega, by omega⟩ (by omega) (by rw [ce]; omega) (by show (f 0 1 + 1).toInt + _ ≤ 12; omega) (by omega)
            · exact absurd h2 (rd_nn q1)
          · exact absurd h2 (rd_nn q1)
theorem rl_read_end {f g : Nat → Nat → Int32} {q b t : Int32} (h : rl f g) : rl (fr_up f 0 5 0) (fr_up (fr_up (pq g q b) 0 5 t) 0 2 0) := by
  obtain ⟨⟨n1, n2, n3, n4, n5, n6⟩, ⟨b1, b2, b3, b4⟩, r⟩ := h
  refine ⟨⟨n1, n2, n3, n4, n5, rfl⟩, ⟨b1, b2, b3, ?_⟩, r⟩
  show 0 ≤ (0 : Int32).toInt ∧ (0 : Int32).toInt ≤ 200
  decide
theorem rl_read_end2 {f g : Nat → Nat → Int32} {q b : Int32} (h : rl f g) : rl (fr_up f 0 5 0) (fr_up (pq g q b) 0 2 0) := by
  obtain ⟨⟨n1, n2, n3, n4, n5, n6⟩, ⟨b1, b2, b3, b4⟩, r⟩ := h
  refine ⟨⟨n1, n2, n3, n4, n5, rfl⟩, ⟨b1, b2, b3, ?_⟩, r⟩
  show 0 ≤ (0 : Int32).toInt ∧ (0 : Int32).toInt ≤ 200
  decide
theorem rd_wp {f g : Nat → Nat → Int32} (hs : f 0 5 = g 0 2) (ht : ∀ k, f 10 k = g 9 k) (hL : 0 ≤ (f 0 5).toInt ∧ (f 0 5).toInt ≤ 200) : ∀ (n : Nat) (q x2 : Int32), 0 ≤ q.toInt ∧ q.toInt ≤ 300 → 0 ≤ x2.toInt ∧ x2.toInt ≤ q.toInt → (f 0 5).toInt < q.toInt + (n : Int) ∧ 1 ≤ n → dn_wrongPlace_4 n f q x2 = -1 ∨ 0 ≤ dn_wrongPlace_4 n f q x2 := by
  intro n
  induction n with
  | zero => intro q x2 _ _ h; exact absurd h.2 (by omega)
  | succ n ih =>
    intro q x2 hq hx hn
    rw [dn_wrongPlace_4]
    by_cases c2 : 200 ≤ x2
    · rw [if_pos c2]; exact Or.inl rfl
    · rw [if_neg c2]
      by_cases c : f 0 5 ≤ q
      · rw [if_pos c]; exact Or.inl rfl
      · have hlt := fr_t4 c
        rw [if_neg c]
        rcases (rd_line (x := 0) hs ht (q := q) ⟨hq.1, by omega⟩).1 with ⟨h1, -⟩ | ⟨h1, h2, -⟩
        · have hb := rd_up ⟨hq.1, by omega⟩ h1
          have hx2 := fr_add1 (x := x2) hx.1 (by omega)
          rw [if_pos (rd_pos (by omega))]
          exact ih _ _ ⟨by omega, by omega⟩ ⟨by omega, by omega⟩ ⟨by omega, by omega⟩
        · rw [if_neg (rd_nn h1)]; exact Or.inr h2
theorem rd_A1 {f g : Nat → Nat → Int32} (h : rl f g) : ∃ c0 q0 : Int32, dn_m_go (fr_up g 0 5 0) 0 = (c0, pq (fr_up g 0 5 0) q0 (dn_wrongPlace f)) := by
  have hs : f 0 5 = (fr_up g 0 5 0) 0 2 := h.1.2.2.2.2.2
  have ht : ∀ k, f 10 k = (fr_up g 0 5 0) 9 k := fun k => (h.2.2.2.1 k).2.2.2.2.2
  have hL := h.2.1.2.2.2
  have z : (0 : Int32).toInt = 0 := rfl
  rw [dn_m_go, dn_wrongPlace]
  exact rd_go0 hs ht hL 202 201 0 0 0 ⟨by omega, by omega⟩ ⟨by omega, by omega⟩ ⟨by omega, by omega⟩ ⟨by omega, by omega⟩
theorem rd_A2 {f g : Nat → Nat → Int32} (h : rl f g) : dn_wrongPlace f = -1 ∨ 0 ≤ dn_wrongPlace f := by
  have hs : f 0 5 = (fr_up g 0 5 0) 0 2 := h.1.2.2.2.2.2
  have ht : ∀ k, f 10 k = (fr_up g 0 5 0) 9 k := fun k => (h.2.2.2.1 k).2.2.2.2.2
  have hL := h.2.1.2.2.2
  have z : (0 : Int32).toInt = 0 := rfl
  rw [dn_wrongPlace]
  exact rd_wp hs ht hL 201 0 0 ⟨by omega, by omega⟩ ⟨by omega, by omega⟩ ⟨by omega, by omega⟩
theorem rd_A3 {f g : Nat → Nat → Int32} (h : rl f g) (w : dn_wrongPlace f = -1) : rd_ok (f 0 5) (dn_behind f) 201 0 := by
  have hs : f 0 5 = (fr_up g 0 5 0) 0 2 := h.1.2.2.2.2.2
  have ht : ∀ k, f 10 k = (fr_up g 0 5 0) 9 k := fun k => (h.2.2.2.1 k).2.2.2.2.2
  have hL := h.2.1.2.2.2
  have z : (0 : Int32).toInt = 0 := rfl
  rw [dn_wrongPlace] at w
  exact rd_ok_of hs ht hL 201 0 0 ⟨by omega, by omega⟩ ⟨by omega, by omega⟩ ⟨by omega, by omega⟩ w
theorem rd_A4 {f g : Nat → Nat → Int32} (h : rl f g) (w : dn_wrongPlace f = -1) : (dn_lineCount f).toInt = (mo_cnt 202 (pq (fr_up g 0 5 0) 0 (-1)) : Int) := by
  have hs : f 0 5 = (fr_up g 0 5 0) 0 2 := h.1.2.2.2.2.2
  have ht : ∀ k, f 10 k = (fr_up g 0 5 0) 9 k := fun k => (h.2.2.2.1 k).2.2.2.2.2
  have hL := h.2.1.2.2.2
  have z : (0 : Int32).toInt = 0 := rfl
  have K := rd_lines hs ht hL 202 201 201 0 0 (rd_A3 h w) ⟨by omega, by omega⟩ ⟨by omega, by omega⟩ ⟨by omega, by omega⟩ ⟨by omega, by omega⟩
  rw [dn_lineCount, K, z, Int.zero_add]
theorem rd_A5 {f g : Nat → Nat → Int32} (h : rl f g) : (dn_m_go (fr_up g 0 5 0) 0).1.toInt = (mo_cnt 202 (pq (fr_up g 0 5 0) 0 (-1)) : Int) := by
  have hL := h.2.1.2.2.2
  exact mo_go0_n (f := fr_up g 0 5 0) (by show 0 ≤ (g 0 2).toInt ∧ (g 0 2).toInt ≤ 200; rw [← h.1.2.2.2.2.2]; exact hL)
theorem rd_A6 {f g : Nat → Nat → Int32} {c0 q0 : Int32} (h : rl f g) (hok : rd_ok (f 0 5) (dn_behind f) 201 0) (hcnt : c0.toInt = (mo_cnt 202 (pq (fr_up g 0 5 0) 0 (-1)) : Int)) (h12 : (f 0 1).toInt + c0.toInt ≤ 12) : ∃ (c9 q9 : Int32) (g9 : Nat → Nat → Int32), dn_m_go (fr_up (pq (fr_up g 0 5 0) q0 (-1)) 0 5 0) 1 = (c9, pq g9 q9 (-1)) ∧ rl (dn_addLines f c0) g9 ∧ g9 0 5 = 0 := by
  have z : (0 : Int32).toInt = 0 := rfl
  have hL := h.2.1.2.2.2
  have b2 := h.2.1.2.1
  have hrb : rl f (fr_up (pq (fr_up g 0 5 0) q0 (-1)) 0 5 0) := h
  have hm : mo_cnt 202 (pq (fr_up (pq (fr_up g 0 5 0) q0 (-1)) 0 5 0) 0 (-1)) = mo_cnt 202 (pq (fr_up g 0 5 0) 0 (-1)) := mo_e_cnt 202 ⟨rfl, rfl, rfl, fun _ => rfl⟩
  rw [dn_m_go, dn_addLines]
  exact rd_adds 202 201 13 f _ 0 0 c0 0 hrb hok ⟨by omega, by omega⟩ ⟨by omega, by omega⟩ (by omega) (by rw [hm, z, Int.zero_add]; exact hcnt) (by omega) (by omega)
theorem rd_B1 {f g : Nat → Nat → Int32} {q0 W LC c0 : Int32} {A : Nat → Nat → Int32} {B : Int32 × (Nat → Nat → Int32)} (h : rl f g) (w : ¬ W = -1) (w0 : 0 ≤ W) : ro rl_c1 (if (12 - (f 0 1)) < LC then (if W = (-1) then (some "java/lang/UnsupportedOperationException", 0, fr_up f 0 5 0) else (none, (-1) - W, fr_up f 0 5 0)) else (if W = (-1) then (none, A 0 1, fr_up A 0 5 0) else (none, (-1) - W, fr_up f 0 5 0)))
    (if 0 ≤ ((pq (fr_up g 0 5 0) q0 W) 0 14) then (if ((pq (fr_up g 0 5 0) q0 W) 0 5) = 0 then (if ((pq (fr_up g 0 5 0) q0 W) 0 14) < 0 then ((pq (fr_up g 0 5 0) q0 W) 0 1, fr_up (pq (fr_up g 0 5 0) q0 W) 0 2 0) else ((-1) - ((pq (fr_up g 0 5 0) q0 W) 0 14), fr_up (pq (fr_up g 0 5 0) q0 W) 0 2 0)) else (0, fr_up (pq (fr_up g 0 5 0) q0 W) 0 2 0)) else B) := by
  have h0 : rl f (fr_up g 0 5 0) := h
  have w1 : ¬ W < 0 := fun q => by
    have := fr_t1 q
    have := fr_t3 w0
    omega
  rw [if_neg w, if_neg w, if_pos (show 0 ≤ pq (fr_up g 0 5 0) q0 W 0 14 from w0), if_pos (show pq (fr_up g 0 5 0) q0 W 0 5 = 0 from rfl), if_neg (show ¬ pq (fr_up g 0 5 0) q0 W 0 14 < 0 from w1)]
  have K : ro rl_c1 (none, (-1) - W, fr_up f 0 5 0) ((-1) - pq (fr_up g 0 5 0) q0 W 0 14, fr_up (pq (fr_up g 0 5 0) q0 W) 0 2 0) := ⟨rfl, fun _ => rfl, rl_read_end2 h0⟩
  split <;> exact K
theorem rd_B2 {f g : Nat → Nat → Int32} {q0 c0 : Int32} {A : Nat → Nat → Int32} {B G1 : Int32 × (Nat → Nat → Int32)} (h : rl f g) (hc : 0 ≤ c0.toInt ∧ c0.toInt ≤ 202) (hG : (f 0 1).toInt + c0.toInt ≤ 12 → ∃ (c9 q9 : Int32) (g9 : Nat → Nat → Int32), G1 = (c9, pq g9 q9 (-1)) ∧ rl A g9 ∧ g9 0 5 = 0) : ro rl_c1 (if (12 - (f 0 1)) < c0 then (some "java/lang/UnsupportedOperationException", 0, fr_up f 0 5 0) else (none, A 0 1, fr_up A 0 5 0))
    (if 0 ≤ ((pq (fr_up g 0 5 0) q0 (-1)) 0 14) then B else (if (((pq (fr_up g 0 5 0) q0 (-1)) 0 1) + c0) ≤ 12 then (if ((G1.2) 0 5) = 0 then (if ((G1.2) 0 14) < 0 then ((G1.2) 0 1, fr_up (G1.2) 0 2 0) else ((-1) - ((G1.2) 0 14), fr_up (G1.2) 0 2 0)) else (0, fr_up (G1.2) 0 2 0)) else (0, fr_up (fr_up (pq (fr_up g 0 5 0) q0 (-1)) 0 5 1) 0 2 0))) := by
  have h12 := h.2.1.2.1
  have n2 : f 0 1 = g 0 1 := h.1.2.1
  have e1 : (12 - f 0 1).toInt = 12 - (f 0 1).toInt := by
    rw [Int32.toInt_sub, show (12 : Int32).toInt = 12 from rfl, Int.bmod_def]
    split <;> omega
  have e2 : (f 0 1 + c0).toInt = (f 0 1).toInt + c0.toInt := by
    rw [Int32.toInt_add, Int.bmod_def]
    split <;> omega
  have e12 : (12 : Int32).toInt = 12 := rfl
  rw [if_neg (rd_m1 (g := fr_up g 0 5 0) (q := q0))]
  by_cases c : 12 - f 0 1 < c0
  · have c' : ¬ pq (fr_up g 0 5 0) q0 (-1) 0 1 + c0 ≤ 12 := by
      show ¬ g 0 1 + c0 ≤ 12
      rw [← n2]
      intro q
      have := fr_t3 q
      have := fr_t1 c
      omega
    rw [if_pos c, if_neg c']
    exact ⟨rfl, (fun q => by cases q), rl_read_end h⟩
  · have c1 := fr_t2 c
    have c' : pq (fr_up g 0 5 0) q0 (-1) 0 1 + c0 ≤ 12 := by
      show g 0 1 + c0 ≤ 12
      rw [← n2, Int32.le_iff_toInt_le]; omega
    rw [if_neg c, if_pos c']
    obtain ⟨c9, q9, g9, k1, k2, k3⟩ := hG (by omega)
    subst k1
    dsimp only
    have k3 : pq g9 q9 (-1) 0 5 = 0 := k3
    rw [if_pos k3, if_pos (show pq g9 q9 (-1) 0 14 < 0 from (by decide : (-1 : Int32) < 0))]
    exact ⟨k3, fun _ => k2.1.2.1, rl_read_end2 k2⟩
theorem ro_read {f g : Nat → Nat → Int32} (h : rl f g) : ro rl_c1 (dn_read f) (dn_m_read g) := by
  obtain ⟨c0, q0, hgo⟩ := rd_A1 h
  have hW := rd_A2 h
  have h3 := rd_A3 h
  have h4 := rd_A4 h
  have h5 := rd_A5 h
  have h6 := fun (c0 q0 : Int32) => rd_A6 (c0 := c0) (q0 := q0) h
  have hle := mo_cnt_le 202 (pq (fr_up g 0 5 0) 0 (-1))
  rw [hgo] at h5
  have h5 : c0.toInt = (mo_cnt 202 (pq (fr_up g 0 5 0) 0 (-1)) : Int) := h5
  unfold dn_read dn_m_read
  generalize dn_wrongPlace f = W at hgo hW h3 h4 ⊢
  generalize dn_lineCount f = LC at h4 ⊢
  rw [hgo]
  dsimp only
  generalize mo_cnt 202 (pq (fr_up g 0 5 0) 0 (-1)) = N at h4 h5 h6 hle
  by_cases w : W = -1
  · have hcc : c0 = LC := Int32.toInt_inj.mp (by have := h4 w; omega)
    have hok := h3 w
    subst w
    subst hcc
    rw [if_pos rfl, if_pos rfl]
    exact rd_B2 h ⟨by omega, by omega⟩ (h6 c0 q0 hok h5)
  · have w0 : 0 ≤ W := by
      rcases hW with hW | hW
      · exact absurd hW w
      · exact hW
    exact rd_B1 (c0 := c0) h w w0
