/-! READING: the whole text. -/
theorem rd_up {q b : Int32} (hq : 0 ≤ q.toInt ∧ q.toInt ≤ 900) (h : b = q + 6 ∨ b = q + 7) : q.toInt + 6 ≤ b.toInt ∧ b.toInt ≤ q.toInt + 7 := by
  have e6 : (6 : Int32).toInt = 6 := rfl
  have e7 : (7 : Int32).toInt = 7 := rfl
  rcases h with rfl | rfl
  · rw [rd_plus ⟨hq.1, by omega⟩ (by decide)]; omega
  · rw [rd_plus ⟨hq.1, by omega⟩ (by decide)]; omega
theorem rd_pos {b : Int32} (h : 0 ≤ b.toInt) : 0 ≤ b := by
  have z : (0 : Int32).toInt = 0 := rfl
  rw [Int32.le_iff_toInt_le]; omega
theorem rd_m1 {g : Nat → Nat → Int32} {q : Int32} : ¬ (0 : Int32) ≤ pq g q (-1) 0 14 := (by decide : ¬ (0 : Int32) ≤ -1)
theorem rd_nn {b : Int32} (h : b < 0) : ¬ (0 : Int32) ≤ b := fun z => by
  have := fr_t1 h
  have := fr_t3 z
  omega
theorem rd_go0 {f g : Nat → Nat → Int32} (hs : f 0 5 = g 0 2) (ht : ∀ k, f 10 k = g 9 k) (hL : 0 ≤ (f 0 5).toInt ∧ (f 0 5).toInt ≤ 200) : ∀ (n n' : Nat) (q x2 cnt : Int32), 0 ≤ q.toInt ∧ q.toInt ≤ 300 → 0 ≤ x2.toInt ∧ x2.toInt ≤ q.toInt → (f 0 5).toInt < q.toInt + (n : Int) ∧ 1 ≤ n → (f 0 5).toInt < q.toInt + (n' : Int) ∧ 1 ≤ n' → ∃ (c q' : Int32), dn_m_go_12 n 0 (pq g q (-1)) cnt = (c, pq g q' (dn_wrongPlace_4 n' f q x2)) := by
  intro n
  induction n with
  | zero => intro n' q x2 cnt _ _ h; exact absurd h.2 (by omega)
  | succ n ih =>
    intro n' q x2 cnt hq hx hn hn'
    cases n' with
    | zero => exact absurd hn'.2 (by omega)
    | succ m =>
      have e200 : (200 : Int32).toInt = 200 := rfl
      rw [dn_m_go_12, dn_wrongPlace_4, if_neg rd_m1]
      by_cases c : f 0 5 ≤ q
      · have c' : pq g q (-1) 0 2 ≤ pq g q (-1) 0 13 := by show g 0 2 ≤ q; rw [← hs]; exact c
        rw [if_pos c', if_pos c]
        refine ⟨cnt, q, ?_⟩
        split <;> rfl
      · have c' : ¬ pq g q (-1) 0 2 ≤ pq g q (-1) 0 13 := by show ¬ g 0 2 ≤ q; rw [← hs]; exact c
        have hlt := fr_t4 c
        have c2 : ¬ 200 ≤ x2 := fun z => by
          have := fr_t3 z
          omega
        rw [if_neg c', if_neg c2, if_neg c]
        rcases (rd_line (x := 0) hs ht (q := q) ⟨hq.1, by omega⟩).1 with ⟨h1, h2⟩ | ⟨h1, h2, q', h3⟩
        · have hb := rd_up ⟨hq.1, by omega⟩ h1
          rw [h2, if_pos rfl, if_pos (rd_pos (by omega))]
          have hx2 := fr_add1 (x := x2) hx.1 (by omega)
          exact ih m _ _ _ ⟨by omega, by omega⟩ ⟨by omega, by omega⟩ ⟨by omega, by omega⟩ ⟨by omega, by omega⟩
        · rw [h3, if_neg (rd_nn h1)]
          cases n with
          | zero => exact absurd hn.1 (by omega)
          | succ k =>
            rw [dn_m_go_12, if_pos (show 0 ≤ pq g q' ((-1) - dn_behind f q) 0 14 from h2)]
            exact ⟨_, q', rfl⟩
/-- the text is right from q on -/
def rd_ok (len : Int32) (bh : Int32 → Int32) : Nat → Int32 → Prop
  | 0, _ => False
  | n + 1, q => len ≤ q ∨ (¬ len ≤ q ∧ 0 ≤ bh q ∧ rd_ok len bh n (bh q))
theorem rd_ok_of {f g : Nat → Nat → Int32} (hs : f 0 5 = g 0 2) (ht : ∀ k, f 10 k = g 9 k) (hL : 0 ≤ (f 0 5).toInt ∧ (f 0 5).toInt ≤ 200) : ∀ (n : Nat) (q x2 : Int32), 0 ≤ q.toInt ∧ q.toInt ≤ 300 → 0 ≤ x2.toInt ∧ x2.toInt ≤ q.toInt → (f 0 5).toInt < q.toInt + (n : Int) ∧ 1 ≤ n → dn_wrongPlace_4 n f q x2 = -1 → rd_ok (f 0 5) (dn_behind f) n q := by
  intro n
  induction n with
  | zero => intro q x2 _ _ h; exact absurd h.2 (by omega)
  | succ n ih =>
    intro q x2 hq hx hn hw
    have e200 : (200 : Int32).toInt = 200 := rfl
    rw [dn_wrongPlace_4] at hw
    by_cases c : f 0 5 ≤ q
    · exact Or.inl c
    · have hlt := fr_t4 c
      have c2 : ¬ 200 ≤ x2 := fun z => by
        have := fr_t3 z
        omega
      rw [if_neg c2, if_neg c] at hw
      rcases (rd_line (x := 0) hs ht (q := q) ⟨hq.1, by omega⟩).1 with ⟨h1, -⟩ | ⟨h1, h2, -⟩
      · have hb := rd_up ⟨hq.1, by omega⟩ h1
        have hx2 := fr_add1 (x := x2) hx.1 (by omega)
        rw [if_pos (rd_pos (by omega))] at hw
        exact Or.inr ⟨c, rd_pos (by omega), ih _ _ ⟨by omega, by omega⟩ ⟨by omega, by omega⟩ ⟨by omega, by omega⟩ hw⟩
      · rw [if_neg (rd_nn h1)] at hw
        rw [hw] at h2
        exact absurd h2 (by decide)
/-! the line ends -/
theorem rd_at {f : Nat → Nat → Int32} {i v : Int32} (h : dn_signAt f i = v) (hv : ¬ v = -1) : ¬ f 0 5 ≤ i ∧ f 10 i.toNatClampNeg = v := by
  unfold dn_signAt at h
  by_cases c : i < 0
  · rw [if_pos c] at h; exact absurd h.symm hv
  · rw [if_neg c] at h
    by_cases c2 : f 0 5 ≤ i
    · rw [if_pos c2] at h; exact absurd h.symm hv
    · rw [if_neg c2] at h; exact ⟨c2, h⟩
theorem rd_skip {f : Nat → Nat → Int32} {i c : Int32} {n : Nat} (h : ¬ dn_signAt f i = -1) (h2 : ¬ dn_signAt f i = 10) : dn_lineCount_4 (n + 1) f c i = dn_lineCount_4 n f c (i + 1) := by
  obtain ⟨a1, a2⟩ := rd_at rfl h
  rw [dn_lineCount_4, if_neg a1, a2, if_neg h2]
theorem rd_lf {f : Nat → Nat → Int32} {i c : Int32} {n : Nat} (h : dn_signAt f i = 10) : dn_lineCount_4 (n + 1) f c i = dn_lineCount_4 n f (c + 1) (i + 1) := by
  obtain ⟨a1, a2⟩ := rd_at h (by decide)
  rw [dn_lineCount_4, if_neg a1, a2, if_pos rfl]
theorem rd_dig {f : Nat → Nat → Int32} {i : Int32} (h : ¬ dn_digitAt f i = -1) : ¬ dn_signAt f i = -1 ∧ ¬ dn_signAt f i = 10 := by
  rw [dg_at] at h
  constructor
  · intro z; rw [z] at h; exact h (by decide)
  · intro z; rw [z] at h; exact h (by decide)
theorem rd_wd {f : Nat → Nat → Int32} {i m : Int32} (h : ¬ dn_within (dn_digitAt f i) m = 0) : ¬ dn_digitAt f i = -1 := fun z => h (by rw [z]; unfold dn_within; rw [if_pos (by decide)])
theorem rd_rw {f : Nat → Nat → Int32} {i : Int32} (h : ¬ dn_rowAt f i = -1) : ¬ dn_signAt f i = -1 ∧ ¬ dn_signAt f i = 10 := by
  rw [rd_row] at h
  constructor
  · intro z; rw [z] at h; exact h (by decide)
  · intro z; rw [z] at h; exact h (by decide)
theorem rd_32 {f : Nat → Nat → Int32} {i : Int32} (h : dn_signAt f i = 32) : ¬ dn_signAt f i = -1 ∧ ¬ dn_signAt f i = 10 := by
  rw [h]; exact ⟨by decide, by decide⟩
/-- a right line has one line end, its last sign -/
theorem rd_seg {f : Nat → Nat → Int32} {q : Int32} (hq : 0 ≤ q.toInt ∧ q.toInt ≤ 900) (h : 0 ≤ dn_behind f q) : ∃ m : Nat, m ≤ 7 ∧ 1 ≤ m ∧ (dn_behind f q).toInt = q.toInt + (m : Int) ∧ (dn_behind f q).toInt ≤ (f 0 5).toInt ∧ ∀ (n : Nat) (c : Int32), dn_lineCount_4 (n + m) f c q = dn_lineCount_4 n f (c + 1) (dn_behind f q) := by
  have hq' : 0 ≤ q.toInt ∧ q.toInt ≤ 1000 := ⟨hq.1, by omega⟩
  have a2 : q + 1 + 1 = q + 2 := by rw [Int32.add_assoc]; rfl
  have a3 : q + 2 + 1 = q + 3 := by rw [Int32.add_assoc]; rfl
  have a4 : q + 3 + 1 = q + 4 := by rw [Int32.add_assoc]; rfl
  have a5 : q + 4 + 1 = q + 5 := by rw [Int32.add_assoc]; rfl
  have a6 : q + 5 + 1 = q + 6 := by rw [Int32.add_assoc]; rfl
  have a7 : q + 6 + 1 = q + 7 := by rw [Int32.add_assoc]; rfl
  have e5 : (5 : Int32).toInt = 5 := rfl
  have e6 : (6 : Int32).toInt = 6 := rfl
  have e7 : (7 : Int32).toInt = 7 := rfl
  have p5 := rd_plus hq' (i := 5) (by decide)
  have p6 := rd_plus hq' (i := 6) (by decide)
  have p7 := rd_plus hq' (i := 7) (by decide)
  have no : ∀ (c e : Int32) (P : Prop), 0 ≤ e.toInt ∧ e.toInt ≤ 1000 → -10 ≤ c.toInt ∧ c.toInt ≤ -1 → 0 ≤ c - e → P := by
    intro c e P he hc hz
    exfalso
    have h1 : (c - e).toInt = c.toInt - e.toInt := by
      rw [Int32.toInt_sub, Int.bmod_def]; split <;> omega
    have := fr_t3 hz
    have z : (0 : Int32).toInt = 0 := rfl
    omega
  unfold dn_behind at h ⊢
  by_cases c0 : dn_rowAt f q = -1
  · rw [if_pos c0] at h; exact no _ _ _ hq' (by decide) h
  · rw [if_neg c0] at h ⊢
    by_cases c1 : dn_signAt f (q + 1) = 32
    · rw [if_pos c1] at h ⊢
      by_cases c2 : dn_within (dn_digitAt f (q + 2)) 7 = 0
      · rw [if_pos c2] at h; exact no _ _ _ hq' (by decide) h
      · rw [if_neg c2] at h ⊢
        by_cases c3 : dn_signAt f (q + 3) = 32
        · rw [if_pos c3] at h ⊢
          have k0 := rd_rw c0
          have k1 := rd_32 c1
          have k2 := rd_dig (rd_wd c2)
          have k3 := rd_32 c3
          have five : ∀ (n : Nat) (c : Int32), dn_lineCount_4 (n + 4) f c q = dn_lineCount_4 n f c (q + 4) := by
            intro n c
            rw [show n + 4 = (n + 3) + 1 from rfl, rd_skip k0.1 k0.2, show n + 3 = (n + 2) + 1 from rfl, rd_skip k1.1 k1.2, a2, show n + 2 = (n + 1) + 1 from rfl, rd_skip k2.1 k2.2, a3, rd_skip k3.1 k3.2, a4]
          have end5 : ¬ dn_digitAt f (q + 4) = -1 → 0 ≤ (if dn_signAt f (q + 5) = 10 then q + 5 + 1 else -1 - (q + 5)) → ∃ m : Nat, m ≤ 7 ∧ 1 ≤ m ∧ (if dn_signAt f (q + 5) = 10 then q + 5 + 1 else -1 - (q + 5)).toInt = q.toInt + (m : Int) ∧ (if dn_signAt f (q + 5) = 10 then q + 5 + 1 else -1 - (q + 5)).toInt ≤ (f 0 5).toInt ∧ ∀ (n : Nat) (c : Int32), dn_lineCount_4 (n + m) f c q = dn_lineCount_4 n f (c + 1) (if dn_signAt f (q + 5) = 10 then q + 5 + 1 else -1 - (q + 5)) := by
            intro k4 h
            have k4 := rd_dig k4
            by_cases c5 : dn_signAt f (q + 5) = 10
            · have w5 := fr_t4 (rd_at c5 (by decide)).1
              rw [if_pos c5, a6]
              refine ⟨6, by omega, by omega, by omega, by omega, fun n c => ?_⟩
              rw [show n + 6 = (n + 2) + 4 from rfl, five, show n + 2 = (n + 1) + 1 from rfl, rd_skip k4.1 k4.2, a5, rd_lf c5, a6]
            · rw [if_neg c5] at h
              exact no _ _ _ ⟨by omega, by omega⟩ (by decide) h
          by_cases r2 : dn_rowAt f q = 2
          · rw [if_pos r2] at h ⊢
            by_cases c4 : dn_within (dn_digitAt f (q + 4)) 9 = 0
            · rw [if_pos c4] at h; exact no _ _ _ hq' (by decide) h
            · rw [if_neg c4] at h ⊢
              by_cases c5 : dn_digitAt f (q + 4) = 0
              · rw [if_pos c5] at h ⊢
                exact end5 (rd_wd c4) h
              · rw [if_neg c5] at h ⊢
                by_cases c6 : dn_digitAt f (q + 5) = -1
                · rw [if_pos c6] at h ⊢
                  exact end5 (rd_wd c4) h
                · rw [if_neg c6] at h ⊢
                  have k4 := rd_dig (rd_wd c4)
                  have k5 := rd_dig c6
                  by_cases c7 : dn_signAt f (q + 6) = 10
                  · have w7 := fr_t4 (rd_at c7 (by decide)).1
                    rw [if_pos c7, a7]
                    refine ⟨7, by omega, by omega, by omega, by omega, fun n c => ?_⟩
                    rw [show n + 7 = (n + 3) + 4 from rfl, five, show n + 3 = (n + 2) + 1 from rfl, rd_skip k4.1 k4.2, a5, show n + 2 = (n + 1) + 1 from rfl, rd_skip k5.1 k5.2, a6, rd_lf c7, a7]
                  · rw [if_neg c7] at h
                    exact no _ _ _ ⟨by omega, by omega⟩ (by decide) h
          · rw [if_neg r2] at h ⊢
            by_cases r3 : dn_rowAt f q = 3
            · rw [if_pos r3] at h ⊢
              by_cases c4 : dn_within (dn_digitAt f (q + 4)) 9 = 0
              · rw [if_pos c4] at h; exact no _ _ _ hq' (by decide) h
              · rw [if_neg c4] at h ⊢
                exact end5 (rd_wd c4) h
            · rw [if_neg r3] at h ⊢
              by_cases c4 : dn_within (dn_digitAt f (q + 4)) 7 = 0
              · rw [if_pos c4] at h; exact no _ _ _ hq' (by decide) h
              · rw [if_neg c4] at h ⊢
                exact end5 (rd_wd c4) h
        · rw [if_neg c3] at h; exact no _ _ _ hq' (by decide) h
    · rw [if_neg c1] at h; exact no _ _ _ hq' (by decide) h
