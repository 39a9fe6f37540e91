/-! THE TWO SIDES: the class's numbers f and the reference's numbers g tell of the same thing. -/
def rl_n (f g : Nat → Nat → Int32) : Prop := f 0 0 = g 0 0 ∧ f 0 1 = g 0 1 ∧ f 0 2 = g 0 6 ∧ f 0 3 = g 0 3 ∧ f 0 4 = g 0 4 ∧ f 0 5 = g 0 2
def rl_b (f : Nat → Nat → Int32) : Prop := (0 ≤ (f 0 0).toInt ∧ (f 0 0).toInt ≤ 10) ∧ (0 ≤ (f 0 1).toInt ∧ (f 0 1).toInt ≤ 12) ∧ (0 ≤ (f 0 2).toInt ∧ (f 0 2).toInt ≤ 12) ∧ 0 ≤ (f 0 5).toInt ∧ (f 0 5).toInt ≤ 200
def rl_u (f g : Nat → Nat → Int32) : Prop := ∀ k : Nat, (k : Int) < (f 0 0).toInt → f 1 k = g 1 k ∧ f 2 k = g 2 k ∧ f 3 k = g 3 k
def rl_r (f g : Nat → Nat → Int32) : Prop := ∀ k : Nat, f 4 k = g 4 k ∧ f 5 k = g 5 k ∧ f 6 k = g 6 k ∧ f 7 k = g 7 k ∧ f 9 k = g 10 k ∧ f 10 k = g 9 k
def rl_z (f : Nat → Nat → Int32) : Prop := ∀ k : Nat, (f 0 1).toInt ≤ (k : Int) → f 7 k = 0
def rl_k (f : Nat → Nat → Int32) : Prop := ∀ k : Nat, (k : Int) < (f 0 1).toInt → 0 ≤ (f 4 k).toInt ∧ (f 4 k).toInt ≤ 5
def rl_o (f g : Nat → Nat → Int32) : Prop := ∀ k : Nat, (k : Int) < (f 0 1).toInt → f 8 k = g 8 k + 1 ∧ 0 ≤ (g 8 k).toInt ∧ (g 8 k).toInt < (f 0 1).toInt
/-- every rule has a place among the rules -/
def rl_a (g : Nat → Nat → Int32) : Prop := ∀ x : Int32, 0 ≤ x.toInt → x.toInt < (g 0 1).toInt → ∃ j : Nat, (j : Int) < (g 0 1).toInt ∧ g 8 j = x
def rl (f g : Nat → Nat → Int32) : Prop := rl_n f g ∧ rl_b f ∧ rl_u f g ∧ rl_r f g ∧ rl_z f ∧ rl_k f ∧ rl_o f g ∧ rl_a g ∧ mo_B g
/-- the part of it that an asking needs -/
def rt (f g : Nat → Nat → Int32) : Prop := f 0 1 = g 0 1 ∧ (0 ≤ (f 0 1).toInt ∧ (f 0 1).toInt ≤ 12) ∧ f 0 2 = g 0 6 ∧ rl_r f g ∧ rl_z f ∧ rl_k f ∧ rl_o f g
/-- the question is the same one -/
def rq (f g : Nat → Nat → Int32) (y : Int32) (u v : Nat) (x : Int32) : Prop := g 0 7 = y ∧
  ((y = 2 ∧ g 0 11 = x ∧ g 0 12 = f 3 u) ∨ ((y = 1 ∨ (y = 0 ∧ g 0 10 = x)) ∧ (g 0 8).toNatClampNeg = u ∧ (g 0 9).toNatClampNeg = v ∧ (f 1 u = g 1 u ∧ f 2 u = g 2 u ∧ f 3 u = g 3 u) ∧ f 1 v = g 1 v ∧ f 2 v = g 2 v ∧ f 3 v = g 3 v))
theorem rl_six {a : Int32} (h0 : 0 ≤ a.toInt) (h5 : a.toInt ≤ 5) : a = 0 ∨ a = 1 ∨ a = 2 ∨ a = 3 ∨ a = 4 ∨ a = 5 := by
  have e : a.toInt = 0 ∨ a.toInt = 1 ∨ a.toInt = 2 ∨ a.toInt = 3 ∨ a.toInt = 4 ∨ a.toInt = 5 := by omega
  rcases e with e | e | e | e | e | e
  · exact Or.inl (Int32.toInt_inj.mp e)
  · exact Or.inr (Or.inl (Int32.toInt_inj.mp e))
  · exact Or.inr (Or.inr (Or.inl (Int32.toInt_inj.mp e)))
  · exact Or.inr (Or.inr (Or.inr (Or.inl (Int32.toInt_inj.mp e))))
  · exact Or.inr (Or.inr (Or.inr (Or.inr (Or.inl (Int32.toInt_inj.mp e)))))
  · exact Or.inr (Or.inr (Or.inr (Or.inr (Or.inr (Int32.toInt_inj.mp e)))))
theorem rl_or8 (a b c : Int32) : (a ||| b) &&& c = 0 ↔ a &&& c = 0 ∧ b &&& c = 0 := by
  rw [← Int32.toBitVec_inj, ← Int32.toBitVec_inj, ← Int32.toBitVec_inj]
  simp only [Int32.toBitVec_and, Int32.toBitVec_or, BitVec.and_or_distrib_right]
  exact BitVec.or_eq_zero_iff
theorem rl_as (a b : Int32) : a + b - b = a := by
  rw [Int32.sub_eq_add_neg, Int32.add_assoc, Int32.add_right_neg, Int32.add_zero]
theorem rq_asking {f g : Nat → Nat → Int32} {y x : Int32} {u v q : Nat} {r : Int32} (hq : rq f g y u v x) (hr : r.toNatClampNeg = q) (h4 : f 4 q = g 4 q) (h5 : f 5 q = g 5 q) (hk : 0 ≤ (f 4 q).toInt ∧ (f 4 q).toInt ≤ 5) : dn_asking f q = y ↔ ¬ dn_m_concerns g r = 0 := by
  obtain ⟨h7, hq⟩ := hq
  subst hr
  unfold dn_asking dn_m_concerns
  rw [h7, ← h4, ← h5]
  have hy : y = 2 ∨ y = 1 ∨ y = 0 := by
    rcases hq with ⟨h, -⟩ | ⟨h | ⟨h, -⟩, -⟩
    · exact Or.inl h
    · exact Or.inr (Or.inl h)
    · exact Or.inr (Or.inr h)
  generalize f 4 r.toNatClampNeg = a at hk ⊢
  generalize f 5 r.toNatClampNeg = b
  rcases hy with rfl | rfl | rfl <;> rcases rl_six hk.1 hk.2 with rfl | rfl | rfl | rfl | rfl | rfl <;> by_cases hb : b = 2 <;> simp [hb]
theorem rq_refuses {f g : Nat → Nat → Int32} {y x : Int32} {u v q : Nat} {r : Int32} (hq : rq f g y u v x) (hr : r.toNatClampNeg = q) (h4 : f 4 q = g 4 q) (h5 : f 5 q = g 5 q) (h6 : f 6 q = g 6 q) (hk : 0 ≤ (f 4 q).toInt ∧ (f 4 q).toInt ≤ 5) (ha : dn_asking f q = y) : dn_refuses f q u v x = 0 ↔ dn_m_refuses g r = 0 := by
  obtain ⟨h7, hq⟩ := hq
  subst hr
  unfold dn_asking at ha
  unfold dn_refuses dn_m_refuses dn_m_ownRefuses dn_doing dn_has
  rw [← h4, ← h5, ← h6]
  generalize f 4 r.toNatClampNeg = a at hk ha ⊢
  generalize f 5 r.toNatClampNeg = b at ha ⊢
  generalize f 6 r.toNatClampNeg = c
  rcases hq with ⟨rfl, e1, e2⟩ | ⟨hy, e8, e9, ⟨u1, u2, u3⟩, v1, v2, v3⟩
  · rw [e1, e2]
    rcases rl_six hk.1 hk.2 with rfl | rfl | rfl | rfl | rfl | rfl <;> by_cases hb : b = 2 <;> simp [hb] at ha ⊢
  · rw [e8, e9, ← u1, ← u3, ← v1, ← v2, ← v3]
    rcases rl_six hk.1 hk.2 with rfl | rfl | rfl | rfl | rfl | rfl
    · simp
    · by_cases k1 : f 1 u = b <;> by_cases k2 : f 1 v = b <;> by_cases k3 : f 1 u = c <;> by_cases k4 : f 1 v = c <;> simp [k1, k2, k3, k4]
    · simp
    · rcases hy with rfl | ⟨rfl, e10⟩
      · simp at ha
      · simp [e10]
    · rcases hy with rfl | ⟨rfl, e10⟩ <;> simp at ha
    · by_cases hc : c = 1
      · simp [hc]
      · by_cases hb0 : b = 0
        · by_cases k1 : f 1 u = f 1 v <;> simp [hc, hb0, k1]
        · by_cases hb1 : b = 1
          · rcases hy with rfl | ⟨rfl, e10⟩
            · simp [hb1] at ha
            · by_cases k1 : f 1 u = f 1 v <;> simp [hc, hb1, k1, e10]
          · by_cases hb2 : b = 2
            · have o8 := rl_or8 (f 3 u) (f 3 v) 8
              by_cases k1 : f 1 u = f 1 v <;> by_cases k2 : f 3 u &&& 8 = 0 <;> by_cases k3 : f 3 v &&& 8 = 0 <;> simp [hc, hb2, k1, k2, k3, o8]
            · by_cases k1 : f 1 u = f 1 v <;> by_cases k2 : f 3 u &&& 4 = 0 <;> simp [hc, hb0, hb1, hb2, k1, k2]
theorem rt_ask {f g : Nat → Nat → Int32} {i : Nat} {v w : Int32} (h : rt f g) : rt (fr_up (fr_up f 9 i v) 0 2 w) (fr_up (fr_up g 10 i v) 0 6 w) := by
  obtain ⟨h1, h2, h3, h4, h5, h6, h7⟩ := h
  refine ⟨h1, h2, rfl, fun k => ?_, h5, h6, h7⟩
  obtain ⟨a4, a5, a6, a7, a9, a10⟩ := h4 k
  refine ⟨a4, a5, a6, a7, ?_, a10⟩
  show fr_up f 9 i v 9 k = fr_up g 10 i v 10 k
  by_cases hk : k = i
  · subst hk; rw [fr_up_s, fr_up_s]
  · rw [fr_up_k hk, fr_up_k hk]; exact a9
theorem rt_refused {f g : Nat → Nat → Int32} {q : Nat} {v : Int32} (h : rt f g) (hq : (q : Int) < (f 0 1).toInt) : rt (fr_up f 7 q v) (fr_up g 7 q v) := by
  obtain ⟨h1, h2, h3, h4, h5, h6, h7⟩ := h
  refine ⟨h1, h2, h3, fun k => ?_, fun k hk => ?_, h6, h7⟩
  · obtain ⟨a4, a5, a6, a7, a9, a10⟩ := h4 k
    refine ⟨a4, a5, a6, ?_, a9, a10⟩
    by_cases hk : k = q
    · subst hk; rw [fr_up_s, fr_up_s]
    · rw [fr_up_k hk, fr_up_k hk]; exact a7
  · have hk : (f 0 1).toInt ≤ (k : Int) := hk
    rw [fr_up_k (by omega)]
    exact h5 k hk
/-- what an asking comes to, on both sides -/
def rw_ (F G : Int32 × (Nat → Nat → Int32)) : Prop := F.1 = G.1 ∧ rt F.2 G.2 ∧ (0 ≤ (F.2 0 2).toInt ∧ (F.2 0 2).toInt ≤ 12) ∧ (F.1 = 0 ∨ 0 < F.1.toInt)
theorem rq_loop {y x : Int32} {u v : Nat} : ∀ (n : Nat) (f g : Nat → Nat → Int32) (x5 : Int32), rt f g → rq f g y u v x → 0 ≤ (f 0 2).toInt → (f 0 2).toInt ≤ x5.toInt → 0 ≤ x5.toInt → x5.toInt ≤ (f 0 1).toInt → (f 0 1).toInt < x5.toInt + (n : Int) → rw_ (dn_firstRefusing_8 n y u v x f x5) (dn_m_ask_7 n g x5) := by
  intro n
  induction n with
  | zero => intro f g x5 _ _ _ _ _ h1 h2; exact absurd h2 (by omega)
  | succ n ih =>
    intro f g x5 ht hq ha0 ha1 hx0 hx1 hx2
    obtain ⟨t1, t2, t3, t4, t5, t6, t7⟩ := id ht
    rw [dn_firstRefusing_8, dn_m_ask_7]
    by_cases c : f 0 1 ≤ x5
    · rw [if_pos c, if_pos (t1 ▸ c)]
      exact ⟨rfl, ht, ⟨ha0, by show (f 0 2).toInt ≤ 12; omega⟩, Or.inl rfl⟩
    · have c' : ¬ g 0 1 ≤ x5 := t1 ▸ c
      have hlt := fr_t4 c
      have hx' := fr_add1 (x := x5) hx0 (by omega)
      obtain ⟨o1, o2, o3⟩ := t7 x5.toNatClampNeg (by rw [fr_clamp hx0]; exact hlt)
      have e1 : f 8 x5.toNatClampNeg - 1 = g 8 x5.toNatClampNeg := by rw [o1, Int32.add_sub_cancel]
      have hadd := fr_add1 (x := f 0 2) ha0 (by omega)
      have hqn : (((g 8 x5.toNatClampNeg).toNatClampNeg : Nat) : Int) < (f 0 1).toInt := by rw [fr_clamp o2]; exact o3
      obtain ⟨r4, r5, r6, r7, -, -⟩ := t4 (g 8 x5.toNatClampNeg).toNatClampNeg
      rw [if_neg c, if_neg c', e1]
      by_cases ca : dn_asking f (g 8 x5.toNatClampNeg).toNatClampNeg = y
      · have cc : ¬ dn_m_concerns g (g 8 x5.toNatClampNeg) = 0 := (rq_asking hq rfl r4 r5 (t6 _ hqn)).mp ca
        rw [if_pos ca, if_neg cc, ← o1, ← t3]
        have ht1 : rt (fr_up (fr_up f 9 (f 0 2).toNatClampNeg (f 8 x5.toNatClampNeg)) 0 2 (f 0 2 + 1)) (fr_up (fr_up g 10 (f 0 2).toNatClampNeg (f 8 x5.toNatClampNeg)) 0 6 (f 0 2 + 1)) := rt_ask ht
        have hq1 : rq (fr_up (fr_up f 9 (f 0 2).toNatClampNeg (f 8 x5.toNatClampNeg)) 0 2 (f 0 2 + 1)) (fr_up (fr_up g 10 (f 0 2).toNatClampNeg (f 8 x5.toNatClampNeg)) 0 6 (f 0 2 + 1)) y u v x := hq
        have hr := rq_refuses hq1 (r := g 8 x5.toNatClampNeg) rfl r4 r5 r6 (t6 _ hqn) ca
        by_cases cr : dn_refuses (fr_up (fr_up f 9 (f 0 2).toNatClampNeg (f 8 x5.toNatClampNeg)) 0 2 (f 0 2 + 1)) (g 8 x5.toNatClampNeg).toNatClampNeg u v x = 0
        · rw [if_pos cr, if_pos (hr.mp cr)]
          refine ih _ _ _ ht1 hq1 ?_ ?_ (by omega) ?_ ?_
          · show 0 ≤ (f 0 2 + 1).toInt; omega
          · show (f 0 2 + 1).toInt ≤ _; omega
          · show _ ≤ (f 0 1).toInt; omega
          · show (f 0 1).toInt < _; omega
        · rw [if_neg cr, if_neg (fun z => cr (hr.mpr z)), ← r7]
          refine ⟨rfl, rt_refused ht1 hqn, ⟨?_, ?_⟩, Or.inr ?_⟩
          · show 0 ≤ (f 0 2 + 1).toInt; omega
          · show (f 0 2 + 1).toInt ≤ 12; omega
          · show 0 < (f 8 x5.toNatClampNeg).toInt
            have := fr_add1 (x := g 8 x5.toNatClampNeg) o2 (by omega)
            rw [o1]; omega
      · have cc : dn_m_concerns g (g 8 x5.toNatClampNeg) = 0 := by
          by_cases z : dn_m_concerns g (g 8 x5.toNatClampNeg) = 0
          · exact z
          · exact absurd ((rq_asking hq rfl r4 r5 (t6 _ hqn)).mpr z) ca
        rw [if_neg ca, if_pos cc]
        exact ih _ _ _ ht hq ha0 (by omega) (by omega) (by omega) (by omega)
theorem rl_t {f g : Nat → Nat → Int32} (h : rl f g) : rt f g := ⟨h.1.2.1, h.2.1.2.1, h.1.2.2.1, h.2.2.2.1, h.2.2.2.2.1, h.2.2.2.2.2.1, h.2.2.2.2.2.2.1⟩
theorem rq_ask {f g : Nat → Nat → Int32} {y x : Int32} {u v : Nat} (h : rl f g) (hq : rq f g y u v x) : rw_ (dn_firstRefusing f y u v x) (dn_m_ask g) := by
  rw [dn_firstRefusing, dn_m_ask]
  obtain ⟨t1, t2, t3, t4, t5, t6, t7⟩ := rl_t h
  have z : (0 : Int32).toInt = 0 := rfl
  refine rq_loop 13 _ _ _ ⟨t1, t2, rfl, t4, t5, t6, t7⟩ hq ?_ ?_ (by omega) ?_ ?_
  · show 0 ≤ (0 : Int32).toInt; omega
  · show (0 : Int32).toInt ≤ _; omega
  · show _ ≤ (f 0 1).toInt; omega
  · show (f 0 1).toInt < _; omega
/-- an asking leaves the rest as it was -/
theorem rl_ask {f g : Nat → Nat → Int32} {y x : Int32} {u v : Nat} (h : rl f g) (hq : rq f g y u v x) : rl (dn_firstRefusing f y u v x).2 (dn_m_ask g).2 := by
  obtain ⟨w1, ⟨t1, t2, t3, t4, t5, t6, t7⟩, w3, w4⟩ := rq_ask h hq
  obtain ⟨⟨n1, n2, n3, n4, n5, n6⟩, ⟨b1, b2, b3, b4⟩, hu, hr, hz, hk, ho, ha, hB⟩ := h
  have F : ∀ r k : Nat, r ≠ 7 → r ≠ 9 → ¬ (r = 0 ∧ k = 2) → (dn_firstRefusing f y u v x).2 r k = f r k := fun r k a b c => fr_fr_keep b2 a b c
  have G : ∀ r k : Nat, r ≠ 7 → r ≠ 10 → ¬ (r = 0 ∧ k = 6) → (dn_m_ask g).2 r k = g r k := fun r k a b c => mo_ask_keep (n2 ▸ b2) a b c
  have f00 := F 0 0 (by decide) (by decide) (by decide)
  have f01 := F 0 1 (by decide) (by decide) (by decide)
  have f05 := F 0 5 (by decide) (by decide) (by decide)
  have g01 := G 0 1 (by decide) (by decide) (by decide)
  refine ⟨⟨?_, t1, t3, ?_, ?_, ?_⟩, ⟨?_, t2, w3, ?_⟩, ?_, t4, t5, t6, t7, ?_, ?_⟩
  · rw [f00, G 0 0 (by decide) (by decide) (by decide)]; exact n1
  · rw [F 0 3 (by decide) (by decide) (by decide), G 0 3 (by decide) (by decide) (by decide)]; exact n4
  · rw [F 0 4 (by decide) (by decide) (by decide), G 0 4 (by decide) (by decide) (by decide)]; exact n5
  · rw [f05, G 0 2 (by decide) (by decide) (by decide)]; exact n6
  · rw [f00]; exact b1
  · rw [f05]; exact b4
  · intro k hk9
    rw [f00] at hk9
    rw [F 1 k (by decide) (by decide) (by omega), F 2 k (by decide) (by decide) (by omega), F 3 k (by decide) (by decide) (by omega), G 1 k (by decide) (by decide) (by omega), G 2 k (by decide) (by decide) (by omega), G 3 k (by decide) (by decide) (by omega)]
    exact hu k hk9
  · intro x0 h0 h1
    rw [g01] at h1 ⊢
    obtain ⟨j, hj, hj2⟩ := ha x0 h0 h1
    exact ⟨j, hj, by rw [G 8 j (by decide) (by decide) (by omega)]; exact hj2⟩
  · unfold mo_B
    rw [G 0 8 (by decide) (by decide) (by decide), G 0 9 (by decide) (by decide) (by decide)]
    exact hB
theorem rl_verdict {f g : Nat → Nat → Int32} {y x : Int32} {u v : Nat} (h : rl f g) (hq : rq f g y u v x) : (dn_verdict f y u v x).1 = (dn_m_verdict g).1 ∧ rl (dn_verdict f y u v x).2 (dn_m_verdict g).2 ∧ (dn_m_verdict g).2 0 5 = g 0 5 ∧ (∀ k, (dn_verdict f y u v x).2 3 k = f 3 k ∧ (dn_m_verdict g).2 3 k = g 3 k) ∧ (dn_verdict f y u v x).2 0 0 = f 0 0 := by
  have h1 := rl_ask h hq
  obtain ⟨w1, -, -, w4⟩ := rq_ask h hq
  have b2 := h.2.1.2.1
  have n2 : f 0 1 = g 0 1 := h.1.2.1
  have k5 : (dn_m_ask g).2 0 5 = g 0 5 := mo_ask_keep (n2 ▸ b2) (by decide) (by decide) (by decide)
  have k3 : ∀ k, (dn_firstRefusing f y u v x).2 3 k = f 3 k ∧ (dn_m_ask g).2 3 k = g 3 k := fun k => ⟨fr_fr_keep b2 (by decide) (by decide) (by omega), mo_ask_keep (n2 ▸ b2) (by decide) (by decide) (by omega)⟩
  have k0 : (dn_firstRefusing f y u v x).2 0 0 = f 0 0 := fr_fr_keep b2 (by decide) (by decide) (by decide)
  rw [dn_verdict, dn_m_verdict]
  have h1' := h1
  obtain ⟨⟨n1, n2', n3, n4, n5, n6⟩, b, r⟩ := h1
  by_cases c : (dn_firstRefusing f y u v x).1 = 0
  · have c' : (dn_m_ask g).1 ≤ 0 := by rw [← w1, c]; exact Int32.le_refl _
    rw [if_pos c, if_pos c']
    refine ⟨w1, ⟨⟨n1, n2', n3, ?_, n5, n6⟩, b, r⟩, k5, k3, k0⟩
    show _ + 1 = _ + 1
    rw [n4]
  · have c' : ¬ (dn_m_ask g).1 ≤ 0 := by
      rcases w4 with w4 | w4
      · exact absurd w4 c
      · rw [← w1]
        intro z
        have := fr_t3 z
        have e : (0 : Int32).toInt = 0 := rfl
        omega
    rw [if_neg c, if_neg c']
    refine ⟨w1, ⟨⟨n1, n2', n3, ?_, ?_, n6⟩, b, r⟩, k5, k3, k0⟩
    · show _ + 1 = _ + 1
      rw [n4]
    · show _ + 1 = _ + 1
      rw [n5]
