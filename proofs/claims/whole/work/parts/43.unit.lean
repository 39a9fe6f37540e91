/-! a unit comes -/
theorem rl_uq {f : Nat → Nat → Int32} (b1 : 0 ≤ (f 0 0).toInt) {k : Nat} (hk : (k : Int) < (f 0 0).toInt) : k ≠ (f 0 0).toNatClampNeg := by
  have := fr_clamp b1
  omega
/-- what the class says behind its loop over the marks -/
def ro_u (F : Int32 × (Nat → Nat → Int32)) : Int32 × (Nat → Nat → Int32) := if F.1 = 0 then ((F.2 0 0 + 1) - 1, fr_up (fr_up F.2 0 2 0) 0 0 (F.2 0 0 + 1)) else ((-1) - F.1, fr_up F.2 0 2 0)
def ro_uu (F G : Int32 × (Nat → Nat → Int32)) (t : Int32) : Prop := (ro_u F).1 = G.1 ∧ rl (ro_u F).2 G.2 ∧ G.2 0 5 = t
theorem rl_unit_end {f g : Nat → Nat → Int32} {x y k : Int32} (h : rl f g) (hU : (f 0 0).toInt < 10) (h1 : f 1 (f 0 0).toNatClampNeg = x) (h2 : f 2 (f 0 0).toNatClampNeg = y) (h3 : f 3 (f 0 0).toNatClampNeg = k) : ro_uu (0, f) (((g 0 0) + 1) - 1, fr_up (fr_up (fr_up (fr_up (fr_up g 0 6 0) 1 ((g 0 0).toNatClampNeg) x) 2 ((g 0 0).toNatClampNeg) y) 3 ((g 0 0).toNatClampNeg) k) 0 0 ((g 0 0) + 1)) (g 0 5) := by
  obtain ⟨⟨n1, n2, n3, n4, n5, n6⟩, ⟨b1, b2, b3, b4⟩, hu, hr, hz, hk, ho, ha, hB⟩ := h
  have hadd := fr_add1 (x := f 0 0) b1.1 (by omega)
  have hcl := fr_clamp b1.1
  unfold ro_uu ro_u
  rw [if_pos rfl, ← n1]
  generalize (f 0 0).toNatClampNeg = i at h1 h2 h3 hcl ⊢
  refine ⟨rfl, ⟨⟨rfl, n2, rfl, n4, n5, n6⟩, ⟨?_, b2, ?_, b4⟩, fun j hj => ?_, hr, hz, hk, ho, ha, hB⟩, rfl⟩
  · show 0 ≤ (f 0 0 + 1).toInt ∧ (f 0 0 + 1).toInt ≤ 10; omega
  · show 0 ≤ (0 : Int32).toInt ∧ (0 : Int32).toInt ≤ 12; decide
  · have hj : (j : Int) < (f 0 0 + 1).toInt := hj
    show f 1 j = fr_up g 1 i x 1 j ∧ f 2 j = fr_up g 2 i y 2 j ∧ f 3 j = fr_up g 3 i k 3 j
    by_cases e : j = i
    · subst e; rw [fr_up_s, fr_up_s, fr_up_s]; exact ⟨h1, h2, h3⟩
    · rw [fr_up_k e, fr_up_k e, fr_up_k e]; exact hu j (by omega)
theorem rl_unit_no {f g : Nat → Nat → Int32} {b : Int32} (h : rl f g) (hb : 0 < b.toInt) : ro_uu (b, f) ((-1) - b, fr_up g 0 6 0) (g 0 5) := by
  obtain ⟨⟨n1, n2, n3, n4, n5, n6⟩, ⟨b1, b2, b3, b4⟩, r⟩ := h
  have e : ¬ b = 0 := fun z => by rw [z] at hb; exact absurd hb (by decide)
  unfold ro_uu ro_u
  rw [if_neg e]
  refine ⟨rfl, ⟨⟨n1, n2, rfl, n4, n5, n6⟩, ⟨b1, b2, ?_, b4⟩, r⟩, rfl⟩
  show 0 ≤ (0 : Int32).toInt ∧ (0 : Int32).toInt ≤ 12
  decide
theorem rl_mk2 {x : Int32} {n : Nat} (h : fr_mk x (n + 1)) (c : ¬ 16 < x) : x <<< ((1 : Int32) &&& 31) = x * 2 := by
  rcases h with ⟨rfl, h⟩ | ⟨rfl, h⟩ | ⟨rfl, h⟩ | ⟨rfl, h⟩ | ⟨rfl, h⟩ | ⟨rfl, h⟩
  · decide
  · decide
  · decide
  · decide
  · decide
  · exact absurd (by decide) c
theorem rl_by {n : Nat} {x y k b x6 : Int32} {g : Nat → Nat → Int32} (hb : 0 < b.toInt) : dn_m_unit_90 (n + 1) x y k g b x6 = ((-1) - b, fr_up g 0 6 0) := by
  have e : ¬ b = 0 := fun z => by rw [z] at hb; exact absurd hb (by decide)
  have e2 : ¬ b ≤ 0 := fun z => by
    have := fr_t3 z
    have : (0 : Int32).toInt = 0 := rfl
    omega
  rw [dn_m_unit_90]
  split <;> first | rfl | simp [e, e2]
theorem rl_marks {x y k : Int32} : ∀ (n : Nat) (f g : Nat → Nat → Int32) (x2 : Int32), fr_mk x2 n → rl f g → (f 0 0).toInt < 10 → f 1 (f 0 0).toNatClampNeg = x → f 2 (f 0 0).toNatClampNeg = y → f 3 (f 0 0).toNatClampNeg = k → g 0 7 = 2 → g 0 12 = k → ro_uu (dn_marks_2 n (f 0 0).toNatClampNeg f x2) (dn_m_unit_90 n x y k g 0 x2) (g 0 5) := by
  intro n
  induction n with
  | zero => intro f g x2 hm; exact fr_mk_0 hm
  | succ n ih =>
    intro f g x2 hm h hU h1 h2 h3 h7 h12
    rw [dn_marks_2, dn_m_unit_90]
    by_cases c : 16 < x2
    · rw [if_pos c, if_pos c, if_pos (Int32.le_refl _)]
      exact rl_unit_end h hU h1 h2 h3
    · rw [if_neg c, if_neg c, if_pos rfl, rl_mk2 hm c]
      have hm' := mo_mk_b hm c
      unfold dn_has
      rw [h3]
      by_cases c2 : k &&& x2 = 0
      · rw [if_pos c2, if_pos rfl, if_pos c2]
        exact ih f (fr_up g 0 11 x2) _ hm' h hU h1 h2 h3 h7 h12
      · rw [if_neg c2, if_neg (show ¬ (1 : Int32) = 0 by decide), if_neg c2]
        have h' : rl f (fr_up g 0 11 x2) := h
        have hq : rq f (fr_up g 0 11 x2) 2 (f 0 0).toNatClampNeg (f 0 0).toNatClampNeg x2 := ⟨h7, Or.inl ⟨rfl, rfl, h12.trans h3.symm⟩⟩
        have h2' := rl_ask h' hq
        obtain ⟨w1, -, -, w4⟩ := rq_ask h' hq
        have b2 := h.2.1.2.1
        have n2 : f 0 1 = g 0 1 := h.1.2.1
        have F : ∀ r j : Nat, r ≠ 7 → r ≠ 9 → ¬ (r = 0 ∧ j = 2) → (dn_firstRefusing f 2 (f 0 0).toNatClampNeg (f 0 0).toNatClampNeg x2).2 r j = f r j := fun r j a b c => fr_fr_keep b2 a b c
        have G : ∀ r j : Nat, r ≠ 7 → r ≠ 10 → ¬ (r = 0 ∧ j = 6) → (dn_m_ask (fr_up g 0 11 x2)).2 r j = fr_up g 0 11 x2 r j := fun r j a b c => mo_ask_keep (f := fr_up g 0 11 x2) (show 0 ≤ (g 0 1).toInt ∧ (g 0 1).toInt ≤ 12 from n2 ▸ b2) a b c
        have f00 := F 0 0 (by decide) (by decide) (by decide)
        have g05 : (dn_m_ask (fr_up g 0 11 x2)).2 0 5 = g 0 5 := G 0 5 (by decide) (by decide) (by decide)
        have e : (dn_m_ask (fr_up g 0 11 x2)).1 = (dn_firstRefusing f 2 (f 0 0).toNatClampNeg (f 0 0).toNatClampNeg x2).1 := w1.symm
        by_cases c3 : (dn_firstRefusing f 2 (f 0 0).toNatClampNeg (f 0 0).toNatClampNeg x2).1 = 0
        · rw [if_pos c3, e, c3, ← g05]
          have K := ih _ (dn_m_ask (fr_up g 0 11 x2)).2 (x2 * 2) hm' h2' (by rw [f00]; exact hU) (by rw [f00, F 1 _ (by decide) (by decide) (by omega)]; exact h1) (by rw [f00, F 2 _ (by decide) (by decide) (by omega)]; exact h2) (by rw [f00, F 3 _ (by decide) (by decide) (by omega)]; exact h3) ((G 0 7 (by decide) (by decide) (by decide)).trans h7) ((G 0 12 (by decide) (by decide) (by decide)).trans h12)
          rw [f00] at K
          exact K
        · rw [if_neg c3, e]
          have hb : 0 < (dn_firstRefusing f 2 (f 0 0).toNatClampNeg (f 0 0).toNatClampNeg x2).1.toInt := by
            rcases w4 with w4 | w4
            · exact absurd w4 c3
            · exact w4
          have hn : ∃ n', n = n' + 1 := by
            cases n with
            | zero => exact fr_mk_0 hm'
            | succ n' => exact ⟨n', rfl⟩
          obtain ⟨n', rfl⟩ := hn
          rw [rl_by hb, ← g05]
          exact rl_unit_no h2' hb
theorem ro_unit {f g : Nat → Nat → Int32} (h : rl f g) (x y k : Int32) : ro (rl_c2 xI) (dn_unit f x y k) (dn_m_unit g x y k) := by
  unfold dn_unit dn_m_unit
  rw [rl_within, rl_within, rl_within]
  by_cases c : dn_within x 7 = 0
  · rw [if_pos c, if_pos c]; exact ro_x h rfl
  · rw [if_neg c, if_neg c]
    by_cases c2 : dn_within y 1000 = 0
    · rw [if_pos c2, if_pos c2]; exact ro_x h rfl
    · rw [if_neg c2, if_neg c2]
      by_cases c3 : dn_within k 31 = 0
      · rw [if_pos c3, if_pos c3]; exact ro_x h rfl
      · rw [if_neg c3, if_neg c3]
        have hb := h.2.1.1
        by_cases c4 : f 0 0 < 10
        · have c5 : ¬ g 0 0 = 10 := by rw [← h.1.1]; exact (rl_full rfl hb.2).mp c4
          rw [if_pos c4, if_neg c5]
          have hU : (f 0 0).toInt < 10 := fr_t1 c4
          have h' : rl (fr_up (fr_up (fr_up f 1 ((f 0 0).toNatClampNeg) x) 2 ((f 0 0).toNatClampNeg) y) 3 ((f 0 0).toNatClampNeg) k) (fr_up (fr_up (fr_up g 0 5 0) 0 7 2) 0 12 k) := by
            obtain ⟨hn, hb', hu, r⟩ := h
            refine ⟨hn, hb', fun j hj => ?_, r⟩
            have e := rl_uq hb.1 hj
            show fr_up f 1 _ x 1 j = g 1 j ∧ fr_up f 2 _ y 2 j = g 2 j ∧ fr_up f 3 _ k 3 j = g 3 j
            rw [fr_up_k e, fr_up_k e, fr_up_k e]
            exact hu j hj
          have K := rl_marks (x := x) (y := y) (k := k) 6 _ _ 1 (Or.inl ⟨rfl, Nat.le_refl _⟩) h' hU (fr_up_s (f := f) (r := 1)) (fr_up_s (f := f) (r := 2)) fr_up_s rfl rfl
          obtain ⟨K1, K2, K3⟩ := K
          have e0 : (fr_up (fr_up (fr_up f 1 ((f 0 0).toNatClampNeg) x) 2 ((f 0 0).toNatClampNeg) y) 3 ((f 0 0).toNatClampNeg) k) 0 0 = f 0 0 := rfl
          rw [e0] at K1 K2
          unfold ro_u at K1 K2
          unfold dn_marks
          by_cases c6 : (dn_marks_2 6 ((f 0 0).toNatClampNeg) (fr_up (fr_up (fr_up f 1 ((f 0 0).toNatClampNeg) x) 2 ((f 0 0).toNatClampNeg) y) 3 ((f 0 0).toNatClampNeg) k) 1).1 = 0
          · rw [if_pos c6] at K1 K2
            rw [if_pos c6]
            exact ⟨K3, fun _ => K1, K2⟩
          · rw [if_neg c6] at K1 K2
            rw [if_neg c6]
            exact ⟨K3, fun _ => K1, K2⟩
        · have c5 : g 0 0 = 10 := by
            rw [← h.1.1]
            by_cases z : f 0 0 = 10
            · exact z
            · exact absurd ((rl_full rfl hb.2).mpr z) c4
          rw [if_neg c4, if_pos c5]; exact ro_x h rfl
