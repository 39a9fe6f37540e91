set_option maxHeartbeats 4000000 in
set_option maxRecDepth 100000 in
theorem lw_loop {p : Program} {l : Launch} {e : Env} {s : State} {m : MethodId} {below : List Frame} {meth : Method} {c : Code} {b L : Nat} {xs : Nat → Int32} {D : va_G} {ka : Nat → ClassId} {al be : Nat → Nat} {o : Nat} {A : Nat → Prop} {hh : List ExceptionTableEntry} {Q : State → Prop} (hls : l.stackTraces = false) (C : fr_Cx p s m #[Value.ref b] meth c "FragileRulesLaw" code 7 ret hh fr_tbl fr_nw D vwCl (fr_ty ka) A) (hX : va_X b L xs s s.heap) (hbl : b < s.heap.size) (hbA : ¬ A b) (hL : L ≤ 2048) (kx : ∀ (H : Heap) (locs : List Loc) (ls : Array Slot) (cells slots : Nat), cells ≤ room_1.cells → slots ≤ room_1.slots → va_S A s.heap H locs → ls.size = 7 → W p l e room_1 s m #[Value.ref b] below meth c H locs cells slots Q (F0 m 964 ls [])) :
    ∀ (n : Nat) (f g : Nat → Nat → Int32) (h : Nat → Int64) (i : Int32) (H : Heap) (locs : List Loc) (ls : Array Slot) (cells slots : Nat), rl f g → 0 ≤ i.toInt ∧ i.toInt ≤ 2052 → (L : Int) - i.toInt < 4 * (n : Int) + 4 → cells + n ≤ room_1.cells → slots + 6 * n ≤ room_1.slots → va_P D vwCl (lw_w ka al f be g o h) H → va_D A (lw_w ka al f be g o h) → va_S A s.heap H locs → lv_has ls 7 [(0, .ref b), (1, .ref (al 0)), (2, .ref (be 0)), (3, .ref o), (4, .int i)] → W p l e room_1 s m #[Value.ref b] below meth c H locs cells slots Q (F0 m 23 ls []) := by
  obtain ⟨hx, hb, hml, hown, ht, hK, hlocks, hrt, hA, hN, hZ, hEx⟩ := id C
  have hLi : (Int32.ofNat L).toInt = (L : Int) := Int32.toInt_ofNat_of_lt (by omega)
  have hL4 : (Int32.ofNat L - 4).toInt = (L : Int) - 4 := by
    rw [Int32.toInt_sub, hLi, show (4 : Int32).toInt = 4 from rfl, Int.bmod_def]; split <;> omega
  intro n
  induction n with
  | zero =>
    intro f g h i H locs ls cells slots hr hi hn hc hs hP hD hS hl
    refine lv_iload hx hb dW_law_23 (lv_at hl 4 rfl) ?_
    refine lv_aload_n hx hb dW_law_25 rfl (lv_at hl 0 rfl) ?_
    refine va_slen hx hb hX hbl hbA hS dW_law_26 ?_
    refine lv_iconst (v := 4) hx hb dW_law_27 (by decide) ?_
    refine lv_isub hx hb dW_law_28 ?_
    refine lv_icmp_gt (tgt := 964) hx hb dW_law_29 (by decide) (fun _ => kx H locs ls cells slots (by omega) (by omega) hS hl.1) (fun c0 => ?_)
    have := fr_t2 c0
    omega
  | succ n ih =>
    intro f g h i H locs ls cells slots hr hi hn hc hs hP hD hS hl
    refine lv_iload hx hb dW_law_23 (lv_at hl 4 rfl) ?_
    refine lv_aload_n hx hb dW_law_25 rfl (lv_at hl 0 rfl) ?_
    refine va_slen hx hb hX hbl hbA hS dW_law_26 ?_
    refine lv_iconst (v := 4) hx hb dW_law_27 (by decide) ?_
    refine lv_isub hx hb dW_law_28 ?_
    refine lv_icmp_gt (tgt := 964) hx hb dW_law_29 (by decide) (fun _ => kx H locs ls cells slots (by omega) (by omega) hS hl.1) (fun c0 => ?_)
    have c1 := fr_t2 c0
    have hi4 : 0 ≤ i.toInt ∧ i.toInt + 4 ≤ (L : Int) := ⟨hi.1, by omega⟩
    have hf : cells + 1 ≤ room_1.cells ∧ slots + 6 ≤ room_1.slots := ⟨by omega, by omega⟩
    have back : ∀ (f g : Nat → Nat → Int32) (h : Nat → Int64) (H : Heap) (locs : List Loc) (ls : Array Slot), rl f g → va_P D vwCl (lw_w ka al f be g o h) H → va_D A (lw_w ka al f be g o h) → va_S A s.heap H locs → lv_has ls 7 [(0, .ref b), (1, .ref (al 0)), (2, .ref (be 0)), (3, .ref o), (4, .int i)] → W p l e room_1 s m #[Value.ref b] below meth c H locs (cells + 1) (slots + 6) Q (F0 m 958 ls []) := by
      intro f g h H locs ls hr hP hD hS hl
      have hi' : (i + 4).toInt = i.toInt + 4 := by
        rw [Int32.toInt_add, show (4 : Int32).toInt = 4 from rfl, Int.bmod_def]; split <;> omega
      refine lv_iinc (v := i + 4) (lv' := [(4, .int (i + 4)), (0, .ref b), (1, .ref (al 0)), (2, .ref (be 0)), (3, .ref o)]) hx hb dW_law_958 hl (k := 4) rfl rfl (by decide) rfl (fun ls hl => ?_)
      refine lv_goto (tgt := 23) hx hb dW_law_961 (by decide) ?_
      exact ih f g h (i + 4) H locs ls (cells + 1) (slots + 6) hr (by omega) (by omega) (by omega) (by omega) hP hD hS (lv_sub hl [1, 2, 3, 4, 0] rfl)
    refine lv_aload_n hx hb dW_law_32 rfl (lv_at hl 0 rfl) ?_
    refine lv_iload hx hb dW_law_33 (lv_at hl 4 rfl) ?_
    refine va_sld hx hb hX hbl hbA hS (by rw [vp_in_iff]; omega) dW_law_35 ?_
    refine lv_bipush (v := 15) hx hb dW_law_36 (by decide) ?_
    refine lv_iand hx hb dW_law_38 ?_
    generalize xs i.toNatClampNeg &&& 15 = v
    by_cases c_0 : v = 0
    · refine lv_tableIn (tgt := 108) hx hb dW_law_39 (by rw [c_0]; decide) (by rw [c_0]; decide) (by rw [c_0] <;> rfl) (by decide) ?_
      exact cs_unit hls C hX hbl hbA hL hr hi4 hf hP hD hS hl back
    by_cases c_1 : v = 1
    · refine lv_tableIn (tgt := 188) hx hb dW_law_39 (by rw [c_1]; decide) (by rw [c_1]; decide) (by rw [c_1] <;> rfl) (by decide) ?_
      exact cs_rule hls C hX hbl hbA hL hr hi4 hf hP hD hS hl back
    by_cases c_2 : v = 2
    · refine lv_tableIn (tgt := 268) hx hb dW_law_39 (by rw [c_2]; decide) (by rw [c_2]; decide) (by rw [c_2] <;> rfl) (by decide) ?_
      exact cs_own hls C hX hbl hbA hL hr hi4 hf hP hD hS hl back
    by_cases c_3 : v = 3
    · refine lv_tableIn (tgt := 352) hx hb dW_law_39 (by rw [c_3]; decide) (by rw [c_3]; decide) (by rw [c_3] <;> rfl) (by decide) ?_
      exact cs_sign hls C hX hbl hbA hL hr hi4 hf hP hD hS hl back
    by_cases c_4 : v = 4
    · refine lv_tableIn (tgt := 388) hx hb dW_law_39 (by rw [c_4]; decide) (by rw [c_4]; decide) (by rw [c_4] <;> rfl) (by decide) ?_
      exact cs_read hls C hX hbl hbA hL hr hi4 hf hP hD hS hl back
    by_cases c_5 : v = 5
    · refine lv_tableIn (tgt := 432) hx hb dW_law_39 (by rw [c_5]; decide) (by rw [c_5]; decide) (by rw [c_5] <;> rfl) (by decide) ?_
      exact cs_may hls C hX hbl hbA hL hr hi4 hf hP hD hS hl back
    by_cases c_6 : v = 6
    · refine lv_tableIn (tgt := 512) hx hb dW_law_39 (by rw [c_6]; decide) (by rw [c_6]; decide) (by rw [c_6] <;> rfl) (by decide) ?_
      exact cs_together hls C hX hbl hbA hL hr hi4 hf hP hD hS hl back
    by_cases c_7 : v = 7
    · refine lv_tableIn (tgt := 580) hx hb dW_law_39 (by rw [c_7]; decide) (by rw [c_7]; decide) (by rw [c_7] <;> rfl) (by decide) ?_
      exact cs_mark hls C hX hbl hbA hL hr hi4 hf hP hD hS hl back
    by_cases c_8 : v = 8
    · refine lv_tableIn (tgt := 648) hx hb dW_law_39 (by rw [c_8]; decide) (by rw [c_8]; decide) (by rw [c_8] <;> rfl) (by decide) ?_
      exact cs_asked hls C hX hbl hbA hL hr hi4 hf hP hD hS hl back
    by_cases c_9 : v = 9
    · refine lv_tableIn (tgt := 673) hx hb dW_law_39 (by rw [c_9]; decide) (by rw [c_9]; decide) (by rw [c_9] <;> rfl) (by decide) ?_
      exact cs_never hls C hX hbl hbA hL hr hi4 hf hP hD hS hl back
    by_cases c_10 : v = 10
    · refine lv_tableIn (tgt := 729) hx hb dW_law_39 (by rw [c_10]; decide) (by rw [c_10]; decide) (by rw [c_10] <;> rfl) (by decide) ?_
      exact cs_order hls C hX hbl hbA hL hr hi4 hf hP hD hS hl back
    by_cases c_11 : v = 11
    · refine lv_tableIn (tgt := 797) hx hb dW_law_39 (by rw [c_11]; decide) (by rw [c_11]; decide) (by rw [c_11] <;> rfl) (by decide) ?_
      exact cs_told hls C hX hbl hbA hL hr hi4 hf hP hD hS hl back
    by_cases c_12 : v = 12
    · refine lv_tableIn (tgt := 865) hx hb dW_law_39 (by rw [c_12]; decide) (by rw [c_12]; decide) (by rw [c_12] <;> rfl) (by decide) ?_
      exact cs_about hls C hX hbl hbA hL hr hi4 hf hP hD hS hl back
    by_cases c_13 : v = 13
    · refine lv_tableIn (tgt := 933) hx hb dW_law_39 (by rw [c_13]; decide) (by rw [c_13]; decide) (by rw [c_13] <;> rfl) (by decide) ?_
      exact cs_count hls C hX hbl hbA hL hr hi4 hf hP hD hS hl back
    refine lv_tableOut (tgt := 958) hx hb dW_law_39 (by have h0 := fr_ne (k := 0) (a := 0) rfl c_0; have h1 := fr_ne (k := 1) (a := 1) rfl c_1; have h2 := fr_ne (k := 2) (a := 2) rfl c_2; have h3 := fr_ne (k := 3) (a := 3) rfl c_3; have h4 := fr_ne (k := 4) (a := 4) rfl c_4; have h5 := fr_ne (k := 5) (a := 5) rfl c_5; have h6 := fr_ne (k := 6) (a := 6) rfl c_6; have h7 := fr_ne (k := 7) (a := 7) rfl c_7; have h8 := fr_ne (k := 8) (a := 8) rfl c_8; have h9 := fr_ne (k := 9) (a := 9) rfl c_9; have h10 := fr_ne (k := 10) (a := 10) rfl c_10; have h11 := fr_ne (k := 11) (a := 11) rfl c_11; have h12 := fr_ne (k := 12) (a := 12) rfl c_12; have h13 := fr_ne (k := 13) (a := 13) rfl c_13; omega) (by decide) ?_
    refine W.widen (k := cells + 1) (n := slots + 6) (by omega) (by omega) ?_
    exact back f g h H locs ls hr hP hD hS hl
