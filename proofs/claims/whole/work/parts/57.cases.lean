set_option maxHeartbeats 4000000 in
set_option maxRecDepth 100000 in
theorem cs_mark {p : Program} {l : Launch} {e : Env} {s : State} {m : MethodId} {below : List Frame} {meth : Method} {c : Code} {b L : Nat} {xs : Nat → Int32} {D : va_G} {ka : Nat → ClassId} {al be : Nat → Nat} {o : Nat} {A : Nat → Prop} {hh : List ExceptionTableEntry} {Q : State → Prop} (hls : l.stackTraces = false) (C : fr_Cx p s m #[Value.ref b] meth c "FragileRulesLaw" code 7 ret hh fr_tbl fr_nw D vwCl (fr_ty ka) A) (hX : va_X b L xs s s.heap) (hbl : b < s.heap.size) (hbA : ¬ A b) (hL : L ≤ 2048) {f g : Nat → Nat → Int32} {h : Nat → Int64} {i : Int32} {H : Heap} {locs : List Loc} {ls : Array Slot} {cells slots : Nat} (hr : rl f g) (hi : 0 ≤ i.toInt ∧ i.toInt + 4 ≤ (L : Int)) (hf : cells + 1 ≤ room_1.cells ∧ slots + 6 ≤ room_1.slots) (hP : va_P D vwCl (lw_w ka al f be g o h) H) (hD : va_D A (lw_w ka al f be g o h)) (hS : va_S A s.heap H locs) (hl : lv_has ls 7 [(0, .ref b), (1, .ref (al 0)), (2, .ref (be 0)), (3, .ref o), (4, .int i)])
    (kk : ∀ (f g : Nat → Nat → Int32) (h : Nat → Int64) (H : Heap) (locs : List Loc) (ls : Array Slot), rl f g → va_P D vwCl (lw_w ka al f be g o h) H → va_D A (lw_w ka al f be g o h) → va_S A s.heap H locs → lv_has ls 7 [(0, .ref b), (1, .ref (al 0)), (2, .ref (be 0)), (3, .ref o), (4, .int i)] → W p l e room_1 s m #[Value.ref b] below meth c H locs (cells + 1) (slots + 6) Q (F0 m 958 ls [])) : W p l e room_1 s m #[Value.ref b] below meth c H locs cells slots Q (F0 m 580 ls []) := by
  obtain ⟨hx, hb, hml, hown, ht, hK, hlocks, hrt, hA, hN, hZ, hEx⟩ := id C
  refine lv_aload_n hx hb dW_law_580 rfl (lv_at hl 1 rfl) ?_
  refine lv_aload_n hx hb dW_law_581 rfl (lv_at hl 0 rfl) ?_
  refine lv_iload hx hb dW_law_582 (lv_at hl 4 rfl) ?_
  refine lv_iconst (v := 1) hx hb dW_law_584 (by decide) ?_
  refine lv_iadd hx hb dW_law_585 ?_
  refine va_sld hx hb hX hbl hbA hS (lw_idx hL hi (by decide)) dW_law_586 ?_
  refine lv_aload_n hx hb dW_law_587 rfl (lv_at hl 0 rfl) ?_
  refine lv_iload hx hb dW_law_588 (lv_at hl 4 rfl) ?_
  refine lv_iconst (v := 2) hx hb dW_law_590 (by decide) ?_
  refine lv_iadd hx hb dW_law_591 ?_
  refine va_sld hx hb hX hbl hbA hS (lw_idx hL hi (by decide)) dW_law_592 ?_
  refine lv_aload_n hx hb dW_law_593 rfl (lv_at hl 3 rfl) ?_
  refine sL_mark C hP hD hS hl.1 ⟨Nat.le_of_ble_eq_true rfl, Nat.le_of_ble_eq_true rfl⟩ (Nat.le_of_ble_eq_true rfl) hf hls hr.2.1.1 hr.2.1.2.1 (rl_ford hr) dW_law_594 (fun H locs hP hD hS => ?_)
  refine lv_istore (lv' := [(5, .int (rl_c3 xN xI (dn_mark f (xs (i + 1).toNatClampNeg) (xs (i + 2).toNatClampNeg)).1)), (0, .ref b), (1, .ref (al 0)), (2, .ref (be 0)), (3, .ref o), (4, .int i)]) hx hb dW_law_597 hl (by decide) rfl (fun ls hl => ?_)
  refine lv_aload_n hx hb dW_law_599 rfl (lv_at hl 3 rfl) ?_
  refine lv_aload_n hx hb dW_law_600 rfl (lv_at hl 1 rfl) ?_
  refine lv_iload hx hb dW_law_601 (lv_at hl 5 rfl) ?_
  refine lv_iconst (v := 1) hx hb dW_law_603 (by decide) ?_
  refine lv_iadd hx hb dW_law_604 ?_
  refine va_sld hx hb hX hbl hbA hS (lw_idx hL hi (by decide)) dW_law_605 ?_
  refine lv_aload_n hx hb dW_law_606 rfl (lv_at hl 1 rfl) ?_
  refine lv_iload hx hb dW_law_607 (lv_at hl 5 rfl) ?_
  refine lv_iconst (v := 2) hx hb dW_law_609 (by decide) ?_
  refine lv_iadd hx hb dW_law_610 ?_
  refine va_sld hx hb hX hbl hbA hS (lw_idx hL hi (by decide)) dW_law_611 ?_
  refine mL_mark C hP hD hS hl.1 ⟨Nat.le_of_ble_eq_true rfl, Nat.le_of_ble_eq_true rfl⟩ (Nat.le_of_ble_eq_true rfl) ⟨by have := hf.1; omega, by have := hf.2; omega⟩ (rl_mU hr) (rl_mR hr) (rl_mord hr) (rl_mB hr) dW_law_612 (fun H locs hP hD hS => ?_)
  refine lv_istore (lv' := [(6, .int (dn_m_mark g (xs (i + 1).toNatClampNeg) (xs (i + 2).toNatClampNeg)).1), (5, .int (rl_c3 xN xI (dn_mark f (xs (i + 1).toNatClampNeg) (xs (i + 2).toNatClampNeg)).1)), (0, .ref b), (1, .ref (al 0)), (2, .ref (be 0)), (3, .ref o), (4, .int i)]) hx hb dW_law_615 hl (by decide) rfl (fun ls hl => ?_)
  refine lv_aload_n hx hb dW_law_617 rfl (lv_at hl 4 rfl) ?_
  refine mL_thrown C hP hD hS hl.1 ⟨Nat.le_of_ble_eq_true rfl, Nat.le_of_ble_eq_true rfl⟩ (Nat.le_of_ble_eq_true rfl) ⟨by have := hf.1; omega, by have := hf.2; omega⟩  dW_law_618 (fun H locs hP hD hS => ?_)
  refine lv_iload hx hb dW_law_621 (lv_at hl 1 rfl) ?_
  have K := ro_mark hr (xs (i + 1).toNatClampNeg) (xs (i + 2).toNatClampNeg)
  have hrl : rl ((dn_mark f (xs (i + 1).toNatClampNeg) (xs (i + 2).toNatClampNeg)).2.2) ((dn_m_mark g (xs (i + 1).toNatClampNeg) (xs (i + 2).toNatClampNeg)).2) := K.2.2
  refine lv_icmp_eq (tgt := 628) hx hb dW_law_623 (by decide) (fun _ => ?_) (fun z => absurd K.1 z)
  refine lv_iload hx hb dW_law_628 (lv_at hl 1 rfl) ?_
  refine lv_if_ne (tgt := 645) hx hb dW_law_630 (by decide) (fun hk => ?_) (fun hk => ?_)
  · skip
    refine lv_goto (tgt := 958) hx hb dW_law_645 (by decide) ?_
    exact kk ((dn_mark f (xs (i + 1).toNatClampNeg) (xs (i + 2).toNatClampNeg)).2.2) ((dn_m_mark g (xs (i + 1).toNatClampNeg) (xs (i + 2).toNatClampNeg)).2) (lo_h h (dn_mark f (xs (i + 1).toNatClampNeg) (xs (i + 2).toNatClampNeg)).1 (dn_mark f (xs (i + 1).toNatClampNeg) (xs (i + 2).toNatClampNeg)).2.1) H locs ls hrl hP hD hS (lv_sub hl [2, 3, 4, 5, 6] rfl)
  · skip
    refine lv_aload_n hx hb dW_law_633 rfl (lv_at hl 5 rfl) ?_
    refine lv_iconst (v := 0) hx hb dW_law_634 (by decide) ?_
    refine va_lald hx hb hK hP 40 3 lw_w_o rfl lw_in dW_law_635 ?_
    refine lv_iload hx hb dW_law_636 (lv_at hl 0 rfl) ?_
    refine lv_i2l (v := ((dn_m_mark g (xs (i + 1).toNatClampNeg) (xs (i + 2).toNatClampNeg)).1).toInt64) hx hb dW_law_638 rfl ?_
    refine W.lcmp hx hb dW_law_639 ?_
    refine lv_if_eq (tgt := 645) hx hb dW_law_640 (by decide) (fun _ => ?_) (fun z => absurd (lo_out (rl_c3_0 hk) K.2.1) z)
    refine lv_goto (tgt := 958) hx hb dW_law_645 (by decide) ?_
    exact kk ((dn_mark f (xs (i + 1).toNatClampNeg) (xs (i + 2).toNatClampNeg)).2.2) ((dn_m_mark g (xs (i + 1).toNatClampNeg) (xs (i + 2).toNatClampNeg)).2) (lo_h h (dn_mark f (xs (i + 1).toNatClampNeg) (xs (i + 2).toNatClampNeg)).1 (dn_mark f (xs (i + 1).toNatClampNeg) (xs (i + 2).toNatClampNeg)).2.1) H locs ls hrl hP hD hS (lv_sub hl [2, 3, 4, 5, 6] rfl)

set_option maxHeartbeats 4000000 in
set_option maxRecDepth 100000 in
theorem cs_asked {p : Program} {l : Launch} {e : Env} {s : State} {m : MethodId} {below : List Frame} {meth : Method} {c : Code} {b L : Nat} {xs : Nat → Int32} {D : va_G} {ka : Nat → ClassId} {al be : Nat → Nat} {o : Nat} {A : Nat → Prop} {hh : List ExceptionTableEntry} {Q : State → Prop} (hls : l.stackTraces = false) (C : fr_Cx p s m #[Value.ref b] meth c "FragileRulesLaw" code 7 ret hh fr_tbl fr_nw D vwCl (fr_ty ka) A) (hX : va_X b L xs s s.heap) (hbl : b < s.heap.size) (hbA : ¬ A b) (hL : L ≤ 2048) {f g : Nat → Nat → Int32} {h : Nat → Int64} {i : Int32} {H : Heap} {locs : List Loc} {ls : Array Slot} {cells slots : Nat} (hr : rl f g) (hi : 0 ≤ i.toInt ∧ i.toInt + 4 ≤ (L : Int)) (hf : cells + 1 ≤ room_1.cells ∧ slots + 6 ≤ room_1.slots) (hP : va_P D vwCl (lw_w ka al f be g o h) H) (hD : va_D A (lw_w ka al f be g o h)) (hS : va_S A s.heap H locs) (hl : lv_has ls 7 [(0, .ref b), (1, .ref (al 0)), (2, .ref (be 0)), (3, .ref o), (4, .int i)])
    (kk : ∀ (f g : Nat → Nat → Int32) (h : Nat → Int64) (H : Heap) (locs : List Loc) (ls : Array Slot), rl f g → va_P D vwCl (lw_w ka al f be g o h) H → va_D A (lw_w ka al f be g o h) → va_S A s.heap H locs → lv_has ls 7 [(0, .ref b), (1, .ref (al 0)), (2, .ref (be 0)), (3, .ref o), (4, .int i)] → W p l e room_1 s m #[Value.ref b] below meth c H locs (cells + 1) (slots + 6) Q (F0 m 958 ls [])) : W p l e room_1 s m #[Value.ref b] below meth c H locs cells slots Q (F0 m 648 ls []) := by
  obtain ⟨hx, hb, hml, hown, ht, hK, hlocks, hrt, hA, hN, hZ, hEx⟩ := id C
  refine lv_aload_n hx hb dW_law_648 rfl (lv_at hl 1 rfl) ?_
  refine lv_aload_n hx hb dW_law_649 rfl (lv_at hl 0 rfl) ?_
  refine lv_iload hx hb dW_law_650 (lv_at hl 4 rfl) ?_
  refine lv_iconst (v := 1) hx hb dW_law_652 (by decide) ?_
  refine lv_iadd hx hb dW_law_653 ?_
  refine va_sld hx hb hX hbl hbA hS (lw_idx hL hi (by decide)) dW_law_654 ?_
  refine xL_asked C hP hD hS hl.1 ⟨Nat.le_of_ble_eq_true rfl, Nat.le_of_ble_eq_true rfl⟩ (Nat.le_of_ble_eq_true rfl) ⟨by omega, by omega⟩ hr.2.1.2.2.1 dW_law_655 (fun H locs hP hD hS => ?_)
  refine lv_aload_n hx hb dW_law_658 rfl (lv_at hl 2 rfl) ?_
  refine lv_aload_n hx hb dW_law_659 rfl (lv_at hl 0 rfl) ?_
  refine lv_iload hx hb dW_law_660 (lv_at hl 4 rfl) ?_
  refine lv_iconst (v := 1) hx hb dW_law_662 (by decide) ?_
  refine lv_iadd hx hb dW_law_663 ?_
  refine va_sld hx hb hX hbl hbA hS (lw_idx hL hi (by decide)) dW_law_664 ?_
  refine mL_asked C hP hD hS hl.1 ⟨Nat.le_of_ble_eq_true rfl, Nat.le_of_ble_eq_true rfl⟩ (Nat.le_of_ble_eq_true rfl) ⟨by omega, by omega⟩ (rl_mA hr) dW_law_665 (fun H locs hP hD hS => ?_)
  have K := ro_asked hr (xs (i + 1).toNatClampNeg)
  have hrl : rl f ((dn_m_asked g (xs (i + 1).toNatClampNeg)).2) := K.2
  refine lv_icmp_eq (tgt := 958) hx hb dW_law_668 (by decide) (fun _ => ?_) (fun z => absurd K.1 z)
  refine W.widen (k := cells + 1) (n := slots + 6) (by omega) (by omega) ?_
  exact kk f ((dn_m_asked g (xs (i + 1).toNatClampNeg)).2) h H locs ls hrl hP hD hS (lv_sub hl [0, 1, 2, 3, 4] rfl)

set_option maxHeartbeats 4000000 in
set_option maxRecDepth 100000 in
theorem cs_never {p : Program} {l : Launch} {e : Env} {s : State} {m : MethodId} {below : List Frame} {meth : Method} {c : Code} {b L : Nat} {xs : Nat → Int32} {D : va_G} {ka : Nat → ClassId} {al be : Nat → Nat} {o : Nat} {A : Nat → Prop} {hh : List ExceptionTableEntry} {Q : State → Prop} (hls : l.stackTraces = false) (C : fr_Cx p s m #[Value.ref b] meth c "FragileRulesLaw" code 7 ret hh fr_tbl fr_nw D vwCl (fr_ty ka) A) (hX : va_X b L xs s s.heap) (hbl : b < s.heap.size) (hbA : ¬ A b) (hL : L ≤ 2048) {f g : Nat → Nat → Int32} {h : Nat → Int64} {i : Int32} {H : Heap} {locs : List Loc} {ls : Array Slot} {cells slots : Nat} (hr : rl f g) (hi : 0 ≤ i.toInt ∧ i.toInt + 4 ≤ (L : Int)) (hf : cells + 1 ≤ room_1.cells ∧ slots + 6 ≤ room_1.slots) (hP : va_P D vwCl (lw_w ka al f be g o h) H) (hD : va_D A (lw_w ka al f be g o h)) (hS : va_S A s.heap H locs) (hl : lv_has ls 7 [(0, .ref b), (1, .ref (al 0)), (2, .ref (be 0)), (3, .ref o), (4, .int i)])
    (kk : ∀ (f g : Nat → Nat → Int32) (h : Nat → Int64) (H : Heap) (locs : List Loc) (ls : Array Slot), rl f g → va_P D vwCl (lw_w ka al f be g o h) H → va_D A (lw_w ka al f be g o h) → va_S A s.heap H locs → lv_has ls 7 [(0, .ref b), (1, .ref (al 0)), (2, .ref (be 0)), (3, .ref o), (4, .int i)] → W p l e room_1 s m #[Value.ref b] below meth c H locs (cells + 1) (slots + 6) Q (F0 m 958 ls [])) : W p l e room_1 s m #[Value.ref b] below meth c H locs cells slots Q (F0 m 673 ls []) := by
  obtain ⟨hx, hb, hml, hown, ht, hK, hlocks, hrt, hA, hN, hZ, hEx⟩ := id C
  refine lv_aload_n hx hb dW_law_673 rfl (lv_at hl 1 rfl) ?_
  refine lv_aload_n hx hb dW_law_674 rfl (lv_at hl 0 rfl) ?_
  refine lv_iload hx hb dW_law_675 (lv_at hl 4 rfl) ?_
  refine lv_iconst (v := 1) hx hb dW_law_677 (by decide) ?_
  refine lv_iadd hx hb dW_law_678 ?_
  refine va_sld hx hb hX hbl hbA hS (lw_idx hL hi (by decide)) dW_law_679 ?_
  refine lv_aload_n hx hb dW_law_680 rfl (lv_at hl 3 rfl) ?_
  refine sL_never C hP hD hS hl.1 ⟨Nat.le_of_ble_eq_true rfl, Nat.le_of_ble_eq_true rfl⟩ (Nat.le_of_ble_eq_true rfl) hf hls hr.2.1.2.1 dW_law_681 (fun H locs hP hD hS => ?_)
  refine lv_istore (lv' := [(5, .int (rl_c1 (dn_never f (xs (i + 1).toNatClampNeg)).1)), (0, .ref b), (1, .ref (al 0)), (2, .ref (be 0)), (3, .ref o), (4, .int i)]) hx hb dW_law_684 hl (by decide) rfl (fun ls hl => ?_)
  refine lv_aload_n hx hb dW_law_686 rfl (lv_at hl 3 rfl) ?_
  refine lv_aload_n hx hb dW_law_687 rfl (lv_at hl 1 rfl) ?_
  refine lv_iload hx hb dW_law_688 (lv_at hl 5 rfl) ?_
  refine lv_iconst (v := 1) hx hb dW_law_690 (by decide) ?_
  refine lv_iadd hx hb dW_law_691 ?_
  refine va_sld hx hb hX hbl hbA hS (lw_idx hL hi (by decide)) dW_law_692 ?_
  refine mL_never C hP hD hS hl.1 ⟨Nat.le_of_ble_eq_true rfl, Nat.le_of_ble_eq_true rfl⟩ (Nat.le_of_ble_eq_true rfl) ⟨by have := hf.1; omega, by have := hf.2; omega⟩ (rl_mR hr) dW_law_693 (fun H locs hP hD hS => ?_)
  refine lv_istore (lv' := [(6, .int (dn_m_never g (xs (i + 1).toNatClampNeg)).1), (5, .int (rl_c1 (dn_never f (xs (i + 1).toNatClampNeg)).1)), (0, .ref b), (1, .ref (al 0)), (2, .ref (be 0)), (3, .ref o), (4, .int i)]) hx hb dW_law_696 hl (by decide) rfl (fun ls hl => ?_)
  refine lv_aload_n hx hb dW_law_698 rfl (lv_at hl 4 rfl) ?_
  refine mL_thrown C hP hD hS hl.1 ⟨Nat.le_of_ble_eq_true rfl, Nat.le_of_ble_eq_true rfl⟩ (Nat.le_of_ble_eq_true rfl) ⟨by have := hf.1; omega, by have := hf.2; omega⟩  dW_law_699 (fun H locs hP hD hS => ?_)
  refine lv_iload hx hb dW_law_702 (lv_at hl 1 rfl) ?_
  have K := ro_never hr (xs (i + 1).toNatClampNeg)
  have hrl : rl ((dn_never f (xs (i + 1).toNatClampNeg)).2.2) ((dn_m_never g (xs (i + 1).toNatClampNeg)).2) := K.2.2
  refine lv_icmp_eq (tgt := 709) hx hb dW_law_704 (by decide) (fun _ => ?_) (fun z => absurd K.1 z)
  refine lv_iload hx hb dW_law_709 (lv_at hl 1 rfl) ?_
  refine lv_if_ne (tgt := 726) hx hb dW_law_711 (by decide) (fun hk => ?_) (fun hk => ?_)
  · skip
    refine lv_goto (tgt := 958) hx hb dW_law_726 (by decide) ?_
    exact kk ((dn_never f (xs (i + 1).toNatClampNeg)).2.2) ((dn_m_never g (xs (i + 1).toNatClampNeg)).2) (lo_h h (dn_never f (xs (i + 1).toNatClampNeg)).1 (dn_never f (xs (i + 1).toNatClampNeg)).2.1) H locs ls hrl hP hD hS (lv_sub hl [2, 3, 4, 5, 6] rfl)
  · skip
    refine lv_aload_n hx hb dW_law_714 rfl (lv_at hl 5 rfl) ?_
    refine lv_iconst (v := 0) hx hb dW_law_715 (by decide) ?_
    refine va_lald hx hb hK hP 40 3 lw_w_o rfl lw_in dW_law_716 ?_
    refine lv_iload hx hb dW_law_717 (lv_at hl 0 rfl) ?_
    refine lv_i2l (v := ((dn_m_never g (xs (i + 1).toNatClampNeg)).1).toInt64) hx hb dW_law_719 rfl ?_
    refine W.lcmp hx hb dW_law_720 ?_
    refine lv_if_eq (tgt := 726) hx hb dW_law_721 (by decide) (fun _ => ?_) (fun z => absurd (lo_out (rl_c1_0 hk) K.2.1) z)
    refine lv_goto (tgt := 958) hx hb dW_law_726 (by decide) ?_
    exact kk ((dn_never f (xs (i + 1).toNatClampNeg)).2.2) ((dn_m_never g (xs (i + 1).toNatClampNeg)).2) (lo_h h (dn_never f (xs (i + 1).toNatClampNeg)).1 (dn_never f (xs (i + 1).toNatClampNeg)).2.1) H locs ls hrl hP hD hS (lv_sub hl [2, 3, 4, 5, 6] rfl)

set_option maxHeartbeats 4000000 in
set_option maxRecDepth 100000 in
theorem cs_order {p : Program} {l : Launch} {e : Env} {s : State} {m : MethodId} {below : List Frame} {meth : Method} {c : Code} {b L : Nat} {xs : Nat → Int32} {D : va_G} {ka : Nat → ClassId} {al be : Nat → Nat} {o : Nat} {A : Nat → Prop} {hh : List ExceptionTableEntry} {Q : State → Prop} (hls : l.stackTraces = false) (C : fr_Cx p s m #[Value.ref b] meth c "FragileRulesLaw" code 7 ret hh fr_tbl fr_nw D vwCl (fr_ty ka) A) (hX : va_X b L xs s s.heap) (hbl : b < s.heap.size) (hbA : ¬ A b) (hL : L ≤ 2048) {f g : Nat → Nat → Int32} {h : Nat → Int64} {i : Int32} {H : Heap} {locs : List Loc} {ls : Array Slot} {cells slots : Nat} (hr : rl f g) (hi : 0 ≤ i.toInt ∧ i.toInt + 4 ≤ (L : Int)) (hf : cells + 1 ≤ room_1.cells ∧ slots + 6 ≤ room_1.slots) (hP : va_P D vwCl (lw_w ka al f be g o h) H) (hD : va_D A (lw_w ka al f be g o h)) (hS : va_S A s.heap H locs) (hl : lv_has ls 7 [(0, .ref b), (1, .ref (al 0)), (2, .ref (be 0)), (3, .ref o), (4, .int i)])
    (kk : ∀ (f g : Nat → Nat → Int32) (h : Nat → Int64) (H : Heap) (locs : List Loc) (ls : Array Slot), rl f g → va_P D vwCl (lw_w ka al f be g o h) H → va_D A (lw_w ka al f be g o h) → va_S A s.heap H locs → lv_has ls 7 [(0, .ref b), (1, .ref (al 0)), (2, .ref (be 0)), (3, .ref o), (4, .int i)] → W p l e room_1 s m #[Value.ref b] below meth c H locs (cells + 1) (slots + 6) Q (F0 m 958 ls [])) : W p l e room_1 s m #[Value.ref b] below meth c H locs cells slots Q (F0 m 729 ls []) := by
  obtain ⟨hx, hb, hml, hown, ht, hK, hlocks, hrt, hA, hN, hZ, hEx⟩ := id C
  refine lv_aload_n hx hb dW_law_729 rfl (lv_at hl 1 rfl) ?_
  refine lv_aload_n hx hb dW_law_730 rfl (lv_at hl 0 rfl) ?_
  refine lv_iload hx hb dW_law_731 (lv_at hl 4 rfl) ?_
  refine lv_iconst (v := 1) hx hb dW_law_733 (by decide) ?_
  refine lv_iadd hx hb dW_law_734 ?_
  refine va_sld hx hb hX hbl hbA hS (lw_idx hL hi (by decide)) dW_law_735 ?_
  refine lv_aload_n hx hb dW_law_736 rfl (lv_at hl 0 rfl) ?_
  refine lv_iload hx hb dW_law_737 (lv_at hl 4 rfl) ?_
  refine lv_iconst (v := 2) hx hb dW_law_739 (by decide) ?_
  refine lv_iadd hx hb dW_law_740 ?_
  refine va_sld hx hb hX hbl hbA hS (lw_idx hL hi (by decide)) dW_law_741 ?_
  refine lv_aload_n hx hb dW_law_742 rfl (lv_at hl 3 rfl) ?_
  refine sL_order C hP hD hS hl.1 ⟨Nat.le_of_ble_eq_true rfl, Nat.le_of_ble_eq_true rfl⟩ (Nat.le_of_ble_eq_true rfl) hf hls hr.2.1.2.1 dW_law_743 (fun H locs hP hD hS => ?_)
  refine lv_istore (lv' := [(5, .int (rl_c2 xN (dn_order f (xs (i + 1).toNatClampNeg) (xs (i + 2).toNatClampNeg)).1)), (0, .ref b), (1, .ref (al 0)), (2, .ref (be 0)), (3, .ref o), (4, .int i)]) hx hb dW_law_746 hl (by decide) rfl (fun ls hl => ?_)
  refine lv_aload_n hx hb dW_law_748 rfl (lv_at hl 3 rfl) ?_
  refine lv_aload_n hx hb dW_law_749 rfl (lv_at hl 1 rfl) ?_
  refine lv_iload hx hb dW_law_750 (lv_at hl 5 rfl) ?_
  refine lv_iconst (v := 1) hx hb dW_law_752 (by decide) ?_
  refine lv_iadd hx hb dW_law_753 ?_
  refine va_sld hx hb hX hbl hbA hS (lw_idx hL hi (by decide)) dW_law_754 ?_
  refine lv_aload_n hx hb dW_law_755 rfl (lv_at hl 1 rfl) ?_
  refine lv_iload hx hb dW_law_756 (lv_at hl 5 rfl) ?_
  refine lv_iconst (v := 2) hx hb dW_law_758 (by decide) ?_
  refine lv_iadd hx hb dW_law_759 ?_
  refine va_sld hx hb hX hbl hbA hS (lw_idx hL hi (by decide)) dW_law_760 ?_
  refine mL_order C hP hD hS hl.1 ⟨Nat.le_of_ble_eq_true rfl, Nat.le_of_ble_eq_true rfl⟩ (Nat.le_of_ble_eq_true rfl) ⟨by have := hf.1; omega, by have := hf.2; omega⟩ (rl_mR hr) (rl_mall hr) dW_law_761 (fun H locs hP hD hS => ?_)
  refine lv_istore (lv' := [(6, .int (dn_m_order g (xs (i + 1).toNatClampNeg) (xs (i + 2).toNatClampNeg)).1), (5, .int (rl_c2 xN (dn_order f (xs (i + 1).toNatClampNeg) (xs (i + 2).toNatClampNeg)).1)), (0, .ref b), (1, .ref (al 0)), (2, .ref (be 0)), (3, .ref o), (4, .int i)]) hx hb dW_law_764 hl (by decide) rfl (fun ls hl => ?_)
  refine lv_aload_n hx hb dW_law_766 rfl (lv_at hl 4 rfl) ?_
  refine mL_thrown C hP hD hS hl.1 ⟨Nat.le_of_ble_eq_true rfl, Nat.le_of_ble_eq_true rfl⟩ (Nat.le_of_ble_eq_true rfl) ⟨by have := hf.1; omega, by have := hf.2; omega⟩  dW_law_767 (fun H locs hP hD hS => ?_)
  refine lv_iload hx hb dW_law_770 (lv_at hl 1 rfl) ?_
  have K := ro_order hr (xs (i + 1).toNatClampNeg) (xs (i + 2).toNatClampNeg)
  have hrl : rl ((dn_order f (xs (i + 1).toNatClampNeg) (xs (i + 2).toNatClampNeg)).2.2) ((dn_m_order g (xs (i + 1).toNatClampNeg) (xs (i + 2).toNatClampNeg)).2) := K.2.2
  refine lv_icmp_eq (tgt := 777) hx hb dW_law_772 (by decide) (fun _ => ?_) (fun z => absurd K.1 z)
  refine lv_iload hx hb dW_law_777 (lv_at hl 1 rfl) ?_
  refine lv_if_ne (tgt := 794) hx hb dW_law_779 (by decide) (fun hk => ?_) (fun hk => ?_)
  · skip
    refine lv_goto (tgt := 958) hx hb dW_law_794 (by decide) ?_
    exact kk ((dn_order f (xs (i + 1).toNatClampNeg) (xs (i + 2).toNatClampNeg)).2.2) ((dn_m_order g (xs (i + 1).toNatClampNeg) (xs (i + 2).toNatClampNeg)).2) (lo_h h (dn_order f (xs (i + 1).toNatClampNeg) (xs (i + 2).toNatClampNeg)).1 (dn_order f (xs (i + 1).toNatClampNeg) (xs (i + 2).toNatClampNeg)).2.1) H locs ls hrl hP hD hS (lv_sub hl [2, 3, 4, 5, 6] rfl)
  · skip
    refine lv_aload_n hx hb dW_law_782 rfl (lv_at hl 5 rfl) ?_
    refine lv_iconst (v := 0) hx hb dW_law_783 (by decide) ?_
    refine va_lald hx hb hK hP 40 3 lw_w_o rfl lw_in dW_law_784 ?_
    refine lv_iload hx hb dW_law_785 (lv_at hl 0 rfl) ?_
    refine lv_i2l (v := ((dn_m_order g (xs (i + 1).toNatClampNeg) (xs (i + 2).toNatClampNeg)).1).toInt64) hx hb dW_law_787 rfl ?_
    refine W.lcmp hx hb dW_law_788 ?_
    refine lv_if_eq (tgt := 794) hx hb dW_law_789 (by decide) (fun _ => ?_) (fun z => absurd (lo_out (rl_c2_0 hk) K.2.1) z)
    refine lv_goto (tgt := 958) hx hb dW_law_794 (by decide) ?_
    exact kk ((dn_order f (xs (i + 1).toNatClampNeg) (xs (i + 2).toNatClampNeg)).2.2) ((dn_m_order g (xs (i + 1).toNatClampNeg) (xs (i + 2).toNatClampNeg)).2) (lo_h h (dn_order f (xs (i + 1).toNatClampNeg) (xs (i + 2).toNatClampNeg)).1 (dn_order f (xs (i + 1).toNatClampNeg) (xs (i + 2).toNatClampNeg)).2.1) H locs ls hrl hP hD hS (lv_sub hl [2, 3, 4, 5, 6] rfl)

set_option maxHeartbeats 4000000 in
set_option maxRecDepth 100000 in
theorem cs_told {p : Program} {l : Launch} {e : Env} {s : State} {m : MethodId} {below : List Frame} {meth : Method} {c : Code} {b L : Nat} {xs : Nat → Int32} {D : va_G} {ka : Nat → ClassId} {al be : Nat → Nat} {o : Nat} {A : Nat → Prop} {hh : List ExceptionTableEntry} {Q : State → Prop} (hls : l.stackTraces = false) (C : fr_Cx p s m #[Value.ref b] meth c "FragileRulesLaw" code 7 ret hh fr_tbl fr_nw D vwCl (fr_ty ka) A) (hX : va_X b L xs s s.heap) (hbl : b < s.heap.size) (hbA : ¬ A b) (hL : L ≤ 2048) {f g : Nat → Nat → Int32} {h : Nat → Int64} {i : Int32} {H : Heap} {locs : List Loc} {ls : Array Slot} {cells slots : Nat} (hr : rl f g) (hi : 0 ≤ i.toInt ∧ i.toInt + 4 ≤ (L : Int)) (hf : cells + 1 ≤ room_1.cells ∧ slots + 6 ≤ room_1.slots) (hP : va_P D vwCl (lw_w ka al f be g o h) H) (hD : va_D A (lw_w ka al f be g o h)) (hS : va_S A s.heap H locs) (hl : lv_has ls 7 [(0, .ref b), (1, .ref (al 0)), (2, .ref (be 0)), (3, .ref o), (4, .int i)])
    (kk : ∀ (f g : Nat → Nat → Int32) (h : Nat → Int64) (H : Heap) (locs : List Loc) (ls : Array Slot), rl f g → va_P D vwCl (lw_w ka al f be g o h) H → va_D A (lw_w ka al f be g o h) → va_S A s.heap H locs → lv_has ls 7 [(0, .ref b), (1, .ref (al 0)), (2, .ref (be 0)), (3, .ref o), (4, .int i)] → W p l e room_1 s m #[Value.ref b] below meth c H locs (cells + 1) (slots + 6) Q (F0 m 958 ls [])) : W p l e room_1 s m #[Value.ref b] below meth c H locs cells slots Q (F0 m 797 ls []) := by
  obtain ⟨hx, hb, hml, hown, ht, hK, hlocks, hrt, hA, hN, hZ, hEx⟩ := id C
  refine lv_aload_n hx hb dW_law_797 rfl (lv_at hl 1 rfl) ?_
  refine lv_aload_n hx hb dW_law_798 rfl (lv_at hl 0 rfl) ?_
  refine lv_iload hx hb dW_law_799 (lv_at hl 4 rfl) ?_
  refine lv_iconst (v := 1) hx hb dW_law_801 (by decide) ?_
  refine lv_iadd hx hb dW_law_802 ?_
  refine va_sld hx hb hX hbl hbA hS (lw_idx hL hi (by decide)) dW_law_803 ?_
  refine lv_aload_n hx hb dW_law_804 rfl (lv_at hl 0 rfl) ?_
  refine lv_iload hx hb dW_law_805 (lv_at hl 4 rfl) ?_
  refine lv_iconst (v := 2) hx hb dW_law_807 (by decide) ?_
  refine lv_iadd hx hb dW_law_808 ?_
  refine va_sld hx hb hX hbl hbA hS (lw_idx hL hi (by decide)) dW_law_809 ?_
  refine lv_aload_n hx hb dW_law_810 rfl (lv_at hl 3 rfl) ?_
  refine sL_told C hP hD hS hl.1 ⟨Nat.le_of_ble_eq_true rfl, Nat.le_of_ble_eq_true rfl⟩ (Nat.le_of_ble_eq_true rfl) hf hls hr.2.1.2.1 dW_law_811 (fun H locs hP hD hS => ?_)
  refine lv_istore (lv' := [(5, .int (rl_c2 xN (dn_told f (xs (i + 1).toNatClampNeg) (xs (i + 2).toNatClampNeg)).1)), (0, .ref b), (1, .ref (al 0)), (2, .ref (be 0)), (3, .ref o), (4, .int i)]) hx hb dW_law_814 hl (by decide) rfl (fun ls hl => ?_)
  refine lv_aload_n hx hb dW_law_816 rfl (lv_at hl 3 rfl) ?_
  refine lv_aload_n hx hb dW_law_817 rfl (lv_at hl 1 rfl) ?_
  refine lv_iload hx hb dW_law_818 (lv_at hl 5 rfl) ?_
  refine lv_iconst (v := 1) hx hb dW_law_820 (by decide) ?_
  refine lv_iadd hx hb dW_law_821 ?_
  refine va_sld hx hb hX hbl hbA hS (lw_idx hL hi (by decide)) dW_law_822 ?_
  refine lv_aload_n hx hb dW_law_823 rfl (lv_at hl 1 rfl) ?_
  refine lv_iload hx hb dW_law_824 (lv_at hl 5 rfl) ?_
  refine lv_iconst (v := 2) hx hb dW_law_826 (by decide) ?_
  refine lv_iadd hx hb dW_law_827 ?_
  refine va_sld hx hb hX hbl hbA hS (lw_idx hL hi (by decide)) dW_law_828 ?_
  refine mL_told C hP hD hS hl.1 ⟨Nat.le_of_ble_eq_true rfl, Nat.le_of_ble_eq_true rfl⟩ (Nat.le_of_ble_eq_true rfl) ⟨by have := hf.1; omega, by have := hf.2; omega⟩ (rl_mR hr) (rl_mall hr) dW_law_829 (fun H locs hP hD hS => ?_)
  refine lv_istore (lv' := [(6, .int (dn_m_told g (xs (i + 1).toNatClampNeg) (xs (i + 2).toNatClampNeg)).1), (5, .int (rl_c2 xN (dn_told f (xs (i + 1).toNatClampNeg) (xs (i + 2).toNatClampNeg)).1)), (0, .ref b), (1, .ref (al 0)), (2, .ref (be 0)), (3, .ref o), (4, .int i)]) hx hb dW_law_832 hl (by decide) rfl (fun ls hl => ?_)
  refine lv_aload_n hx hb dW_law_834 rfl (lv_at hl 4 rfl) ?_
  refine mL_thrown C hP hD hS hl.1 ⟨Nat.le_of_ble_eq_true rfl, Nat.le_of_ble_eq_true rfl⟩ (Nat.le_of_ble_eq_true rfl) ⟨by have := hf.1; omega, by have := hf.2; omega⟩  dW_law_835 (fun H locs hP hD hS => ?_)
  refine lv_iload hx hb dW_law_838 (lv_at hl 1 rfl) ?_
  have K := ro_told hr (xs (i + 1).toNatClampNeg) (xs (i + 2).toNatClampNeg)
  have hrl : rl ((dn_told f (xs (i + 1).toNatClampNeg) (xs (i + 2).toNatClampNeg)).2.2) ((dn_m_told g (xs (i + 1).toNatClampNeg) (xs (i + 2).toNatClampNeg)).2) := K.2.2
  refine lv_icmp_eq (tgt := 845) hx hb dW_law_840 (by decide) (fun _ => ?_) (fun z => absurd K.1 z)
  refine lv_iload hx hb dW_law_845 (lv_at hl 1 rfl) ?_
  refine lv_if_ne (tgt := 862) hx hb dW_law_847 (by decide) (fun hk => ?_) (fun hk => ?_)
  · skip
    refine lv_goto (tgt := 958) hx hb dW_law_862 (by decide) ?_
    exact kk ((dn_told f (xs (i + 1).toNatClampNeg) (xs (i + 2).toNatClampNeg)).2.2) ((dn_m_told g (xs (i + 1).toNatClampNeg) (xs (i + 2).toNatClampNeg)).2) (lo_h h (dn_told f (xs (i + 1).toNatClampNeg) (xs (i + 2).toNatClampNeg)).1 (dn_told f (xs (i + 1).toNatClampNeg) (xs (i + 2).toNatClampNeg)).2.1) H locs ls hrl hP hD hS (lv_sub hl [2, 3, 4, 5, 6] rfl)
  · skip
    refine lv_aload_n hx hb dW_law_850 rfl (lv_at hl 5 rfl) ?_
    refine lv_iconst (v := 0) hx hb dW_law_851 (by decide) ?_
    refine va_lald hx hb hK hP 40 3 lw_w_o rfl lw_in dW_law_852 ?_
    refine lv_iload hx hb dW_law_853 (lv_at hl 0 rfl) ?_
    refine lv_i2l (v := ((dn_m_told g (xs (i + 1).toNatClampNeg) (xs (i + 2).toNatClampNeg)).1).toInt64) hx hb dW_law_855 rfl ?_
    refine W.lcmp hx hb dW_law_856 ?_
    refine lv_if_eq (tgt := 862) hx hb dW_law_857 (by decide) (fun _ => ?_) (fun z => absurd (lo_out (rl_c2_0 hk) K.2.1) z)
    refine lv_goto (tgt := 958) hx hb dW_law_862 (by decide) ?_
    exact kk ((dn_told f (xs (i + 1).toNatClampNeg) (xs (i + 2).toNatClampNeg)).2.2) ((dn_m_told g (xs (i + 1).toNatClampNeg) (xs (i + 2).toNatClampNeg)).2) (lo_h h (dn_told f (xs (i + 1).toNatClampNeg) (xs (i + 2).toNatClampNeg)).1 (dn_told f (xs (i + 1).toNatClampNeg) (xs (i + 2).toNatClampNeg)).2.1) H locs ls hrl hP hD hS (lv_sub hl [2, 3, 4, 5, 6] rfl)

set_option maxHeartbeats 4000000 in
set_option maxRecDepth 100000 in
theorem cs_about {p : Program} {l : Launch} {e : Env} {s : State} {m : MethodId} {below : List Frame} {meth : Method} {c : Code} {b L : Nat} {xs : Nat → Int32} {D : va_G} {ka : Nat → ClassId} {al be : Nat → Nat} {o : Nat} {A : Nat → Prop} {hh : List ExceptionTableEntry} {Q : State → Prop} (hls : l.stackTraces = false) (C : fr_Cx p s m #[Value.ref b] meth c "FragileRulesLaw" code 7 ret hh fr_tbl fr_nw D vwCl (fr_ty ka) A) (hX : va_X b L xs s s.heap) (hbl : b < s.heap.size) (hbA : ¬ A b) (hL : L ≤ 2048) {f g : Nat → Nat → Int32} {h : Nat → Int64} {i : Int32} {H : Heap} {locs : List Loc} {ls : Array Slot} {cells slots : Nat} (hr : rl f g) (hi : 0 ≤ i.toInt ∧ i.toInt + 4 ≤ (L : Int)) (hf : cells + 1 ≤ room_1.cells ∧ slots + 6 ≤ room_1.slots) (hP : va_P D vwCl (lw_w ka al f be g o h) H) (hD : va_D A (lw_w ka al f be g o h)) (hS : va_S A s.heap H locs) (hl : lv_has ls 7 [(0, .ref b), (1, .ref (al 0)), (2, .ref (be 0)), (3, .ref o), (4, .int i)])
    (kk : ∀ (f g : Nat → Nat → Int32) (h : Nat → Int64) (H : Heap) (locs : List Loc) (ls : Array Slot), rl f g → va_P D vwCl (lw_w ka al f be g o h) H → va_D A (lw_w ka al f be g o h) → va_S A s.heap H locs → lv_has ls 7 [(0, .ref b), (1, .ref (al 0)), (2, .ref (be 0)), (3, .ref o), (4, .int i)] → W p l e room_1 s m #[Value.ref b] below meth c H locs (cells + 1) (slots + 6) Q (F0 m 958 ls [])) : W p l e room_1 s m #[Value.ref b] below meth c H locs cells slots Q (F0 m 865 ls []) := by
  obtain ⟨hx, hb, hml, hown, ht, hK, hlocks, hrt, hA, hN, hZ, hEx⟩ := id C
  refine lv_aload_n hx hb dW_law_865 rfl (lv_at hl 1 rfl) ?_
  refine lv_aload_n hx hb dW_law_866 rfl (lv_at hl 0 rfl) ?_
  refine lv_iload hx hb dW_law_867 (lv_at hl 4 rfl) ?_
  refine lv_iconst (v := 1) hx hb dW_law_869 (by decide) ?_
  refine lv_iadd hx hb dW_law_870 ?_
  refine va_sld hx hb hX hbl hbA hS (lw_idx hL hi (by decide)) dW_law_871 ?_
  refine lv_aload_n hx hb dW_law_872 rfl (lv_at hl 0 rfl) ?_
  refine lv_iload hx hb dW_law_873 (lv_at hl 4 rfl) ?_
  refine lv_iconst (v := 2) hx hb dW_law_875 (by decide) ?_
  refine lv_iadd hx hb dW_law_876 ?_
  refine va_sld hx hb hX hbl hbA hS (lw_idx hL hi (by decide)) dW_law_877 ?_
  refine lv_aload_n hx hb dW_law_878 rfl (lv_at hl 3 rfl) ?_
  refine sL_about C hP hD hS hl.1 ⟨Nat.le_of_ble_eq_true rfl, Nat.le_of_ble_eq_true rfl⟩ (Nat.le_of_ble_eq_true rfl) hf hls hr.2.1.1 dW_law_879 (fun H locs hP hD hS => ?_)
  refine lv_istore (lv' := [(5, .int (rl_c2 xN (dn_about f (xs (i + 1).toNatClampNeg) (xs (i + 2).toNatClampNeg)).1)), (0, .ref b), (1, .ref (al 0)), (2, .ref (be 0)), (3, .ref o), (4, .int i)]) hx hb dW_law_882 hl (by decide) rfl (fun ls hl => ?_)
  refine lv_aload_n hx hb dW_law_884 rfl (lv_at hl 3 rfl) ?_
  refine lv_aload_n hx hb dW_law_885 rfl (lv_at hl 1 rfl) ?_
  refine lv_iload hx hb dW_law_886 (lv_at hl 5 rfl) ?_
  refine lv_iconst (v := 1) hx hb dW_law_888 (by decide) ?_
  refine lv_iadd hx hb dW_law_889 ?_
  refine va_sld hx hb hX hbl hbA hS (lw_idx hL hi (by decide)) dW_law_890 ?_
  refine lv_aload_n hx hb dW_law_891 rfl (lv_at hl 1 rfl) ?_
  refine lv_iload hx hb dW_law_892 (lv_at hl 5 rfl) ?_
  refine lv_iconst (v := 2) hx hb dW_law_894 (by decide) ?_
  refine lv_iadd hx hb dW_law_895 ?_
  refine va_sld hx hb hX hbl hbA hS (lw_idx hL hi (by decide)) dW_law_896 ?_
  refine mL_about C hP hD hS hl.1 ⟨Nat.le_of_ble_eq_true rfl, Nat.le_of_ble_eq_true rfl⟩ (Nat.le_of_ble_eq_true rfl) ⟨by have := hf.1; omega, by have := hf.2; omega⟩ (rl_mU hr) dW_law_897 (fun H locs hP hD hS => ?_)
  refine lv_istore (lv' := [(6, .int (dn_m_about g (xs (i + 1).toNatClampNeg) (xs (i + 2).toNatClampNeg)).1), (5, .int (rl_c2 xN (dn_about f (xs (i + 1).toNatClampNeg) (xs (i + 2).toNatClampNeg)).1)), (0, .ref b), (1, .ref (al 0)), (2, .ref (be 0)), (3, .ref o), (4, .int i)]) hx hb dW_law_900 hl (by decide) rfl (fun ls hl => ?_)
  refine lv_aload_n hx hb dW_law_902 rfl (lv_at hl 4 rfl) ?_
  refine mL_thrown C hP hD hS hl.1 ⟨Nat.le_of_ble_eq_true rfl, Nat.le_of_ble_eq_true rfl⟩ (Nat.le_of_ble_eq_true rfl) ⟨by have := hf.1; omega, by have := hf.2; omega⟩  dW_law_903 (fun H locs hP hD hS => ?_)
  refine lv_iload hx hb dW_law_906 (lv_at hl 1 rfl) ?_
  have K := ro_about hr (xs (i + 1).toNatClampNeg) (xs (i + 2).toNatClampNeg)
  have hrl : rl ((dn_about f (xs (i + 1).toNatClampNeg) (xs (i + 2).toNatClampNeg)).2.2) ((dn_m_about g (xs (i + 1).toNatClampNeg) (xs (i + 2).toNatClampNeg)).2) := K.2.2
  refine lv_icmp_eq (tgt := 913) hx hb dW_law_908 (by decide) (fun _ => ?_) (fun z => absurd K.1 z)
  refine lv_iload hx hb dW_law_913 (lv_at hl 1 rfl) ?_
  refine lv_if_ne (tgt := 930) hx hb dW_law_915 (by decide) (fun hk => ?_) (fun hk => ?_)
  · skip
    refine lv_goto (tgt := 958) hx hb dW_law_930 (by decide) ?_
    exact kk ((dn_about f (xs (i + 1).toNatClampNeg) (xs (i + 2).toNatClampNeg)).2.2) ((dn_m_about g (xs (i + 1).toNatClampNeg) (xs (i + 2).toNatClampNeg)).2) (lo_h h (dn_about f (xs (i + 1).toNatClampNeg) (xs (i + 2).toNatClampNeg)).1 (dn_about f (xs (i + 1).toNatClampNeg) (xs (i + 2).toNatClampNeg)).2.1) H locs ls hrl hP hD hS (lv_sub hl [2, 3, 4, 5, 6] rfl)
  · skip
    refine lv_aload_n hx hb dW_law_918 rfl (lv_at hl 5 rfl) ?_
    refine lv_iconst (v := 0) hx hb dW_law_919 (by decide) ?_
    refine va_lald hx hb hK hP 40 3 lw_w_o rfl lw_in dW_law_920 ?_
    refine lv_iload hx hb dW_law_921 (lv_at hl 0 rfl) ?_
    refine lv_i2l (v := ((dn_m_about g (xs (i + 1).toNatClampNeg) (xs (i + 2).toNatClampNeg)).1).toInt64) hx hb dW_law_923 rfl ?_
    refine W.lcmp hx hb dW_law_924 ?_
    refine lv_if_eq (tgt := 930) hx hb dW_law_925 (by decide) (fun _ => ?_) (fun z => absurd (lo_out (rl_c2_0 hk) K.2.1) z)
    refine lv_goto (tgt := 958) hx hb dW_law_930 (by decide) ?_
    exact kk ((dn_about f (xs (i + 1).toNatClampNeg) (xs (i + 2).toNatClampNeg)).2.2) ((dn_m_about g (xs (i + 1).toNatClampNeg) (xs (i + 2).toNatClampNeg)).2) (lo_h h (dn_about f (xs (i + 1).toNatClampNeg) (xs (i + 2).toNatClampNeg)).1 (dn_about f (xs (i + 1).toNatClampNeg) (xs (i + 2).toNatClampNeg)).2.1) H locs ls hrl hP hD hS (lv_sub hl [2, 3, 4, 5, 6] rfl)

set_option maxHeartbeats 4000000 in
set_option maxRecDepth 100000 in
theorem cs_count {p : Program} {l : Launch} {e : Env} {s : State} {m : MethodId} {below : List Frame} {meth : Method} {c : Code} {b L : Nat} {xs : Nat → Int32} {D : va_G} {ka : Nat → ClassId} {al be : Nat → Nat} {o : Nat} {A : Nat → Prop} {hh : List ExceptionTableEntry} {Q : State → Prop} (hls : l.stackTraces = false) (C : fr_Cx p s m #[Value.ref b] meth c "FragileRulesLaw" code 7 ret hh fr_tbl fr_nw D vwCl (fr_ty ka) A) (hX : va_X b L xs s s.heap) (hbl : b < s.heap.size) (hbA : ¬ A b) (hL : L ≤ 2048) {f g : Nat → Nat → Int32} {h : Nat → Int64} {i : Int32} {H : Heap} {locs : List Loc} {ls : Array Slot} {cells slots : Nat} (hr : rl f g) (hi : 0 ≤ i.toInt ∧ i.toInt + 4 ≤ (L : Int)) (hf : cells + 1 ≤ room_1.cells ∧ slots + 6 ≤ room_1.slots) (hP : va_P D vwCl (lw_w ka al f be g o h) H) (hD : va_D A (lw_w ka al f be g o h)) (hS : va_S A s.heap H locs) (hl : lv_has ls 7 [(0, .ref b), (1, .ref (al 0)), (2, .ref (be 0)), (3, .ref o), (4, .int i)])
    (kk : ∀ (f g : Nat → Nat → Int32) (h : Nat → Int64) (H : Heap) (locs : List Loc) (ls : Array Slot), rl f g → va_P D vwCl (lw_w ka al f be g o h) H → va_D A (lw_w ka al f be g o h) → va_S A s.heap H locs → lv_has ls 7 [(0, .ref b), (1, .ref (al 0)), (2, .ref (be 0)), (3, .ref o), (4, .int i)] → W p l e room_1 s m #[Value.ref b] below meth c H locs (cells + 1) (slots + 6) Q (F0 m 958 ls [])) : W p l e room_1 s m #[Value.ref b] below meth c H locs cells slots Q (F0 m 933 ls []) := by
  obtain ⟨hx, hb, hml, hown, ht, hK, hlocks, hrt, hA, hN, hZ, hEx⟩ := id C
  refine lv_aload_n hx hb dW_law_933 rfl (lv_at hl 1 rfl) ?_
  refine lv_aload_n hx hb dW_law_934 rfl (lv_at hl 0 rfl) ?_
  refine lv_iload hx hb dW_law_935 (lv_at hl 4 rfl) ?_
  refine lv_iconst (v := 1) hx hb dW_law_937 (by decide) ?_
  refine lv_iadd hx hb dW_law_938 ?_
  refine va_sld hx hb hX hbl hbA hS (lw_idx hL hi (by decide)) dW_law_939 ?_
  refine xL_count C hP hD hS hl.1 ⟨Nat.le_of_ble_eq_true rfl, Nat.le_of_ble_eq_true rfl⟩ (Nat.le_of_ble_eq_true rfl) ⟨by omega, by omega⟩  dW_law_940 (fun H locs hP hD hS => ?_)
  refine lv_aload_n hx hb dW_law_943 rfl (lv_at hl 2 rfl) ?_
  refine lv_aload_n hx hb dW_law_944 rfl (lv_at hl 0 rfl) ?_
  refine lv_iload hx hb dW_law_945 (lv_at hl 4 rfl) ?_
  refine lv_iconst (v := 1) hx hb dW_law_947 (by decide) ?_
  refine lv_iadd hx hb dW_law_948 ?_
  refine va_sld hx hb hX hbl hbA hS (lw_idx hL hi (by decide)) dW_law_949 ?_
  refine mL_count C hP hD hS hl.1 ⟨Nat.le_of_ble_eq_true rfl, Nat.le_of_ble_eq_true rfl⟩ (Nat.le_of_ble_eq_true rfl) ⟨by omega, by omega⟩  dW_law_950 (fun H locs hP hD hS => ?_)
  have K := ro_count hr (xs (i + 1).toNatClampNeg)
  have hrl : rl f ((dn_m_count g (xs (i + 1).toNatClampNeg)).2) := K.2
  refine lv_icmp_eq (tgt := 958) hx hb dW_law_953 (by decide) (fun _ => ?_) (fun z => absurd K.1 z)
  refine W.widen (k := cells + 1) (n := slots + 6) (by omega) (by omega) ?_
  exact kk f ((dn_m_count g (xs (i + 1).toNatClampNeg)).2) h H locs ls hrl hP hD hS (lv_sub hl [0, 1, 2, 3, 4] rfl)
