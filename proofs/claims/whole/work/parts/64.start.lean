theorem mins_Fi : Cond.instantiable "FragileRules" 10 ∈ fr_tbl := fr_in 40 (by decide +kernel) rfl
theorem mins_Mi : Cond.instantiable "FragileRulesModel" 25 ∈ fr_tbl := fr_in 467 (by decide +kernel) rfl
theorem cl0_W_8 : Cond.classLink "FragileRulesLaw" 8 "FragileRules" ∈ fr_tbl := fr_in 39 (by decide +kernel) rfl
theorem cl0_W_60 : Cond.classLink "FragileRulesLaw" 60 "FragileRulesModel" ∈ fr_tbl := fr_in 466 (by decide +kernel) rfl
theorem ml_W_59 : Cond.methodLink "FragileRulesLaw" 59 ⟨"FragileRules", "<init>", "()V"⟩ ∈ fr_tbl := fr_in 41 (by decide +kernel) rfl
theorem ml_W_62 : Cond.methodLink "FragileRulesLaw" 62 ⟨"FragileRulesModel", "<init>", "()V"⟩ ∈ fr_tbl := fr_in 468 (by decide +kernel) rfl
/-! THE CLAIM OUT OF ONE WALK OF THE LAW'S BODY. Your part is whole_start (and what it stands on); all else here is the same for every law, but numbers. -/
def R_law : String := "FragileRulesLaw"
def lw_P (b : Addr) (xs : List Int32) (args : Array Value) (s : State) : Prop := args = #[.ref b] ∧ s.IntsAt b xs ∧ xs.length ≤ 2048 ∧ (Jvm.Cond.and given_1 narrow_1).before args s = true
def lw_Q (_ : Array Value) (s : State) (o : Outcome) (t : State) : Prop := o = .returned (some (.int 1)) ∧ Framed s o t [] 643050 7166955
def lw_Z (below : List Frame) (a : Array Value) (s : State) : State → Prop := fun t => ∃ o, t.status = .running ∧ Ended t below o ∧ lw_Q a s o t
/-- the law's own end, with 1 on the stack, nothing written that was there before, its room as the claim has it -/
theorem lw_ret {p : Program} {l : Launch} {e : Env} {s : State} {m : MethodId} {below : List Frame} {meth : Method} {c : Code} {b : Nat} (hx : p.tables.exec = Jvm.exec) (hb : c.code = code) (hr : meth.sig.returnType = ret) (hlocks : meth.locks = false) {pc : Nat} {H : Heap} {ls : Array Slot} (hdg : decode code pc = .ok (.ireturn, 1)) : W p l e room_1 s m #[Value.ref b] below meth c H [] 643050 7166955 (lw_Z below #[Value.ref b] s) (F0 m pc ls [.int 1]) := by
  intro T hT X
  obtain ⟨fs, hret, hrun, hended, hW, hframe⟩ := X.leave (v := some (.int 1)) (hlocks := hlocks) (fun h => by rw [hr] at h; cases h)
  have hmeth' : T.vm.method? m = some meth := X.method'
  refine ⟨T.setFrames fs, ?_, .returned (some (.int 1)), hrun, hended, rfl, ⟨_, rfl⟩, hW, hframe⟩
  jvm_step X.here [X.here.top, hx, hb, hdg, hmeth', hr, ret, narrow_b1]
  (try refine ⟨rfl, ?_⟩); (try refine ⟨rfl, ?_⟩)
  first | (intro acts; rw [hret _ acts rfl rfl rfl]) | rw [hret _ _ rfl rfl rfl]
  exact Steps.refl _
/-- what holds at the law's entry: the machine, the code, the tables' words (any of lw_tbl by 'hts w (by decide +kernel)'), the script of L ints xs at the cell b, what the Statement gives of the start (any of its parts by flat_of_before) -/
def lw_At (p : Program) (s : State) (m : MethodId) (meth : Method) (c : Code) (b L : Nat) (xs : Nat → Int32) : Prop :=
  p.tables.exec = Jvm.exec ∧ c.code = code ∧ meth.sig.returnType = ret ∧ c.maxLocals = 7 ∧ s.vm.findClass R_law = some m.cls ∧ (∀ w ∈ lw_tbl, w.before #[Value.ref b] s = true) ∧ va_X b L xs s s.heap ∧ b < s.heap.size ∧ meth.locks = false ∧ (Jvm.Cond.and given_1 narrow_1).before #[Value.ref b] s = true
/-! THE LAW's START -/
theorem lw_known {s : State} {args : Array Value} (ht : ∀ w ∈ fr_tbl, w.before args s = true) : ∃ D : va_G, ∀ (c : Nat) (q : vw_C), vwCl[c]? = some q → u_Kn s q.1 q.2.1 q.2.2 (D.1 c) (D.2 c) := by
  obtain ⟨c0, i0, h0⟩ := u_known ht iXF (ht _ mins_Fi)
  obtain ⟨c1, i1, h1⟩ := u_known ht iXU (ht _ mins_Ui)
  obtain ⟨c2, i2, h2⟩ := u_known ht iXR (ht _ mins_Ri)
  obtain ⟨c3, i3, h3⟩ := u_known ht iXT (ht _ mins_Ti)
  obtain ⟨c4, i4, h4⟩ := u_known ht iXM (ht _ mins_Mi)
  refine ⟨(fun c => match c with | 0 => c0 | 1 => c1 | 2 => c2 | 3 => c3 | _ => c4, fun c => match c with | 0 => i0 | 1 => i1 | 2 => i2 | 3 => i3 | _ => i4), fun c q hq => ?_⟩
  match c, hq with
  | 0, hq => cases hq; exact h0
  | 1, hq => cases hq; exact h1
  | 2, hq => cases hq; exact h2
  | 3, hq => cases hq; exact h3
  | 4, hq => cases hq; exact h4
  | n + 5, hq => cases hq
theorem lw_arr {s : State} {args : Array Value} {ty : FieldType} (h : (Cond.arrayClass ty).before args s = true) : ∃ c : ClassId, ArrOfT s c ty ∧ s.vm.findClass ("[" ++ ty.toString) = some c := by
  obtain ⟨c, k, comp, h1, h2, h3⟩ := Cond.arrayClass_spec h
  exact ⟨c, fun N z => ⟨(fun k h => by cases h), k, h2, comp, h3⟩, h1⟩
theorem lw_arq {s : State} {E : String} (h : va_AO E s) : ∃ c : ClassId, ArrOfT s c (.object E) ∧ va_RA s c (.object E) := by
  obtain ⟨comp, c, k, h1, -, h2, h3, h4⟩ := Cond.arrayOver_spec h
  exact ⟨c, fun N z => ⟨(fun k h => by cases h), k, h2, comp, h3⟩, k, comp, h2, h3, h1, h4⟩
theorem lw_nw_of {q : Cond} (h : fr_nest q = true) {A : Array Value} {s : State} (hq : q.before A s = true) : va_Nw q s := by
  unfold fr_nest at h
  split at h
  · exact va_Nw.of rfl hq
  · exact va_Nw.of rfl hq
  · exact va_Nw.of rfl hq
  · exact hq
  · exact hq
  · exact hq
  · cases h
set_option maxRecDepth 100000 in
theorem lw_nw_in : ∀ q ∈ fr_nw, fr_nest q = true ∧ (q ∈ lw_tbl ∨ q ∈ flatC (Jvm.Cond.and given_1 narrow_1)) := by decide +kernel
theorem rl_start : rl fr_f0 fr_f0 := by
  refine ⟨⟨rfl, rfl, rfl, rfl, rfl, rfl⟩, ⟨by decide, by decide, by decide, by decide⟩, fun k h => ⟨rfl, rfl, rfl⟩, fun k => ⟨rfl, rfl, rfl, rfl, rfl, rfl⟩, fun k _ => rfl, fun k h => ?_, fun k h => ?_, fun x h0 h1 => ?_, by decide⟩
  · have h : (k : Int) < (0 : Int32).toInt := h
    have z : (0 : Int32).toInt = 0 := rfl
    omega
  · have h : (k : Int) < (0 : Int32).toInt := h
    have z : (0 : Int32).toInt = 0 := rfl
    omega
  · have h1 : x.toInt < (0 : Int32).toInt := h1
    have z : (0 : Int32).toInt = 0 := rfl
    omega
theorem fr_cw_more {ka : Nat → ClassId} {al : Nat → Nat} {f : Nat → Nat → Int32} {Z T : va_W} : fr_cw ka al f Z ++ T = fr_cw ka al f (Z ++ T) := by
  rw [fr_cw_app, fr_cw_app (Z := Z ++ T), List.append_assoc]
theorem lw_perm2 {ka : Nat → ClassId} {be : Nat → Nat} {Z : va_W} : (fr_mo be fr_f0 :: (Z ++ [fr_ia (ka 2) 10 (be 1) (fun _ => 0), fr_ia (ka 2) 10 (be 2) (fun _ => 0), fr_ia (ka 2) 10 (be 3) (fun _ => 0), fr_ia (ka 2) 12 (be 4) (fun _ => 0), fr_ia (ka 2) 12 (be 5) (fun _ => 0), fr_ia (ka 2) 12 (be 6) (fun _ => 0), fr_ia (ka 2) 12 (be 7) (fun _ => 0), fr_ia (ka 2) 12 (be 8) (fun _ => 0), fr_ia (ka 2) 200 (be 9) (fun _ => 0), fr_ia (ka 2) 12 (be 10) (fun _ => 0)])).Perm (Z ++ fr_mw ka be fr_f0 []) := by
  have e : fr_mw ka be fr_f0 [] = fr_mo be fr_f0 :: [fr_ia (ka 2) 10 (be 1) (fun _ => 0), fr_ia (ka 2) 10 (be 2) (fun _ => 0), fr_ia (ka 2) 10 (be 3) (fun _ => 0), fr_ia (ka 2) 12 (be 4) (fun _ => 0), fr_ia (ka 2) 12 (be 5) (fun _ => 0), fr_ia (ka 2) 12 (be 6) (fun _ => 0), fr_ia (ka 2) 12 (be 7) (fun _ => 0), fr_ia (ka 2) 12 (be 8) (fun _ => 0), fr_ia (ka 2) 200 (be 9) (fun _ => 0), fr_ia (ka 2) 12 (be 10) (fun _ => 0)] := rfl
  rw [e]
  exact List.perm_middle.symm
set_option maxHeartbeats 4000000 in
set_option maxRecDepth 100000 in
theorem lw_body {p : Program} {e : Env} {s : State} {m : MethodId} {below : List Frame} {meth : Method} {c : Code} {l : Launch} {b L : Nat} {xs : Nat → Int32} (hls : l.stackTraces = false) (hL : L ≤ 2048) (C0 : lw_At p s m meth c b L xs) {ls : Array Slot} (hl : lv_has ls 7 [(0, .ref b)]) : W p l e room_1 s m #[Value.ref b] below meth c s.heap [] 0 0 (lw_Z below #[Value.ref b] s) (F0 m 0 ls []) := by
  obtain ⟨hx, hb, hr, hml, hown, hts, hX, hbl, hlocks, hgv⟩ := C0
  have hfl := flat_of_before _ hgv
  have ht : ∀ w ∈ fr_tbl, w.before #[Value.ref b] s = true := fun w hw => hts w (List.mem_filter.mp hw).1
  have hN : ∀ q ∈ fr_nw, fr_nest q = true ∧ va_Nw q s := fun q hq => by
    obtain ⟨h1, h3⟩ := lw_nw_in q hq
    refine ⟨h1, lw_nw_of h1 (A := #[Value.ref b]) ?_⟩
    rcases h3 with h3 | h3
    · exact hts q h3
    · exact hfl q h3
  obtain ⟨D, hDk⟩ := lw_known ht
  obtain ⟨k0, a0, b0⟩ := lw_arq (s := s) (E := "FragileRules$Unit") (hN _ av_U).2
  obtain ⟨k1, a1, b1⟩ := lw_arq (s := s) (E := "FragileRules$Rule") (hN _ av_R).2
  obtain ⟨k2, a2, b2⟩ := lw_arr (ht _ ac_int)
  obtain ⟨k3, a3, b3⟩ := lw_arr (ht _ ac_long)
  obtain ⟨ka, rfl, rfl, rfl, rfl⟩ : ∃ ka : Nat → ClassId, ka 0 = k0 ∧ ka 1 = k1 ∧ ka 2 = k2 ∧ ka 3 = k3 := ⟨fun k => match k with | 0 => k0 | 1 => k1 | 2 => k2 | _ => k3, rfl, rfl, rfl, rfl⟩
  have hK : va_K D vwCl (fr_ty ka) s := ⟨hDk, fun k q hq => by
    match k, hq with
    | 0, hq => cases hq; exact ⟨a0, b0⟩
    | 1, hq => cases hq; exact ⟨a1, b1⟩
    | 2, hq => cases hq; exact ⟨a2, b2⟩
    | 3, hq => cases hq; exact ⟨a3, b3⟩
    | n + 4, hq => cases hq⟩
  have hZ : fr_zz (fun q => s.heap.size ≤ q) s s.heap := ⟨fr_zf.of (hts _ (List.mem_of_getElem? (i := 187) (by decide +kernel))) (hfl _ (by decide +kernel)) (fun a h1 h2 => by omega), fr_zf.of (hts _ (List.mem_of_getElem? (i := 189) (by decide +kernel))) (hfl _ (by decide +kernel)) (fun a h1 h2 => by omega)⟩
  have C : fr_Cx p s m #[Value.ref b] meth c "FragileRulesLaw" code 7 ret c.exceptionTable.toList fr_tbl fr_nw D vwCl (fr_ty ka) (fun q => s.heap.size ≤ q) := ⟨hx, hb, hml, hown, ht, hK, hlocks, hr, fun q h => h, hN, hZ, rfl⟩
  have hP : va_P D vwCl [] s.heap := fun k q h => by cases h
  have hD : va_D (fun q => s.heap.size ≤ q) [] := ⟨(fun i j p q h => by cases h), (fun k q h => by cases h)⟩
  have hS : va_S (fun q => s.heap.size ≤ q) s.heap s.heap [] := va_S.rf
  refine va_new (D := D) (ci := 0) (C := "FragileRules") (T := TXF) (N := 10) C.1 C.2.1 C.2.2.2.2.1 iXF tyXF tokXF C.2.2.2.1 (C.2.2.2.2.1 _ cl0_W_8) (C.2.2.2.2.1 _ mins_Fi) (C.2.2.2.2.1 _ mini_F) C.2.2.2.2.2.1 hP hD hS C.2.2.2.2.2.2.2.2.1 rfl (fs := [.null, .int 0, .null, .int 0, .null, .null, .int 0, .null, .int 0, .int 0]) (by decide) (by decide) (by decide) dW_law_0 (fun q0 H hP hD hS => ?_)
  refine lv_dup hx hb dW_law_3 rfl ?_
  refine fr_callIk (As := []) (rest := [.ref q0]) C hP hD hS (c_Fi l D ka q0) (cwI 0 ht (fr_good mc_Fi) rfl rfl rfl (ht _ mini_F) (ht _ ml_W_59) (ht _ mi_Fi) rfl (by decide +kernel) ⟨by decide, by decide⟩) rfl hl.1 (Nat.le_of_ble_eq_true rfl) dW_law_4 ⟨by decide, by decide⟩ (fun al H locs ha hP hD hS => ?_)
  refine lv_astore_n (i := 1) (lv' := [(1, .ref q0), (0, .ref b)]) hx hb dW_law_7 rfl hl (by decide) rfl (fun ls hl => ?_)
  refine va_new (D := D) (ci := 4) (C := "FragileRulesModel") (T := TXM) (N := 25) C.1 C.2.1 C.2.2.2.2.1 iXM tyXM tokXM C.2.2.2.1 (C.2.2.2.2.1 _ cl0_W_60) (C.2.2.2.2.1 _ mins_Mi) (C.2.2.2.2.1 _ mini_M) C.2.2.2.2.2.1 hP hD hS C.2.2.2.2.2.2.2.2.1 rfl (fs := [.int 0, .int 0, .int 0, .int 0, .int 0, .int 0, .null, .null, .null, .null, .null, .null, .null, .null, .null, .null, .int 0, .int 0, .int 0, .int 0, .int 0, .int 0, .int 0, .int 0, .int 0]) (by decide) (by decide) (by decide) dW_law_8 (fun q1 H hP hD hS => ?_)
  refine lv_dup hx hb dW_law_11 rfl ?_
  refine fr_callIk (As := []) (rest := [.ref q1]) C (fr_permP List.perm_append_comm hP) (fr_permD List.perm_append_comm hD) hS (c_Mi l D ka (fr_cw ka al fr_f0 []) q1) (cwI 0 ht (fr_good mc_Mi) rfl rfl rfl (ht _ mini_M) (ht _ ml_W_62) (ht _ mi_Mi) rfl (by decide +kernel) ⟨by decide, by decide⟩) rfl hl.1 (Nat.le_of_ble_eq_true rfl) dW_law_12 ⟨by decide, by decide⟩ (fun be H locs hbe hP hD hS => ?_)
  have hP := fr_permP lw_perm2 hP
  have hD := fr_permD lw_perm2 hD
  rw [fr_cw_more, List.nil_append] at hP hD
  refine lv_astore_n (i := 2) (lv' := [(2, .ref q1), (1, .ref q0), (0, .ref b)]) hx hb dW_law_15 rfl hl (by decide) rfl (fun ls hl => ?_)
  refine lv_iconst (v := 1) hx hb dW_law_16 (by decide) ?_
  refine fr_newl (N' := 1) C ac_long hP hD hS (by decide) (by decide) (by decide) (by decide) (by decide) dW_law_17 (fun o H hP hD hS => ?_)
  rw [fr_cw_more] at hP hD
  refine lv_astore_n (i := 3) (lv' := [(3, .ref o), (2, .ref q1), (1, .ref q0), (0, .ref b)]) hx hb dW_law_19 rfl hl (by decide) rfl (fun ls hl => ?_)
  refine lv_iconst (v := 0) hx hb dW_law_20 (by decide) ?_
  refine lv_istore (lv' := [(4, .int 0), (3, .ref o), (2, .ref q1), (1, .ref q0), (0, .ref b)]) hx hb dW_law_21 hl (by decide) rfl (fun ls hl => ?_)
  have hP9 := hP
  have hD9 := hD
  have hS9 := hS
  have hl9 := hl
  subst ha
  subst hbe
  refine lw_loop hls C hX hbl (by omega) hL (fun H locs ls cells slots hc hs hS hsz => ?_) 512 fr_f0 fr_f0 (fun _ => 0) 0 _ _ _ _ _ rl_start (by decide) (by have z : (0 : Int32).toInt = 0 := rfl; omega) (by decide) (by decide) hP9 hD9 hS9 (lv_sub hl9 [4, 3, 2, 1, 0] rfl)
  refine lv_iconst (v := 1) hx hb dW_law_964 (by decide) ?_
  refine va_forget (fun q hq => hS.2.2 q hq) ?_
  refine W.widen (k := 643050) (n := 7166955) hc hs ?_
  exact lw_ret hx hb hr hlocks dW_law_965
theorem whole_start {p : Program} {e : Env} {s : State} {m : MethodId} {below : List Frame} {meth : Method} {c : Code} (l : Launch) (hls : l.stackTraces = false) {b L : Nat} {xs : Nat → Int32} (hL : L ≤ 2048) (C0 : lw_At p s m meth c b L xs) : W p l e room_1 s m #[Value.ref b] below meth c s.heap [] 0 0 (lw_Z below #[Value.ref b] s) (entryFrame m ([Value.ref b] : List Value).toArray 7) := by
  rw [lg_entry_eq]
  exact lw_body hls hL C0 (lv_entry [Value.ref b] (Nat.le_of_ble_eq_true rfl))
