/-! MAKING: contracts of constructors; their end's world names addresses that they found. -/
section FRK
variable {p : Program} {l : Launch} {e : Env} {R : Room} {s : State} {m : MethodId} {args : Array Value} {below : List Frame} {meth : Method} {c : Code} {H : Heap} {locs : List Loc} {cells slots : Nat} {Q : State → Prop}
variable {D : va_G} {cl : List vw_C} {tys : List (ClassId × FieldType)} {A : Nat → Prop} {nw tbl : List Cond}
def fr_Qk {S : Type} (D : va_G) (cl : List vw_C) (tys : List (ClassId × FieldType)) (P : S → Prop) (W' : S → va_W) (A : Nat → Prop) : Array Value → State → Outcome → State → Prop := va_Qv P (fun (u : S) (t : State) => va_P D cl (W' u) t.heap ∧ va_K D cl tys t ∧ va_D A (W' u)) A
def fr_Mk {S : Type} (l : Launch) (y : MethodName) (ws : List Cond) (rm : Room) (D : va_G) (cl : List vw_C) (tys : List (ClassId × FieldType)) (nw : List Cond) (As : List Value) (w : va_W) (P : S → Prop) (W' : S → va_W) (mc ms : Nat) : Prop :=
  ∀ sz : Nat, Met l y ws rm (va_Pc As (fr_Pre D cl tys nw w sz)) (fr_Qk D cl tys P W' (va_A w sz)) mc ms (va_A w sz)
theorem fr_Mk.of {S : Type} {P : S → Prop} {W' : S → va_W} {y : MethodName} {rm : Room} {As : List Value} {w : va_W} {mc ms : Nat} {cc : ByteArray} {maxL : Nat} {ret : Option FieldType} (hy : plainName y.cls = true) (hnL : (lg_sl As).length ≤ maxL)
    (body : ∀ (p : Program) (e : Env) (s : State) (m : MethodId) (below : List Frame) (meth : Method) (c : Code) (A : Nat → Prop) (H : Heap) (locs : List Loc) (ls : Array Slot), fr_Cx p s m As.toArray meth c y.cls cc maxL ret [] tbl nw D cl tys A → meth.name = y.name → va_P D cl w H → va_D A w → va_S A s.heap H locs → lv_has ls maxL (lv_args 0 As) →
      W p l e rm s m As.toArray below meth c H locs 0 0 (MQ below (fr_Qk D cl tys P W' A) As.toArray s mc ms A) (F0 m 0 ls [])) : fr_Mk l y (.code y cc maxL ret :: tbl) rm D cl tys nw As w P W' mc ms := by
  intro sz
  refine Met.ofW (cc := cc) (maxL := maxL) (ret := ret) hy rfl ?_
  intro p e s m args below meth c s₁ B hml hv
  obtain ⟨rfl, hsz, hP, hK, hD0, hN, hZ⟩ := hv
  subst hsz
  have hts := atoms_spec (ws := .code y cc maxL ret :: tbl) B.pre
  rw [lg_entry_eq]
  exact body p e s m below meth c (va_A w s.heap.size) s.heap [] _ ⟨B.exec, B.bytes, hml, findClass_of_methodNamed B.named, fun z hz => hts z (List.mem_cons_of_mem _ hz), hK, B.notSynchronized, B.returns, fun q h => Or.inr h, hN, hZ, fr_noHandlers (B.noHandlers (hts _ List.mem_cons_self))⟩ (name_of_methodNamed B.named B.method).1 hP hD0.self va_S.rf (lv_entry As hnL)
variable {own : String} {cc : ByteArray} {nL pc : Nat} {ret : Option FieldType} {hh : List ExceptionTableEntry} {ls : Array Slot} {w w' : va_W} {st0 rest : List Value}
theorem fr_kret {S : Type} {P : S → Prop} {W' : S → va_W} (u : S) (C : fr_Cx p s m args meth c own cc nL none hh tbl nw D cl tys A) (hP : va_P D cl (W' u) H) (hD : va_D A (W' u)) (hS : va_S A s.heap H locs) (hu : P u) (hdg : decode cc pc = .ok (.return_, 1)) :
    W p l e R s m args below meth c H locs cells slots (MQ below (fr_Qk D cl tys P W' A) args s cells slots A) (F0 m pc ls []) := by
  obtain ⟨hx, hb, hml, hown, ht, hK, hlocks, hr, hA, hN, hZ, hT⟩ := C
  exact W.vret hx hb hr (fun t ht hW => ⟨⟨u, rfl, hu, by rw [ht]; exact hP, va_K.moved hW.alike hK, hD⟩, hS.F ht⟩) hS.2.2 hdg hlocks
variable {y : MethodName} {bytes : ByteArray} {maxL n index mc ms : Nat} {ws : List Cond} {rm : Room} {b : Addr} {As : List Value} {host : String}
theorem fr_backk {S : Type} {P : S → Prop} {W' : S → va_W} (C : fr_Cx p s m args meth c own cc nL ret hh tbl nw D cl tys A) (hD : va_D A w) (hS : va_S A s.heap H locs)
    (hr : va_Run p l e R s m args below meth c H locs cells slots mc ms (F0 m pc ls st0) rest (fr_Qk D cl tys P W' (va_A w H.size) As.toArray) (va_A w H.size))
    (kk : ∀ (u : S) (H : Heap) (locs : List Loc), P u → va_P D cl (W' u) H → va_D A (W' u) → va_S A s.heap H locs → W p l e R s m args below meth c H locs (cells + mc) (slots + ms) Q (F0 m (pc + 3) ls rest)) : W p l e R s m args below meth c H locs cells slots Q (F0 m pc ls st0) := by
  have hFc := fr_free C.2.2.2.2.2.2.2.2.1 hD hS
  refine va_callv (post := P) (B := fun (u : S) (t : State) => va_P D cl (W' u) t.heap ∧ va_K D cl tys t ∧ va_D (va_A w H.size) (W' u)) (A1 := va_A w H.size) hr hS (fun q _ h => hFc q h) hFc (fun u t H1 locs1 ht hvm hw hB hz hk hS1 => ?_)
  obtain ⟨hP1, hK1, hD1⟩ := hB
  rw [ht] at hP1
  exact kk u H1 locs1 hw hP1 (hD1.weaken (fun _ _ _ h => hFc _ h)) hS1
theorem fr_callINk {S : Type} {P : S → Prop} {W' : S → va_W} (C : fr_Cx p s m args meth c own cc nL ret hh tbl nw D cl tys A) (hP : va_P D cl w H) (hD : va_D A w) (hS : va_S A s.heap H locs) (hM : fr_Mk l y ws rm D cl tys nw (.ref b :: As) w P W' mc ms) (cw : va_CN R s args own index y host bytes maxL none ws rm mc ms n ∧ y.name = "<init>" ∧ (Cond.instanceMethod y).before args s = true)
    (hn : As.length = n) (hsz : ls.size = nL) (hW : (rest.map fun v => v.category).sum ≤ 8) (hdg : decode cc pc = .ok (.invokespecial index, 3)) (hf : cells + mc ≤ R.cells ∧ slots + ms ≤ R.slots)
    (kk : ∀ (u : S) (H : Heap) (locs : List Loc), P u → va_P D cl (W' u) H → va_D A (W' u) → va_S A s.heap H locs → W p l e R s m args below meth c H locs (cells + mc) (slots + ms) Q (F0 m (pc + 3) ls rest)) : W p l e R s m args below meth c H locs cells slots Q (F0 m pc ls (As.reverse ++ .ref b :: rest)) :=
  fr_backk C hD hS (va_runIN (As := As) (rest := rest) ⟨C.1, C.2.1, C.2.2.1, C.2.2.2.1, C.2.2.2.2.1⟩ (hM H.size) cw ⟨fr_blind, fr_pre C hP hD hS⟩ rfl hn hsz rfl (lv_room hW) hdg hf) kk
theorem fr_callIk {S : Type} {P : S → Prop} {W' : S → va_W} (C : fr_Cx p s m args meth c own cc nL ret hh tbl nw D cl tys A) (hP : va_P D cl w H) (hD : va_D A w) (hS : va_S A s.heap H locs) (hM : fr_Mk l y ws rm D cl tys nw (.ref b :: As) w P W' mc ms) (cw : CallB R s args own index y bytes maxL none ws rm mc ms n ∧ y.name = "<init>" ∧ (Cond.instanceMethod y).before args s = true)
    (hn : As.length = n) (hsz : ls.size = nL) (hW : (rest.map fun v => v.category).sum ≤ 8) (hdg : decode cc pc = .ok (.invokespecial index, 3)) (hf : cells + mc ≤ R.cells ∧ slots + ms ≤ R.slots)
    (kk : ∀ (u : S) (H : Heap) (locs : List Loc), P u → va_P D cl (W' u) H → va_D A (W' u) → va_S A s.heap H locs → W p l e R s m args below meth c H locs (cells + mc) (slots + ms) Q (F0 m (pc + 3) ls rest)) : W p l e R s m args below meth c H locs cells slots Q (F0 m pc ls (As.reverse ++ .ref b :: rest)) :=
  fr_backk C hD hS (va_runI (As := As) (rest := rest) ⟨C.1, C.2.1, C.2.2.1, C.2.2.2.1, C.2.2.2.2.1⟩ (hM H.size) cw ⟨fr_blind, fr_pre C hP hD hS⟩ rfl hn hsz rfl (lv_room hW) hdg hf) kk
end FRK
section FRN
variable {p : Program} {l : Launch} {e : Env} {R : Room} {s : State} {m : MethodId} {args : Array Value} {below : List Frame} {meth : Method} {c : Code} {H : Heap} {locs : List Loc} {cells slots : Nat} {Q : State → Prop}
variable {D : va_G} {A : Nat → Prop} {own : String} {cc : ByteArray} {nL pc : Nat} {ret : Option FieldType} {hh : List ExceptionTableEntry} {ls : Array Slot} {w : va_W} {rest : List Value} {ka : Nat → ClassId}
/-- new int[n] -/
theorem fr_newi {n : Int32} {N' : Nat} (C : fr_Cx p s m args meth c own cc nL ret hh fr_tbl fr_nw D vwCl (fr_ty ka) A) (harr : Cond.arrayClass .int ∈ fr_tbl) (hP : va_P D vwCl w H) (hD : va_D A w) (hS : va_S A s.heap H locs) (hn : ¬ n < 0) (hN : n.toNatClampNeg = N') (hbytes : N' * 4 ≤ 536870912) (hcells : cells + 1 ≤ R.cells) (hslots : slots + N' ≤ R.slots) (hdg : decode cc pc = .ok (.newarray .int, 2))
    (kk : ∀ (q : Nat) (H : Heap), va_P D vwCl (w ++ [fr_ia (ka 2) N' q (fun _ => 0)]) H → va_D A (w ++ [fr_ia (ka 2) N' q (fun _ => 0)]) → va_S A s.heap H locs → W p l e R s m args below meth c H locs (cells + 1) (slots + N') Q (F0 m (pc + 2) ls (.ref q :: rest))) : W p l e R s m args below meth c H locs cells slots Q (F0 m pc ls (.int n :: rest)) := by
  refine va_newa (a0 := (N', .inl (fun _ => 0))) C.1 C.2.1 (atype := .int) (C.2.2.2.2.1 _ harr) (ty := .int) rfl C.2.2.2.2.2.1 hP hD hS C.2.2.2.2.2.2.2.2.1 (fun cA => rfl) hn hN hbytes hcells hslots hdg (fun q cA H1 hK1 hP1 hD1 hS1 => ?_)
  have e1 : s.vm.findClass ("[" ++ FieldType.int.toString) = some cA := (hK1.2 4 _ rfl).2
  have e2 : s.vm.findClass ("[" ++ FieldType.int.toString) = some (ka 2) := (hK1.2 2 _ rfl).2
  cases Option.some.inj (e1.symm.trans e2)
  exact kk q H1 hP1 hD1 hS1
/-- new long[n] -/
theorem fr_newl {n : Int32} {N' : Nat} (C : fr_Cx p s m args meth c own cc nL ret hh fr_tbl fr_nw D vwCl (fr_ty ka) A) (harr : Cond.arrayClass .long ∈ fr_tbl) (hP : va_P D vwCl w H) (hD : va_D A w) (hS : va_S A s.heap H locs) (hn : ¬ n < 0) (hN : n.toNatClampNeg = N') (hbytes : N' * 8 ≤ 536870912) (hcells : cells + 1 ≤ R.cells) (hslots : slots + N' ≤ R.slots) (hdg : decode cc pc = .ok (.newarray .long, 2))
    (kk : ∀ (q : Nat) (H : Heap), va_P D vwCl (w ++ [(q, .inl (ka 3, N', .inr (.inl (fun _ => 0))))]) H → va_D A (w ++ [(q, .inl (ka 3, N', .inr (.inl (fun _ => 0))))]) → va_S A s.heap H locs → W p l e R s m args below meth c H locs (cells + 1) (slots + N') Q (F0 m (pc + 2) ls (.ref q :: rest))) : W p l e R s m args below meth c H locs cells slots Q (F0 m pc ls (.int n :: rest)) := by
  refine va_newa (a0 := (N', .inr (.inl (fun _ => 0)))) C.1 C.2.1 (atype := .long) (C.2.2.2.2.1 _ harr) (ty := .long) rfl C.2.2.2.2.2.1 hP hD hS C.2.2.2.2.2.2.2.2.1 (fun cA => rfl) hn hN hbytes hcells hslots hdg (fun q cA H1 hK1 hP1 hD1 hS1 => ?_)
  have e1 : s.vm.findClass ("[" ++ FieldType.long.toString) = some cA := (hK1.2 4 _ rfl).2
  have e2 : s.vm.findClass ("[" ++ FieldType.long.toString) = some (ka 3) := (hK1.2 3 _ rfl).2
  cases Option.some.inj (e1.symm.trans e2)
  exact kk q H1 hP1 hD1 hS1
/-- new C[n], C one of the two -/
theorem fr_newq {n : Int32} {N' index j : Nat} {E : String} (C : fr_Cx p s m args meth c own cc nL ret hh fr_tbl fr_nw D vwCl (fr_ty ka) A) (hj : (fr_ty ka)[j]? = some (ka j, .object E)) (hj4 : j < 4) (hclink : Cond.classLink own index E ∈ fr_tbl) (hover : Cond.arrayOver (.object E) ∈ fr_nw) (hP : va_P D vwCl w H) (hD : va_D A w) (hS : va_S A s.heap H locs) (hn : ¬ n < 0) (hN : n.toNatClampNeg = N') (hbytes : N' * 4 ≤ 536870912) (hcells : cells + 1 ≤ R.cells) (hslots : slots + N' ≤ R.slots) (hdg : decode cc pc = .ok (.anewarray index, 3))
    (kk : ∀ (q : Nat) (H : Heap), va_P D vwCl (w ++ [fr_qa (ka j) N' q (fun _ => none)]) H → va_D A (w ++ [fr_qa (ka j) N' q (fun _ => none)]) → va_S A s.heap H locs → W p l e R s m args below meth c H locs (cells + 1) (slots + N') Q (F0 m (pc + 3) ls (.ref q :: rest))) : W p l e R s m args below meth c H locs cells slots Q (F0 m pc ls (.int n :: rest)) := by
  refine va_newq C.1 C.2.1 C.2.2.2.1 (C.2.2.2.2.1 _ hclink) (C.2.2.2.2.2.2.2.2.2.1 _ hover).2 C.2.2.2.2.2.1 hP hD hS C.2.2.2.2.2.2.2.2.1 hn hN hbytes hcells hslots hdg (fun q cA H1 hK1 hP1 hD1 hS1 => ?_)
  obtain ⟨-, -, -, -, -, e1⟩ := (hK1.2 4 _ rfl).2
  obtain ⟨-, -, -, -, -, e2⟩ := (C.2.2.2.2.2.1.2 j _ hj).2
  cases Option.some.inj (e1.symm.trans e2)
  exact kk q H1 hP1 hD1 hS1
end FRN
theorem fr_set_self {w : va_W} {k : Nat} {x : Nat × va_E} (h : w[k]? = some x) : w.set k x = w := by
  apply List.ext_getElem?
  intro j
  by_cases hj : j = k
  · subst hj
    rw [List.getElem?_set_self (List.getElem?_eq_some_iff.mp h).1, h]
  · rw [List.getElem?_set_ne (Ne.symm hj)]
def fr_f0 : Nat → Nat → Int32 := fun _ _ => 0
def fr_nx (al : Nat → Nat) (k q : Nat) : Nat → Nat := fun i => if i = k then q else al i
theorem fr_nx_ne {al : Nat → Nat} {k q i : Nat} (h : i ≠ k) : fr_nx al k q i = al i := if_neg h
theorem fr_nx_eq {al : Nat → Nat} {k q : Nat} : fr_nx al k q k = q := if_pos rfl
/-- the class's cells while it is made: j units, r rules -/
def fr_ih (ka : Nat → ClassId) (al : Nat → Nat) (j r : Nat) (T : va_W) : va_W :=
  fr_oc al fr_f0 :: fr_qa (ka 0) 10 (al 1) (fun i => if i < j then some (al (7 + i)) else none) :: fr_qa (ka 1) 12 (al 2) (fun i => if i < r then some (al (17 + i)) else none) :: fr_ia (ka 2) 12 (al 3) (fun _ => 0) :: fr_ia (ka 2) 12 (al 4) (fun _ => 0) :: fr_tc al fr_f0 :: fr_ia (ka 2) 200 (al 6) (fun _ => 0) :: T
def fr_iw (ka : Nat → ClassId) (al : Nat → Nat) (j r : Nat) : va_W := fr_ih ka al j r ((List.range j).map (fr_uc al fr_f0) ++ (List.range r).map (fr_rc al fr_f0))
theorem fr_iw_at {ka : Nat → ClassId} {al : Nat → Nat} {j r : Nat} {x : Nat × va_E} : (fr_iw ka al j r ++ [x])[7 + j + r]? = some x := by
  have h : (fr_iw ka al j r).length = 7 + j + r := by simp [fr_iw, fr_ih]; omega
  rw [List.getElem?_append_right (by omega), h]
  simp
theorem fr_ih_nx {ka : Nat → ClassId} {al : Nat → Nat} {j r k q : Nat} {T : va_W} (hk : 7 + j ≤ k) (hk2 : r = 0 ∨ 17 + r ≤ k) : fr_ih ka (fr_nx al k q) j r T = fr_ih ka al j r T := by
  have e : ∀ i : Nat, i < 7 → fr_nx al k q i = al i := fun i h => fr_nx_ne (by omega)
  have f1 : (fun i => if i < j then some (fr_nx al k q (7 + i)) else none) = (fun i => if i < j then some (al (7 + i)) else none) := by
    funext i
    by_cases h : i < j
    · rw [if_pos h, if_pos h, fr_nx_ne (by omega)]
    · rw [if_neg h, if_neg h]
  have f2 : (fun i => if i < r then some (fr_nx al k q (17 + i)) else none) = (fun i => if i < r then some (al (17 + i)) else none) := by
    funext i
    by_cases h : i < r
    · rw [if_pos h, if_pos h, fr_nx_ne (by omega)]
    · rw [if_neg h, if_neg h]
  unfold fr_ih
  rw [f1, f2]
  simp only [fr_oc, fr_tc, e 0 (by decide), e 1 (by decide), e 2 (by decide), e 3 (by decide), e 4 (by decide), e 5 (by decide), e 6 (by decide)]
/-- a unit more -/
theorem fr_iw_u {ka : Nat → ClassId} {al : Nat → Nat} {j q : Nat} : (fr_iw ka al j 0 ++ ([(q, .inr (1, [.int 0, .int 0, .int 0]))] : va_W)).set 1 (al 1, .inl (ka 0, 10, .inr (.inr (.inr (.inr (va_up (fun i => if i < j then some (al (7 + i)) else none) j (some q))))))) = fr_iw ka (fr_nx al (7 + j) q) (j + 1) 0 := by
  have f1 : va_up (fun i => if i < j then some (al (7 + i)) else none) j (some q) = (fun i => if i < j + 1 then some (fr_nx al (7 + j) q (7 + i)) else none) := by
    funext i
    unfold va_up
    by_cases h : i = j
    · subst h; rw [if_pos rfl, if_pos (by omega), fr_nx_eq]
    · rw [if_neg h]
      show (if i < j then some (al (7 + i)) else none) = _
      by_cases h2 : i < j
      · rw [if_pos h2, if_pos (by omega), fr_nx_ne (by omega)]
      · rw [if_neg h2, if_neg (by omega)]
  have m1 : (List.range (j + 1)).map (fr_uc (fr_nx al (7 + j) q) fr_f0) = (List.range j).map (fr_uc al fr_f0) ++ ([(q, .inr (1, [.int 0, .int 0, .int 0]))] : va_W) := by
    rw [List.range_succ, List.map_append]
    congr 1
    · apply List.map_congr_left
      intro i hi
      have := List.mem_range.mp hi
      unfold fr_uc
      rw [fr_nx_ne (by omega)]
    · show [fr_uc (fr_nx al (7 + j) q) fr_f0 j] = _
      unfold fr_uc
      rw [fr_nx_eq]
      rfl
  have e : ∀ i : Nat, i < 7 → fr_nx al (7 + j) q i = al i := fun i h => fr_nx_ne (by omega)
  rw [f1]
  unfold fr_iw
  rw [m1]
  unfold fr_ih
  simp [fr_oc, fr_tc, fr_qa, fr_ia, e 0 (by decide), e 1 (by decide), e 2 (by decide), e 3 (by decide), e 4 (by decide), e 5 (by decide), e 6 (by decide)]
/-- a rule more -/
theorem fr_iw_r {ka : Nat → ClassId} {al : Nat → Nat} {r q : Nat} : (fr_iw ka al 10 r ++ ([(q, .inr (2, [.int 0, .int 0, .int 0, .int 0]))] : va_W)).set 2 (al 2, .inl (ka 1, 12, .inr (.inr (.inr (.inr (va_up (fun i => if i < r then some (al (17 + i)) else none) r (some q))))))) = fr_iw ka (fr_nx al (17 + r) q) 10 (r + 1) := by
  have f1 : va_up (fun i => if i < r then some (al (17 + i)) else none) r (some q) = (fun i => if i < r + 1 then some (fr_nx al (17 + r) q (17 + i)) else none) := by
    funext i
    unfold va_up
    by_cases h : i = r
    · subst h; rw [if_pos rfl, if_pos (by omega), fr_nx_eq]
    · rw [if_neg h]
      show (if i < r then some (al (17 + i)) else none) = _
      by_cases h2 : i < r
      · rw [if_pos h2, if_pos (by omega), fr_nx_ne (by omega)]
      · rw [if_neg h2, if_neg (by omega)]
  have f2 : (fun i => if i < 10 then some (al (7 + i)) else none) = (fun i => if i < 10 then some (fr_nx al (17 + r) q (7 + i)) else none) := by
    funext i
    by_cases h : i < 10
    · rw [if_pos h, if_pos h, fr_nx_ne (by omega)]
    · rw [if_neg h, if_neg h]
  have m0 : (List.range 10).map (fr_uc (fr_nx al (17 + r) q) fr_f0) = (List.range 10).map (fr_uc al fr_f0) := by
    apply List.map_congr_left
    intro i hi
    have := List.mem_range.mp hi
    unfold fr_uc
    rw [fr_nx_ne (by omega)]
  have m1 : (List.range (r + 1)).map (fr_rc (fr_nx al (17 + r) q) fr_f0) = (List.range r).map (fr_rc al fr_f0) ++ ([(q, .inr (2, [.int 0, .int 0, .int 0, .int 0]))] : va_W) := by
    rw [List.range_succ, List.map_append]
    congr 1
    · apply List.map_congr_left
      intro i hi
      have := List.mem_range.mp hi
      unfold fr_rc
      rw [fr_nx_ne (by omega)]
    · show [fr_rc (fr_nx al (17 + r) q) fr_f0 r] = _
      unfold fr_rc
      rw [fr_nx_eq]
      rfl
  have e : ∀ i : Nat, i < 7 → fr_nx al (17 + r) q i = al i := fun i h => fr_nx_ne (by omega)
  rw [f1]
  unfold fr_iw
  rw [m0, m1]
  unfold fr_ih
  rw [f2]
  simp [fr_oc, fr_tc, fr_qa, fr_ia, e 0 (by decide), e 1 (by decide), e 2 (by decide), e 3 (by decide), e 4 (by decide), e 5 (by decide), e 6 (by decide)]
theorem fr_swapP {D : va_G} {cl : List vw_C} {w : va_W} {H : Heap} {k a : Nat} {x y : ClassId × vp_A} (hP : va_P D cl w H) (hk : w[k]? = some (a, .inl x)) (he : vp_cell x.1 x.2 = vp_cell y.1 y.2) : va_P D cl (w.set k (a, .inl y)) H := by
  intro i q hi
  by_cases hik : i = k
  · subst hik
    rw [List.getElem?_set_self (List.getElem?_eq_some_iff.mp hk).1] at hi
    cases hi
    have h := hP i _ hk
    show H[a]? = some (vp_cell y.1 y.2)
    rw [← he]
    exact h
  · rw [List.getElem?_set_ne (Ne.symm hik)] at hi
    exact hP i q hi
theorem fr_arr {cA : ClassId} {n : Nat} {f g : Nat → Option Nat} (h : ∀ i, i < n → f i = g i) : vp_cell cA (n, .inr (.inr (.inr (.inr f)))) = vp_cell cA (n, .inr (.inr (.inr (.inr g)))) := by
  rw [vp_cell_q, vp_cell_q]
  unfold arrV
  congr 1
  apply congrArg
  funext i
  show va_rf (f i.val) = va_rf (g i.val)
  rw [h i.val i.isLt]
/-- all made: the class's world -/
theorem fr_iw_done {D : va_G} {A : Nat → Prop} {ka : Nat → ClassId} {al : Nat → Nat} {H : Heap} (hP : va_P D vwCl (fr_iw ka al 10 12) H) (hD : va_D A (fr_iw ka al 10 12)) : va_P D vwCl (fr_cw ka al fr_f0 []) H ∧ va_D A (fr_cw ka al fr_f0 []) := by
  have w1 : (fr_iw ka al 10 12)[1]? = some (al 1, .inl (ka 0, 10, .inr (.inr (.inr (.inr (fun i => if i < 10 then some (al (7 + i)) else none)))))) := rfl
  have w2 : ((fr_iw ka al 10 12).set 1 (al 1, .inl (ka 0, 10, .inr (.inr (.inr (.inr (fun i => some (al (7 + i)))))))))[2]? = some (al 2, .inl (ka 1, 12, .inr (.inr (.inr (.inr (fun i => if i < 12 then some (al (17 + i)) else none)))))) := rfl
  have e : ((fr_iw ka al 10 12).set 1 (al 1, .inl (ka 0, 10, .inr (.inr (.inr (.inr (fun i => some (al (7 + i))))))))).set 2 (al 2, .inl (ka 1, 12, .inr (.inr (.inr (.inr (fun i => some (al (17 + i)))))))) = fr_cw ka al fr_f0 [] := by
    unfold fr_iw fr_ih fr_cw
    simp [fr_qa, fr_ia, fr_f0]
  have p1 := fr_swapP (y := (ka 0, 10, .inr (.inr (.inr (.inr (fun i => some (al (7 + i)))))))) hP w1 (fr_arr (fun i h => if_pos h))
  have p2 := fr_swapP (y := (ka 1, 12, .inr (.inr (.inr (.inr (fun i => some (al (17 + i)))))))) p1 w2 (fr_arr (fun i h => if_pos h))
  have d1 : va_D A ((fr_iw ka al 10 12).set 1 (al 1, .inl (ka 0, 10, .inr (.inr (.inr (.inr (fun i => some (al (7 + i)))))))) ) := hD.set w1
  have d2 := d1.set (e := .inl (ka 1, 12, .inr (.inr (.inr (.inr (fun i => some (al (17 + i)))))))) w2
  rw [e] at p2 d2
  exact ⟨p2, d2⟩
