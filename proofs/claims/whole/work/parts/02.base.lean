/-! BASE: contracts between two worlds: from the cells w with the arguments As the method comes back with r, and the cells are w'. A world here is ALL the cells that the caller tells of: no cutting, no joining. -/
/-- words that stay by laws of their own -/
def fr_nest : Cond → Bool
  | .methodLinkNest .. => true
  | .declares _ => true
  | .castable .. => true
  | .arrayOver (.object _) => true
  | .not (.castable ..) => true
  | .stringRef .. => true
  | _ => false
theorem fr_nc_back {C T : String} {U : State} (h : va_Nc C T U) : va_Nw (.not (.castable C T)) U := by
  obtain ⟨c, t, h1, h2, h3⟩ := h
  simp [va_Nw, Cond.before, Cond.holds, Cond.value, h1, h2, h3]
theorem fr_str {own tx : String} {k cur : Nat} {A : Array Value} {U : State} (hown : U.vm.findClass own = some cur) (h : (Cond.stringRef own k tx).before A U = true) : ∃ a, vk_R own k tx a U := by
  obtain ⟨_, _, _, a, -, -, -, -, -, he⟩ := Cond.stringRef_spec hown h
  exact ⟨a, vk_R.of h he⟩
theorem fr_nest_warm {q : Cond} (h : fr_nest q = true) {s U : State} (hW : s.WarmedH U.vm) (hZ : va_Nw q s) : va_Nw q U := by
  unfold fr_nest at h
  split at h
  · exact va_Nw.warmM hW hZ
  · exact va_Nw.warmD hW hZ
  · exact va_Nw.warmC hW hZ
  · exact va_AO.moved hW.alike hZ
  · exact fr_nc_back ((va_Nc.of hZ).moved hW.alike)
  · rename_i own k tx
    cases hc : s.vm.findClass own with
    | none => simp [va_Nw, Cond.before, Cond.holds, Cond.value, hc] at hZ
    | some cur =>
      obtain ⟨a, hv⟩ := fr_str hc hZ
      exact (vk_R.warm hW hv).1
  · cases h
theorem fr_noHandlers {c : Code} (h : c.exceptionTable.isEmpty = true) : c.exceptionTable.toList = [] := by
  have h0 : c.exceptionTable.size = 0 := by simpa [Array.isEmpty] using h
  exact List.eq_nil_of_length_eq_zero (by simpa using h0)
theorem fr_ne {x k : Int32} {a : Int} (hk : k.toInt = a) (h : ¬ x = k) : x.toInt ≠ a := fun q => h (Int32.toInt_inj.mp (q.trans hk.symm))
section FRZ
/-- a static of Throwable that holds a reference or null, at a cell outside A -/
def fr_zf (n d : String) (A : Nat → Prop) (U : State) (H : Heap) : Prop := ∃ (c : ClassId) (k : Class) (i : Nat) (f : Field) (a : Nat) (cell : Cell) (v : Value),
  U.vm.findClass Bundle.tN = some c ∧ U.fieldFound? Bundle.tN n d = some (c, k, i, f) ∧ f.isStatic = true ∧ k.statics = some a ∧ H[a]? = some cell ∧ cell.vm.isStatics = true ∧ cell.cls = c ∧ f.slot < cell.slots.size ∧ k.staticTypes[f.slot]? = some f.type ∧ cell.slots[f.slot]? = some v ∧ (v = .null ∨ ∃ t, v = .ref t) ∧ ¬ A a
theorem fr_zf.moved {n d : String} {A : Nat → Prop} {u U : State} {H : Heap} (hvm : u.vm.Alike U.vm) (h : fr_zf n d A u H) : fr_zf n d A U H := by
  obtain ⟨c, k, i, f, a, cell, v, h1, h2, h3, h4, h5, h6, h7, h8, h9, h10⟩ := h
  obtain ⟨k', hi', he⟩ := State.fieldFound?_setVm hvm h2
  exact ⟨c, k', i, f, a, cell, v, by rw [hvm.findClass]; exact h1, hi', h3, by rw [he]; exact h4, h5, h6, h7, h8, by rw [he]; exact h9, h10⟩
theorem fr_zf.kept {n d : String} {A : Nat → Prop} {U : State} {H H1 : Heap} (h : fr_zf n d A U H) (hq : ∀ a : Nat, a < H.size → ¬ A a → H1[a]? = H[a]?) : fr_zf n d A U H1 := by
  obtain ⟨c, k, i, f, a, cell, v, h1, h2, h3, h4, h5, h6, h7, h8, h9, h10, h11, h12⟩ := h
  exact ⟨c, k, i, f, a, cell, v, h1, h2, h3, h4, by rw [hq a (Array.getElem?_eq_some_iff.mp h5).1 h12]; exact h5, h6, h7, h8, h9, h10, h11, h12⟩
theorem fr_zf.narrow {n d : String} {A B : Nat → Prop} {U : State} {H : Heap} (h : fr_zf n d A U H) (hAB : ∀ q, B q → A q) : fr_zf n d B U H := by
  obtain ⟨c, k, i, f, a, cell, v, h1, h2, h3, h4, h5, h6, h7, h8, h9, h10, h11, h12⟩ := h
  exact ⟨c, k, i, f, a, cell, v, h1, h2, h3, h4, h5, h6, h7, h8, h9, h10, h11, fun z => h12 (hAB a z)⟩
theorem fr_zf.of {args : Array Value} {s : State} {n d : String} {A : Nat → Prop} (hl : (Cond.laysStatic Bundle.tN n d).before args s = true) (hr : (Cond.isRef (.static Bundle.tN n d)).before args s = true) (hA : ∀ a : Nat, a < s.heap.size → ¬ A a) : fr_zf n d A s s.heap := by
  obtain ⟨c, k, i, f, a, cell, hc, hi, hst, ha, hcell, hs, hcls, hlt, hty⟩ := Cond.laysStatic_spec hl
  cases hv : (Term.static Bundle.tN n d).eval args s none [] s with
  | none => simp [Cond.before, Cond.holds, Cond.value, hv] at hr
  | some v =>
    obtain ⟨hst', a', cell', ha', hcell', -, hslot⟩ := Term.static_spec hi hv
    cases ha.symm.trans ha'
    cases hcell.symm.trans hcell'
    simp only [Cond.before, Cond.holds, Cond.value, hv] at hr
    refine ⟨c, k, i, f, a, cell, v, hc, hi, hst, ha, hcell, hs, hcls, hlt, hty, hslot, ?_, hA a (Array.getElem?_eq_some_iff.mp hcell).1⟩
    cases v with
    | null => exact Or.inl rfl
    | ref t => exact Or.inr ⟨t, rfl⟩
    | _ => simp at hr
theorem fr_zf.lays {args : Array Value} {s : State} {n d : String} {A : Nat → Prop} (h : fr_zf n d A s s.heap) : (Cond.laysStatic Bundle.tN n d).before args s = true := by
  obtain ⟨c, k, i, f, a, cell, v, h1, h2, h3, h4, h5, h6, h7, h8, h9, h10, h11, h12⟩ := h
  simp [Cond.before, Cond.holds, Cond.value, h1, h2, h3, h4, h5, h6, h7, h8, h9]
theorem fr_zf.isRef {args : Array Value} {s : State} {n d : String} {A : Nat → Prop} (h : fr_zf n d A s s.heap) : (Cond.isRef (.static Bundle.tN n d)).before args s = true := by
  obtain ⟨c, k, i, f, a, cell, v, h1, h2, h3, h4, h5, h6, h7, h8, h9, h10, h11, h12⟩ := h
  rcases h11 with rfl | ⟨t, rfl⟩ <;> simp [Cond.before, Cond.holds, Cond.value, Term.eval, State.fieldNamed?, h2, h3, h4, h5, h6, h10]
end FRZ
/-- what every contract asks of Throwable's statics: no method of ours writes them -/
def fr_zz (A : Nat → Prop) (U : State) (H : Heap) : Prop := fr_zf "UNASSIGNED_STACK" Bundle.steD A U H ∧ fr_zf "SUPPRESSED_SENTINEL" Bundle.listD A U H
section FRB
variable {p : Program} {l : Launch} {e : Env} {R : Room} {s : State} {m : MethodId} {args : Array Value} {below : List Frame} {meth : Method} {c : Code} {H : Heap} {locs : List Loc} {cells slots : Nat} {Q : State → Prop}
variable {D : va_G} {cl : List vw_C} {tys : List (ClassId × FieldType)} {A : Nat → Prop} {nw tbl : List Cond}
/-- what a contract asks of its start -/
def fr_Pre (D : va_G) (cl : List vw_C) (tys : List (ClassId × FieldType)) (nw : List Cond) (w : va_W) (sz : Nat) (U : State) : Prop :=
  U.heap.size = sz ∧ va_P D cl w U.heap ∧ va_K D cl tys U ∧ va_D (fun _ => True) w ∧ (∀ q ∈ nw, fr_nest q = true ∧ va_Nw q U) ∧ fr_zz (va_A w sz) U U.heap
/-- what it says of its end -/
def fr_End (D : va_G) (cl : List vw_C) (tys : List (ClassId × FieldType)) (w : va_W) (A : Nat → Prop) (_ : Unit) (t : State) : Prop := va_P D cl w t.heap ∧ va_K D cl tys t ∧ va_D A w
def fr_Qi (D : va_G) (cl : List vw_C) (tys : List (ClassId × FieldType)) (r : Int32) (w : va_W) (A : Nat → Prop) : Array Value → State → Outcome → State → Prop := va_Qi (fun r' (_ : Unit) => r' = r) (fr_End D cl tys w A) A
def fr_Qv (D : va_G) (cl : List vw_C) (tys : List (ClassId × FieldType)) (w : va_W) (A : Nat → Prop) : Array Value → State → Outcome → State → Prop := va_Qv (fun (_ : Unit) => True) (fr_End D cl tys w A) A
def fr_Mi (l : Launch) (y : MethodName) (ws : List Cond) (rm : Room) (D : va_G) (cl : List vw_C) (tys : List (ClassId × FieldType)) (nw : List Cond) (As : List Value) (w : va_W) (r : Int32) (w' : va_W) (mc ms : Nat) : Prop :=
  ∀ sz : Nat, Met l y ws rm (va_Pc As (fr_Pre D cl tys nw w sz)) (fr_Qi D cl tys r w' (va_A w sz)) mc ms (va_A w sz)
def fr_Mv (l : Launch) (y : MethodName) (ws : List Cond) (rm : Room) (D : va_G) (cl : List vw_C) (tys : List (ClassId × FieldType)) (nw : List Cond) (As : List Value) (w : va_W) (w' : va_W) (mc ms : Nat) : Prop :=
  ∀ sz : Nat, Met l y ws rm (va_Pc As (fr_Pre D cl tys nw w sz)) (fr_Qv D cl tys w' (va_A w sz)) mc ms (va_A w sz)
theorem fr_blind {As : List Value} {w : va_W} {sz : Nat} : FrameBlind (va_Pc As (fr_Pre D cl tys nw w sz)) := fun a U g mk q => by
  obtain ⟨q0, q1, qP, qK, qD, qN, qZ⟩ := q
  exact ⟨q0, q1, qP, va_K.moved (u := U) (U := U.calling g mk a) (Vm.Alike.refl U.vm) qK, qD, fun z hz => ⟨(qN z hz).1, fr_nest_warm (qN z hz).1 (s := U) (U := U.calling g mk a) (State.WarmedH.refl U) (qN z hz).2⟩,
    qZ.1.moved (u := U) (U := U.calling g mk a) (Vm.Alike.refl U.vm), qZ.2.moved (u := U) (U := U.calling g mk a) (Vm.Alike.refl U.vm)⟩
/-- the facts that stand through a method's walk -/
def fr_Cx (p : Program) (s : State) (m : MethodId) (args : Array Value) (meth : Method) (c : Code) (own : String) (cc : ByteArray) (maxL : Nat) (ret : Option FieldType) (hh : List ExceptionTableEntry) (tbl nw : List Cond) (D : va_G) (cl : List vw_C) (tys : List (ClassId × FieldType)) (A : Nat → Prop) : Prop :=
  p.tables.exec = Jvm.exec ∧ c.code = cc ∧ c.maxLocals = maxL ∧ s.vm.findClass own = some m.cls ∧ (∀ w ∈ tbl, w.before args s = true) ∧ va_K D cl tys s ∧ meth.locks = false ∧ meth.sig.returnType = ret ∧ (∀ q : Nat, s.heap.size ≤ q → A q) ∧ (∀ q ∈ nw, fr_nest q = true ∧ va_Nw q s) ∧ fr_zz A s s.heap ∧ c.exceptionTable.toList = hh
theorem fr_Mi.of {y : MethodName} {rm : Room} {As : List Value} {w : va_W} {r : Int32} {w' : va_W} {mc ms : Nat} {cc : ByteArray} {maxL : Nat} {ret : Option FieldType} (hy : plainName y.cls = true) (hnL : (lg_sl As).length ≤ maxL)
    (body : ∀ (p : Program) (e : Env) (s : State) (m : MethodId) (below : List Frame) (meth : Method) (c : Code) (A : Nat → Prop) (H : Heap) (locs : List Loc) (ls : Array Slot), fr_Cx p s m As.toArray meth c y.cls cc maxL ret [] tbl nw D cl tys A → va_P D cl w H → va_D A w → va_S A s.heap H locs → lv_has ls maxL (lv_args 0 As) →
      W p l e rm s m As.toArray below meth c H locs 0 0 (MQ below (fr_Qi D cl tys r w' A) As.toArray s mc ms A) (F0 m 0 ls [])) : fr_Mi l y (.code y cc maxL ret :: tbl) rm D cl tys nw As w r w' mc ms := by
  intro sz
  refine Met.ofW (cc := cc) (maxL := maxL) (ret := ret) hy rfl ?_
  intro p e s m args below meth c s₁ B hml hv
  obtain ⟨rfl, hsz, hP, hK, hD0, hN, hZ⟩ := hv
  subst hsz
  have hts := atoms_spec (ws := .code y cc maxL ret :: tbl) B.pre
  rw [lg_entry_eq]
  exact body p e s m below meth c (va_A w s.heap.size) s.heap [] _ ⟨B.exec, B.bytes, hml, findClass_of_methodNamed B.named, fun z hz => hts z (List.mem_cons_of_mem _ hz), hK, B.notSynchronized, B.returns, fun q h => Or.inr h, hN, hZ, fr_noHandlers (B.noHandlers (hts _ List.mem_cons_self))⟩ hP hD0.self va_S.rf (lv_entry As hnL)
theorem fr_Mv.of {y : MethodName} {rm : Room} {As : List Value} {w : va_W} {w' : va_W} {mc ms : Nat} {cc : ByteArray} {maxL : Nat} {ret : Option FieldType} (hy : plainName y.cls = true) (hnL : (lg_sl As).length ≤ maxL)
    (body : ∀ (p : Program) (e : Env) (s : State) (m : MethodId) (below : List Frame) (meth : Method) (c : Code) (A : Nat → Prop) (H : Heap) (locs : List Loc) (ls : Array Slot), fr_Cx p s m As.toArray meth c y.cls cc maxL ret [] tbl nw D cl tys A → meth.name = y.name → va_P D cl w H → va_D A w → va_S A s.heap H locs → lv_has ls maxL (lv_args 0 As) →
      W p l e rm s m As.toArray below meth c H locs 0 0 (MQ below (fr_Qv D cl tys w' A) As.toArray s mc ms A) (F0 m 0 ls [])) : fr_Mv l y (.code y cc maxL ret :: tbl) rm D cl tys nw As w w' mc ms := by
  intro sz
  refine Met.ofW (cc := cc) (maxL := maxL) (ret := ret) hy rfl ?_
  intro p e s m args below meth c s₁ B hml hv
  obtain ⟨rfl, hsz, hP, hK, hD0, hN, hZ⟩ := hv
  subst hsz
  have hts := atoms_spec (ws := .code y cc maxL ret :: tbl) B.pre
  rw [lg_entry_eq]
  exact body p e s m below meth c (va_A w s.heap.size) s.heap [] _ ⟨B.exec, B.bytes, hml, findClass_of_methodNamed B.named, fun z hz => hts z (List.mem_cons_of_mem _ hz), hK, B.notSynchronized, B.returns, fun q h => Or.inr h, hN, hZ, fr_noHandlers (B.noHandlers (hts _ List.mem_cons_self))⟩ (name_of_methodNamed B.named B.method).1 hP hD0.self va_S.rf (lv_entry As hnL)
variable {own : String} {cc : ByteArray} {nL pc : Nat} {ret : Option FieldType} {hh : List ExceptionTableEntry} {ls : Array Slot} {w w' : va_W} {st0 rest : List Value}
theorem fr_iret {v r : Int32} (C : fr_Cx p s m args meth c own cc nL (some .int) hh tbl nw D cl tys A) (hP : va_P D cl w H) (hD : va_D A w) (hS : va_S A s.heap H locs) (hv : v = r) (hdg : decode cc pc = .ok (.ireturn, 1)) :
    W p l e R s m args below meth c H locs cells slots (MQ below (fr_Qi D cl tys r w A) args s cells slots A) (F0 m pc ls [.int v]) := by
  obtain ⟨hx, hb, hml, hown, ht, hK, hlocks, hr, hA, hN, hZ, hT⟩ := C
  exact W.iret (v := v) hx hb hr (fun t ht hW => ⟨⟨v, (), rfl, hv, by rw [ht]; exact hP, va_K.moved hW.alike hK, hD⟩, hS.F ht⟩) hS.2.2 hdg hlocks
theorem fr_zret {v r : Int32} (C : fr_Cx p s m args meth c own cc nL (some .boolean) hh tbl nw D cl tys A) (hP : va_P D cl w H) (hD : va_D A w) (hS : va_S A s.heap H locs) (hv : v = r) (hn : v = 0 ∨ v = 1) (hdg : decode cc pc = .ok (.ireturn, 1)) :
    W p l e R s m args below meth c H locs cells slots (MQ below (fr_Qi D cl tys r w A) args s cells slots A) (F0 m pc ls [.int v]) := by
  obtain ⟨hx, hb, hml, hown, ht, hK, hlocks, hr, hA, hN, hZ, hT⟩ := C
  exact W.zret (v := v) hx hb hr (by rcases hn with rfl | rfl <;> rfl) (fun t ht hW => ⟨⟨v, (), rfl, hv, by rw [ht]; exact hP, va_K.moved hW.alike hK, hD⟩, hS.F ht⟩) hS.2.2 hdg hlocks
theorem fr_vret (C : fr_Cx p s m args meth c own cc nL none hh tbl nw D cl tys A) (hP : va_P D cl w H) (hD : va_D A w) (hS : va_S A s.heap H locs) (hdg : decode cc pc = .ok (.return_, 1)) :
    W p l e R s m args below meth c H locs cells slots (MQ below (fr_Qv D cl tys w A) args s cells slots A) (F0 m pc ls []) := by
  obtain ⟨hx, hb, hml, hown, ht, hK, hlocks, hr, hA, hN, hZ, hT⟩ := C
  exact W.vret hx hb hr (fun t ht hW => ⟨⟨(), rfl, trivial, by rw [ht]; exact hP, va_K.moved hW.alike hK, hD⟩, hS.F ht⟩) hS.2.2 hdg hlocks
theorem fr_free (hA : ∀ q : Nat, s.heap.size ≤ q → A q) (hD : va_D A w) (hS : va_S A s.heap H locs) : ∀ q, va_A w H.size q → A q := by
  intro q h
  rcases h with ⟨k, e0, h⟩ | h
  · exact hD.2 k _ h
  · exact hA q (Nat.le_trans hS.1 h)
variable {y : MethodName} {bytes : ByteArray} {maxL n index mc ms : Nat} {rty : Option FieldType} {ws : List Cond} {rm : Room} {C0 : String} {b : Addr} {As : List Value} {r : Int32} {host : String}
/-- the start of a callee's contract, at the caller's heap -/
theorem fr_pre (C : fr_Cx p s m args meth c own cc nL ret hh tbl nw D cl tys A) (hP : va_P D cl w H) (hD : va_D A w) (hS : va_S A s.heap H locs) : ∀ U : State, U.heap = H → s.WarmedH U.vm → va_Pc As (fr_Pre D cl tys nw w H.size) As.toArray U := by
  obtain ⟨hx, hb, hml, hown, ht, hK, hlocks, hr, hA, hN, hZ, hT⟩ := C
  exact fun U hU hW => ⟨rfl, by rw [hU], by rw [hU]; exact hP, va_K.moved hW.alike hK, hD.weaken (fun _ _ _ _ => trivial), fun q hq => ⟨(hN q hq).1, fr_nest_warm (hN q hq).1 hW (hN q hq).2⟩,
    by rw [hU]; exact ⟨((hZ.1.kept hS.2.1).narrow (fr_free hA hD hS)).moved hW.alike, ((hZ.2.kept hS.2.1).narrow (fr_free hA hD hS)).moved hW.alike⟩⟩
theorem fr_backi (C : fr_Cx p s m args meth c own cc nL ret hh tbl nw D cl tys A) (hD : va_D A w) (hS : va_S A s.heap H locs)
    (hr : va_Run p l e R s m args below meth c H locs cells slots mc ms (F0 m pc ls st0) rest (fr_Qi D cl tys r w' (va_A w H.size) As.toArray) (va_A w H.size))
    (kk : ∀ (H : Heap) (locs : List Loc), va_P D cl w' H → va_D A w' → va_S A s.heap H locs → W p l e R s m args below meth c H locs (cells + mc) (slots + ms) Q (F0 m (pc + 3) ls (.int r :: rest))) : W p l e R s m args below meth c H locs cells slots Q (F0 m pc ls st0) := by
  have hFc := fr_free C.2.2.2.2.2.2.2.2.1 hD hS
  refine va_calli (post := fun r' (_ : Unit) => r' = r) (B := fr_End D cl tys w' (va_A w H.size)) (A1 := va_A w H.size) hr hS (fun q _ h => hFc q h) hFc (fun r' u t H1 locs1 ht hvm hw hB hz hk hS1 => ?_)
  obtain ⟨hP1, hK1, hD1⟩ := hB
  rw [ht] at hP1
  subst hw
  exact kk H1 locs1 hP1 (hD1.weaken (fun _ _ _ h => hFc _ h)) hS1
theorem fr_backv (C : fr_Cx p s m args meth c own cc nL ret hh tbl nw D cl tys A) (hD : va_D A w) (hS : va_S A s.heap H locs)
    (hr : va_Run p l e R s m args below meth c H locs cells slots mc ms (F0 m pc ls st0) rest (fr_Qv D cl tys w' (va_A w H.size) As.toArray) (va_A w H.size))
    (kk : ∀ (H : Heap) (locs : List Loc), va_P D cl w' H → va_D A w' → va_S A s.heap H locs → W p l e R s m args below meth c H locs (cells + mc) (slots + ms) Q (F0 m (pc + 3) ls rest)) : W p l e R s m args below meth c H locs cells slots Q (F0 m pc ls st0) := by
  have hFc := fr_free C.2.2.2.2.2.2.2.2.1 hD hS
  refine va_callv (post := fun (_ : Unit) => True) (B := fr_End D cl tys w' (va_A w H.size)) (A1 := va_A w H.size) hr hS (fun q _ h => hFc q h) hFc (fun u t H1 locs1 ht hvm hw hB hz hk hS1 => ?_)
  obtain ⟨hP1, hK1, hD1⟩ := hB
  rw [ht] at hP1
  exact kk H1 locs1 hP1 (hD1.weaken (fun _ _ _ h => hFc _ h)) hS1
theorem fr_callVi (C : fr_Cx p s m args meth c own cc nL ret hh tbl nw D cl tys A) (hP : va_P D cl w H) (hD : va_D A w) (hS : va_S A s.heap H locs) (hM : fr_Mi l y ws rm D cl tys nw (.ref b :: As) w r w' mc ms) (cw : CallW R s args own C0 index y bytes maxL rty ws rm mc ms n)
    (hrecv : ∃ cellB : Cell, H[b]? = some cellB ∧ cellB.vm.isStatics = false ∧ s.vm.findClass C0 = some cellB.cls) (hn : As.length = n) (hsz : ls.size = nL) (hW : (rest.map fun v => v.category).sum ≤ 8) (hdg : decode cc pc = .ok (.invokevirtual index, 3)) (hf : cells + mc ≤ R.cells ∧ slots + ms ≤ R.slots)
    (kk : ∀ (H : Heap) (locs : List Loc), va_P D cl w' H → va_D A w' → va_S A s.heap H locs → W p l e R s m args below meth c H locs (cells + mc) (slots + ms) Q (F0 m (pc + 3) ls (.int r :: rest))) : W p l e R s m args below meth c H locs cells slots Q (F0 m pc ls (As.reverse ++ .ref b :: rest)) :=
  fr_backi C hD hS (va_runV (As := As) (rest := rest) ⟨C.1, C.2.1, C.2.2.1, C.2.2.2.1, C.2.2.2.2.1⟩ (hM H.size) cw ⟨fr_blind, hrecv, fr_pre C hP hD hS⟩ rfl hn hsz rfl (lv_room hW) hdg hf) kk
theorem fr_callVv (C : fr_Cx p s m args meth c own cc nL ret hh tbl nw D cl tys A) (hP : va_P D cl w H) (hD : va_D A w) (hS : va_S A s.heap H locs) (hM : fr_Mv l y ws rm D cl tys nw (.ref b :: As) w w' mc ms) (cw : CallW R s args own C0 index y bytes maxL rty ws rm mc ms n)
    (hrecv : ∃ cellB : Cell, H[b]? = some cellB ∧ cellB.vm.isStatics = false ∧ s.vm.findClass C0 = some cellB.cls) (hn : As.length = n) (hsz : ls.size = nL) (hW : (rest.map fun v => v.category).sum ≤ 8) (hdg : decode cc pc = .ok (.invokevirtual index, 3)) (hf : cells + mc ≤ R.cells ∧ slots + ms ≤ R.slots)
    (kk : ∀ (H : Heap) (locs : List Loc), va_P D cl w' H → va_D A w' → va_S A s.heap H locs → W p l e R s m args below meth c H locs (cells + mc) (slots + ms) Q (F0 m (pc + 3) ls rest)) : W p l e R s m args below meth c H locs cells slots Q (F0 m pc ls (As.reverse ++ .ref b :: rest)) :=
  fr_backv C hD hS (va_runV (As := As) (rest := rest) ⟨C.1, C.2.1, C.2.2.1, C.2.2.2.1, C.2.2.2.2.1⟩ (hM H.size) cw ⟨fr_blind, hrecv, fr_pre C hP hD hS⟩ rfl hn hsz rfl (lv_room hW) hdg hf) kk
theorem fr_callSi (C : fr_Cx p s m args meth c own cc nL ret hh tbl nw D cl tys A) (hP : va_P D cl w H) (hD : va_D A w) (hS : va_S A s.heap H locs) (hM : fr_Mi l y ws rm D cl tys nw As w r w' mc ms) (cw : CallB R s args own index y bytes maxL rty ws rm mc ms n ∧ (Cond.static y).before args s = true)
    (hn : As.length = n) (hsz : ls.size = nL) (hW : (rest.map fun v => v.category).sum ≤ 8) (hdg : decode cc pc = .ok (.invokestatic index, 3)) (hf : cells + mc ≤ R.cells ∧ slots + ms ≤ R.slots)
    (kk : ∀ (H : Heap) (locs : List Loc), va_P D cl w' H → va_D A w' → va_S A s.heap H locs → W p l e R s m args below meth c H locs (cells + mc) (slots + ms) Q (F0 m (pc + 3) ls (.int r :: rest))) : W p l e R s m args below meth c H locs cells slots Q (F0 m pc ls (As.reverse ++ rest)) :=
  fr_backi C hD hS (va_runS (As := As) (rest := rest) ⟨C.1, C.2.1, C.2.2.1, C.2.2.2.1, C.2.2.2.2.1⟩ (hM H.size) cw ⟨fr_blind, fr_pre C hP hD hS⟩ rfl hn hsz rfl (lv_room hW) hdg hf) kk
theorem fr_callSv (C : fr_Cx p s m args meth c own cc nL ret hh tbl nw D cl tys A) (hP : va_P D cl w H) (hD : va_D A w) (hS : va_S A s.heap H locs) (hM : fr_Mv l y ws rm D cl tys nw As w w' mc ms) (cw : CallB R s args own index y bytes maxL rty ws rm mc ms n ∧ (Cond.static y).before args s = true)
    (hn : As.length = n) (hsz : ls.size = nL) (hW : (rest.map fun v => v.category).sum ≤ 8) (hdg : decode cc pc = .ok (.invokestatic index, 3)) (hf : cells + mc ≤ R.cells ∧ slots + ms ≤ R.slots)
    (kk : ∀ (H : Heap) (locs : List Loc), va_P D cl w' H → va_D A w' → va_S A s.heap H locs → W p l e R s m args below meth c H locs (cells + mc) (slots + ms) Q (F0 m (pc + 3) ls rest)) : W p l e R s m args below meth c H locs cells slots Q (F0 m pc ls (As.reverse ++ rest)) :=
  fr_backv C hD hS (va_runS (As := As) (rest := rest) ⟨C.1, C.2.1, C.2.2.1, C.2.2.2.1, C.2.2.2.2.1⟩ (hM H.size) cw ⟨fr_blind, fr_pre C hP hD hS⟩ rfl hn hsz rfl (lv_room hW) hdg hf) kk
theorem fr_callSNi (C : fr_Cx p s m args meth c own cc nL ret hh tbl nw D cl tys A) (hP : va_P D cl w H) (hD : va_D A w) (hS : va_S A s.heap H locs) (hM : fr_Mi l y ws rm D cl tys nw As w r w' mc ms) (cw : va_CN R s args own index y host bytes maxL rty ws rm mc ms n ∧ (Cond.static y).before args s = true ∧ True)
    (hn : As.length = n) (hsz : ls.size = nL) (hW : (rest.map fun v => v.category).sum ≤ 8) (hdg : decode cc pc = .ok (.invokestatic index, 3)) (hf : cells + mc ≤ R.cells ∧ slots + ms ≤ R.slots)
    (kk : ∀ (H : Heap) (locs : List Loc), va_P D cl w' H → va_D A w' → va_S A s.heap H locs → W p l e R s m args below meth c H locs (cells + mc) (slots + ms) Q (F0 m (pc + 3) ls (.int r :: rest))) : W p l e R s m args below meth c H locs cells slots Q (F0 m pc ls (As.reverse ++ rest)) :=
  fr_backi C hD hS (va_runSN (As := As) (rest := rest) ⟨C.1, C.2.1, C.2.2.1, C.2.2.2.1, C.2.2.2.2.1⟩ (hM H.size) cw ⟨fr_blind, fr_pre C hP hD hS⟩ rfl hn hsz rfl (lv_room hW) hdg hf) kk
theorem fr_callINv (C : fr_Cx p s m args meth c own cc nL ret hh tbl nw D cl tys A) (hP : va_P D cl w H) (hD : va_D A w) (hS : va_S A s.heap H locs) (hM : fr_Mv l y ws rm D cl tys nw (.ref b :: As) w w' mc ms) (cw : va_CN R s args own index y host bytes maxL none ws rm mc ms n ∧ y.name = "<init>" ∧ (Cond.instanceMethod y).before args s = true)
    (hn : As.length = n) (hsz : ls.size = nL) (hW : (rest.map fun v => v.category).sum ≤ 8) (hdg : decode cc pc = .ok (.invokespecial index, 3)) (hf : cells + mc ≤ R.cells ∧ slots + ms ≤ R.slots)
    (kk : ∀ (H : Heap) (locs : List Loc), va_P D cl w' H → va_D A w' → va_S A s.heap H locs → W p l e R s m args below meth c H locs (cells + mc) (slots + ms) Q (F0 m (pc + 3) ls rest)) : W p l e R s m args below meth c H locs cells slots Q (F0 m pc ls (As.reverse ++ .ref b :: rest)) :=
  fr_backv C hD hS (va_runIN (As := As) (rest := rest) ⟨C.1, C.2.1, C.2.2.1, C.2.2.2.1, C.2.2.2.2.1⟩ (hM H.size) cw ⟨fr_blind, fr_pre C hP hD hS⟩ rfl hn hsz rfl (lv_room hW) hdg hf) kk
theorem fr_callIv (C : fr_Cx p s m args meth c own cc nL ret hh tbl nw D cl tys A) (hP : va_P D cl w H) (hD : va_D A w) (hS : va_S A s.heap H locs) (hM : fr_Mv l y ws rm D cl tys nw (.ref b :: As) w w' mc ms) (cw : CallB R s args own index y bytes maxL none ws rm mc ms n ∧ y.name = "<init>" ∧ (Cond.instanceMethod y).before args s = true)
    (hn : As.length = n) (hsz : ls.size = nL) (hW : (rest.map fun v => v.category).sum ≤ 8) (hdg : decode cc pc = .ok (.invokespecial index, 3)) (hf : cells + mc ≤ R.cells ∧ slots + ms ≤ R.slots)
    (kk : ∀ (H : Heap) (locs : List Loc), va_P D cl w' H → va_D A w' → va_S A s.heap H locs → W p l e R s m args below meth c H locs (cells + mc) (slots + ms) Q (F0 m (pc + 3) ls rest)) : W p l e R s m args below meth c H locs cells slots Q (F0 m pc ls (As.reverse ++ .ref b :: rest)) :=
  fr_backv C hD hS (va_runI (As := As) (rest := rest) ⟨C.1, C.2.1, C.2.2.1, C.2.2.2.1, C.2.2.2.2.1⟩ (hM H.size) cw ⟨fr_blind, fr_pre C hP hD hS⟩ rfl hn hsz rfl (lv_room hW) hdg hf) kk
end FRB
