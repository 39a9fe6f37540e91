/-! THROWS: a method that returns or throws; the making and throwing of an exception with a written text; its catching by the caller. -/
section FRR
variable {p : Program} {l : Launch} {e : Env} {R : Room} {s : State} {m : MethodId} {args : Array Value} {below : List Frame} {meth : Method} {c : Code} {T : State} {locs : List Loc} {cells slots : Nat}
theorem fr_sbn_base {x b : State} {fs : List Frame} {L : List Loc} {k n : Nat} (h : (x.setFrames fs).sameButNew b L k n) : x.sameButNew b L k n := by
  obtain ⟨h1, h2⟩ := h
  rw [State.setFrames_setFrames] at h1
  exact ⟨h1, h2⟩
/-- the walk stands at T as it would if the method had been entered at T's heap -/
theorem fr_rebase {R' : Room} (X : Stand p l e R s m args below meth c T locs cells slots) (hf : R'.frames ≤ R.frames) (hl : R'.locals ≤ R.locals) (hc : cells + R'.cells ≤ R.cells) (hs : slots + R'.slots ≤ R.slots) : Stand p l e R' (T.setFrames (.invoking m args :: below)) m args below meth c T [] 0 0 := by
  obtain ⟨g₀, hfr⟩ := X.frames_eq
  have hcur := State.cur_lt_of_frames hfr
  have hF : (T.setFrames (.invoking m args :: below)).frames = .invoking m args :: below := State.frames_setFrames _ hcur
  have hm : (T.setFrames (.invoking m args :: below)).vm.method? m = some meth := X.method'
  obtain ⟨t, ht, -⟩ := State.frames_cons hF
  obtain ⟨t0, ht0, -⟩ := State.frames_cons hfr
  refine ⟨X.admits, X.cas, X.clock, hF, ?_, ?_, hm, X.code, X.here, X.tail, State.WarmedH.refl (T.setFrames (.invoking m args :: below)), by rw [State.stackLimits_setFrames], by rw [State.stackBytes_setFrames], ?_⟩
  · have h := X.room
    have h1 := X.heapSize
    have h2 := X.used
    have h3 := X.book
    have h4 : (T.setFrames (.invoking m args :: below)).localsInUse = s.localsInUse := by
      rw [State.localsInUse_invoking X.frames X.method X.code, State.localsInUse_invoking hF hm X.code]
    have h5 : (T.setFrames (.invoking m args :: below)).me.stackBytes = s.me.stackBytes := by rw [State.stackBytes_setFrames]; exact X.bytes
    have h6 : e.platform.stackLimits (T.setFrames (.invoking m args :: below)).me = e.platform.stackLimits s.me := by rw [State.stackLimits_setFrames]; exact X.limits
    have h7 : (T.setFrames (.invoking m args :: below)).frames.length = s.frames.length := by rw [hF, X.frames]
    have h8 : (T.setFrames (.invoking m args :: below)).slotsTrue = true := h3
    have h9 : (T.setFrames (.invoking m args :: below)).heap.size = T.heap.size := rfl
    have h10 : (T.setFrames (.invoking m args :: below)).slotsUsed = T.slotsUsed := rfl
    simp only [State.hasRoom, Bool.and_eq_true, decide_eq_true_eq] at h ⊢
    rw [h4, h5, h6, h7, h9, h10]
    obtain ⟨⟨⟨⟨a1, a2, a3, a4, a5, a6⟩, a7⟩, a8⟩, a9⟩ := h
    exact ⟨⟨⟨⟨by omega, by omega, by omega, by omega, by omega, a6⟩, by omega⟩, by omega⟩, h8⟩
  · have h := X.hears
    have hw := X.warmed.alike
    have hmT : T.vm.method? m = some meth := X.method'
    cases below with
    | nil => simpa [State.hears, State.setFrames, hmT, X.method] using h
    | cons q r => cases q <;> simpa [State.hears, State.setFrames, hmT, X.method, State.code?_eq, hw.method?] using h
  · have h := (State.sameButNew.refl (T.setFrames (.invoking m args :: below)) ht).setFrames T.frames (by simpa [State.setFrames] using hcur)
    rw [State.setFrames_setFrames, State.setFrames_self ht0] at h
    exact h
end FRR
/-! An exception whose constructor's own link is another entry than 7 (NoSuchElementException(String): 13): the library's ctorThrowS speaks of the entry 7 alone. The same road, its first step told by its own bytes. -/
def fr_oat (own : String) (ic : Nat) (X Y : String) (names : List String) (i0 : Nat) (b0 : ByteArray) : List Cond :=
  Bundle.throwableAtoms ++ Bundle.throwableSAtoms ++ Bundle.passSAtoms X Y i0 b0 ++ Bundle.chainSAtoms Y names ++
  [.methodLink own ic (Bundle.initS X), .instantiable X 6, .selects X Bundle.tFill0 Bundle.tFill0, .selects X Bundle.tFill Bundle.tFill,
   .lays X Bundle.tN "cause" "Ljava/lang/Throwable;", .lays X Bundle.tN "stackTrace" Bundle.steD, .lays X Bundle.tN "suppressedExceptions" Bundle.listD, .lays X Bundle.tN "detailMessage" "Ljava/lang/String;",
   .isRef (.static Bundle.tN "UNASSIGNED_STACK" Bundle.steD), .isRef (.static Bundle.tN "SUPPRESSED_SENTINEL" Bundle.listD),
   .fieldLink Bundle.tN 198 Bundle.tN "backtrace" "Ljava/lang/Object;", .lays Bundle.tN Bundle.tN "backtrace" "Ljava/lang/Object;", .lays X Bundle.tN "backtrace" "Ljava/lang/Object;"]
section FRK
variable {p : Program} {l : Launch} {e : Env} {R : Room} {s : State} {m : MethodId} {args : Array Value} {below : List Frame} {meth : Method} {c : Code} {T : State} {cells slots : Nat}
theorem fr_fill {pl : Platform} {X : String} {y : MethodName} {cX : ClassId} {f : MethodId} (ha : l.admits e) (hf : s.vm.findClass X = some cX) (hy : y.cls ≠ "java/lang/invoke/MethodHandle" ∧ y.cls ≠ "java/lang/invoke/VarHandle") (hn : s.methodNamed? y = some f) (h : (Cond.selects X y y).before args s = true) : selectMethod e.platform s.vm cX f = .method f := by
  obtain ⟨c2, r2, m2, q1, q2, q3, q4, -⟩ := Cond.selects_spec h
  cases Option.some.inj (q1.symm.trans hf)
  cases Option.some.inj (q2.symm.trans (State.methodFound?_of_named hn hy))
  cases Option.some.inj (q3.symm.trans hn)
  rw [Launch.admits_selectMethod ha]; exact q4
set_option maxHeartbeats 1000000 in
theorem fr_ctor13 {own X Y : String} {names : List String} {ic i0 : Nat} {b0 : ByteArray} (St : Stand p l e R s m args below meth c T [] cells slots) (hexec : p.tables.exec = Jvm.exec) (htr : e.platform.stackTraces = false) (hown : s.vm.findClass own = some m.cls) (hX : Bundle.fit X = true) (hY : Bundle.fit Y = true) (hnames : ∀ n ∈ names, Bundle.fit n = true)
    (k0 : decode b0 0 = .ok (.aload_n 0, 1)) (k1 : decode b0 1 = .ok (.aload_n 1, 1)) (k2 : decode b0 2 = .ok (.invokespecial i0, 3)) (k5 : decode b0 5 = .ok (.return_, 1))
    (h : ∀ w ∈ fr_oat own ic X Y names i0 b0, w.before args s = true) {a : Addr} {cX : ClassId} {kX : Class} (hfX : s.vm.findClass X = some cX) (hkX : s.vm.classes[cX]? = some kX) (hcell : T.heap[a]? = some (freshCell cX kX)) (hnew : s.heap.size ≤ a) {msg : Value} (hmsg : msg.isRef = true)
    {g : JFrame} (hg : g.method = m) (hsize : g.locals.size = c.maxLocals) (hlocked : g.locked = none) (hentered : g.entered = []) {rest : List Value} (hstack : g.stack = msg :: .ref a :: .ref a :: rest)
    (d6 : decode c.code g.pc = .ok (.invokespecial ic, 3)) (d9 : decode c.code (g.pc + 3) = .ok (.athrow, 1)) (hout : ∀ x ∈ c.exceptionTable.toList, covers x (g.pc + 3) = false)
    (hf1 : names.length + 4 < R.frames) (hf2 : 2 * g.monitorRoom + ((Value.ref a :: rest).map fun v => v.category).sum + (13 * (names.length + 2) + 42) ≤ R.locals) (hlocks : meth.locks = false) :
    ∃ U : State, Steps p.tables e below (T.setTop g) U ∧ U.status = .running ∧ Ended U below (.threw a) ∧ s.WarmedH U.vm ∧ s.sameButNew ({ U with vm := s.vm } : State) [] cells slots ∧ ∃ ce, U.heap[a]? = some ce ∧ ce.vm = .none ∧ s.vm.findClass X = some ce.cls := by
  have howns : e.platform.frameOwnsMonitors = true := by rw [St.admits.platform]
  have hfin : e.platform.finalization = false := by rw [St.admits.platform]
  have hpl : e.platform.magicAccessors = ({} : Platform).magicAccessors := by rw [St.admits.platform]
  obtain ⟨Tc, Z0, L, -, Ys⟩ := ThrowableC.of_atoms (args := args) howns hfin hpl (fun x hx => h x (by simp [fr_oat, hx]))
  obtain ⟨Z, M, LZ, LM, hnZ⟩ := Init0T.ofS_atoms (args := args) hpl L Ys (fun x hx => h x (by simp [fr_oat, hx]))
  obtain ⟨P1, Ps, hlen, L1, hL, hP1m, hlink1, hlink⟩ := Bundle.chainS (args := args) hpl hnZ names Y hY hnames (fun x hx => h x (by simp [fr_oat, hx]))
  obtain ⟨P, LP, hPm, hPs⟩ := PassC.ofS_atoms (args := args) (s := s) hpl (X := X) (Y := Y) (Bundle.fit_spec hX).1 (Bundle.fit_spec hY).2 k0 k1 k2 k5 (fun x hx => h x (by simp [fr_oat, hx]))
  have hPsup : P.sup = P1.m := Option.some.inj (hPs.symm.trans hP1m)
  have hfound : s.vm.findClass X = some P.m.cls := findClass_of_methodNamed hPm
  cases Option.some.inj (hfX.symm.trans hfound)
  obtain ⟨c1, kX', hc1, hk, hord, -, -, hn6⟩ := Cond.instantiable_spec (h (.instantiable X 6) (by simp [fr_oat]))
  cases Option.some.inj (hc1.symm.trans hfound)
  cases Option.some.inj (hkX.symm.trans hk)
  have hsel0 := fr_fill (pl := e.platform) (args := args) St.admits hfound (by decide) Ys.fill0 (h (.selects X Bundle.tFill0 Bundle.tFill0) (by simp [fr_oat]))
  have hselF := fr_fill (pl := e.platform) (args := args) St.admits hfound (by decide) Ys.fill (h (.selects X Bundle.tFill Bundle.tFill) (by simp [fr_oat]))
  obtain ⟨cellS, hcS, hiss⟩ := Ys.statics
  obtain ⟨u0, hu0⟩ := Cond.staticRefV Ys.unassigned L.unassignedStatic L.statics hcS hiss (h (.isRef (.static Bundle.tN "UNASSIGNED_STACK" Bundle.steD)) (by simp [fr_oat]))
  obtain ⟨sen, hsen⟩ := Cond.staticRefV Ys.sentinel L.sentinelStatic L.statics hcS hiss (h (.isRef (.static Bundle.tN "SUPPRESSED_SENTINEL" Bundle.listD)) (by simp [fr_oat]))
  obtain ⟨ci198, i198, fB, hk198, hg198, ha198, hsB, -, hnB, htB, hffB⟩ := Cond.ownField (t := .object "java/lang/Object") Ys.found L.cls (by decide +kernel) (h (.fieldLink Bundle.tN 198 Bundle.tN "backtrace" "Ljava/lang/Object;") (by simp [fr_oat])) (h (.lays Bundle.tN Bundle.tN "backtrace" "Ljava/lang/Object;") (by simp [fr_oat])) e.platform hpl
  have hcellS : T.heap[Tc.aS]? = some cellS := State.sameButNew.old_cell (s' := T.setVm s.vm) St.same hcS
  have hknownS : cellS.vm ≠ .unknown := by
    intro hu
    rw [hu] at hiss
    cases hiss
  have hneS : Tc.aS ≠ a := Nat.ne_of_lt (Nat.lt_of_lt_of_le (Array.getElem?_eq_some_iff.mp hcS).1 hnew)
  obtain ⟨iM, hffM⟩ := Ys.msg
  obtain ⟨tyC, dC, hdC, hdnC⟩ := Cond.laysAt hfound hk Ys.cause (h (.lays X Bundle.tN "cause" "Ljava/lang/Throwable;") (by simp [fr_oat]))
  obtain ⟨tyS, dS, hdS, hdnS⟩ := Cond.laysAt hfound hk Ys.stack (h (.lays X Bundle.tN "stackTrace" Bundle.steD) (by simp [fr_oat]))
  obtain ⟨tyP, dP, hdP, hdnP⟩ := Cond.laysAt hfound hk Ys.supp (h (.lays X Bundle.tN "suppressedExceptions" Bundle.listD) (by simp [fr_oat]))
  obtain ⟨tyM, -, -, -⟩ := Cond.laysAt hfound hk hffM (h (.lays X Bundle.tN "detailMessage" "Ljava/lang/String;") (by simp [fr_oat]))
  obtain ⟨tyB, dB, hdB, hdnB⟩ := Cond.laysAt hfound hk hffB (h (.lays X Bundle.tN "backtrace" "Ljava/lang/Object;") (by simp [fr_oat]))
  have bC := Cond.laysApart hdB hdC hdnB hdnC (by rw [hnB, Ys.causeName]; decide)
  have bS := Cond.laysApart hdB hdS hdnB hdnS (by rw [hnB, Ys.stackName]; decide)
  have bP := Cond.laysApart hdB hdP hdnB hdnP (by rw [hnB, Ys.suppName]; decide)
  have hskip : SkipFacts Tc e.platform s (fun u => u) u0 ((preparedCellV Tc.toThrowableT (freshCell P.m.cls kX) a u0 sen).withEntry T.cur) :=
    ⟨{ ci198 := ci198, i198 := i198, fBack := fB }, ⟨hk198, hg198, ha198, hsB⟩, by
      have := fresh_default (c := P.m.cls) tyB
      rw [htB] at this
      simpa [preparedCellV, Cell.setSlot, Cell.withEntry, Array.getElem?_setIfInBounds, bC, bS, bP, bC.symm, bS.symm, bP.symm, defaultValue] using this, fun _ _ => rfl⟩
  obtain ⟨tm, methC, cdC, kC, vm₁, hnC, -, -, -, -, -, -, -, hW₁, st1⟩ := Steps.initColdS (tb := p.tables) (e := e) (below := below) (s := s) (U := T) St.here hexec St.warmed hpl hown (t := Bundle.initS X) rfl rfl (Bundle.fit_spec hX).2
    (h (.methodLink own ic (Bundle.initS X)) (by simp [fr_oat])) (h (.instanceMethod (Bundle.initS X)) (by simp [fr_oat, Bundle.passSAtoms])) (bytes := b0) (maxL := 2) (h (.code (Bundle.initS X) b0 2 none) (by simp [fr_oat, Bundle.passSAtoms]))
    (f := g) hg (a := a) (msg := msg) (rest := .ref a :: rest) hstack d6
  cases Option.some.inj (hnC.symm.trans hPm)
  obtain ⟨vm₂, X₂, st2⟩ := (St.noted hW₁).ctorMessageOffV hexec (g := { g with stack := .ref a :: rest }) hg hsize Tc L Z LZ M LM (P :: P1 :: Ps)
    (fun Q hQ => by
      rcases List.mem_cons.mp hQ with rfl | hQ
      · exact LP
      · rcases List.mem_cons.mp hQ with rfl | hQ
        · exact L1
        · exact hL Q hQ) ⟨hPsup, hlink1, hlink⟩ (u0 := u0) (sen := sen) (self := a) hmsg (cell := freshCell P.m.cls kX) (cellS := cellS)
    hcell (fun _ => by simp) (by simp) rfl rfl hsel0 hselF hcellS hneS hknownS hu0 hsen
    (Takes.of_laid hk hord tyC (by rw [Ys.causeType]; rfl)) (Takes.of_laid hk hord tyS (by rw [Ys.stackType]; exact fits_refV_array _ u0)) (Takes.of_laid hk hord tyP (by rw [Ys.suppType]; exact fits_refV_object _ sen))
    (Takes.of_laid hk hord tyM (by rw [Ys.msgType]; exact fits_refV_object _ ⟨msg, hmsg⟩)) Ys.objLocals hskip htr [] d6
    (by simp only [List.length_cons, hlen]; omega) (by simp only [List.length_cons, hlen]; exact hf2)
  obtain ⟨hwalk, hrun, hended, hWU, hsame⟩ := X₂.athrowLeaves hexec (g := { g with stack := .ref a :: rest, pc := g.pc + 3 }) hg hlocked hentered hout (a := a) (rest := rest) rfl d9 hlocks
  have hlt : a < ((T.setVm vm₁).setVm vm₂).heap.size := (Array.getElem?_eq_some_iff.mp hcell).1
  have hU := heapAt_setCell_self (s := (T.setVm vm₁).setVm vm₂) (plainBareV Tc.toThrowableT (freshCell P.m.cls kX) a u0 sen msg) hlt
  refine ⟨_, st1 _ (fun acts => ?_), hrun, hended, hWU, hsame.weaken (fun y hy hlt' => ?_) (Nat.le_refl _) (Nat.le_refl _), _, hU, rfl, hfound⟩
  · rw [doInvoke_state]
    exact st2 _ hwalk
  · exfalso
    have hb : y.base = a := by
      simp only [List.nil_append, List.mem_cons, List.not_mem_nil, or_false] at hy
      rcases hy with rfl | rfl | rfl | rfl | rfl <;> rfl
    rw [hb] at hlt'
    exact Nat.not_lt.mpr hnew hlt'
end FRK
section FRX
variable {p : Program} {l : Launch} {e : Env} {R : Room} {s : State} {m : MethodId} {args : Array Value} {below : List Frame} {meth : Method} {c : Code} {H : Heap} {locs : List Loc} {cells slots : Nat} {Q : State → Prop}
variable {D : va_G} {cl : List vw_C} {tys : List (ClassId × FieldType)} {A : Nat → Prop} {nw tbl : List Cond}
/-- a method that returns (x = none) or throws an exception of class E (x = some E); in both cases the cells are w' -/
def fr_Ox (Qn : Array Value → State → Outcome → State → Prop) (D : va_G) (cl : List vw_C) (tys : List (ClassId × FieldType)) (x : Option String) (w : va_W) (mc ms : Nat) (A : Nat → Prop) (a : Array Value) (st : State) (o : Outcome) (t : State) : Prop :=
  (x = none ∧ Qn a st o t ∧ ∃ L, FrameEnd st o t L mc ms ∧ ∀ q ∈ L, A q.base) ∨
  (∃ (E : String) (q : Addr) (ce : Cell) (L : List Loc), x = some E ∧ o = .threw q ∧ t.heap[q]? = some ce ∧ ce.vm = .none ∧ st.vm.findClass E = some ce.cls ∧ st.WarmedH t.vm ∧ st.sameButNew ({ t with vm := st.vm } : State) L mc ms ∧ (∀ z ∈ L, A z.base) ∧ fr_End D cl tys w A () t ∧ va_F A st t)
def fr_Mx (Qn : Int32 → va_W → (Nat → Prop) → Array Value → State → Outcome → State → Prop) (l : Launch) (y : MethodName) (ws : List Cond) (rm : Room) (D : va_G) (cl : List vw_C) (tys : List (ClassId × FieldType)) (nw : List Cond) (As : List Value) (w : va_W) (x : Option String) (r : Int32) (w' : va_W) (mc ms : Nat) : Prop :=
  ∀ sz : Nat, MetFree l y (headSpec ws rm) (va_Pc As (fr_Pre D cl tys nw w sz)) (fun _ _ _ _ _ => True) (fr_Ox (Qn r w' (va_A w sz)) D cl tys x w' mc ms (va_A w sz))
def fr_XQ (below : List Frame) (Qn : Array Value → State → Outcome → State → Prop) (D : va_G) (cl : List vw_C) (tys : List (ClassId × FieldType)) (x : Option String) (w : va_W) (a : Array Value) (s : State) (mc ms : Nat) (A : Nat → Prop) : State → Prop := fun t =>
  ∃ o, t.status = .running ∧ Ended t below o ∧ fr_Ox Qn D cl tys x w mc ms A a s o t
/-- a returning road in a method that may throw -/
theorem fr_xret {Qn : Array Value → State → Outcome → State → Prop} {x : Option String} {w : va_W} {mc ms : Nat} {g : JFrame} (hx : x = none) (k : W p l e R s m args below meth c H locs cells slots (MQ below Qn args s mc ms A) g) : W p l e R s m args below meth c H locs cells slots (fr_XQ below Qn D cl tys x w args s mc ms A) g := by
  intro T hT X
  obtain ⟨t, h1, o, h2, h3, h4, h5⟩ := k T hT X
  exact ⟨t, h1, o, h2, h3, Or.inl ⟨hx, h4, h5⟩⟩
theorem fr_Mx.of {Qn : Int32 → va_W → (Nat → Prop) → Array Value → State → Outcome → State → Prop} {y : MethodName} {rm : Room} {As : List Value} {w : va_W} {x : Option String} {r : Int32} {w' : va_W} {mc ms : Nat} {cc : ByteArray} {maxL : Nat} {ret : Option FieldType} (hy : plainName y.cls = true) (hnL : (lg_sl As).length ≤ maxL)
    (body : ∀ (p : Program) (e : Env) (s : State) (m : MethodId) (below : List Frame) (meth : Method) (c : Code) (A : Nat → Prop) (H : Heap) (locs : List Loc) (ls : Array Slot), fr_Cx p s m As.toArray meth c y.cls cc maxL ret [] tbl nw D cl tys A → va_P D cl w H → va_D A w → va_S A s.heap H locs → lv_has ls maxL (lv_args 0 As) →
      W p l e rm s m As.toArray below meth c H locs 0 0 (fr_XQ below (Qn r w' A) D cl tys x w' As.toArray s mc ms A) (F0 m 0 ls [])) : fr_Mx Qn l y (.code y cc maxL ret :: tbl) rm D cl tys nw As w x r w' mc ms := by
  intro sz
  refine MetFree.of_bodyS (code := cc) (maxLocals := maxL) (ret := ret) hy ?_ ?_
  · intro args s m h hn
    obtain ⟨meth, c, h1, h2, h3, h4, h5, h6, -, -⟩ := Cond.code_spec hn (atoms_spec (ws := .code y cc maxL ret :: tbl) h _ List.mem_cons_self)
    exact ⟨meth, c, h1, h2, h3, h4, h5, h6⟩
  · intro p e s m args below meth c s₁ B hml hv _
    obtain ⟨rfl, hsz, hP, hK, hD0, hN, hZ⟩ := hv
    subst hsz
    have hts := atoms_spec (ws := .code y cc maxL ret :: tbl) B.pre
    have hh0 : s₁.heap = s.heap := by rw [B.state]; rfl
    have K := body p e s m below meth c (va_A w s.heap.size) s.heap [] _ ⟨B.exec, B.bytes, hml, findClass_of_methodNamed B.named, fun z hz => hts z (List.mem_cons_of_mem _ hz), hK, B.notSynchronized, B.returns, fun q h => Or.inr h, hN, hZ, fr_noHandlers (B.noHandlers (hts _ List.mem_cons_self))⟩ hP hD0.self va_S.rf (lv_entry As hnL)
    rw [← lg_entry_eq] at K
    obtain ⟨t, a1, o, b1, b2, b3⟩ := K s₁ hh0 (Stand.of_body B)
    exact ⟨t, o, a1, b1, b2, b3⟩
theorem fr_Mx_none {y : MethodName} {ws : List Cond} {rm : Room} {As : List Value} {w : va_W} {x : Option String} {r : Int32} {w' : va_W} {mc ms : Nat} (h : fr_Mx (fr_Qi D cl tys) l y ws rm D cl tys nw As w x r w' mc ms) (hx : x = none) : fr_Mi l y ws rm D cl tys nw As w r w' mc ms := by
  intro sz p e ha hc hk s m args below hf happ hP hK
  obtain ⟨n, o, h1, h2, h3, h4⟩ := h sz p e ha hc hk s m args below hf happ hP hK
  refine ⟨n, o, h1, h2, h3, ?_⟩
  rcases h4 with ⟨-, h4, h5⟩ | ⟨E, q, ce, L, hE, -⟩
  · exact ⟨h4, h5⟩
  · rw [hx] at hE; cases hE
theorem fr_Mx_nonev {y : MethodName} {ws : List Cond} {rm : Room} {As : List Value} {w : va_W} {x : Option String} {r : Int32} {w' : va_W} {mc ms : Nat} (h : fr_Mx (fun _ => fr_Qv D cl tys) l y ws rm D cl tys nw As w x r w' mc ms) (hx : x = none) : fr_Mv l y ws rm D cl tys nw As w w' mc ms := by
  intro sz p e ha hc hk s m args below hf happ hP hK
  obtain ⟨n, o, h1, h2, h3, h4⟩ := h sz p e ha hc hk s m args below hf happ hP hK
  refine ⟨n, o, h1, h2, h3, ?_⟩
  rcases h4 with ⟨-, h4, h5⟩ | ⟨E, q, ce, L, hE, -⟩
  · exact ⟨h4, h5⟩
  · rw [hx] at hE; cases hE
def fr_z4 : List Cond := [.laysStatic Bundle.tN "UNASSIGNED_STACK" Bundle.steD, .laysStatic Bundle.tN "SUPPRESSED_SENTINEL" Bundle.listD, .isRef (.static Bundle.tN "UNASSIGNED_STACK" Bundle.steD), .isRef (.static Bundle.tN "SUPPRESSED_SENTINEL" Bundle.listD)]
theorem fr_z4_at {A : Nat → Prop} {U : State} (h : fr_zz A U U.heap) : ∀ w ∈ fr_z4, w.before args U = true := by
  intro w hw
  simp only [fr_z4, List.mem_cons, List.not_mem_nil, or_false] at hw
  rcases hw with rfl | rfl | rfl | rfl
  · exact h.1.lays
  · exact h.2.lays
  · exact h.1.isRef
  · exact h.2.isRef
variable {cc : ByteArray} {nL pc : Nat} {ls : Array Slot} {st : List Value} {own : String} {ret : Option FieldType} {hh : List ExceptionTableEntry}
set_option maxHeartbeats 1000000 in
/-- throw new E("a written text"), from its 'new' to the method's end -/
theorem fr_throwS {E tx : String} {names : List String} {ik is ic sa : Nat} (C : fr_Cx p s m args meth c own cc nL ret [] tbl nw D cl tys A) (hsz : ls.size = nL) (hl : l.stackTraces = false) (hcls : Bundle.fit E = true) (hnames : ∀ n ∈ names, Bundle.fit n = true) (hS : va_S A s.heap H locs)
    (hcl : (Cond.classLink own ik E).before args s = true) (hins : (Cond.instantiable E 6).before args s = true) (hini : (Cond.initialized E).before args s = true)
    (hg0 : goodWord (.classLink own ik E) = true ∧ goodWord (.instantiable E 6) = true ∧ goodWord (.initialized E) = true)
    (hgt : ∀ w ∈ tbl, goodWord w = true) (hat : ∀ w ∈ Bundle.ownAtoms own ic E names, w ∈ tbl ∨ (w ∈ nw ∧ w.onTables = true) ∨ w ∈ fr_z4) (hR : vk_R own is tx sa s)
    (hf1 : names.length + 3 < R.frames) (hf2 : 1 + (st.map fun v => v.category).sum + (13 * (names.length + 1) + 42) ≤ R.locals) (hf3 : cells + 1 ≤ R.cells) (hf4 : slots + 6 ≤ R.slots)
    (d0 : decode cc pc = .ok (.new ik, 3)) (d3 : decode cc (pc + 3) = .ok (.dup, 1)) (d4 : decode cc (pc + 4) = .ok (.ldc is, 2)) (d6 : decode cc (pc + 6) = .ok (.invokespecial ic, 3)) (d9 : decode cc (pc + 9) = .ok (.athrow, 1))
    (hQ : ∀ (t : State) (q : Addr) (ce : Cell), t.status = .running → Ended t below (.threw q) → t.heap[q]? = some ce → ce.vm = .none → s.vm.findClass E = some ce.cls → s.WarmedH t.vm → s.sameButNew ({ t with vm := s.vm } : State) locs (cells + 1) (slots + 6) → (∀ (a : Addr) (cell : Cell), H[a]? = some cell → t.heap[a]? = some cell) → H.size ≤ t.heap.size → Q t) :
    W p l e R s m args below meth c H locs cells slots Q (F0 m pc ls st) := by
  obtain ⟨hx, hb, hml, hown, ht, hK, hlocks, hr, hA, hN, hZ, hT0⟩ := C
  intro T hT X
  have hout : ∀ x ∈ c.exceptionTable.toList, covers x (pc + 9) = false := by rw [hT0]; intro x hx; cases hx
  have htr : e.platform.stackTraces = false := by rw [X.admits.platform]; exact hl
  have X' := fr_rebase (R' := { frames := R.frames, cells := 1, slots := 6, locals := R.locals }) X (Nat.le_refl _) (Nat.le_refl _) hf3 hf4
  have hZ' : fr_zz A (T.setFrames (.invoking m args :: below)) T.heap := by
    rw [hT]
    exact ⟨(hZ.1.kept hS.2.1).moved X.warmed.alike, (hZ.2.kept hS.2.1).moved X.warmed.alike⟩
  have word : ∀ w : Cond, goodWord w = true → w.before args s = true → w.before args (T.setFrames (.invoking m args :: below)) = true := fun w hg hw => word_at (U := T.setFrames (.invoking m args :: below)) X.warmed (good_of_word hg) hw
  have hat' : ∀ w ∈ Bundle.ownAtoms own ic E names, w.before args (T.setFrames (.invoking m args :: below)) = true := by
    intro w hw
    rcases hat w hw with h1 | ⟨h1, h2⟩ | h1
    · exact word w (hgt w h1) (ht w h1)
    · exact va_Nw.use h2 (fr_nest_warm (hN w h1).1 (U := T.setFrames (.invoking m args :: below)) X.warmed (hN w h1).2)
    · exact fr_z4_at hZ' w h1
  have hown' : (T.setFrames (.invoking m args :: below)).vm.findClass own = some m.cls := by
    show T.vm.findClass own = some m.cls
    rw [X.warmed.alike.findClass]; exact hown
  have K : W p l e { frames := R.frames, cells := 1, slots := 6, locals := R.locals } (T.setFrames (.invoking m args :: below)) m args below meth c T.heap [] 0 0 Q (F0 m pc ls st) := by
    refine W.newc hx hb hown' (word _ hg0.1 hcl) (word _ hg0.2.1 hins) (word _ hg0.2.2 hini) rfl d0 (Nat.le_refl _) (Nat.le_refl _) (fun cC kC h1 h2 h3 h4 => ?_)
    refine W.eq (g2 := F0 m (pc + 3) ls (.ref T.heap.size :: st)) rfl ?_
    refine lv_dup hx hb d3 rfl ?_
    refine va_ldcS hx hb hown' (tx := tx) (q := sa) (vk_R.warm X.warmed hR) d4 ?_
    intro T2 hT2 X2
    obtain ⟨U, hst, hrun, hend, hW, hsame, ce, hce, hOwn⟩ := X2.ctorThrowS hx htr (own := own) (cls := E) (names := names) (ic := ic) hown' hcls hnames hat' (fun x hx => by cases hx) h1 h2 (a := T.heap.size) (by rw [hT2]; simp [freshCell]) (Nat.le_refl _) (msg := .ref sa) rfl
      (g := F0 m (pc + 6) ls (.ref sa :: .ref T.heap.size :: .ref T.heap.size :: st)) rfl (hsz.trans hml.symm) rfl rfl (rest := st) rfl (by rw [hb]; exact d6) (by rw [hb]; exact d9) hout hf1 (by simpa [Value.category, JFrame.monitorRoom] using hf2) hlocks
    have hsame' : T.sameButNew ({ U with vm := T.vm } : State) [] 1 6 := fr_sbn_base hsame
    refine ⟨U, hst, hQ U T.heap.size ce hrun hend hce hOwn.vm ?_ (State.WarmedH.trans X.warmed hW) ?_ ?_ ?_⟩
    · rw [← X.warmed.alike.findClass]; exact hOwn.cls
    · have h := X.same.trans (hsame'.setVm s.vm)
      rw [List.append_nil] at h
      exact h
    · intro a cell ha
      rw [← hT] at ha
      exact State.sameButNew.old_cell hsame' ha
    · rw [← hT]
      exact hsame'.2.1
  exact K T rfl X'
set_option maxHeartbeats 1000000 in
/-- the same, for an exception whose constructor's link is another entry -/
theorem fr_throwN {E Y tx : String} {names : List String} {ik is ic sa i0 : Nat} {b0 : ByteArray} (k0 : decode b0 0 = .ok (.aload_n 0, 1)) (k1 : decode b0 1 = .ok (.aload_n 1, 1)) (k2 : decode b0 2 = .ok (.invokespecial i0, 3)) (k5 : decode b0 5 = .ok (.return_, 1)) (hY : Bundle.fit Y = true) (C : fr_Cx p s m args meth c own cc nL ret [] tbl nw D cl tys A) (hsz : ls.size = nL) (hl : l.stackTraces = false) (hcls : Bundle.fit E = true) (hnames : ∀ n ∈ names, Bundle.fit n = true) (hS : va_S A s.heap H locs)
    (hcl : (Cond.classLink own ik E).before args s = true) (hins : (Cond.instantiable E 6).before args s = true) (hini : (Cond.initialized E).before args s = true)
    (hg0 : goodWord (.classLink own ik E) = true ∧ goodWord (.instantiable E 6) = true ∧ goodWord (.initialized E) = true)
    (hgt : ∀ w ∈ tbl, goodWord w = true) (hat : ∀ w ∈ fr_oat own ic E Y names i0 b0, w ∈ tbl ∨ (w ∈ nw ∧ w.onTables = true) ∨ w ∈ fr_z4) (hR : vk_R own is tx sa s)
    (hf1 : names.length + 4 < R.frames) (hf2 : 1 + (st.map fun v => v.category).sum + (13 * (names.length + 2) + 42) ≤ R.locals) (hf3 : cells + 1 ≤ R.cells) (hf4 : slots + 6 ≤ R.slots)
    (d0 : decode cc pc = .ok (.new ik, 3)) (d3 : decode cc (pc + 3) = .ok (.dup, 1)) (d4 : decode cc (pc + 4) = .ok (.ldc is, 2)) (d6 : decode cc (pc + 6) = .ok (.invokespecial ic, 3)) (d9 : decode cc (pc + 9) = .ok (.athrow, 1))
    (hQ : ∀ (t : State) (q : Addr) (ce : Cell), t.status = .running → Ended t below (.threw q) → t.heap[q]? = some ce → ce.vm = .none → s.vm.findClass E = some ce.cls → s.WarmedH t.vm → s.sameButNew ({ t with vm := s.vm } : State) locs (cells + 1) (slots + 6) → (∀ (a : Addr) (cell : Cell), H[a]? = some cell → t.heap[a]? = some cell) → H.size ≤ t.heap.size → Q t) :
    W p l e R s m args below meth c H locs cells slots Q (F0 m pc ls st) := by
  obtain ⟨hx, hb, hml, hown, ht, hK, hlocks, hr, hA, hN, hZ, hT0⟩ := C
  intro T hT X
  have hout : ∀ x ∈ c.exceptionTable.toList, covers x (pc + 9) = false := by rw [hT0]; intro x hx; cases hx
  have htr : e.platform.stackTraces = false := by rw [X.admits.platform]; exact hl
  have X' := fr_rebase (R' := { frames := R.frames, cells := 1, slots := 6, locals := R.locals }) X (Nat.le_refl _) (Nat.le_refl _) hf3 hf4
  have hZ' : fr_zz A (T.setFrames (.invoking m args :: below)) T.heap := by
    rw [hT]
    exact ⟨(hZ.1.kept hS.2.1).moved X.warmed.alike, (hZ.2.kept hS.2.1).moved X.warmed.alike⟩
  have word : ∀ w : Cond, goodWord w = true → w.before args s = true → w.before args (T.setFrames (.invoking m args :: below)) = true := fun w hg hw => word_at (U := T.setFrames (.invoking m args :: below)) X.warmed (good_of_word hg) hw
  have hat' : ∀ w ∈ fr_oat own ic E Y names i0 b0, w.before args (T.setFrames (.invoking m args :: below)) = true := by
    intro w hw
    rcases hat w hw with h1 | ⟨h1, h2⟩ | h1
    · exact word w (hgt w h1) (ht w h1)
    · exact va_Nw.use h2 (fr_nest_warm (hN w h1).1 (U := T.setFrames (.invoking m args :: below)) X.warmed (hN w h1).2)
    · exact fr_z4_at hZ' w h1
  have hown' : (T.setFrames (.invoking m args :: below)).vm.findClass own = some m.cls := by
    show T.vm.findClass own = some m.cls
    rw [X.warmed.alike.findClass]; exact hown
  have K : W p l e { frames := R.frames, cells := 1, slots := 6, locals := R.locals } (T.setFrames (.invoking m args :: below)) m args below meth c T.heap [] 0 0 Q (F0 m pc ls st) := by
    refine W.newc hx hb hown' (word _ hg0.1 hcl) (word _ hg0.2.1 hins) (word _ hg0.2.2 hini) rfl d0 (Nat.le_refl _) (Nat.le_refl _) (fun cC kC h1 h2 h3 h4 => ?_)
    refine W.eq (g2 := F0 m (pc + 3) ls (.ref T.heap.size :: st)) rfl ?_
    refine lv_dup hx hb d3 rfl ?_
    refine va_ldcS hx hb hown' (tx := tx) (q := sa) (vk_R.warm X.warmed hR) d4 ?_
    intro T2 hT2 X2
    obtain ⟨U, hst, hrun, hend, hW, hsame, ce, hce, hcv, hcc⟩ := fr_ctor13 X2 hx htr hown' hcls hY hnames k0 k1 k2 k5 hat' h1 h2 (a := T.heap.size) (by rw [hT2]; simp [freshCell]) (Nat.le_refl _) (msg := .ref sa) rfl
      (g := F0 m (pc + 6) ls (.ref sa :: .ref T.heap.size :: .ref T.heap.size :: st)) rfl (hsz.trans hml.symm) rfl rfl (rest := st) rfl (by rw [hb]; exact d6) (by rw [hb]; exact d9) hout hf1 (by simpa [Value.category, JFrame.monitorRoom] using hf2) hlocks
    have hsame' : T.sameButNew ({ U with vm := T.vm } : State) [] 1 6 := fr_sbn_base hsame
    refine ⟨U, hst, hQ U T.heap.size ce hrun hend hce hcv ?_ (State.WarmedH.trans X.warmed hW) ?_ ?_ ?_⟩
    · rw [← X.warmed.alike.findClass]; exact hcc
    · have h := X.same.trans (hsame'.setVm s.vm)
      rw [List.append_nil] at h
      exact h
    · intro a cell ha
      rw [← hT] at ha
      exact State.sameButNew.old_cell hsame' ha
    · rw [← hT]
      exact hsame'.2.1
  exact K T rfl X'
/-- the end of such a road, as a contract has it -/
theorem fr_xthrow {Qn : Array Value → State → Outcome → State → Prop} {E : String} {x : Option String} {w : va_W} {mc ms : Nat} (hx : x = some E) (hK : va_K D cl tys s) (hP : va_P D cl w H) (hD : va_D A w) (hS : va_S A s.heap H locs) (hc : mc = cells + 1) (hs : ms = slots + 6) :
    ∀ (t : State) (q : Addr) (ce : Cell), t.status = .running → Ended t below (.threw q) → t.heap[q]? = some ce → ce.vm = .none → s.vm.findClass E = some ce.cls → s.WarmedH t.vm → s.sameButNew ({ t with vm := s.vm } : State) locs (cells + 1) (slots + 6) → (∀ (a : Addr) (cell : Cell), H[a]? = some cell → t.heap[a]? = some cell) → H.size ≤ t.heap.size → fr_XQ below Qn D cl tys x w args s mc ms A t := by
  subst hc; subst hs
  intro t q ce h1 h2 h3 h4 h5 h6 h7 h8 h9
  have hk : ∀ a : Nat, a < H.size → t.heap[a]? = H[a]? := fun a ha => by
    have e1 : H[a]? = some (H[a]) := Array.getElem?_eq_getElem ha
    rw [e1]; exact h8 a _ e1
  refine ⟨.threw q, h1, h2, Or.inr ⟨E, q, ce, locs, hx, rfl, h3, h4, h5, h6, h7, hS.2.2, ⟨?_, va_K.moved h6.alike hK, hD⟩, ?_⟩⟩
  · exact hP.kept (fun k z hz => hk z.1 (hP k z hz).lt)
  · exact ⟨Nat.le_trans hS.1 h9, fun a h10 h11 => by rw [hk a (Nat.lt_of_lt_of_le h10 hS.1)]; exact hS.2.1 a h10 h11⟩
end FRX
