/-! CATCHES: methods with an exception table; a call that throws, and the handler that takes it. -/
section FRC
variable {p : Program} {l : Launch} {e : Env} {R : Room} {s : State} {m : MethodId} {args : Array Value} {below : List Frame} {meth : Method} {c : Code} {H : Heap} {locs : List Loc} {cells slots : Nat} {Q : State → Prop}
variable {D : va_G} {cl : List vw_C} {tys : List (ClassId × FieldType)} {A : Nat → Prop} {nw tbl : List Cond}
theorem fr_Mi.ofW {y : MethodName} {rm : Room} {As : List Value} {w : va_W} {r : Int32} {w' : va_W} {mc ms : Nat} {cc : ByteArray} {maxL : Nat} {ret : Option FieldType} {hq : List (Nat × Nat × Nat × Nat)} (hy : plainName y.cls = true) (hnL : (lg_sl As).length ≤ maxL)
    (body : ∀ (p : Program) (e : Env) (s : State) (m : MethodId) (below : List Frame) (meth : Method) (c : Code) (A : Nat → Prop) (H : Heap) (locs : List Loc) (ls : Array Slot), fr_Cx p s m As.toArray meth c y.cls cc maxL ret (tableOf hq) tbl nw D cl tys A → va_P D cl w H → va_D A w → va_S A s.heap H locs → lv_has ls maxL (lv_args 0 As) →
      W p l e rm s m As.toArray below meth c H locs 0 0 (MQ below (fr_Qi D cl tys r w' A) As.toArray s mc ms A) (F0 m 0 ls [])) : fr_Mi l y (.codeWith y cc maxL ret hq :: tbl) rm D cl tys nw As w r w' mc ms := by
  intro sz
  refine va_MetW (cc := cc) (maxL := maxL) (ret := ret) (hh := hq) hy rfl ?_
  intro p e s m args below meth c s₁ B hml hv
  obtain ⟨rfl, hsz, hP, hK, hD0, hN, hZ⟩ := hv
  subst hsz
  have hts := atoms_spec (ws := .codeWith y cc maxL ret hq :: tbl) B.pre
  have htab : c.exceptionTable.toList = tableOf hq := by
    obtain ⟨m', meth', c', hn', hm', hc', -, -, ht', -⟩ := Cond.codeWith_spec (hts _ List.mem_cons_self)
    cases B.named.symm.trans hn'
    cases B.method.symm.trans hm'
    cases (Stand.of_body B).code.symm.trans hc'
    rw [← ht', table_eq]
  rw [lg_entry_eq]
  exact body p e s m below meth c (va_A w s.heap.size) s.heap [] _ ⟨B.exec, B.bytes, hml, findClass_of_methodNamed B.named, fun z hz => hts z (List.mem_cons_of_mem _ hz), hK, B.notSynchronized, B.returns, fun q h => Or.inr h, hN, hZ, htab⟩ hP hD0.self va_S.rf (lv_entry As hnL)
variable {own : String} {cc : ByteArray} {nL pc : Nat} {ret : Option FieldType} {hh : List ExceptionTableEntry} {ls : Array Slot} {w w' : va_W} {st0 rest : List Value}
variable {y : MethodName} {bytes : ByteArray} {maxL n index mc ms : Nat} {rty : Option FieldType} {ws : List Cond} {rm : Room} {C0 : String} {b : Addr} {As : List Value} {r : Int32}
set_option maxHeartbeats 1000000 in
/-- x.m(..) throws an exception of class E: the walk goes on at the handler -/
theorem fr_tcallV {Qn : Int32 → va_W → (Nat → Prop) → Array Value → State → Outcome → State → Prop} {E name : String} {x : Option String} (pre : List ExceptionTableEntry) (xr : ExceptionTableEntry) (suf : List ExceptionTableEntry) (C : fr_Cx p s m args meth c own cc nL ret hh tbl nw D cl tys A) (hP : va_P D cl w H) (hD : va_D A w) (hS : va_S A s.heap H locs) (hM : fr_Mx Qn l y ws rm D cl tys nw (.ref b :: As) w x r w' mc ms) (hxE : x = some E) (cw : CallW R s args own C0 index y bytes maxL rty ws rm mc ms n)
    (hrecv : ∃ cellB : Cell, H[b]? = some cellB ∧ cellB.vm.isStatics = false ∧ s.vm.findClass C0 = some cellB.cls) (hn : As.length = n) (hsz : ls.size = nL) (hW : (rest.map fun v => v.category).sum ≤ 8) (hdg : decode cc pc = .ok (.invokevirtual index, 3)) (hf : cells + mc ≤ R.cells ∧ slots + ms ≤ R.slots)
    (hsplit : hh = pre ++ xr :: suf) (hpass : ∀ z ∈ pre, covers z pc = false ∨ (z.catchType ≠ 0 ∧ ∃ nm : String, (Cond.classLink own z.catchType nm).before args s = true ∧ va_Nc E nm s)) (hcov : covers xr pc = true) (h0 : xr.catchType ≠ 0)
    (hlink : (Cond.classLink own xr.catchType name).before args s = true) (hcast : (Cond.castable E name).before args s = true)
    (kk : ∀ (q : Addr) (H : Heap) (locs : List Loc), va_P D cl w' H → va_D A w' → va_S A s.heap H locs → W p l e R s m args below meth c H locs (cells + mc) (slots + ms) Q (F0 m xr.handlerPc ls [.ref q])) : W p l e R s m args below meth c H locs cells slots Q (F0 m pc ls (As.reverse ++ .ref b :: rest)) := by
  have hFc := fr_free C.2.2.2.2.2.2.2.2.1 hD hS
  have hpre := fr_pre (As := .ref b :: As) C hP hD hS
  obtain ⟨hx, hb, hml, hown, ht, hK, hlocks, hr, hA, hN, hZ, hEx⟩ := C
  obtain ⟨⟨hrc, hrs, hfr, hlo, hws, hcw, hcode, hini, hy, hlen, hl⟩, hinst, hsel⟩ := cw
  obtain ⟨cellB, hcB, hoB, hclB⟩ := hrecv
  intro T hT X
  obtain ⟨mk, methM, hnamed, hmethM, hstM, habM⟩ := Cond.instanceMethod_spec hinst
  obtain ⟨methM', cM, hmethM', -, -, -, -, -, -, hsigM⟩ := Cond.code_spec hnamed hcode
  cases hmethM.symm.trans hmethM'
  obtain ⟨c2, r2, m2, q1, q2, q3, q4, kP, hkP, hkPi⟩ := Cond.selects_spec hsel
  cases hclB.symm.trans q1
  cases (State.methodFound?_of_named hnamed hy).symm.trans q2
  cases hnamed.symm.trans q3
  have hselP : selectMethod e.platform s.vm cellB.cls mk = .method mk := by rw [Launch.admits_selectMethod X.admits]; exact q4
  obtain ⟨vm₁, X₁, hstep₁⟩ := X.invokevirtual hx hown hl hnamed hmethM hstM hkP hkPi hy (a := b) (cell := cellB) (by rw [hT]; exact hcB)
    (fun z h => by rw [h] at hoB; cases hoB) hselP hmethM habM hkP hkPi (g := F0 m pc ls (As.reverse ++ .ref b :: rest)) rfl (argsL := As) (rest := rest) (hn.trans (hlen _ hsigM)) rfl (by rw [hb]; exact hdg)
  have hdg' : decode c.code (F0 m pc ls rest).pc = .ok (.invokevirtual index, 3) := by rw [hb]; exact hdg
  have hnU : (T.setVm vm₁).methodNamed? y = some mk := X₁.named hnamed
  have p2 : (Cond.code y bytes maxL rty).before (Value.ref b :: As).toArray (T.setVm vm₁) = true := hws _ hcw _ _ X₁.warmed
  obtain ⟨methY, cY, hmY, hcY, -, hlY, -, -, -, -⟩ := Cond.code_spec hnU p2
  obtain ⟨kY, hkY, -⟩ := className_of_methodNamed hnU
  have hinitY : kY.init = .initialized := Cond.initialized_spec (findClass_of_methodNamed hnU) hkY (word_at (a' := (Value.ref b :: As).toArray) X₁.warmed (Or.inl (by first | rfl | simp [Cond.onTables, Cond.keeps, Cond.steady])) hini)
  have h : At (T.setVm vm₁) m c below := X₁.here
  have hW9 : 2 * (F0 m pc ls rest).monitorRoom + ((F0 m pc ls rest).stack.map fun v => v.category).sum ≤ 8 := lv_room hW
  have happ : (headSpec ws rm).appliesLoose y e.platform ((T.setVm vm₁).calling (F0 m pc ls rest) mk (Value.ref b :: As).toArray) = true :=
    Spec.appliesLoose_calling (g := F0 m pc ls rest) h hdg' hnU hkY hinitY
      (X₁.room_calling (g := F0 m pc ls rest) (R' := (headSpec ws rm).room) (hsz.trans hml.symm) hmY hcY hfr (by rw [hlY]; show _ + rm.locals ≤ _; omega) (by show cells + rm.cells ≤ _; omega) (by show slots + rm.slots ≤ _; omega)) (atoms_intro fun z hz => hws z hz _ _ X₁.warmed)
  obtain ⟨mid, hmid⟩ := h.above
  have hfrm : ((T.setVm vm₁).setTop (F0 m pc ls rest)).frames = (.java (F0 m pc ls rest) :: mid) ++ below := by rw [State.frames_setTop' (F0 m pc ls rest) h.top, hmid]; rfl
  obtain ⟨o, s₂, hsteps, -, hend, hq⟩ := Steps.callFree (hM H.size) p X.admits X.cas X.clock (acts := []) hfrm happ (fr_blind _ _ (F0 m pc ls rest) mk (hpre (T.setVm vm₁) hT X₁.warmed)) trivial
  rw [State.frames_setTop' (F0 m pc ls rest) h.top] at hend
  rcases hq with ⟨hq, -⟩ | ⟨E', q, ce, L, hE, rfl, hce, hcv, hcl, hW₂, hsm, hL, ⟨hP1, hK1, hD1⟩, hF⟩
  · rw [hxE] at hq; cases hq
  · rw [hxE] at hE
    cases hE
    have hsm : ((T.setVm vm₁).calling (F0 m pc ls rest) mk (Value.ref b :: As).toArray).sameButNew ({ s₂ with vm := ((T.setVm vm₁).calling (F0 m pc ls rest) mk (Value.ref b :: As).toArray).vm } : State) L mc ms := hsm
    obtain ⟨e2, r2, r3, r4, r5, r6⟩ := hsm
    have e3 : s₂ = ({ ((T.setVm vm₁).calling (F0 m pc ls rest) mk (Value.ref b :: As).toArray).setFrames s₂.frames with heap := s₂.heap, slotsUsed := s₂.slotsUsed } : State).setVm s₂.vm := by
      have : s₂ = ({ s₂ with vm := ((T.setVm vm₁).calling (F0 m pc ls rest) mk (Value.ref b :: As).toArray).vm } : State).setVm s₂.vm := rfl
      rw [e2] at this
      exact this
    have hf₂ : s₂.frames = .throwing q :: .java (F0 m pc ls rest) :: (T.setVm vm₁).frames.tail := hend
    have hW' : (T.setVm vm₁).WarmedH s₂.vm := hW₂
    obtain ⟨g₀, hg0⟩ := Option.isSome_iff_exists.mp h.top
    obtain ⟨rr, hrr⟩ := State.topJava?_eq_some.mp hg0
    have hs₂ : s₂ = ((({ T.setVm vm₁ with heap := s₂.heap, slotsUsed := s₂.slotsUsed } : State).setVm s₂.vm).setTop (F0 m pc ls rest)).pushFrame (.throwing q) := by
      have hr' : (({ T.setVm vm₁ with heap := s₂.heap, slotsUsed := s₂.slotsUsed } : State).setVm s₂.vm).frames = .java g₀ :: rr := hrr
      have hcur' : (({ T.setVm vm₁ with heap := s₂.heap, slotsUsed := s₂.slotsUsed } : State).setVm s₂.vm).cur < (({ T.setVm vm₁ with heap := s₂.heap, slotsUsed := s₂.slotsUsed } : State).setVm s₂.vm).threads.size := State.cur_lt_of_frames hr'
      refine e3.trans ?_
      rw [hf₂, State.calling_eq h.top, State.setFrames_setFrames, State.setTop_of_frames _ hr', State.pushFrame, State.frames_setFrames _ hcur', State.setFrames_setFrames, hrr]
      rfl
    have hsame : (T.setVm vm₁).sameButNew ({ T.setVm vm₁ with heap := s₂.heap, slotsUsed := s₂.slotsUsed } : State) L mc ms := by
      refine ⟨?_, r2, r3, r4, r5, r6⟩
      obtain ⟨t, ht9, -⟩ := State.frames_cons hrr
      show ({ T.setVm vm₁ with heap := s₂.heap, slotsUsed := s₂.slotsUsed } : State) = { (T.setVm vm₁).setFrames (T.setVm vm₁).frames with heap := s₂.heap, slotsUsed := s₂.slotsUsed }
      rw [State.setFrames_self ht9]
    have X' : Stand p l e R s m args below meth c (({ T.setVm vm₁ with heap := s₂.heap, slotsUsed := s₂.slotsUsed } : State).setVm s₂.vm) (locs ++ L) (cells + mc) (slots + ms) :=
      ⟨X₁.admits, X₁.cas, X₁.clock, X₁.frames, X₁.room, X₁.hears, X₁.method, X₁.code, (X₁.here.setHeapUsed s₂.heap s₂.slotsUsed).setVm hW'.alike, X₁.tail, State.WarmedH.trans X₁.warmed hW', X₁.limits, X₁.bytes, X₁.same.trans (hsame.setVm s.vm)⟩
    have hkept : ∀ a : Nat, a < H.size → ¬ va_A w H.size a → s₂.heap[a]? = H[a]? := fun a h1 h2 => by
      have := hF.2 a (by show a < T.heap.size; rw [hT]; exact h1) h2
      rw [this]; show T.heap[a]? = _; rw [hT]
    have hsz2 : H.size ≤ s₂.heap.size := by
      have := hF.1
      rw [← hT]; exact this
    have hS2 : va_S A s.heap s₂.heap (locs ++ L) := ⟨Nat.le_trans hS.1 hsz2, fun a h1 h2 => by
        rw [hkept a (Nat.lt_of_lt_of_le h1 hS.1) (fun z => h2 (hFc a z))]; exact hS.2.1 a h1 h2, fun z hz => by
        rcases List.mem_append.mp hz with h | h
        · exact hS.2.2 z h
        · exact hFc _ (hL z h)⟩
    have hpl : e.platform.magicAccessors = ({} : Platform).magicAccessors := by rw [X.admits.platform]
    have hcls : s.vm.findClass E = some ce.cls := by
      have h9 : (T.setVm vm₁).vm.findClass E = some ce.cls := hcl
      rw [← X₁.warmed.alike.findClass]; exact h9
    obtain ⟨c3, c4, hc3, hc4, hasg⟩ := Cond.castable_spec hcast
    cases Option.some.inj (hc3.symm.trans hcls)
    obtain ⟨c5, hc5, hcl5⟩ := Cond.classLink_spec hown hlink e.platform hpl
    cases Option.some.inj (hc4.symm.trans hc5)
    obtain ⟨vm', X2, st⟩ := X'.thenCaughtThrough q (g := F0 m pc ls rest) rfl (Steps.refl _) (cell := ce) hce (by rw [hcv]; rfl) (by obtain ⟨k9, h9, -⟩ := Vm.findClass_spec hcls; exact ⟨k9, h9⟩) pre xr suf (hEx.trans hsplit)
      (fun z hz => by
        rcases hpass z hz with h | ⟨hz0, nm, hl1, hn1⟩
        · exact Or.inl h
        · obtain ⟨c6, hc6, hcl6⟩ := Cond.classLink_spec hown hl1 e.platform hpl
          obtain ⟨a8, b8, h1, h2, h3⟩ := hn1
          cases Option.some.inj (h1.symm.trans hcls)
          cases Option.some.inj (h2.symm.trans hc6)
          exact Or.inr ⟨hz0, _, hcl6, h3⟩) hcov (Or.inr ⟨h0, c4, hcl5, hasg⟩)
    obtain ⟨t2, a1, b1⟩ := kk q s₂.heap (locs ++ L) hP1 (hD1.weaken (fun _ _ _ h => hFc _ h)) hS2 ((({ T.setVm vm₁ with heap := s₂.heap, slotsUsed := s₂.slotsUsed } : State).setVm s₂.vm).setVm vm') rfl X2
    refine ⟨t2, hstep₁ _ (fun acts => ?_), b1⟩
    rw [doInvoke_state]
    refine hsteps.trans ?_
    rw [hs₂]
    exact st.trans a1
end FRC
