/-! THE LAW's OWN BASE: worlds in another order; a static call of a method with an exception table (the rows vx_ are the kit's own text, pasted); what the two sides' agreement gives a call. -/
theorem fr_nd1 {w : va_W} (h : ∀ (i j : Nat) (p q : Nat × va_E), w[i]? = some p → w[j]? = some q → p.1 = q.1 → i = j) : (w.map Prod.fst).Nodup := by
  rw [List.Nodup, List.pairwise_iff_getElem]
  intro i j hi hj hij heq
  rw [List.length_map] at hi hj
  rw [List.getElem_map, List.getElem_map] at heq
  have := h i j _ _ (List.getElem?_eq_getElem hi) (List.getElem?_eq_getElem hj) heq
  omega
theorem fr_nd2 {w : va_W} (h : (w.map Prod.fst).Nodup) : ∀ (i j : Nat) (p q : Nat × va_E), w[i]? = some p → w[j]? = some q → p.1 = q.1 → i = j := by
  rw [List.Nodup, List.pairwise_iff_getElem] at h
  intro i j p q hp hq e
  obtain ⟨hi, hp⟩ := List.getElem?_eq_some_iff.mp hp
  obtain ⟨hj, hq⟩ := List.getElem?_eq_some_iff.mp hq
  rcases Nat.lt_trichotomy i j with hij | hij | hij
  · exact absurd (by rw [List.getElem_map, List.getElem_map, hp, hq]; exact e) (h i j (by simpa using hi) (by simpa using hj) hij)
  · exact hij
  · exact absurd (by rw [List.getElem_map, List.getElem_map, hp, hq]; exact e.symm) (h j i (by simpa using hj) (by simpa using hi) hij)
theorem fr_permP {D : va_G} {cl : List vw_C} {w w' : va_W} {H : Heap} (h : w.Perm w') (hP : va_P D cl w H) : va_P D cl w' H := by
  intro k q hk
  obtain ⟨j, hj⟩ := List.mem_iff_getElem?.mp (h.mem_iff.mpr (List.mem_of_getElem? hk))
  exact hP j q hj
theorem fr_permD {A : Nat → Prop} {w w' : va_W} (h : w.Perm w') (hD : va_D A w) : va_D A w' := by
  refine ⟨fr_nd2 ((h.map Prod.fst).nodup_iff.mp (fr_nd1 hD.1)), fun k q hk => ?_⟩
  obtain ⟨j, hj⟩ := List.mem_iff_getElem?.mp (h.mem_iff.mpr (List.mem_of_getElem? hk))
  exact hD.2 j q hj
theorem fr_cw_app {ka : Nat → ClassId} {al : Nat → Nat} {f : Nat → Nat → Int32} {Z : va_W} : fr_cw ka al f Z = fr_cw ka al f [] ++ Z := by
  simp [fr_cw]
theorem fr_mw_app {ka : Nat → ClassId} {al : Nat → Nat} {f : Nat → Nat → Int32} {Z : va_W} : fr_mw ka al f Z = fr_mw ka al f [] ++ Z := by
  simp [fr_mw]
theorem lw_perm {ka : Nat → ClassId} {al be : Nat → Nat} {f g : Nat → Nat → Int32} {Z : va_W} : (fr_cw ka al f (fr_mw ka be g Z)).Perm (fr_mw ka be g (fr_cw ka al f Z)) := by
  rw [fr_cw_app, fr_mw_app, fr_mw_app (Z := fr_cw ka al f Z), fr_cw_app (Z := Z), ← List.append_assoc, ← List.append_assoc]
  exact List.perm_append_comm.append_right Z
section VXS
variable {p : Program} {l : Launch} {e : Env} {R : Room} {s : State} {m : MethodId} {args : Array Value} {below : List Frame} {meth : Method} {c : Code} {T : State} {H : Heap} {locs : List Loc} {cells slots : Nat}
abbrev vx_CSW (R : Room) (s : State) (args : Array Value) (own : String) (index : Nat) (y : MethodName) (bytes : ByteArray) (maxL : Nat) (ret : Option FieldType) (hh : List (Nat × Nat × Nat × Nat)) (ws : List Cond) (rm : Room) (mc ms n : Nat) : Prop :=
  (rm.cells = mc ∧ rm.slots = ms ∧ rm.frames + 1 ≤ R.frames ∧ 8 + (maxL + 11) + rm.locals ≤ R.locals ∧ (∀ w ∈ ws, ∀ (a' : Array Value) (U : State), s.WarmedH U.vm → w.before a' U = true) ∧ Cond.codeWith y bytes maxL ret hh ∈ ws) ∧
  (Cond.codeWith y bytes maxL ret hh).before args s = true ∧ (Cond.initialized y.cls).before args s = true ∧ (y.cls ≠ "java/lang/invoke/MethodHandle" ∧ y.cls ≠ "java/lang/invoke/VarHandle") ∧
  (∀ sig, parseMethodDescriptor y.desc = some sig → n = sig.parameters.length) ∧ (Cond.methodLink own index y).before args s = true ∧ (Cond.static y).before args s = true
theorem vx_cwSW {own : String} {index maxL mc ms : Nat} {y : MethodName} {bytes : ByteArray} {ret : Option FieldType} {hh : List (Nat × Nat × Nat × Nat)} {Ts ws ws' : List Cond} {rm : Room} (n : Nat) (ht : ∀ w ∈ Ts, w.before args s = true) (hT : GoodIn Ts (va_wsS own index y ws)) (hw : ws = Cond.codeWith y bytes maxL ret hh :: ws') (hrc : rm.cells = mc) (hrs : rm.slots = ms)
    (hd : y.cls ≠ "java/lang/invoke/MethodHandle" ∧ y.cls ≠ "java/lang/invoke/VarHandle" ∧ (parseMethodDescriptor y.desc).map (fun d => d.parameters.length) = some n) (hR : rm.frames + 1 ≤ R.frames ∧ 8 + (maxL + 11) + rm.locals ≤ R.locals) :
    vx_CSW R s args own index y bytes maxL ret hh ws rm mc ms n := by
  have ok : ∀ w ∈ va_wsS own index y ws, w.before args s = true := fun w h => ht w (hT w h).1
  have hG : GoodIn Ts ws := fun w h => hT w (by unfold va_wsS; exact List.mem_append_right _ h)
  have hc : Cond.codeWith y bytes maxL ret hh ∈ ws := by rw [hw]; exact List.mem_cons_self
  refine ⟨⟨hrc, hrs, hR.1, hR.2, pay_in ht hG, hc⟩, ht _ (hG _ hc).1, ok _ (by simp [va_wsS]), ⟨hd.1, hd.2.1⟩, fun sig h => ?_, ok _ (by simp [va_wsS]), ok _ (by simp [va_wsS])⟩
  have h2 := hd.2.2
  rw [h] at h2
  exact (Option.some.inj h2).symm
theorem vx_callSW (X : Stand p l e R s m args below meth c T locs cells slots) (hexec : p.tables.exec = Jvm.exec) {own : String} {index : Nat} {y : MethodName} {bytes : ByteArray} {maxL : Nat} {ret : Option FieldType} {hh : List (Nat × Nat × Nat × Nat)}
    (hown : s.vm.findClass own = some m.cls) (hlink : (Cond.methodLink own index y).before args s = true) (hstat : (Cond.static y).before args s = true) (hinit : (Cond.initialized y.cls).before args s = true)
    (hcode : (Cond.codeWith y bytes maxL ret hh).before args s = true) (hy : y.cls ≠ "java/lang/invoke/MethodHandle" ∧ y.cls ≠ "java/lang/invoke/VarHandle")
    {W9 : Nat} {Pre : Pt → Array Value → Prop} {Post : Pt → Array Value → Option Value → Pt → Prop} (hK : Back l R p e below s args y 3 W9 Pre Post)
    {g : JFrame} (hg : g.method = m) (hsize : g.locals.size = c.maxLocals) {argsL rest : List Value} (hlen : ∀ sig, parseMethodDescriptor y.desc = some sig → argsL.length = sig.parameters.length)
    (hstack : g.stack = argsL.reverse ++ rest) (hW : 2 * g.monitorRoom + (rest.map fun v => v.category).sum ≤ W9) (hdg : decode c.code g.pc = .ok (.invokestatic index, 3))
    (hpre : ∀ vm₁, s.WarmedH vm₁ → Pre ⟨T.setVm vm₁, locs, cells, slots⟩ argsL.toArray) :
    ∃ (v : Option Value) (vm₁ : Vm) (B : Pt), s.WarmedH vm₁ ∧ Stand p l e R s m args below meth c B.U B.locs B.cells B.slots ∧ Post ⟨T.setVm vm₁, locs, cells, slots⟩ argsL.toArray v B ∧
      ∀ target, Steps p.tables e below (B.U.setTop { g with pc := g.pc + 3, stack := v.toList ++ rest }) target → Steps p.tables e below (T.setTop g) target := by
  obtain ⟨mk, methM, cM, hnamed, hmethM, -, -, -, -, -, -, hsigM⟩ := Cond.codeWith_spec hcode
  have hstatic : methM.isStatic = true := Cond.static_spec hnamed hmethM hstat
  obtain ⟨kP, hkP, -⟩ := className_of_methodNamed hnamed
  have hinitP : kP.init = .initialized := Cond.initialized_spec (findClass_of_methodNamed hnamed) hkP hinit
  obtain ⟨vm₁, X₁, hstep₁⟩ := X.invokestatic hexec hown hlink hnamed hmethM hstatic hkP hinitP hy (g := g) hg (argsL := argsL) (rest := rest) (hlen _ hsigM) hstack hdg
  obtain ⟨v, B, X', hpost, hsteps⟩ := hK m meth c ⟨T.setVm vm₁, locs, cells, slots⟩ { g with stack := rest } (.invokestatic index) mk argsL.toArray X₁ hg hsize hdg hW (X₁.named hnamed) (hpre vm₁ X₁.warmed)
  exact ⟨v, vm₁, B, X₁.warmed, X', hpost, fun target h => hstep₁ _ fun acts => by rw [doInvoke_state]; exact hsteps.trans h⟩
theorem vx_runSW {y : MethodName} {bytes cc : ByteArray} {maxL nL mc ms n index : Nat} {ret : Option FieldType} {hh : List (Nat × Nat × Nat × Nat)} {ws : List Cond} {rm : Room} {Pc : Array Value → State → Prop} {Qc : Array Value → State → Outcome → State → Prop} {free : Addr → Prop} {Ts : List Cond} {own : String} {As rest : List Value} {g : JFrame}
    (S : CallFix p m c cc nL s args Ts own) (hM : Met l y ws rm Pc Qc mc ms free) (cw : vx_CSW R s args own index y bytes maxL ret hh ws rm mc ms n) (hp : PreS s H Pc As)
    (hg : g.method = m) (hn : As.length = n) (hsize : g.locals.size = nL) (hstack : g.stack = As.reverse ++ rest) (hW : 2 * g.monitorRoom + (rest.map fun v => v.category).sum ≤ 8) (hdg : decode cc g.pc = .ok (.invokestatic index, 3)) (hf : cells + mc ≤ R.cells ∧ slots + ms ≤ R.slots) :
    va_Run p l e R s m args below meth c H locs cells slots mc ms g rest (Qc As.toArray) (free) := by
  obtain ⟨⟨hrc, hrs, hfr, hlo, hws, hcw⟩, hcode, hini, hy, hlen, hl, hstt⟩ := cw
  have hK : Back l R p e below s args y 3 8 (PreOf R mc ms Pc) (PostOf Qc mc ms free) := va_backW (hh := hh) (bytes := bytes) (maxL := maxL) (ret := ret) hM hp.1 hrc hrs hfr hlo hws hcw (fun a' U hW => word_at hW (Or.inl (by first | rfl | simp [Cond.onTables, Cond.keeps, Cond.steady])) hini)
  obtain ⟨hx, hb, hml, ho, -⟩ := S
  intro T hT X
  obtain ⟨v, vm₁, ⟨U', l2, c2, s2⟩, hW₁, X', ⟨g', mk, t, L, e1, e2, hq, h1, hL, h2, h3⟩, st⟩ := vx_callSW X hx (hh := hh) (bytes := bytes) (maxL := maxL) (ret := ret) ho hl hstt hini hcode hy hK hg (hsize.trans hml.symm) (argsL := As) (rest := rest) (fun sig h => hn.trans (hlen sig h)) hstack hW (by rw [hb]; exact hdg)
    (fun vm₁ hW₁ => ⟨hf.1, hf.2, hp.2 (T.setVm vm₁) hT hW₁⟩)
  dsimp only [Pt.U, Pt.locs, Pt.cells, Pt.slots] at X' e1 e2 h1 h2 h3 st
  subst h1; subst h2; subst h3
  exact ⟨v, (T.setVm vm₁).calling g' mk As.toArray, t, U', L, hT, X', hL, e1, e2, hq, st⟩
end VXS
section FRW
variable {p : Program} {l : Launch} {e : Env} {R : Room} {s : State} {m : MethodId} {args : Array Value} {below : List Frame} {meth : Method} {c : Code} {H : Heap} {locs : List Loc} {cells slots : Nat} {Q : State → Prop}
variable {D : va_G} {cl : List vw_C} {tys : List (ClassId × FieldType)} {A : Nat → Prop} {nw tbl : List Cond}
variable {own : String} {cc : ByteArray} {nL pc : Nat} {ret : Option FieldType} {hh : List ExceptionTableEntry} {ls : Array Slot} {w w' : va_W} {rest : List Value}
variable {y : MethodName} {bytes : ByteArray} {maxL n index mc ms : Nat} {rty : Option FieldType} {ws : List Cond} {rm : Room} {As : List Value} {r : Int32} {hq : List (Nat × Nat × Nat × Nat)}
theorem fr_callSWi (C : fr_Cx p s m args meth c own cc nL ret hh tbl nw D cl tys A) (hP : va_P D cl w H) (hD : va_D A w) (hS : va_S A s.heap H locs) (hM : fr_Mi l y ws rm D cl tys nw As w r w' mc ms) (cw : vx_CSW R s args own index y bytes maxL rty hq ws rm mc ms n)
    (hn : As.length = n) (hsz : ls.size = nL) (hW : (rest.map fun v => v.category).sum ≤ 8) (hdg : decode cc pc = .ok (.invokestatic index, 3)) (hf : cells + mc ≤ R.cells ∧ slots + ms ≤ R.slots)
    (kk : ∀ (H : Heap) (locs : List Loc), va_P D cl w' H → va_D A w' → va_S A s.heap H locs → W p l e R s m args below meth c H locs (cells + mc) (slots + ms) Q (F0 m (pc + 3) ls (.int r :: rest))) : W p l e R s m args below meth c H locs cells slots Q (F0 m pc ls (As.reverse ++ rest)) :=
  fr_backi C hD hS (vx_runSW (As := As) (rest := rest) ⟨C.1, C.2.1, C.2.2.1, C.2.2.2.1, C.2.2.2.2.1⟩ (hM H.size) cw ⟨fr_blind, fr_pre C hP hD hS⟩ rfl hn hsz rfl (lv_room hW) hdg hf) kk
end FRW
theorem fr_goodW {y : MethodName} {b : ByteArray} {n : Nat} {r : Option FieldType} {hq : List (Nat × Nat × Nat × Nat)} (h : Cond.codeWith y b n r hq ∈ fr_tbl) : GoodIn fr_tbl (.codeWith y b n r hq :: fr_tbl) := by
  intro w hw
  rcases List.mem_cons.mp hw with rfl | hw
  · exact ⟨h, good_of_word (fr_tbl_good _ h)⟩
  · exact ⟨hw, good_of_word (fr_tbl_good _ hw)⟩
theorem fr_goodSW {own : String} {i n : Nat} {y : MethodName} {b : ByteArray} {r : Option FieldType} {hq : List (Nat × Nat × Nat × Nat)} (h1 : Cond.methodLink own i y ∈ fr_tbl) (h2 : Cond.static y ∈ fr_tbl) (h3 : Cond.initialized y.cls ∈ fr_tbl) (h5 : Cond.codeWith y b n r hq ∈ fr_tbl) : GoodIn fr_tbl (va_wsS own i y (.codeWith y b n r hq :: fr_tbl)) :=
  fr_goodL (by intro w hw; simp only [List.mem_cons, List.not_mem_nil, or_false] at hw; rcases hw with rfl | rfl | rfl <;> assumption) (fr_goodW h5)
/-! what the agreement gives -/
theorem rl_ford {f g : Nat → Nat → Int32} (h : rl f g) : fr_ord f := by
  intro k hk
  obtain ⟨o1, o2, o3⟩ := h.2.2.2.2.2.2.1 k hk
  have b2 := h.2.1.2.1
  have := fr_add1 (x := g 8 k) o2 (by omega)
  rw [o1]; omega
theorem rl_mord {f g : Nat → Nat → Int32} (h : rl f g) : mo_ord g := by
  intro k hk
  have n2 : f 0 1 = g 0 1 := h.1.2.1
  obtain ⟨o1, o2, o3⟩ := h.2.2.2.2.2.2.1 k (by rw [n2]; exact hk)
  rw [← n2]; exact ⟨o2, o3⟩
theorem rl_mall {f g : Nat → Nat → Int32} (h : rl f g) : mo_all g := by
  intro x h0 h1
  obtain ⟨j, hj, hj2⟩ := h.2.2.2.2.2.2.2.1 x h0 h1
  have b2 := h.2.1.2.1
  have n2 : f 0 1 = g 0 1 := h.1.2.1
  rw [← n2] at hj
  exact ⟨j, by omega, hj2⟩
theorem rl_mU {f g : Nat → Nat → Int32} (h : rl f g) : 0 ≤ (g 0 0).toInt ∧ (g 0 0).toInt ≤ 10 := by rw [← h.1.1]; exact h.2.1.1
theorem rl_mR {f g : Nat → Nat → Int32} (h : rl f g) : 0 ≤ (g 0 1).toInt ∧ (g 0 1).toInt ≤ 12 := by rw [← h.1.2.1]; exact h.2.1.2.1
theorem rl_mA {f g : Nat → Nat → Int32} (h : rl f g) : 0 ≤ (g 0 6).toInt ∧ (g 0 6).toInt ≤ 12 := by rw [← h.1.2.2.1]; exact h.2.1.2.2.1
theorem rl_mS {f g : Nat → Nat → Int32} (h : rl f g) : 0 ≤ (g 0 2).toInt ∧ (g 0 2).toInt ≤ 200 := by rw [← h.1.2.2.2.2.2]; exact h.2.1.2.2.2
theorem rl_mB {f g : Nat → Nat → Int32} (h : rl f g) : mo_B g := h.2.2.2.2.2.2.2.2
theorem rl_c1_0 {x : Option String} (h : rl_c1 x = 0) : x = none := by
  unfold rl_c1 at h
  by_cases e : x = none
  · exact e
  · rw [if_neg e] at h; exact absurd h (by decide)
theorem rl_c2_0 {a x : Option String} (h : rl_c2 a x = 0) : x = none := by
  unfold rl_c2 at h
  by_cases e : x = none
  · exact e
  · rw [if_neg e] at h
    split at h <;> exact absurd h (by decide)
theorem rl_c3_0 {a b x : Option String} (h : rl_c3 a b x = 0) : x = none := by
  unfold rl_c3 at h
  by_cases e : x = none
  · exact e
  · rw [if_neg e] at h
    split at h
    · exact absurd h (by decide)
    · split at h <;> exact absurd h (by decide)
theorem lo_out {h : Nat → Int64} {x : Option String} {r b : Int32} (hx : x = none) (hb : x = none → r = b) : lg_cmp (lo_h h x r (0 : Int32).toNatClampNeg) b.toInt64 = 0 := by
  have e : lo_h h x r (0 : Int32).toNatClampNeg = r.toInt64 := by
    unfold lo_h
    rw [if_pos hx]
    simp [vp_updL]
  rw [e, hb hx]
  simp [lg_cmp]
/-- a place of the script -/
theorem lw_idx {i k : Int32} {L : Nat} (hL : L ≤ 2048) (hi : 0 ≤ i.toInt ∧ i.toInt + 4 ≤ (L : Int)) (hk : 0 ≤ k.toInt ∧ k.toInt ≤ 3) : vp_in (i + k) L := by
  rw [vp_in_iff]
  have : (i + k).toInt = i.toInt + k.toInt := by
    rw [Int32.toInt_add, Int.bmod_def]; split <;> omega
  omega
