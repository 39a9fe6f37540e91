-- ===== PART A: goes FIRST, ahead of the names: the tables' words, and 'selects' of the private methods out of them =====
/-- a private method of a class that the tables say can be made, by its rows of tables_1 -/
def lw_okq (q : MethodName × Nat) : Prop := (q.1.cls ≠ "java/lang/invoke/MethodHandle" ∧ q.1.cls ≠ "java/lang/invoke/VarHandle") ∧ Cond.instantiable q.1.cls q.2 ∈ tables_1 ∧ Cond.privateMethod q.1 ∈ tables_1 ∧ Cond.instanceMethod q.1 ∈ tables_1
theorem lw_p0 : lw_okq (⟨"java/lang/Throwable", "fillInStackTrace", "(I)Ljava/lang/Throwable;"⟩, 6) := ⟨⟨by decide +kernel, by decide +kernel⟩, List.mem_of_getElem? (i := 176) (by decide +kernel), List.mem_of_getElem? (i := 174) (by decide +kernel), List.mem_of_getElem? (i := 175) (by decide +kernel)⟩
theorem lw_p1 : lw_okq (⟨"FragileRules", "firstRefusingMarks", "(LFragileRules$Unit;)I"⟩, 10) := ⟨⟨by decide +kernel, by decide +kernel⟩, List.mem_of_getElem? (i := 16) (by decide +kernel), List.mem_of_getElem? (i := 222) (by decide +kernel), List.mem_of_getElem? (i := 223) (by decide +kernel)⟩
theorem lw_p2 : lw_okq (⟨"FragileRules", "firstRefusing", "(ILFragileRules$Unit;LFragileRules$Unit;I)I"⟩, 10) := ⟨⟨by decide +kernel, by decide +kernel⟩, List.mem_of_getElem? (i := 16) (by decide +kernel), List.mem_of_getElem? (i := 230) (by decide +kernel), List.mem_of_getElem? (i := 231) (by decide +kernel)⟩
theorem lw_p3 : lw_okq (⟨"FragileRules", "addRule", "(III)I"⟩, 10) := ⟨⟨by decide +kernel, by decide +kernel⟩, List.mem_of_getElem? (i := 16) (by decide +kernel), List.mem_of_getElem? (i := 268) (by decide +kernel), List.mem_of_getElem? (i := 269) (by decide +kernel)⟩
theorem lw_p4 : lw_okq (⟨"FragileRules", "addLines", "(I)V"⟩, 10) := ⟨⟨by decide +kernel, by decide +kernel⟩, List.mem_of_getElem? (i := 16) (by decide +kernel), List.mem_of_getElem? (i := 321) (by decide +kernel), List.mem_of_getElem? (i := 322) (by decide +kernel)⟩
theorem lw_p5 : lw_okq (⟨"FragileRules", "isUnit", "(I)Z"⟩, 10) := ⟨⟨by decide +kernel, by decide +kernel⟩, List.mem_of_getElem? (i := 16) (by decide +kernel), List.mem_of_getElem? (i := 342) (by decide +kernel), List.mem_of_getElem? (i := 343) (by decide +kernel)⟩
theorem lw_p6 : lw_okq (⟨"FragileRules", "verdict", "(ILFragileRules$Unit;LFragileRules$Unit;I)I"⟩, 10) := ⟨⟨by decide +kernel, by decide +kernel⟩, List.mem_of_getElem? (i := 16) (by decide +kernel), List.mem_of_getElem? (i := 379) (by decide +kernel), List.mem_of_getElem? (i := 380) (by decide +kernel)⟩
theorem lw_p7 : lw_okq (⟨"FragileRules", "isRuleNumber", "(I)Z"⟩, 10) := ⟨⟨by decide +kernel, by decide +kernel⟩, List.mem_of_getElem? (i := 16) (by decide +kernel), List.mem_of_getElem? (i := 414) (by decide +kernel), List.mem_of_getElem? (i := 415) (by decide +kernel)⟩
theorem lw_p8 : lw_okq (⟨"FragileRules", "placeInOrder", "(I)I"⟩, 10) := ⟨⟨by decide +kernel, by decide +kernel⟩, List.mem_of_getElem? (i := 16) (by decide +kernel), List.mem_of_getElem? (i := 420) (by decide +kernel), List.mem_of_getElem? (i := 421) (by decide +kernel)⟩
theorem lw_p9 : lw_okq (⟨"FragileRulesModel", "ask", "()I"⟩, 25) := ⟨⟨by decide +kernel, by decide +kernel⟩, List.mem_of_getElem? (i := 443) (by decide +kernel), List.mem_of_getElem? (i := 536) (by decide +kernel), List.mem_of_getElem? (i := 537) (by decide +kernel)⟩
theorem lw_p10 : lw_okq (⟨"FragileRulesModel", "concerns", "(I)Z"⟩, 25) := ⟨⟨by decide +kernel, by decide +kernel⟩, List.mem_of_getElem? (i := 443) (by decide +kernel), List.mem_of_getElem? (i := 540) (by decide +kernel), List.mem_of_getElem? (i := 541) (by decide +kernel)⟩
theorem lw_p11 : lw_okq (⟨"FragileRulesModel", "refuses", "(I)Z"⟩, 25) := ⟨⟨by decide +kernel, by decide +kernel⟩, List.mem_of_getElem? (i := 443) (by decide +kernel), List.mem_of_getElem? (i := 544) (by decide +kernel), List.mem_of_getElem? (i := 545) (by decide +kernel)⟩
theorem lw_p12 : lw_okq (⟨"FragileRulesModel", "ownRefuses", "(I)Z"⟩, 25) := ⟨⟨by decide +kernel, by decide +kernel⟩, List.mem_of_getElem? (i := 443) (by decide +kernel), List.mem_of_getElem? (i := 548) (by decide +kernel), List.mem_of_getElem? (i := 549) (by decide +kernel)⟩
theorem lw_p13 : lw_okq (⟨"FragileRulesModel", "add", "(III)V"⟩, 25) := ⟨⟨by decide +kernel, by decide +kernel⟩, List.mem_of_getElem? (i := 443) (by decide +kernel), List.mem_of_getElem? (i := 562) (by decide +kernel), List.mem_of_getElem? (i := 563) (by decide +kernel)⟩
theorem lw_p14 : lw_okq (⟨"FragileRulesModel", "go", "(Z)I"⟩, 25) := ⟨⟨by decide +kernel, by decide +kernel⟩, List.mem_of_getElem? (i := 443) (by decide +kernel), List.mem_of_getElem? (i := 578) (by decide +kernel), List.mem_of_getElem? (i := 579) (by decide +kernel)⟩
theorem lw_p15 : lw_okq (⟨"FragileRulesModel", "line", "(Z)V"⟩, 25) := ⟨⟨by decide +kernel, by decide +kernel⟩, List.mem_of_getElem? (i := 443) (by decide +kernel), List.mem_of_getElem? (i := 582) (by decide +kernel), List.mem_of_getElem? (i := 583) (by decide +kernel)⟩
def lw_privs_1 : List (MethodName × Nat) := [(⟨"java/lang/Throwable", "fillInStackTrace", "(I)Ljava/lang/Throwable;"⟩, 6), (⟨"FragileRules", "firstRefusingMarks", "(LFragileRules$Unit;)I"⟩, 10), (⟨"FragileRules", "firstRefusing", "(ILFragileRules$Unit;LFragileRules$Unit;I)I"⟩, 10), (⟨"FragileRules", "addRule", "(III)I"⟩, 10), (⟨"FragileRules", "addLines", "(I)V"⟩, 10), (⟨"FragileRules", "isUnit", "(I)Z"⟩, 10), (⟨"FragileRules", "verdict", "(ILFragileRules$Unit;LFragileRules$Unit;I)I"⟩, 10), (⟨"FragileRules", "isRuleNumber", "(I)Z"⟩, 10), (⟨"FragileRules", "placeInOrder", "(I)I"⟩, 10), (⟨"FragileRulesModel", "ask", "()I"⟩, 25), (⟨"FragileRulesModel", "concerns", "(I)Z"⟩, 25), (⟨"FragileRulesModel", "refuses", "(I)Z"⟩, 25), (⟨"FragileRulesModel", "ownRefuses", "(I)Z"⟩, 25), (⟨"FragileRulesModel", "add", "(III)V"⟩, 25), (⟨"FragileRulesModel", "go", "(Z)I"⟩, 25), (⟨"FragileRulesModel", "line", "(Z)V"⟩, 25)]
theorem lw_r1 : ∀ q ∈ lw_privs_1, lw_okq q := List.forall_mem_cons.mpr ⟨lw_p0, List.forall_mem_cons.mpr ⟨lw_p1, List.forall_mem_cons.mpr ⟨lw_p2, List.forall_mem_cons.mpr ⟨lw_p3, List.forall_mem_cons.mpr ⟨lw_p4, List.forall_mem_cons.mpr ⟨lw_p5, List.forall_mem_cons.mpr ⟨lw_p6, List.forall_mem_cons.mpr ⟨lw_p7, List.forall_mem_cons.mpr ⟨lw_p8, List.forall_mem_cons.mpr ⟨lw_p9, List.forall_mem_cons.mpr ⟨lw_p10, List.forall_mem_cons.mpr ⟨lw_p11, List.forall_mem_cons.mpr ⟨lw_p12, List.forall_mem_cons.mpr ⟨lw_p13, List.forall_mem_cons.mpr ⟨lw_p14, List.forall_mem_cons.mpr ⟨lw_p15, fun _ h => absurd h List.not_mem_nil⟩⟩⟩⟩⟩⟩⟩⟩⟩⟩⟩⟩⟩⟩⟩⟩
theorem lw_p16 : lw_okq (⟨"FragileRulesModel", "look", "()I"⟩, 25) := ⟨⟨by decide +kernel, by decide +kernel⟩, List.mem_of_getElem? (i := 443) (by decide +kernel), List.mem_of_getElem? (i := 586) (by decide +kernel), List.mem_of_getElem? (i := 587) (by decide +kernel)⟩
theorem lw_p17 : lw_okq (⟨"FragileRulesModel", "fail", "()V"⟩, 25) := ⟨⟨by decide +kernel, by decide +kernel⟩, List.mem_of_getElem? (i := 443) (by decide +kernel), List.mem_of_getElem? (i := 593) (by decide +kernel), List.mem_of_getElem? (i := 594) (by decide +kernel)⟩
theorem lw_p18 : lw_okq (⟨"FragileRulesModel", "take", "(I)V"⟩, 25) := ⟨⟨by decide +kernel, by decide +kernel⟩, List.mem_of_getElem? (i := 443) (by decide +kernel), List.mem_of_getElem? (i := 597) (by decide +kernel), List.mem_of_getElem? (i := 598) (by decide +kernel)⟩
theorem lw_p19 : lw_okq (⟨"FragileRulesModel", "digit", "(I)I"⟩, 25) := ⟨⟨by decide +kernel, by decide +kernel⟩, List.mem_of_getElem? (i := 443) (by decide +kernel), List.mem_of_getElem? (i := 601) (by decide +kernel), List.mem_of_getElem? (i := 602) (by decide +kernel)⟩
theorem lw_p20 : lw_okq (⟨"FragileRulesModel", "isUnit", "(I)Z"⟩, 25) := ⟨⟨by decide +kernel, by decide +kernel⟩, List.mem_of_getElem? (i := 443) (by decide +kernel), List.mem_of_getElem? (i := 609) (by decide +kernel), List.mem_of_getElem? (i := 610) (by decide +kernel)⟩
theorem lw_p21 : lw_okq (⟨"FragileRulesModel", "verdict", "()I"⟩, 25) := ⟨⟨by decide +kernel, by decide +kernel⟩, List.mem_of_getElem? (i := 443) (by decide +kernel), List.mem_of_getElem? (i := 613) (by decide +kernel), List.mem_of_getElem? (i := 614) (by decide +kernel)⟩
theorem lw_p22 : lw_okq (⟨"FragileRulesModel", "isNumber", "(I)Z"⟩, 25) := ⟨⟨by decide +kernel, by decide +kernel⟩, List.mem_of_getElem? (i := 443) (by decide +kernel), List.mem_of_getElem? (i := 637) (by decide +kernel), List.mem_of_getElem? (i := 638) (by decide +kernel)⟩
theorem lw_p23 : lw_okq (⟨"FragileRulesModel", "placeOf", "(I)I"⟩, 25) := ⟨⟨by decide +kernel, by decide +kernel⟩, List.mem_of_getElem? (i := 443) (by decide +kernel), List.mem_of_getElem? (i := 641) (by decide +kernel), List.mem_of_getElem? (i := 642) (by decide +kernel)⟩
def lw_privs_2 : List (MethodName × Nat) := [(⟨"FragileRulesModel", "look", "()I"⟩, 25), (⟨"FragileRulesModel", "fail", "()V"⟩, 25), (⟨"FragileRulesModel", "take", "(I)V"⟩, 25), (⟨"FragileRulesModel", "digit", "(I)I"⟩, 25), (⟨"FragileRulesModel", "isUnit", "(I)Z"⟩, 25), (⟨"FragileRulesModel", "verdict", "()I"⟩, 25), (⟨"FragileRulesModel", "isNumber", "(I)Z"⟩, 25), (⟨"FragileRulesModel", "placeOf", "(I)I"⟩, 25)]
theorem lw_r2 : ∀ q ∈ lw_privs_2, lw_okq q := List.forall_mem_cons.mpr ⟨lw_p16, List.forall_mem_cons.mpr ⟨lw_p17, List.forall_mem_cons.mpr ⟨lw_p18, List.forall_mem_cons.mpr ⟨lw_p19, List.forall_mem_cons.mpr ⟨lw_p20, List.forall_mem_cons.mpr ⟨lw_p21, List.forall_mem_cons.mpr ⟨lw_p22, List.forall_mem_cons.mpr ⟨lw_p23, fun _ h => absurd h List.not_mem_nil⟩⟩⟩⟩⟩⟩⟩⟩
def lw_privs : List (MethodName × Nat) := lw_privs_1 ++ (lw_privs_2)
def lw_tbl : List Cond := k2_sels lw_privs ++ tables_1
theorem lw_privs_ok : ∀ q ∈ lw_privs, lw_okq q := by
  show ∀ q ∈ lw_privs_1 ++ (lw_privs_2), lw_okq q
  exact List.forall_mem_append.mpr ⟨lw_r1, lw_r2⟩
/-- the words that stay while the tables warm -/
def fr_tbl : List Cond := lw_tbl.filter goodWord
theorem fr_in {w : Cond} (i : Nat) (h : lw_tbl[i]? = some w) (hg : goodWord w = true) : w ∈ fr_tbl := List.mem_filter.mpr ⟨List.mem_of_getElem? h, hg⟩
theorem fr_tbl_good : ∀ w ∈ fr_tbl, goodWord w = true := fun _ h => (List.mem_filter.mp h).2
theorem fr_good {y : MethodName} {b : ByteArray} {n : Nat} {r : Option FieldType} (h : Cond.code y b n r ∈ fr_tbl) : GoodIn fr_tbl (.code y b n r :: fr_tbl) := by
  intro w hw
  rcases List.mem_cons.mp hw with rfl | hw
  · exact ⟨h, good_of_word (fr_tbl_good _ h)⟩
  · exact ⟨hw, good_of_word (fr_tbl_good _ hw)⟩
theorem fr_goodL {L ws : List Cond} (h : ∀ w ∈ L, w ∈ fr_tbl) (hw : GoodIn fr_tbl ws) : GoodIn fr_tbl (L ++ ws) := by
  intro w h1
  rcases List.mem_append.mp h1 with h1 | h1
  · exact ⟨h w h1, good_of_word (fr_tbl_good _ (h w h1))⟩
  · exact hw w h1
theorem fr_goodV {own C : String} {i n : Nat} {y : MethodName} {b : ByteArray} {r : Option FieldType} (h1 : Cond.methodLink own i y ∈ fr_tbl) (h2 : Cond.instanceMethod y ∈ fr_tbl) (h3 : Cond.selects C y y ∈ fr_tbl) (h4 : Cond.initialized C ∈ fr_tbl) (h5 : Cond.code y b n r ∈ fr_tbl) : GoodIn fr_tbl (wsV own i C y (.code y b n r :: fr_tbl)) :=
  fr_goodL (by intro w hw; simp only [List.mem_cons, List.not_mem_nil, or_false] at hw; rcases hw with rfl | rfl | rfl | rfl <;> assumption) (fr_good h5)
theorem fr_goodS {own : String} {i n : Nat} {y : MethodName} {b : ByteArray} {r : Option FieldType} (h1 : Cond.methodLink own i y ∈ fr_tbl) (h2 : Cond.static y ∈ fr_tbl) (h3 : Cond.initialized own ∈ fr_tbl) (h5 : Cond.code y b n r ∈ fr_tbl) : GoodIn fr_tbl (wsS own i y (.code y b n r :: fr_tbl)) :=
  fr_goodL (by intro w hw; simp only [List.mem_cons, List.not_mem_nil, or_false] at hw; rcases hw with rfl | rfl | rfl <;> assumption) (fr_good h5)
theorem fr_goodSS {own : String} {i n : Nat} {y : MethodName} {b : ByteArray} {r : Option FieldType} (h1 : Cond.methodLink own i y ∈ fr_tbl) (h2 : Cond.static y ∈ fr_tbl) (h3 : Cond.initialized y.cls ∈ fr_tbl) (h5 : Cond.code y b n r ∈ fr_tbl) : GoodIn fr_tbl (va_wsS own i y (.code y b n r :: fr_tbl)) :=
  fr_goodL (by intro w hw; simp only [List.mem_cons, List.not_mem_nil, or_false] at hw; rcases hw with rfl | rfl | rfl <;> assumption) (fr_good h5)
def TXF : u_T := fun k => match k with
  | 0 => ("FragileRules", "units", "[LFragileRules$Unit;", true)
  | 1 => ("FragileRules", "unitCount", "I", false)
  | 2 => ("FragileRules", "rules", "[LFragileRules$Rule;", true)
  | 3 => ("FragileRules", "ruleCount", "I", false)
  | 4 => ("FragileRules", "numbersInOrder", "[I", true)
  | 5 => ("FragileRules", "askedNumbers", "[I", true)
  | 6 => ("FragileRules", "askedCount", "I", false)
  | 7 => ("FragileRules", "text", "LFragileRules$Text;", true)
  | 8 => ("FragileRules", "verdictCount", "I", false)
  | _ => ("FragileRules", "refusedCount", "I", false)
def tyXF : Nat → FieldType := fun k => match k with
  | 0 => .array (.object "FragileRules$Unit")
  | 1 => .int
  | 2 => .array (.object "FragileRules$Rule")
  | 3 => .int
  | 4 => .array .int
  | 5 => .array .int
  | 6 => .int
  | 7 => .object "FragileRules$Text"
  | 8 => .int
  | _ => .int
theorem nmXF : ∀ a, a < 10 → ∀ b, b < 10 → a ≠ b → (TXF a).2.1 ≠ (TXF b).2.1 := by decide +kernel
theorem tokXF : ∀ k, k < 10 → parseFieldDescriptor (TXF k).2.2.1 = some (tyXF k) := by decide +kernel
theorem iXF : ∀ w ∈ u_ws "FragileRules" TXF 10, w ∈ fr_tbl := by decide +kernel
def TXU : u_T := fun k => match k with
  | 0 => ("FragileRules$Unit", "kind", "I", false)
  | 1 => ("FragileRules$Unit", "weight", "I", false)
  | _ => ("FragileRules$Unit", "marks", "I", false)
def tyXU : Nat → FieldType := fun k => match k with
  | 0 => .int
  | 1 => .int
  | _ => .int
theorem nmXU : ∀ a, a < 3 → ∀ b, b < 3 → a ≠ b → (TXU a).2.1 ≠ (TXU b).2.1 := by decide +kernel
theorem tokXU : ∀ k, k < 3 → parseFieldDescriptor (TXU k).2.2.1 = some (tyXU k) := by decide +kernel
theorem iXU : ∀ w ∈ u_ws "FragileRules$Unit" TXU 3, w ∈ fr_tbl := by decide +kernel
def TXR : u_T := fun k => match k with
  | 0 => ("FragileRules$Rule", "row", "I", false)
  | 1 => ("FragileRules$Rule", "a", "I", false)
  | 2 => ("FragileRules$Rule", "b", "I", false)
  | _ => ("FragileRules$Rule", "refusals", "I", false)
def tyXR : Nat → FieldType := fun k => match k with
  | 0 => .int
  | 1 => .int
  | 2 => .int
  | _ => .int
theorem nmXR : ∀ a, a < 4 → ∀ b, b < 4 → a ≠ b → (TXR a).2.1 ≠ (TXR b).2.1 := by decide +kernel
theorem tokXR : ∀ k, k < 4 → parseFieldDescriptor (TXR k).2.2.1 = some (tyXR k) := by decide +kernel
theorem iXR : ∀ w ∈ u_ws "FragileRules$Rule" TXR 4, w ∈ fr_tbl := by decide +kernel
def TXT : u_T := fun k => match k with
  | 0 => ("FragileRules$Text", "signs", "[I", true)
  | _ => ("FragileRules$Text", "length", "I", false)
def tyXT : Nat → FieldType := fun k => match k with
  | 0 => .array .int
  | _ => .int
theorem nmXT : ∀ a, a < 2 → ∀ b, b < 2 → a ≠ b → (TXT a).2.1 ≠ (TXT b).2.1 := by decide +kernel
theorem tokXT : ∀ k, k < 2 → parseFieldDescriptor (TXT k).2.2.1 = some (tyXT k) := by decide +kernel
theorem iXT : ∀ w ∈ u_ws "FragileRules$Text" TXT 2, w ∈ fr_tbl := by decide +kernel
def TXM : u_T := fun k => match k with
  | 0 => ("FragileRulesModel", "units", "I", false)
  | 1 => ("FragileRulesModel", "rules", "I", false)
  | 2 => ("FragileRulesModel", "signs", "I", false)
  | 3 => ("FragileRulesModel", "verdicts", "I", false)
  | 4 => ("FragileRulesModel", "refusals", "I", false)
  | 5 => ("FragileRulesModel", "thrown", "I", false)
  | 6 => ("FragileRulesModel", "kind", "[I", true)
  | 7 => ("FragileRulesModel", "weight", "[I", true)
  | 8 => ("FragileRulesModel", "marks", "[I", true)
  | 9 => ("FragileRulesModel", "row", "[I", true)
  | 10 => ("FragileRulesModel", "first", "[I", true)
  | 11 => ("FragileRulesModel", "second", "[I", true)
  | 12 => ("FragileRulesModel", "refused", "[I", true)
  | 13 => ("FragileRulesModel", "order", "[I", true)
  | 14 => ("FragileRulesModel", "text", "[I", true)
  | 15 => ("FragileRulesModel", "asked", "[I", true)
  | 16 => ("FragileRulesModel", "askedMany", "I", false)
  | 17 => ("FragileRulesModel", "question", "I", false)
  | 18 => ("FragileRulesModel", "below", "I", false)
  | 19 => ("FragileRulesModel", "above", "I", false)
  | 20 => ("FragileRulesModel", "place", "I", false)
  | 21 => ("FragileRulesModel", "mark", "I", false)
  | 22 => ("FragileRulesModel", "had", "I", false)
  | 23 => ("FragileRulesModel", "p", "I", false)
  | _ => ("FragileRulesModel", "bad", "I", false)
def tyXM : Nat → FieldType := fun k => match k with
  | 0 => .int
  | 1 => .int
  | 2 => .int
  | 3 => .int
  | 4 => .int
  | 5 => .int
  | 6 => .array .int
  | 7 => .array .int
  | 8 => .array .int
  | 9 => .array .int
  | 10 => .array .int
  | 11 => .array .int
  | 12 => .array .int
  | 13 => .array .int
  | 14 => .array .int
  | 15 => .array .int
  | 16 => .int
  | 17 => .int
  | 18 => .int
  | 19 => .int
  | 20 => .int
  | 21 => .int
  | 22 => .int
  | 23 => .int
  | _ => .int
theorem nmXM : ∀ a, a < 25 → ∀ b, b < 25 → a ≠ b → (TXM a).2.1 ≠ (TXM b).2.1 := by decide +kernel
theorem tokXM : ∀ k, k < 25 → parseFieldDescriptor (TXM k).2.2.1 = some (tyXM k) := by decide +kernel
theorem iXM : ∀ w ∈ u_ws "FragileRulesModel" TXM 25, w ∈ fr_tbl := by decide +kernel
abbrev vwCl : List vw_C := [("FragileRules", TXF, 10), ("FragileRules$Unit", TXU, 3), ("FragileRules$Rule", TXR, 4), ("FragileRules$Text", TXT, 2), ("FragileRulesModel", TXM, 25)]
