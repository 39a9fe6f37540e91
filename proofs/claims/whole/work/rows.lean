section
-- ===== PART A: goes FIRST, ahead of the names: the tables' words, and 'selects' of the private methods out of them =====
/-- a private method of a class that the tables say can be made, by its rows of tables_1 -/
def lw_okq (q : MethodName × Nat) : Prop := (q.1.cls ≠ "java/lang/invoke/MethodHandle" ∧ q.1.cls ≠ "java/lang/invoke/VarHandle") ∧ Cond.instantiable q.1.cls q.2 ∈ tables_1 ∧ Cond.privateMethod q.1 ∈ tables_1 ∧ Cond.instanceMethod q.1 ∈ tables_1
theorem lw_p0 : lw_okq (⟨"java/lang/Throwable", "fillInStackTrace", "(I)Ljava/lang/Throwable;"⟩, 6) := ⟨⟨by decide +kernel, by decide +kernel⟩, List.mem_of_getElem? (i := 176) (by decide +kernel), List.mem_of_getElem? (i := 174) (by decide +kernel), List.mem_of_getElem? (i := 175) (by decide +kernel)⟩
theorem lw_p1 : lw_okq (⟨"FragileRules", "firstRefusingMarks", "(LFragileRules$Unit;)I"⟩, 10) := ⟨⟨by decide +kernel, by decide +kernel⟩, List.mem_of_getElem? (i := 16) (by decide +kernel), List.mem_of_getElem? (i := 222) (by decide +kernel), List.mem_of_getElem? (i := 223) (by decide +kernel)⟩
theorem lw_p2 : lw_okq (⟨"FragileRules", "firstRefusing", "(ILFragileRules$Unit;LFragileRules$Unit;I)I"⟩, 10) := ⟨⟨by decide +kernel, by decide +kernel⟩, List.mem_of_getElem? (i := 16) (by decide +kernel), List.mem_of_getElem? (i := 230) (by decide +kernel), List.mem_of_getElem? (i := 231) (by decide +kernel)⟩
theorem lw_p3 : lw_okq (⟨"FragileRules", "addRule", "(III)I"⟩, 10) := ⟨⟨by decide +kernel, by decide +kernel⟩, List.mem_of_getElem? (i := 16) (by decide +kernel), List.mem_of_getElem? (i := 268) (by decide +kernel), List.mem_of_getElem? (i := 269) (by decide +kernel)⟩
theorem lw_p4 : lw_okq (⟨"FragileRules", "addLines", "(I)V"⟩, 10) := ⟨⟨by decide +kernel, by decide +kernel⟩, List.mem_of_getElem? (i := 16) (by decide +kernel), List.mem_of_getElem? (i := 321) (by decide +kernel), List.mem_of_getElem? (i := 322) (by decide +kernel)⟩
theorem lw_p5 : lw_okq (⟨"FragileRules", "isUnit", "(I)Z"⟩, 10) := ⟨⟨by decide +kernel, by decide +kernel⟩, List.mem_of_getElem? (i := 16) (by decide +kernel), List.mem_of_getElem? (i := 342) (by decide +kernel), List.mem_of_getElem? (i := 343) (by decide +kernel)⟩
theorem lw_p6 : lw_okq (⟨"FragileRules", "verdict", "(ILFragileRules$Unit;LFragileRules$Unit;I)I"⟩, 10) := ⟨⟨by decide +kernel, by decide +kernel⟩, List.mem_of_getElem? (i := 16) (by decide +kernel), List.mem_of_getElem? (i := 379) (by decide +kernel), List.mem_of_getElem? (i := 380) (by decide +kernel)⟩
theorem lw_p7 : lw_okq (⟨"FragileRules", "isRuleNumber", "(I)Z"⟩, 10) := ⟨⟨by decide +kernel, by decide +kernel⟩, List.mem_of_getElem? (i := 16) (by decide +kernel), List.mem_of_getElem? (i := 414) (by decide +kernel), List.mem_of_getElem? (i := 415) (by decide +kernel)⟩
theorem lw_p8 : lw_okq (⟨"FragileRules", "placeInOrder", "(I)I"⟩, 10) := ⟨⟨by decide +kernel, by decide +kernel⟩, List.mem_of_getElem? (i := 16) (by decide +kernel), List.mem_of_getElem? (i := 420) (by decide +kernel), List.mem_of_getElem? (i := 421) (by decide +kernel)⟩
theorem lw_p9 : lw_okq (⟨"FragileRulesModel", "ask", "()I"⟩, 25) := ⟨⟨by decide +kernel, by decide +kernel⟩, List.mem_of_getElem? (i := 443) (by decide +kernel), List.mem_of_getElem? (i := 536) (by decide +kernel), List.mem_of_getElem? (i := 537) (by decide +kernel)⟩
theorem lw_p10 : lw_okq (⟨"FragileRulesModel", "concerns", "(I)Z"⟩, 25) := ⟨⟨by decide +kernel, by decide +kernel⟩, List.mem_of_getElem? (i := 443) (by decide +kernel), List.mem_of_getElem? (i := 540) (by decide +kernel), List.mem_of_getElem? (i := 541) (by decide +kernel)⟩
theorem lw_p11 : lw_okq (⟨"FragileRulesModel", "refuses", "(I)Z"⟩, 25) := ⟨⟨by decide +kernel, by decide +kernel⟩, List.mem_of_getElem? (i := 443) (by decide +kernel), List.mem_of_getElem? (i := 544) (by decide +kernel), List.mem_of_getElem? (i := 545) (by decide +kernel)⟩
theorem lw_p12 : lw_okq (⟨"FragileRulesModel", "ownRefuses", "(I)Z"⟩, 25) := ⟨⟨by decide +kernel, by decide +kernel⟩, List.mem_of_getElem? (i := 443) (by decide +kernel), List.mem_of_getElem? (i := 548) (by decide +kernel), List.mem_of_getElem? (i := 549) (by decide +kernel)⟩
theorem lw_p13 : lw_okq (⟨"FragileRulesModel", "add", "(III)V"⟩, 25) := ⟨⟨by decide +kernel, by decide +kernel⟩, List.mem_of_getElem? (i := 443) (by decide +kernel), List.mem_of_getElem? (i := 562) (by decide +kernel), List.mem_of_getElem? (i := 563) (by decide +kernel)⟩
theorem lw_p14 : lw_okq (⟨"FragileRulesModel", "go", "(Z)I"⟩, 25) := ⟨⟨by decide +kernel, by decide +kernel⟩, List.mem_of_getElem? (i := 443) (by decide +kernel), List.mem_of_getElem? (i := 578) (by decide +kernel), List.mem_of_getElem? (i := 579) (by decide +kernel)⟩
theorem lw_p15 : lw_okq (⟨"FragileRulesModel", "line", "(Z)V"⟩, 25) := ⟨⟨by decide +kernel, by decide +kernel⟩, List.mem_of_getElem? (i := 443) (by decide +kernel), List.mem_of_getElem? (i := 582) (by decide +kernel), List.mem_of_getElem? (i := 583) (by decide +kernel)⟩
def lw_privs_1 : List (MethodName × Nat) := [(⟨"java/lang/Throwable", "fillInStackTrace", "(I)Ljava/lang/Throwable;"⟩, 6), (⟨"FragileRules", "firstRefusingMarks", "(LFragileRules$Unit;)I"⟩, 10), (⟨"FragileRules", "firstRefusing", "(ILFragileRules$Unit;LFragileRules$Unit;I)I"⟩, 10), (⟨"FragileRules", "addRule", "(III)I"⟩, 10), (⟨"FragileRules", "addLines", "(I)V"⟩, 10), (⟨"FragileRules", "isUnit", "(I)Z"⟩, 10), (⟨"FragileRules", "verdict", "(ILFragileRules$Unit;LFragileRules$Unit;I)I"⟩, 10), (⟨"FragileRules", "isRuleNumber", "(I)Z"⟩, 10), (⟨"FragileRules", "placeInOrder", "(I)I"⟩, 10), (⟨"FragileRulesModel", "ask", "()I"⟩, 25), (⟨"FragileRulesModel", "concerns", "(I)Z"⟩, 25), (⟨"FragileRulesModel", "refuses", "(I)Z"⟩, 25), (⟨"FragileRulesModel", "ownRefuses", "(I)Z"⟩, 25), (⟨"FragileRulesModel", "add", "(III)V"⟩, 25), (⟨"FragileRulesModel", "go", "(Z)I"⟩, 25), (⟨"FragileRulesModel", "line", "(Z)V"⟩, 25)]
theorem lw_r1 : ∀ q ∈ lw_privs_1, lw_okq q := List.forall_mem_cons.mpr ⟨lw_p0, List.forall_mem_cons.mpr ⟨lw_p1, List.forall_mem_cons.mpr ⟨lw_p2, List.forall_mem_cons.mpr ⟨lw_p3, List.forall_mem_cons.mpr ⟨lw_p4, List.forall_mem_cons.mpr ⟨lw_p5, List.forall_mem_cons.mpr ⟨lw_p6, List.forall_mem_cons.mpr ⟨lw_p7, List.forall_mem_cons.mpr ⟨lw_p8, List.forall_mem_cons.mpr ⟨lw_p9, List.forall_mem_cons.mpr ⟨lw_p10, List.forall_mem_cons.mpr ⟨lw_p11, List.forall_mem_cons.mpr ⟨lw_p12, List.forall_mem_cons.mpr ⟨lw_p13, List.forall_mem_cons.mpr ⟨lw_p14, List.forall_mem_cons.mpr ⟨lw_p15, fun _ h => absurd h List.not_mem_nil⟩⟩⟩⟩⟩⟩⟩⟩⟩⟩⟩⟩⟩⟩⟩⟩
theorem lw_p16 : lw_okq (⟨"FragileRulesModel", "look", "()I"⟩, 25) := ⟨⟨by decide +kernel, by decide +kernel⟩, List.mem_of_getElem? (i := 443) (by decide +kernel), List.mem_of_getElem? (i := 586) (by decide +kernel), List.mem_of_getElem? (i := 587) (by decide +kernel)⟩
theorem lw_p17 : lw_okq (⟨"FragileRulesModel", "fail", "()V"⟩, 25) := ⟨⟨by decide +kernel, by decide +kernel⟩, List.mem_of_getElem? (i := 443) (by decide +kernel), List.mem_of_getElem? (i := 593) (by decide +kernel), List.mem_of_getElem? (i := 594) (by decide +kernel)⟩
theorem lw_p18 : lw_okq (⟨"FragileRulesModel", "take", "(I)V"⟩, 25) := ⟨⟨by decide +kernel, by decide +kernel⟩, List.mem_of_getElem? (i := 443) (by decide +kernel), List.mem_of_getElem? (i := 597) (by decide +kernel), List.mem_of_getElem? (i := 598) (by decide +kernel)⟩
theorem lw_p19 : lw_okq (⟨"FragileRulesModel", "digit", "(I)I"⟩, 25) := ⟨⟨by decide +kernel, by decide +kernel⟩, List.mem_of_getElem? (i := 443) (by decide +kernel), List.mem_of_getElem? (i := 601) (by decide +kernel), List.mem_of_getElem? (i := 602) (by decide +kernel)⟩
theorem lw_p20 : lw_okq (⟨"FragileRulesModel", "isUnit", "(I)Z"⟩, 25) := ⟨⟨by decide +kernel, by decide +kernel⟩, List.mem_of_getElem? (i := 443) (by decide +kernel), List.mem_of_getElem? (i := 609) (by decide +kernel), List.mem_of_getElem? (i := 610) (by decide +kernel)⟩
theorem lw_p21 : lw_okq (⟨"FragileRulesModel", "verdict", "()I"⟩, 25) := ⟨⟨by decide +kernel, by decide +kernel⟩, List.mem_of_getElem? (i := 443) (by decide +kernel), List.mem_of_getElem? (i := 613) (by decide +kernel), List.mem_of_getElem? (i := 614) (by decide +kernel)⟩
theorem lw_p22 : lw_okq (⟨"FragileRulesModel", "isNumber", "(I)Z"⟩, 25) := ⟨⟨by decide +kernel, by decide +kernel⟩, List.mem_of_getElem? (i := 443) (by decide +kernel), List.mem_of_getElem? (i := 637) (by decide +kernel), List.mem_of_getElem? (i := 638) (by decide +kernel)⟩
theorem lw_p23 : lw_okq (⟨"FragileRulesModel", "placeOf", "(I)I"⟩, 25) := ⟨⟨by decide +kernel, by decide +kernel⟩, List.mem_of_getElem? (i := 443) (by decide +kernel), List.mem_of_getElem? (i := 641) (by decide +kernel), List.mem_of_getElem? (i := 642) (by decide +kernel)⟩
def lw_privs_2 : List (MethodName × Nat) := [(⟨"FragileRulesModel", "look", "()I"⟩, 25), (⟨"FragileRulesModel", "fail", "()V"⟩, 25), (⟨"FragileRulesModel", "take", "(I)V"⟩, 25), (⟨"FragileRulesModel", "digit", "(I)I"⟩, 25), (⟨"FragileRulesModel", "isUnit", "(I)Z"⟩, 25), (⟨"FragileRulesModel", "verdict", "()I"⟩, 25), (⟨"FragileRulesModel", "isNumber", "(I)Z"⟩, 25), (⟨"FragileRulesModel", "placeOf", "(I)I"⟩, 25)]
theorem lw_r2 : ∀ q ∈ lw_privs_2, lw_okq q := List.forall_mem_cons.mpr ⟨lw_p16, List.forall_mem_cons.mpr ⟨lw_p17, List.forall_mem_cons.mpr ⟨lw_p18, List.forall_mem_cons.mpr ⟨lw_p19, List.forall_mem_cons.mpr ⟨lw_p20, List.forall_mem_cons.mpr ⟨lw_p21, List.forall_mem_cons.mpr ⟨lw_p22, List.forall_mem_cons.mpr ⟨lw_p23, fun _ h => absurd h List.not_mem_nil⟩⟩⟩⟩⟩⟩⟩⟩
def lw_privs : List (MethodName × Nat) := lw_privs_1 ++ (lw_privs_2)
def lw_tbl : List Cond := k2_sels lw_privs ++ tables_1
theorem lw_privs_ok : ∀ q ∈ lw_privs, lw_okq q := by
  show ∀ q ∈ lw_privs_1 ++ (lw_privs_2), lw_okq q
  exact List.forall_mem_append.mpr ⟨lw_r1, lw_r2⟩
/-- the words that stay while the tables warm -/
def fr_tbl : List Cond := lw_tbl.filter goodWord
theorem fr_in {w : Cond} (i : Nat) (h : lw_tbl[i]? = some w) (hg : goodWord w = true) : w ∈ fr_tbl := List.mem_filter.mpr ⟨List.mem_of_getElem? h, hg⟩
theorem fr_tbl_good : ∀ w ∈ fr_tbl, goodWord w = true := fun _ h => (List.mem_filter.mp h).2
theorem fr_good {y : MethodName} {b : ByteArray} {n : Nat} {r : Option FieldType} (h : Cond.code y b n r ∈ fr_tbl) : GoodIn fr_tbl (.code y b n r :: fr_tbl) := by
  intro w hw
  rcases List.mem_cons.mp hw with rfl | hw
  · exact ⟨h, good_of_word (fr_tbl_good _ h)⟩
  · exact ⟨hw, good_of_word (fr_tbl_good _ hw)⟩
theorem fr_goodL {L ws : List Cond} (h : ∀ w ∈ L, w ∈ fr_tbl) (hw : GoodIn fr_tbl ws) : GoodIn fr_tbl (L ++ ws) := by
  intro w h1
  rcases List.mem_append.mp h1 with h1 | h1
  · exact ⟨h w h1, good_of_word (fr_tbl_good _ (h w h1))⟩
  · exact hw w h1
theorem fr_goodV {own C : String} {i n : Nat} {y : MethodName} {b : ByteArray} {r : Option FieldType} (h1 : Cond.methodLink own i y ∈ fr_tbl) (h2 : Cond.instanceMethod y ∈ fr_tbl) (h3 : Cond.selects C y y ∈ fr_tbl) (h4 : Cond.initialized C ∈ fr_tbl) (h5 : Cond.code y b n r ∈ fr_tbl) : GoodIn fr_tbl (wsV own i C y (.code y b n r :: fr_tbl)) :=
  fr_goodL (by intro w hw; simp only [List.mem_cons, List.not_mem_nil, or_false] at hw; rcases hw with rfl | rfl | rfl | rfl <;> assumption) (fr_good h5)
theorem fr_goodS {own : String} {i n : Nat} {y : MethodName} {b : ByteArray} {r : Option FieldType} (h1 : Cond.methodLink own i y ∈ fr_tbl) (h2 : Cond.static y ∈ fr_tbl) (h3 : Cond.initialized own ∈ fr_tbl) (h5 : Cond.code y b n r ∈ fr_tbl) : GoodIn fr_tbl (wsS own i y (.code y b n r :: fr_tbl)) :=
  fr_goodL (by intro w hw; simp only [List.mem_cons, List.not_mem_nil, or_false] at hw; rcases hw with rfl | rfl | rfl <;> assumption) (fr_good h5)
theorem fr_goodSS {own : String} {i n : Nat} {y : MethodName} {b : ByteArray} {r : Option FieldType} (h1 : Cond.methodLink own i y ∈ fr_tbl) (h2 : Cond.static y ∈ fr_tbl) (h3 : Cond.initialized y.cls ∈ fr_tbl) (h5 : Cond.code y b n r ∈ fr_tbl) : GoodIn fr_tbl (va_wsS own i y (.code y b n r :: fr_tbl)) :=
  fr_goodL (by intro w hw; simp only [List.mem_cons, List.not_mem_nil, or_false] at hw; rcases hw with rfl | rfl | rfl <;> assumption) (fr_good h5)
def TXF : u_T := fun k => match k with
  | 0 => ("FragileRules", "units", "[LFragileRules$Unit;", true)
  | 1 => ("FragileRules", "unitCount", "I", false)
  | 2 => ("FragileRules", "rules", "[LFragileRules$Rule;", true)
  | 3 => ("FragileRules", "ruleCount", "I", false)
  | 4 => ("FragileRules", "numbersInOrder", "[I", true)
  | 5 => ("FragileRules", "askedNumbers", "[I", true)
  | 6 => ("FragileRules", "askedCount", "I", false)
  | 7 => ("FragileRules", "text", "LFragileRules$Text;", true)
  | 8 => ("FragileRules", "verdictCount", "I", false)
  | _ => ("FragileRules", "refusedCount", "I", false)
def tyXF : Nat → FieldType := fun k => match k with
  | 0 => .array (.object "FragileRules$Unit")
  | 1 => .int
  | 2 => .array (.object "FragileRules$Rule")
  | 3 => .int
  | 4 => .array .int
  | 5 => .array .int
  | 6 => .int
  | 7 => .object "FragileRules$Text"
  | 8 => .int
  | _ => .int
theorem nmXF : ∀ a, a < 10 → ∀ b, b < 10 → a ≠ b → (TXF a).2.1 ≠ (TXF b).2.1 := by decide +kernel
theorem tokXF : ∀ k, k < 10 → parseFieldDescriptor (TXF k).2.2.1 = some (tyXF k) := by decide +kernel
theorem iXF : ∀ w ∈ u_ws "FragileRules" TXF 10, w ∈ fr_tbl := by decide +kernel
def TXU : u_T := fun k => match k with
  | 0 => ("FragileRules$Unit", "kind", "I", false)
  | 1 => ("FragileRules$Unit", "weight", "I", false)
  | _ => ("FragileRules$Unit", "marks", "I", false)
def tyXU : Nat → FieldType := fun k => match k with
  | 0 => .int
  | 1 => .int
  | _ => .int
theorem nmXU : ∀ a, a < 3 → ∀ b, b < 3 → a ≠ b → (TXU a).2.1 ≠ (TXU b).2.1 := by decide +kernel
theorem tokXU : ∀ k, k < 3 → parseFieldDescriptor (TXU k).2.2.1 = some (tyXU k) := by decide +kernel
theorem iXU : ∀ w ∈ u_ws "FragileRules$Unit" TXU 3, w ∈ fr_tbl := by decide +kernel
def TXR : u_T := fun k => match k with
  | 0 => ("FragileRules$Rule", "row", "I", false)
  | 1 => ("FragileRules$Rule", "a", "I", false)
  | 2 => ("FragileRules$Rule", "b", "I", false)
  | _ => ("FragileRules$Rule", "refusals", "I", false)
def tyXR : Nat → FieldType := fun k => match k with
  | 0 => .int
  | 1 => .int
  | 2 => .int
  | _ => .int
theorem nmXR : ∀ a, a < 4 → ∀ b, b < 4 → a ≠ b → (TXR a).2.1 ≠ (TXR b).2.1 := by decide +kernel
theorem tokXR : ∀ k, k < 4 → parseFieldDescriptor (TXR k).2.2.1 = some (tyXR k) := by decide +kernel
theorem iXR : ∀ w ∈ u_ws "FragileRules$Rule" TXR 4, w ∈ fr_tbl := by decide +kernel
def TXT : u_T := fun k => match k with
  | 0 => ("FragileRules$Text", "signs", "[I", true)
  | _ => ("FragileRules$Text", "length", "I", false)
def tyXT : Nat → FieldType := fun k => match k with
  | 0 => .array .int
  | _ => .int
theorem nmXT : ∀ a, a < 2 → ∀ b, b < 2 → a ≠ b → (TXT a).2.1 ≠ (TXT b).2.1 := by decide +kernel
theorem tokXT : ∀ k, k < 2 → parseFieldDescriptor (TXT k).2.2.1 = some (tyXT k) := by decide +kernel
theorem iXT : ∀ w ∈ u_ws "FragileRules$Text" TXT 2, w ∈ fr_tbl := by decide +kernel
def TXM : u_T := fun k => match k with
  | 0 => ("FragileRulesModel", "units", "I", false)
  | 1 => ("FragileRulesModel", "rules", "I", false)
  | 2 => ("FragileRulesModel", "signs", "I", false)
  | 3 => ("FragileRulesModel", "verdicts", "I", false)
  | 4 => ("FragileRulesModel", "refusals", "I", false)
  | 5 => ("FragileRulesModel", "thrown", "I", false)
  | 6 => ("FragileRulesModel", "kind", "[I", true)
  | 7 => ("FragileRulesModel", "weight", "[I", true)
  | 8 => ("FragileRulesModel", "marks", "[I", true)
  | 9 => ("FragileRulesModel", "row", "[I", true)
  | 10 => ("FragileRulesModel", "first", "[I", true)
  | 11 => ("FragileRulesModel", "second", "[I", true)
  | 12 => ("FragileRulesModel", "refused", "[I", true)
  | 13 => ("FragileRulesModel", "order", "[I", true)
  | 14 => ("FragileRulesModel", "text", "[I", true)
  | 15 => ("FragileRulesModel", "asked", "[I", true)
  | 16 => ("FragileRulesModel", "askedMany", "I", false)
  | 17 => ("FragileRulesModel", "question", "I", false)
  | 18 => ("FragileRulesModel", "below", "I", false)
  | 19 => ("FragileRulesModel", "above", "I", false)
  | 20 => ("FragileRulesModel", "place", "I", false)
  | 21 => ("FragileRulesModel", "mark", "I", false)
  | 22 => ("FragileRulesModel", "had", "I", false)
  | 23 => ("FragileRulesModel", "p", "I", false)
  | _ => ("FragileRulesModel", "bad", "I", false)
def tyXM : Nat → FieldType := fun k => match k with
  | 0 => .int
  | 1 => .int
  | 2 => .int
  | 3 => .int
  | 4 => .int
  | 5 => .int
  | 6 => .array .int
  | 7 => .array .int
  | 8 => .array .int
  | 9 => .array .int
  | 10 => .array .int
  | 11 => .array .int
  | 12 => .array .int
  | 13 => .array .int
  | 14 => .array .int
  | 15 => .array .int
  | 16 => .int
  | 17 => .int
  | 18 => .int
  | 19 => .int
  | 20 => .int
  | 21 => .int
  | 22 => .int
  | 23 => .int
  | _ => .int
theorem nmXM : ∀ a, a < 25 → ∀ b, b < 25 → a ≠ b → (TXM a).2.1 ≠ (TXM b).2.1 := by decide +kernel
theorem tokXM : ∀ k, k < 25 → parseFieldDescriptor (TXM k).2.2.1 = some (tyXM k) := by decide +kernel
theorem iXM : ∀ w ∈ u_ws "FragileRulesModel" TXM 25, w ∈ fr_tbl := by decide +kernel
abbrev vwCl : List vw_C := [("FragileRules", TXF, 10), ("FragileRules$Unit", TXU, 3), ("FragileRules$Rule", TXR, 4), ("FragileRules$Text", TXT, 2), ("FragileRulesModel", TXM, 25)]
end
section
/-! BASE: contracts between two worlds: from the cells w with the arguments As the method comes back with r, and the cells are w'. A world here is ALL the cells that the caller tells of: no cutting, no joining. -/
/-- words that stay by laws of their own -/
def fr_nest : Cond → Bool
  | .methodLinkNest .. => true
  | .declares _ => true
  | .castable .. => true
  | .arrayOver (.object _) => true
  | .not (.castable ..) => true
  | .stringRef .. => true
  | _ => false
theorem fr_nc_back {C T : String} {U : State} (h : va_Nc C T U) : va_Nw (.not (.castable C T)) U := by
  obtain ⟨c, t, h1, h2, h3⟩ := h
  simp [va_Nw, Cond.before, Cond.holds, Cond.value, h1, h2, h3]
theorem fr_str {own tx : String} {k cur : Nat} {A : Array Value} {U : State} (hown : U.vm.findClass own = some cur) (h : (Cond.stringRef own k tx).before A U = true) : ∃ a, vk_R own k tx a U := by
  obtain ⟨_, _, _, a, -, -, -, -, -, he⟩ := Cond.stringRef_spec hown h
  exact ⟨a, vk_R.of h he⟩
theorem fr_nest_warm {q : Cond} (h : fr_nest q = true) {s U : State} (hW : s.WarmedH U.vm) (hZ : va_Nw q s) : va_Nw q U := by
  unfold fr_nest at h
  split at h
  · exact va_Nw.warmM hW hZ
  · exact va_Nw.warmD hW hZ
  · exact va_Nw.warmC hW hZ
  · exact va_AO.moved hW.alike hZ
  · exact fr_nc_back ((va_Nc.of hZ).moved hW.alike)
  · rename_i own k tx
    cases hc : s.vm.findClass own with
    | none => simp [va_Nw, Cond.before, Cond.holds, Cond.value, hc] at hZ
    | some cur =>
      obtain ⟨a, hv⟩ := fr_str hc hZ
      exact (vk_R.warm hW hv).1
  · cases h
theorem fr_noHandlers {c : Code} (h : c.exceptionTable.isEmpty = true) : c.exceptionTable.toList = [] := by
  have h0 : c.exceptionTable.size = 0 := by simpa [Array.isEmpty] using h
  exact List.eq_nil_of_length_eq_zero (by simpa using h0)
theorem fr_ne {x k : Int32} {a : Int} (hk : k.toInt = a) (h : ¬ x = k) : x.toInt ≠ a := fun q => h (Int32.toInt_inj.mp (q.trans hk.symm))
section FRZ
/-- a static of Throwable that holds a reference or null, at a cell outside A -/
def fr_zf (n d : String) (A : Nat → Prop) (U : State) (H : Heap) : Prop := ∃ (c : ClassId) (k : Class) (i : Nat) (f : Field) (a : Nat) (cell : Cell) (v : Value),
  U.vm.findClass Bundle.tN = some c ∧ U.fieldFound? Bundle.tN n d = some (c, k, i, f) ∧ f.isStatic = true ∧ k.statics = some a ∧ H[a]? = some cell ∧ cell.vm.isStatics = true ∧ cell.cls = c ∧ f.slot < cell.slots.size ∧ k.staticTypes[f.slot]? = some f.type ∧ cell.slots[f.slot]? = some v ∧ (v = .null ∨ ∃ t, v = .ref t) ∧ ¬ A a
theorem fr_zf.moved {n d : String} {A : Nat → Prop} {u U : State} {H : Heap} (hvm : u.vm.Alike U.vm) (h : fr_zf n d A u H) : fr_zf n d A U H := by
  obtain ⟨c, k, i, f, a, cell, v, h1, h2, h3, h4, h5, h6, h7, h8, h9, h10⟩ := h
  obtain ⟨k', hi', he⟩ := State.fieldFound?_setVm hvm h2
  exact ⟨c, k', i, f, a, cell, v, by rw [hvm.findClass]; exact h1, hi', h3, by rw [he]; exact h4, h5, h6, h7, h8, by rw [he]; exact h9, h10⟩
theorem fr_zf.kept {n d : String} {A : Nat → Prop} {U : State} {H H1 : Heap} (h : fr_zf n d A U H) (hq : ∀ a : Nat, a < H.size → ¬ A a → H1[a]? = H[a]?) : fr_zf n d A U H1 := by
  obtain ⟨c, k, i, f, a, cell, v, h1, h2, h3, h4, h5, h6, h7, h8, h9, h10, h11, h12⟩ := h
  exact ⟨c, k, i, f, a, cell, v, h1, h2, h3, h4, by rw [hq a (Array.getElem?_eq_some_iff.mp h5).1 h12]; exact h5, h6, h7, h8, h9, h10, h11, h12⟩
theorem fr_zf.narrow {n d : String} {A B : Nat → Prop} {U : State} {H : Heap} (h : fr_zf n d A U H) (hAB : ∀ q, B q → A q) : fr_zf n d B U H := by
  obtain ⟨c, k, i, f, a, cell, v, h1, h2, h3, h4, h5, h6, h7, h8, h9, h10, h11, h12⟩ := h
  exact ⟨c, k, i, f, a, cell, v, h1, h2, h3, h4, h5, h6, h7, h8, h9, h10, h11, fun z => h12 (hAB a z)⟩
theorem fr_zf.of {args : Array Value} {s : State} {n d : String} {A : Nat → Prop} (hl : (Cond.laysStatic Bundle.tN n d).before args s = true) (hr : (Cond.isRef (.static Bundle.tN n d)).before args s = true) (hA : ∀ a : Nat, a < s.heap.size → ¬ A a) : fr_zf n d A s s.heap := by
  obtain ⟨c, k, i, f, a, cell, hc, hi, hst, ha, hcell, hs, hcls, hlt, hty⟩ := Cond.laysStatic_spec hl
  cases hv : (Term.static Bundle.tN n d).eval args s none [] s with
  | none => simp [Cond.before, Cond.holds, Cond.value, hv] at hr
  | some v =>
    obtain ⟨hst', a', cell', ha', hcell', -, hslot⟩ := Term.static_spec hi hv
    cases ha.symm.trans ha'
    cases hcell.symm.trans hcell'
    simp only [Cond.before, Cond.holds, Cond.value, hv] at hr
    refine ⟨c, k, i, f, a, cell, v, hc, hi, hst, ha, hcell, hs, hcls, hlt, hty, hslot, ?_, hA a (Array.getElem?_eq_some_iff.mp hcell).1⟩
    cases v with
    | null => exact Or.inl rfl
    | ref t => exact Or.inr ⟨t, rfl⟩
    | _ => simp at hr
theorem fr_zf.lays {args : Array Value} {s : State} {n d : String} {A : Nat → Prop} (h : fr_zf n d A s s.heap) : (Cond.laysStatic Bundle.tN n d).before args s = true := by
  obtain ⟨c, k, i, f, a, cell, v, h1, h2, h3, h4, h5, h6, h7, h8, h9, h10, h11, h12⟩ := h
  simp [Cond.before, Cond.holds, Cond.value, h1, h2, h3, h4, h5, h6, h7, h8, h9]
theorem fr_zf.isRef {args : Array Value} {s : State} {n d : String} {A : Nat → Prop} (h : fr_zf n d A s s.heap) : (Cond.isRef (.static Bundle.tN n d)).before args s = true := by
  obtain ⟨c, k, i, f, a, cell, v, h1, h2, h3, h4, h5, h6, h7, h8, h9, h10, h11, h12⟩ := h
  rcases h11 with rfl | ⟨t, rfl⟩ <;> simp [Cond.before, Cond.holds, Cond.value, Term.eval, State.fieldNamed?, h2, h3, h4, h5, h6, h10]
end FRZ
/-- what every contract asks of Throwable's statics: no method of ours writes them -/
def fr_zz (A : Nat → Prop) (U : State) (H : Heap) : Prop := fr_zf "UNASSIGNED_STACK" Bundle.steD A U H ∧ fr_zf "SUPPRESSED_SENTINEL" Bundle.listD A U H
section FRB
variable {p : Program} {l : Launch} {e : Env} {R : Room} {s : State} {m : MethodId} {args : Array Value} {below : List Frame} {meth : Method} {c : Code} {H : Heap} {locs : List Loc} {cells slots : Nat} {Q : State → Prop}
variable {D : va_G} {cl : List vw_C} {tys : List (ClassId × FieldType)} {A : Nat → Prop} {nw tbl : List Cond}
/-- what a contract asks of its start -/
def fr_Pre (D : va_G) (cl : List vw_C) (tys : List (ClassId × FieldType)) (nw : List Cond) (w : va_W) (sz : Nat) (U : State) : Prop :=
  U.heap.size = sz ∧ va_P D cl w U.heap ∧ va_K D cl tys U ∧ va_D (fun _ => True) w ∧ (∀ q ∈ nw, fr_nest q = true ∧ va_Nw q U) ∧ fr_zz (va_A w sz) U U.heap
/-- what it says of its end -/
def fr_End (D : va_G) (cl : List vw_C) (tys : List (ClassId × FieldType)) (w : va_W) (A : Nat → Prop) (_ : Unit) (t : State) : Prop := va_P D cl w t.heap ∧ va_K D cl tys t ∧ va_D A w
def fr_Qi (D : va_G) (cl : List vw_C) (tys : List (ClassId × FieldType)) (r : Int32) (w : va_W) (A : Nat → Prop) : Array Value → State → Outcome → State → Prop := va_Qi (fun r' (_ : Unit) => r' = r) (fr_End D cl tys w A) A
def fr_Qv (D : va_G) (cl : List vw_C) (tys : List (ClassId × FieldType)) (w : va_W) (A : Nat → Prop) : Array Value → State → Outcome → State → Prop := va_Qv (fun (_ : Unit) => True) (fr_End D cl tys w A) A
def fr_Mi (l : Launch) (y : MethodName) (ws : List Cond) (rm : Room) (D : va_G) (cl : List vw_C) (tys : List (ClassId × FieldType)) (nw : List Cond) (As : List Value) (w : va_W) (r : Int32) (w' : va_W) (mc ms : Nat) : Prop :=
  ∀ sz : Nat, Met l y ws rm (va_Pc As (fr_Pre D cl tys nw w sz)) (fr_Qi D cl tys r w' (va_A w sz)) mc ms (va_A w sz)
def fr_Mv (l : Launch) (y : MethodName) (ws : List Cond) (rm : Room) (D : va_G) (cl : List vw_C) (tys : List (ClassId × FieldType)) (nw : List Cond) (As : List Value) (w : va_W) (w' : va_W) (mc ms : Nat) : Prop :=
  ∀ sz : Nat, Met l y ws rm (va_Pc As (fr_Pre D cl tys nw w sz)) (fr_Qv D cl tys w' (va_A w sz)) mc ms (va_A w sz)
theorem fr_blind {As : List Value} {w : va_W} {sz : Nat} : FrameBlind (va_Pc As (fr_Pre D cl tys nw w sz)) := fun a U g mk q => by
  obtain ⟨q0, q1, qP, qK, qD, qN, qZ⟩ := q
  exact ⟨q0, q1, qP, va_K.moved (u := U) (U := U.calling g mk a) (Vm.Alike.refl U.vm) qK, qD, fun z hz => ⟨(qN z hz).1, fr_nest_warm (qN z hz).1 (s := U) (U := U.calling g mk a) (State.WarmedH.refl U) (qN z hz).2⟩,
    qZ.1.moved (u := U) (U := U.calling g mk a) (Vm.Alike.refl U.vm), qZ.2.moved (u := U) (U := U.calling g mk a) (Vm.Alike.refl U.vm)⟩
/-- the facts that stand through a method's walk -/
def fr_Cx (p : Program) (s : State) (m : MethodId) (args : Array Value) (meth : Method) (c : Code) (own : String) (cc : ByteArray) (maxL : Nat) (ret : Option FieldType) (hh : List ExceptionTableEntry) (tbl nw : List Cond) (D : va_G) (cl : List vw_C) (tys : List (ClassId × FieldType)) (A : Nat → Prop) : Prop :=
  p.tables.exec = Jvm.exec ∧ c.code = cc ∧ c.maxLocals = maxL ∧ s.vm.findClass own = some m.cls ∧ (∀ w ∈ tbl, w.before args s = true) ∧ va_K D cl tys s ∧ meth.locks = false ∧ meth.sig.returnType = ret ∧ (∀ q : Nat, s.heap.size ≤ q → A q) ∧ (∀ q ∈ nw, fr_nest q = true ∧ va_Nw q s) ∧ fr_zz A s s.heap ∧ c.exceptionTable.toList = hh
theorem fr_Mi.of {y : MethodName} {rm : Room} {As : List Value} {w : va_W} {r : Int32} {w' : va_W} {mc ms : Nat} {cc : ByteArray} {maxL : Nat} {ret : Option FieldType} (hy : plainName y.cls = true) (hnL : (lg_sl As).length ≤ maxL)
    (body : ∀ (p : Program) (e : Env) (s : State) (m : MethodId) (below : List Frame) (meth : Method) (c : Code) (A : Nat → Prop) (H : Heap) (locs : List Loc) (ls : Array Slot), fr_Cx p s m As.toArray meth c y.cls cc maxL ret [] tbl nw D cl tys A → va_P D cl w H → va_D A w → va_S A s.heap H locs → lv_has ls maxL (lv_args 0 As) →
      W p l e rm s m As.toArray below meth c H locs 0 0 (MQ below (fr_Qi D cl tys r w' A) As.toArray s mc ms A) (F0 m 0 ls [])) : fr_Mi l y (.code y cc maxL ret :: tbl) rm D cl tys nw As w r w' mc ms := by
  intro sz
  refine Met.ofW (cc := cc) (maxL := maxL) (ret := ret) hy rfl ?_
  intro p e s m args below meth c s₁ B hml hv
  obtain ⟨rfl, hsz, hP, hK, hD0, hN, hZ⟩ := hv
  subst hsz
  have hts := atoms_spec (ws := .code y cc maxL ret :: tbl) B.pre
  rw [lg_entry_eq]
  exact body p e s m below meth c (va_A w s.heap.size) s.heap [] _ ⟨B.exec, B.bytes, hml, findClass_of_methodNamed B.named, fun z hz => hts z (List.mem_cons_of_mem _ hz), hK, B.notSynchronized, B.returns, fun q h => Or.inr h, hN, hZ, fr_noHandlers (B.noHandlers (hts _ List.mem_cons_self))⟩ hP hD0.self va_S.rf (lv_entry As hnL)
theorem fr_Mv.of {y : MethodName} {rm : Room} {As : List Value} {w : va_W} {w' : va_W} {mc ms : Nat} {cc : ByteArray} {maxL : Nat} {ret : Option FieldType} (hy : plainName y.cls = true) (hnL : (lg_sl As).length ≤ maxL)
    (body : ∀ (p : Program) (e : Env) (s : State) (m : MethodId) (below : List Frame) (meth : Method) (c : Code) (A : Nat → Prop) (H : Heap) (locs : List Loc) (ls : Array Slot), fr_Cx p s m As.toArray meth c y.cls cc maxL ret [] tbl nw D cl tys A → meth.name = y.name → va_P D cl w H → va_D A w → va_S A s.heap H locs → lv_has ls maxL (lv_args 0 As) →
      W p l e rm s m As.toArray below meth c H locs 0 0 (MQ below (fr_Qv D cl tys w' A) As.toArray s mc ms A) (F0 m 0 ls [])) : fr_Mv l y (.code y cc maxL ret :: tbl) rm D cl tys nw As w w' mc ms := by
  intro sz
  refine Met.ofW (cc := cc) (maxL := maxL) (ret := ret) hy rfl ?_
  intro p e s m args below meth c s₁ B hml hv
  obtain ⟨rfl, hsz, hP, hK, hD0, hN, hZ⟩ := hv
  subst hsz
  have hts := atoms_spec (ws := .code y cc maxL ret :: tbl) B.pre
  rw [lg_entry_eq]
  exact body p e s m below meth c (va_A w s.heap.size) s.heap [] _ ⟨B.exec, B.bytes, hml, findClass_of_methodNamed B.named, fun z hz => hts z (List.mem_cons_of_mem _ hz), hK, B.notSynchronized, B.returns, fun q h => Or.inr h, hN, hZ, fr_noHandlers (B.noHandlers (hts _ List.mem_cons_self))⟩ (name_of_methodNamed B.named B.method).1 hP hD0.self va_S.rf (lv_entry As hnL)
variable {own : String} {cc : ByteArray} {nL pc : Nat} {ret : Option FieldType} {hh : List ExceptionTableEntry} {ls : Array Slot} {w w' : va_W} {st0 rest : List Value}
theorem fr_iret {v r : Int32} (C : fr_Cx p s m args meth c own cc nL (some .int) hh tbl nw D cl tys A) (hP : va_P D cl w H) (hD : va_D A w) (hS : va_S A s.heap H locs) (hv : v = r) (hdg : decode cc pc = .ok (.ireturn, 1)) :
    W p l e R s m args below meth c H locs cells slots (MQ below (fr_Qi D cl tys r w A) args s cells slots A) (F0 m pc ls [.int v]) := by
  obtain ⟨hx, hb, hml, hown, ht, hK, hlocks, hr, hA, hN, hZ, hT⟩ := C
  exact W.iret (v := v) hx hb hr (fun t ht hW => ⟨⟨v, (), rfl, hv, by rw [ht]; exact hP, va_K.moved hW.alike hK, hD⟩, hS.F ht⟩) hS.2.2 hdg hlocks
theorem fr_zret {v r : Int32} (C : fr_Cx p s m args meth c own cc nL (some .boolean) hh tbl nw D cl tys A) (hP : va_P D cl w H) (hD : va_D A w) (hS : va_S A s.heap H locs) (hv : v = r) (hn : v = 0 ∨ v = 1) (hdg : decode cc pc = .ok (.ireturn, 1)) :
    W p l e R s m args below meth c H locs cells slots (MQ below (fr_Qi D cl tys r w A) args s cells slots A) (F0 m pc ls [.int v]) := by
  obtain ⟨hx, hb, hml, hown, ht, hK, hlocks, hr, hA, hN, hZ, hT⟩ := C
  exact W.zret (v := v) hx hb hr (by rcases hn with rfl | rfl <;> rfl) (fun t ht hW => ⟨⟨v, (), rfl, hv, by rw [ht]; exact hP, va_K.moved hW.alike hK, hD⟩, hS.F ht⟩) hS.2.2 hdg hlocks
theorem fr_vret (C : fr_Cx p s m args meth c own cc nL none hh tbl nw D cl tys A) (hP : va_P D cl w H) (hD : va_D A w) (hS : va_S A s.heap H locs) (hdg : decode cc pc = .ok (.return_, 1)) :
    W p l e R s m args below meth c H locs cells slots (MQ below (fr_Qv D cl tys w A) args s cells slots A) (F0 m pc ls []) := by
  obtain ⟨hx, hb, hml, hown, ht, hK, hlocks, hr, hA, hN, hZ, hT⟩ := C
  exact W.vret hx hb hr (fun t ht hW => ⟨⟨(), rfl, trivial, by rw [ht]; exact hP, va_K.moved hW.alike hK, hD⟩, hS.F ht⟩) hS.2.2 hdg hlocks
theorem fr_free (hA : ∀ q : Nat, s.heap.size ≤ q → A q) (hD : va_D A w) (hS : va_S A s.heap H locs) : ∀ q, va_A w H.size q → A q := by
  intro q h
  rcases h with ⟨k, e0, h⟩ | h
  · exact hD.2 k _ h
  · exact hA q (Nat.le_trans hS.1 h)
variable {y : MethodName} {bytes : ByteArray} {maxL n index mc ms : Nat} {rty : Option FieldType} {ws : List Cond} {rm : Room} {C0 : String} {b : Addr} {As : List Value} {r : Int32} {host : String}
/-- the start of a callee's contract, at the caller's heap -/
theorem fr_pre (C : fr_Cx p s m args meth c own cc nL ret hh tbl nw D cl tys A) (hP : va_P D cl w H) (hD : va_D A w) (hS : va_S A s.heap H locs) : ∀ U : State, U.heap = H → s.WarmedH U.vm → va_Pc As (fr_Pre D cl tys nw w H.size) As.toArray U := by
  obtain ⟨hx, hb, hml, hown, ht, hK, hlocks, hr, hA, hN, hZ, hT⟩ := C
  exact fun U hU hW => ⟨rfl, by rw [hU], by rw [hU]; exact hP, va_K.moved hW.alike hK, hD.weaken (fun _ _ _ _ => trivial), fun q hq => ⟨(hN q hq).1, fr_nest_warm (hN q hq).1 hW (hN q hq).2⟩,
    by rw [hU]; exact ⟨((hZ.1.kept hS.2.1).narrow (fr_free hA hD hS)).moved hW.alike, ((hZ.2.kept hS.2.1).narrow (fr_free hA hD hS)).moved hW.alike⟩⟩
theorem fr_backi (C : fr_Cx p s m args meth c own cc nL ret hh tbl nw D cl tys A) (hD : va_D A w) (hS : va_S A s.heap H locs)
    (hr : va_Run p l e R s m args below meth c H locs cells slots mc ms (F0 m pc ls st0) rest (fr_Qi D cl tys r w' (va_A w H.size) As.toArray) (va_A w H.size))
    (kk : ∀ (H : Heap) (locs : List Loc), va_P D cl w' H → va_D A w' → va_S A s.heap H locs → W p l e R s m args below meth c H locs (cells + mc) (slots + ms) Q (F0 m (pc + 3) ls (.int r :: rest))) : W p l e R s m args below meth c H locs cells slots Q (F0 m pc ls st0) := by
  have hFc := fr_free C.2.2.2.2.2.2.2.2.1 hD hS
  refine va_calli (post := fun r' (_ : Unit) => r' = r) (B := fr_End D cl tys w' (va_A w H.size)) (A1 := va_A w H.size) hr hS (fun q _ h => hFc q h) hFc (fun r' u t H1 locs1 ht hvm hw hB hz hk hS1 => ?_)
  obtain ⟨hP1, hK1, hD1⟩ := hB
  rw [ht] at hP1
  subst hw
  exact kk H1 locs1 hP1 (hD1.weaken (fun _ _ _ h => hFc _ h)) hS1
theorem fr_backv (C : fr_Cx p s m args meth c own cc nL ret hh tbl nw D cl tys A) (hD : va_D A w) (hS : va_S A s.heap H locs)
    (hr : va_Run p l e R s m args below meth c H locs cells slots mc ms (F0 m pc ls st0) rest (fr_Qv D cl tys w' (va_A w H.size) As.toArray) (va_A w H.size))
    (kk : ∀ (H : Heap) (locs : List Loc), va_P D cl w' H → va_D A w' → va_S A s.heap H locs → W p l e R s m args below meth c H locs (cells + mc) (slots + ms) Q (F0 m (pc + 3) ls rest)) : W p l e R s m args below meth c H locs cells slots Q (F0 m pc ls st0) := by
  have hFc := fr_free C.2.2.2.2.2.2.2.2.1 hD hS
  refine va_callv (post := fun (_ : Unit) => True) (B := fr_End D cl tys w' (va_A w H.size)) (A1 := va_A w H.size) hr hS (fun q _ h => hFc q h) hFc (fun u t H1 locs1 ht hvm hw hB hz hk hS1 => ?_)
  obtain ⟨hP1, hK1, hD1⟩ := hB
  rw [ht] at hP1
  exact kk H1 locs1 hP1 (hD1.weaken (fun _ _ _ h => hFc _ h)) hS1
theorem fr_callVi (C : fr_Cx p s m args meth c own cc nL ret hh tbl nw D cl tys A) (hP : va_P D cl w H) (hD : va_D A w) (hS : va_S A s.heap H locs) (hM : fr_Mi l y ws rm D cl tys nw (.ref b :: As) w r w' mc ms) (cw : CallW R s args own C0 index y bytes maxL rty ws rm mc ms n)
    (hrecv : ∃ cellB : Cell, H[b]? = some cellB ∧ cellB.vm.isStatics = false ∧ s.vm.findClass C0 = some cellB.cls) (hn : As.length = n) (hsz : ls.size = nL) (hW : (rest.map fun v => v.category).sum ≤ 8) (hdg : decode cc pc = .ok (.invokevirtual index, 3)) (hf : cells + mc ≤ R.cells ∧ slots + ms ≤ R.slots)
    (kk : ∀ (H : Heap) (locs : List Loc), va_P D cl w' H → va_D A w' → va_S A s.heap H locs → W p l e R s m args below meth c H locs (cells + mc) (slots + ms) Q (F0 m (pc + 3) ls (.int r :: rest))) : W p l e R s m args below meth c H locs cells slots Q (F0 m pc ls (As.reverse ++ .ref b :: rest)) :=
  fr_backi C hD hS (va_runV (As := As) (rest := rest) ⟨C.1, C.2.1, C.2.2.1, C.2.2.2.1, C.2.2.2.2.1⟩ (hM H.size) cw ⟨fr_blind, hrecv, fr_pre C hP hD hS⟩ rfl hn hsz rfl (lv_room hW) hdg hf) kk
theorem fr_callVv (C : fr_Cx p s m args meth c own cc nL ret hh tbl nw D cl tys A) (hP : va_P D cl w H) (hD : va_D A w) (hS : va_S A s.heap H locs) (hM : fr_Mv l y ws rm D cl tys nw (.ref b :: As) w w' mc ms) (cw : CallW R s args own C0 index y bytes maxL rty ws rm mc ms n)
    (hrecv : ∃ cellB : Cell, H[b]? = some cellB ∧ cellB.vm.isStatics = false ∧ s.vm.findClass C0 = some cellB.cls) (hn : As.length = n) (hsz : ls.size = nL) (hW : (rest.map fun v => v.category).sum ≤ 8) (hdg : decode cc pc = .ok (.invokevirtual index, 3)) (hf : cells + mc ≤ R.cells ∧ slots + ms ≤ R.slots)
    (kk : ∀ (H : Heap) (locs : List Loc), va_P D cl w' H → va_D A w' → va_S A s.heap H locs → W p l e R s m args below meth c H locs (cells + mc) (slots + ms) Q (F0 m (pc + 3) ls rest)) : W p l e R s m args below meth c H locs cells slots Q (F0 m pc ls (As.reverse ++ .ref b :: rest)) :=
  fr_backv C hD hS (va_runV (As := As) (rest := rest) ⟨C.1, C.2.1, C.2.2.1, C.2.2.2.1, C.2.2.2.2.1⟩ (hM H.size) cw ⟨fr_blind, hrecv, fr_pre C hP hD hS⟩ rfl hn hsz rfl (lv_room hW) hdg hf) kk
theorem fr_callSi (C : fr_Cx p s m args meth c own cc nL ret hh tbl nw D cl tys A) (hP : va_P D cl w H) (hD : va_D A w) (hS : va_S A s.heap H locs) (hM : fr_Mi l y ws rm D cl tys nw As w r w' mc ms) (cw : CallB R s args own index y bytes maxL rty ws rm mc ms n ∧ (Cond.static y).before args s = true)
    (hn : As.length = n) (hsz : ls.size = nL) (hW : (rest.map fun v => v.category).sum ≤ 8) (hdg : decode cc pc = .ok (.invokestatic index, 3)) (hf : cells + mc ≤ R.cells ∧ slots + ms ≤ R.slots)
    (kk : ∀ (H : Heap) (locs : List Loc), va_P D cl w' H → va_D A w' → va_S A s.heap H locs → W p l e R s m args below meth c H locs (cells + mc) (slots + ms) Q (F0 m (pc + 3) ls (.int r :: rest))) : W p l e R s m args below meth c H locs cells slots Q (F0 m pc ls (As.reverse ++ rest)) :=
  fr_backi C hD hS (va_runS (As := As) (rest := rest) ⟨C.1, C.2.1, C.2.2.1, C.2.2.2.1, C.2.2.2.2.1⟩ (hM H.size) cw ⟨fr_blind, fr_pre C hP hD hS⟩ rfl hn hsz rfl (lv_room hW) hdg hf) kk
theorem fr_callSv (C : fr_Cx p s m args meth c own cc nL ret hh tbl nw D cl tys A) (hP : va_P D cl w H) (hD : va_D A w) (hS : va_S A s.heap H locs) (hM : fr_Mv l y ws rm D cl tys nw As w w' mc ms) (cw : CallB R s args own index y bytes maxL rty ws rm mc ms n ∧ (Cond.static y).before args s = true)
    (hn : As.length = n) (hsz : ls.size = nL) (hW : (rest.map fun v => v.category).sum ≤ 8) (hdg : decode cc pc = .ok (.invokestatic index, 3)) (hf : cells + mc ≤ R.cells ∧ slots + ms ≤ R.slots)
    (kk : ∀ (H : Heap) (locs : List Loc), va_P D cl w' H → va_D A w' → va_S A s.heap H locs → W p l e R s m args below meth c H locs (cells + mc) (slots + ms) Q (F0 m (pc + 3) ls rest)) : W p l e R s m args below meth c H locs cells slots Q (F0 m pc ls (As.reverse ++ rest)) :=
  fr_backv C hD hS (va_runS (As := As) (rest := rest) ⟨C.1, C.2.1, C.2.2.1, C.2.2.2.1, C.2.2.2.2.1⟩ (hM H.size) cw ⟨fr_blind, fr_pre C hP hD hS⟩ rfl hn hsz rfl (lv_room hW) hdg hf) kk
theorem fr_callSNi (C : fr_Cx p s m args meth c own cc nL ret hh tbl nw D cl tys A) (hP : va_P D cl w H) (hD : va_D A w) (hS : va_S A s.heap H locs) (hM : fr_Mi l y ws rm D cl tys nw As w r w' mc ms) (cw : va_CN R s args own index y host bytes maxL rty ws rm mc ms n ∧ (Cond.static y).before args s = true ∧ True)
    (hn : As.length = n) (hsz : ls.size = nL) (hW : (rest.map fun v => v.category).sum ≤ 8) (hdg : decode cc pc = .ok (.invokestatic index, 3)) (hf : cells + mc ≤ R.cells ∧ slots + ms ≤ R.slots)
    (kk : ∀ (H : Heap) (locs : List Loc), va_P D cl w' H → va_D A w' → va_S A s.heap H locs → W p l e R s m args below meth c H locs (cells + mc) (slots + ms) Q (F0 m (pc + 3) ls (.int r :: rest))) : W p l e R s m args below meth c H locs cells slots Q (F0 m pc ls (As.reverse ++ rest)) :=
  fr_backi C hD hS (va_runSN (As := As) (rest := rest) ⟨C.1, C.2.1, C.2.2.1, C.2.2.2.1, C.2.2.2.2.1⟩ (hM H.size) cw ⟨fr_blind, fr_pre C hP hD hS⟩ rfl hn hsz rfl (lv_room hW) hdg hf) kk
theorem fr_callINv (C : fr_Cx p s m args meth c own cc nL ret hh tbl nw D cl tys A) (hP : va_P D cl w H) (hD : va_D A w) (hS : va_S A s.heap H locs) (hM : fr_Mv l y ws rm D cl tys nw (.ref b :: As) w w' mc ms) (cw : va_CN R s args own index y host bytes maxL none ws rm mc ms n ∧ y.name = "<init>" ∧ (Cond.instanceMethod y).before args s = true)
    (hn : As.length = n) (hsz : ls.size = nL) (hW : (rest.map fun v => v.category).sum ≤ 8) (hdg : decode cc pc = .ok (.invokespecial index, 3)) (hf : cells + mc ≤ R.cells ∧ slots + ms ≤ R.slots)
    (kk : ∀ (H : Heap) (locs : List Loc), va_P D cl w' H → va_D A w' → va_S A s.heap H locs → W p l e R s m args below meth c H locs (cells + mc) (slots + ms) Q (F0 m (pc + 3) ls rest)) : W p l e R s m args below meth c H locs cells slots Q (F0 m pc ls (As.reverse ++ .ref b :: rest)) :=
  fr_backv C hD hS (va_runIN (As := As) (rest := rest) ⟨C.1, C.2.1, C.2.2.1, C.2.2.2.1, C.2.2.2.2.1⟩ (hM H.size) cw ⟨fr_blind, fr_pre C hP hD hS⟩ rfl hn hsz rfl (lv_room hW) hdg hf) kk
theorem fr_callIv (C : fr_Cx p s m args meth c own cc nL ret hh tbl nw D cl tys A) (hP : va_P D cl w H) (hD : va_D A w) (hS : va_S A s.heap H locs) (hM : fr_Mv l y ws rm D cl tys nw (.ref b :: As) w w' mc ms) (cw : CallB R s args own index y bytes maxL none ws rm mc ms n ∧ y.name = "<init>" ∧ (Cond.instanceMethod y).before args s = true)
    (hn : As.length = n) (hsz : ls.size = nL) (hW : (rest.map fun v => v.category).sum ≤ 8) (hdg : decode cc pc = .ok (.invokespecial index, 3)) (hf : cells + mc ≤ R.cells ∧ slots + ms ≤ R.slots)
    (kk : ∀ (H : Heap) (locs : List Loc), va_P D cl w' H → va_D A w' → va_S A s.heap H locs → W p l e R s m args below meth c H locs (cells + mc) (slots + ms) Q (F0 m (pc + 3) ls rest)) : W p l e R s m args below meth c H locs cells slots Q (F0 m pc ls (As.reverse ++ .ref b :: rest)) :=
  fr_backv C hD hS (va_runI (As := As) (rest := rest) ⟨C.1, C.2.1, C.2.2.1, C.2.2.2.1, C.2.2.2.2.1⟩ (hM H.size) cw ⟨fr_blind, fr_pre C hP hD hS⟩ rfl hn hsz rfl (lv_room hW) hdg hf) kk
end FRB
end
section
/-! THE CLASS's WORLD. Its numbers are one function f: row 0: 0 unitCount, 1 ruleCount, 2 askedCount, 3 verdictCount, 4 refusedCount, 5 text.length; rows 1, 2, 3: a unit's kind, weight, marks; 4, 5, 6, 7: a rule's row, a, b, refusals; 8 the order, 9 what was asked, 10 the signs.
Its addresses are one function al: 0 the object, 1 units, 2 rules, 3 order, 4 asked, 5 the text, 6 its signs, 7 + i unit i, 17 + i rule i. ka: the array classes' numbers: 0 of units, 1 of rules, 2 of ints, 3 of longs. -/
def fr_up (f : Nat → Nat → Int32) (r k : Nat) (v : Int32) : Nat → Nat → Int32 := fun r' k' => if r' = r ∧ k' = k then v else f r' k'
def fr_uc (al : Nat → Nat) (f : Nat → Nat → Int32) (i : Nat) : Nat × va_E := (al (7 + i), .inr (1, [.int (f 1 i), .int (f 2 i), .int (f 3 i)]))
def fr_rc (al : Nat → Nat) (f : Nat → Nat → Int32) (i : Nat) : Nat × va_E := (al (17 + i), .inr (2, [.int (f 4 i), .int (f 5 i), .int (f 6 i), .int (f 7 i)]))
def fr_oc (al : Nat → Nat) (f : Nat → Nat → Int32) : Nat × va_E := (al 0, .inr (0, [.ref (al 1), .int (f 0 0), .ref (al 2), .int (f 0 1), .ref (al 3), .ref (al 4), .int (f 0 2), .ref (al 5), .int (f 0 3), .int (f 0 4)]))
def fr_tc (al : Nat → Nat) (f : Nat → Nat → Int32) : Nat × va_E := (al 5, .inr (3, [.ref (al 6), .int (f 0 5)]))
def fr_ia (c : ClassId) (n a : Nat) (f : Nat → Int32) : Nat × va_E := (a, .inl (c, n, .inl f))
def fr_qa (c : ClassId) (n a : Nat) (g : Nat → Option Nat) : Nat × va_E := (a, .inl (c, n, .inr (.inr (.inr (.inr g)))))
def fr_cw (ka : Nat → ClassId) (al : Nat → Nat) (f : Nat → Nat → Int32) (Z : va_W) : va_W :=
  fr_oc al f :: fr_qa (ka 0) 10 (al 1) (fun i => some (al (7 + i))) :: fr_qa (ka 1) 12 (al 2) (fun i => some (al (17 + i))) :: fr_ia (ka 2) 12 (al 3) (fun j => f 8 j) :: fr_ia (ka 2) 12 (al 4) (fun j => f 9 j) :: fr_tc al f :: fr_ia (ka 2) 200 (al 6) (fun j => f 10 j) ::
    ((List.range 10).map (fr_uc al f) ++ ((List.range 12).map (fr_rc al f) ++ Z))
theorem fr_cw_u {ka : Nat → ClassId} {al : Nat → Nat} {f : Nat → Nat → Int32} {Z : va_W} {i : Nat} (h : i < 10) : (fr_cw ka al f Z)[7 + i]? = some (fr_uc al f i) := by
  rw [show 7 + i = i + 7 from Nat.add_comm _ _]
  show ((List.range 10).map (fr_uc al f) ++ ((List.range 12).map (fr_rc al f) ++ Z))[i]? = _
  rw [List.getElem?_append_left (by simpa using h)]
  simp [List.getElem?_range, h]
theorem fr_cw_r {ka : Nat → ClassId} {al : Nat → Nat} {f : Nat → Nat → Int32} {Z : va_W} {i : Nat} (h : i < 12) : (fr_cw ka al f Z)[17 + i]? = some (fr_rc al f i) := by
  rw [show 17 + i = (i + 10) + 7 from by omega]
  show ((List.range 10).map (fr_uc al f) ++ ((List.range 12).map (fr_rc al f) ++ Z))[i + 10]? = _
  rw [List.getElem?_append_right (by simp), List.getElem?_append_left (by simpa using h)]
  simp [List.getElem?_range, h]
/-- a cell of a row of cells is written: the row of the new numbers -/
theorem fr_map_set {β : Type} (F G : Nat → β) (n i : Nat) (h : i < n) (hne : ∀ j, j ≠ i → F j = G j) : ((List.range n).map F).set i (G i) = (List.range n).map G := by
  apply List.ext_getElem?
  intro j
  by_cases hj : j = i
  · subst hj
    rw [List.getElem?_set_self (by simpa using h)]
    simp [List.getElem?_range, h]
  · rw [List.getElem?_set_ne (Ne.symm hj)]
    simp only [List.getElem?_map]
    by_cases hl : j < n
    · simp [List.getElem?_range, hl, hne j hj]
    · simp [List.getElem?_range, hl]
theorem fr_up_s {f : Nat → Nat → Int32} {r k : Nat} {v : Int32} : fr_up f r k v r k = v := by simp [fr_up]
theorem fr_up_r {f : Nat → Nat → Int32} {r k r' k' : Nat} {v : Int32} (h : r' ≠ r) : fr_up f r k v r' k' = f r' k' := by simp [fr_up, h]
theorem fr_up_k {f : Nat → Nat → Int32} {r k r' k' : Nat} {v : Int32} (h : k' ≠ k) : fr_up f r k v r' k' = f r' k' := by simp [fr_up, h]
/-! NUMBERS -/
theorem fr_t1 {x y : Int32} (h : x < y) : x.toInt < y.toInt := Int32.lt_iff_toInt_lt.mp h
theorem fr_t2 {x y : Int32} (h : ¬ x < y) : y.toInt ≤ x.toInt := by rw [Int32.lt_iff_toInt_lt] at h; omega
theorem fr_t3 {x y : Int32} (h : x ≤ y) : x.toInt ≤ y.toInt := Int32.le_iff_toInt_le.mp h
theorem fr_t4 {x y : Int32} (h : ¬ x ≤ y) : y.toInt < x.toInt := by rw [Int32.le_iff_toInt_le] at h; omega
theorem fr_t5 {x y : Int32} (h : x = y) : x.toInt = y.toInt := by rw [h]
theorem fr_t6 {x y : Int32} (h : ¬ x = y) : x.toInt ≠ y.toInt := fun q => h (Int32.toInt_inj.mp q)
theorem fr_no {P : Prop} {Q : Prop} (h : P) (g : ¬ P) : Q := absurd h g
theorem fr_lt {x : Int32} {n : Nat} (h : vp_in x n) : x.toNatClampNeg < n := Nat.not_le.mp fun q => h (Or.inr q)
theorem fr_clamp {x : Int32} (h : 0 ≤ x.toInt) : (x.toNatClampNeg : Int) = x.toInt := Int.toNat_of_nonneg h
theorem fr_sub1 {x : Int32} (h : 1 ≤ x.toInt) : (x - 1).toInt = x.toInt - 1 := by
  have h1 := x.toInt_lt
  rw [Int32.toInt_sub, show (1 : Int32).toInt = 1 from rfl, Int.bmod_def]
  split <;> omega
theorem fr_add1 {x : Int32} (h0 : 0 ≤ x.toInt) (h : x.toInt < 2147483647) : (x + 1).toInt = x.toInt + 1 := by
  rw [Int32.toInt_add, show (1 : Int32).toInt = 1 from rfl, Int.bmod_def]
  split <;> omega
theorem fr_step {x B : Int32} {b : Int} {n : Nat} (hB : B.toInt = b) (c : ¬ B ≤ x) (h : 0 ≤ x.toInt ∧ x.toInt ≤ b ∧ b < x.toInt + ((n + 1 : Nat) : Int)) : 0 ≤ (x + 1).toInt ∧ (x + 1).toInt ≤ b ∧ b < (x + 1).toInt + (n : Int) := by
  have h1 := fr_t4 c
  have h2 := B.toInt_lt
  have h3 := fr_add1 (x := x) h.1 (by omega)
  omega
theorem fr_start {B : Int32} {k : Int} {n : Nat} (h : 0 ≤ B.toInt ∧ B.toInt ≤ k) (hk : k < (n : Int)) : 0 ≤ (0 : Int32).toInt ∧ (0 : Int32).toInt ≤ B.toInt ∧ B.toInt < (0 : Int32).toInt + (n : Int) := by
  have z : (0 : Int32).toInt = 0 := rfl
  omega
/-- the order's numbers are rules' numbers -/
def fr_ord (f : Nat → Nat → Int32) : Prop := ∀ k : Nat, (k : Int) < (f 0 1).toInt → 1 ≤ (f 8 k).toInt ∧ (f 8 k).toInt ≤ (f 0 1).toInt
/-- at the head of the asking loop -/
def fr_lp (g : Nat → Nat → Int32) (x : Int32) (n : Nat) : Prop := (0 ≤ (g 0 1).toInt ∧ (g 0 1).toInt ≤ 12) ∧ fr_ord g ∧ 0 ≤ (g 0 2).toInt ∧ (g 0 2).toInt ≤ x.toInt ∧ 0 ≤ x.toInt ∧ x.toInt ≤ (g 0 1).toInt ∧ (g 0 1).toInt < x.toInt + (n : Int)
theorem fr_lp_0 {g : Nat → Nat → Int32} {x : Int32} {P : Prop} (h : fr_lp g x 0) : P := by
  obtain ⟨h1, h2, h3, h4, h5, h6, h7⟩ := h
  exact absurd h7 (by omega)
theorem fr_lp_ord {g : Nat → Nat → Int32} {x : Int32} {n : Nat} (h : fr_lp g x n) (c : ¬ g 0 1 ≤ x) : 1 ≤ (g 8 x.toNatClampNeg).toInt ∧ (g 8 x.toNatClampNeg).toInt ≤ (g 0 1).toInt := by
  obtain ⟨h1, h2, h3, h4, h5, h6, h7⟩ := h
  have h8 := fr_t4 c
  exact h2 _ (by rw [fr_clamp h5]; exact h8)
theorem fr_lp_in {f : Nat → Nat → Int32} (gR : 0 ≤ (f 0 1).toInt ∧ (f 0 1).toInt ≤ 12) (gO : fr_ord f) : fr_lp (fr_up f 0 2 0) 0 13 := by
  have z : (0 : Int32).toInt = 0 := rfl
  refine ⟨gR, gO, ?_, ?_, ?_, ?_, ?_⟩
  · show 0 ≤ (0 : Int32).toInt; omega
  · show (0 : Int32).toInt ≤ _; omega
  · omega
  · show _ ≤ (f 0 1).toInt; omega
  · show (f 0 1).toInt < _; omega
theorem fr_lp_a {g : Nat → Nat → Int32} {x : Int32} {n : Nat} (h : fr_lp g x (n + 1)) (c : ¬ g 0 1 ≤ x) : fr_lp g (x + 1) n := by
  obtain ⟨h1, h2, h3, h4, h5, h6, h7⟩ := h
  have h8 := fr_t4 c
  have h9 := fr_add1 (x := x) h5 (by omega)
  exact ⟨h1, h2, h3, by omega, by omega, by omega, by omega⟩
theorem fr_lp_b {g : Nat → Nat → Int32} {x v : Int32} {n k : Nat} (h : fr_lp g x (n + 1)) (c : ¬ g 0 1 ≤ x) : fr_lp (fr_up (fr_up g 9 k v) 0 2 (g 0 2 + 1)) (x + 1) n := by
  obtain ⟨h1, h2, h3, h4, h5, h6, h7⟩ := h
  have h8 := fr_t4 c
  have h9 := fr_add1 (x := x) h5 (by omega)
  have h10 := fr_add1 (x := g 0 2) h3 (by omega)
  have e1 : fr_up (fr_up g 9 k v) 0 2 (g 0 2 + 1) 0 2 = g 0 2 + 1 := rfl
  have e2 : fr_up (fr_up g 9 k v) 0 2 (g 0 2 + 1) 0 1 = g 0 1 := rfl
  refine ⟨h1, h2, ?_, ?_, by omega, ?_, ?_⟩
  · rw [e1]; omega
  · rw [e1]; omega
  · rw [e2]; omega
  · rw [e2]; omega
def fr_row (f : Nat → Nat → Int32) (r : Nat) (h : Nat → Int32) : Nat → Nat → Int32 := fun r' k' => if r' = r then h k' else f r' k'
def fr_ro (g : Nat → Nat → Int32) : Prop := (0 ≤ (g 0 1).toInt ∧ (g 0 1).toInt ≤ 12) ∧ fr_ord g
/-- at the head of the loop over the marks -/
def fr_mk (x : Int32) (n : Nat) : Prop := (x = 1 ∧ 6 ≤ n) ∨ (x = 2 ∧ 5 ≤ n) ∨ (x = 4 ∧ 4 ≤ n) ∨ (x = 8 ∧ 3 ≤ n) ∨ (x = 16 ∧ 2 ≤ n) ∨ (x = 32 ∧ 1 ≤ n)
theorem fr_mk_0 {x : Int32} {P : Prop} (h : fr_mk x 0) : P := by
  rcases h with ⟨-, h⟩ | ⟨-, h⟩ | ⟨-, h⟩ | ⟨-, h⟩ | ⟨-, h⟩ | ⟨-, h⟩ <;> exact absurd h (by omega)
theorem fr_mk_b {x : Int32} {n : Nat} (h : fr_mk x (n + 1)) (c : ¬ 16 < x) : fr_mk (x <<< ((1 : Int32) &&& 31)) n := by
  rcases h with ⟨rfl, h⟩ | ⟨rfl, h⟩ | ⟨rfl, h⟩ | ⟨rfl, h⟩ | ⟨rfl, h⟩ | ⟨rfl, h⟩
  · exact Or.inr (Or.inl ⟨by decide, by omega⟩)
  · exact Or.inr (Or.inr (Or.inl ⟨by decide, by omega⟩))
  · exact Or.inr (Or.inr (Or.inr (Or.inl ⟨by decide, by omega⟩)))
  · exact Or.inr (Or.inr (Or.inr (Or.inr (Or.inl ⟨by decide, by omega⟩))))
  · exact Or.inr (Or.inr (Or.inr (Or.inr (Or.inr ⟨by decide, by omega⟩))))
  · exact absurd (by decide) c
/-- at the head of the loop over the lines -/
def fr_al (g : Nat → Nat → Int32) (x y : Int32) (n : Nat) : Prop := (0 ≤ (g 0 5).toInt ∧ (g 0 5).toInt ≤ 200) ∧ 0 ≤ (g 0 1).toInt ∧ (g 0 1).toInt + (x.toInt - y.toInt) ≤ 12 ∧ 0 ≤ y.toInt ∧ y.toInt ≤ x.toInt ∧ x.toInt < y.toInt + (n : Int)
theorem fr_al_0 {g : Nat → Nat → Int32} {x y : Int32} {P : Prop} (h : fr_al g x y 0) : P := by
  obtain ⟨-, -, -, -, h1, h2⟩ := h
  exact absurd h2 (by omega)
theorem fr_al_in {f : Nat → Nat → Int32} {x : Int32} (gT : 0 ≤ (f 0 5).toInt ∧ (f 0 5).toInt ≤ 200) (gR : 0 ≤ (f 0 1).toInt ∧ (f 0 1).toInt + x.toInt ≤ 12 ∧ 0 ≤ x.toInt) : fr_al f x 0 13 := by
  have z : (0 : Int32).toInt = 0 := rfl
  exact ⟨gT, gR.1, by omega, by omega, by omega, by omega⟩
theorem fr_al_r {g : Nat → Nat → Int32} {x y : Int32} {n : Nat} (h : fr_al g x y n) (c : ¬ x ≤ y) : 0 ≤ (g 0 1).toInt ∧ (g 0 1).toInt < 12 := by
  obtain ⟨-, h1, h2, h3, h4, h5⟩ := h
  have := fr_t4 c
  omega
theorem fr_nv {f : Nat → Nat → Int32} {x3 : Int32} {n : Nat} (gR : 0 ≤ (f 0 1).toInt ∧ (f 0 1).toInt ≤ 12) (hm : 1 ≤ x3.toInt ∧ x3.toInt ≤ (f 0 1).toInt + 1 ∧ (f 0 1).toInt + 1 < x3.toInt + ((n + 1 : Nat) : Int)) (c : ¬ f 0 1 < x3) : 1 ≤ (x3 + 1).toInt ∧ (x3 + 1).toInt ≤ (f 0 1).toInt + 1 ∧ (f 0 1).toInt + 1 < (x3 + 1).toInt + (n : Int) := by
  have h1 := fr_t2 c
  have h2 := fr_add1 (x := x3) (by omega) (by omega)
  omega
end
section
/-! THROWS: a method that returns or throws; the making and throwing of an exception with a written text; its catching by the caller. -/
section FRR
variable {p : Program} {l : Launch} {e : Env} {R : Room} {s : State} {m : MethodId} {args : Array Value} {below : List Frame} {meth : Method} {c : Code} {T : State} {locs : List Loc} {cells slots : Nat}
theorem fr_sbn_base {x b : State} {fs : List Frame} {L : List Loc} {k n : Nat} (h : (x.setFrames fs).sameButNew b L k n) : x.sameButNew b L k n := by
  obtain ⟨h1, h2⟩ := h
  rw [State.setFrames_setFrames] at h1
  exact ⟨h1, h2⟩
/-- the walk stands at T as it would if the method had been entered at T's heap -/
theorem fr_rebase {R' : Room} (X : Stand p l e R s m args below meth c T locs cells slots) (hf : R'.frames ≤ R.frames) (hl : R'.locals ≤ R.locals) (hc : cells + R'.cells ≤ R.cells) (hs : slots + R'.slots ≤ R.slots) : Stand p l e R' (T.setFrames (.invoking m args :: below)) m args below meth c T [] 0 0 := by
  obtain ⟨g₀, hfr⟩ := X.frames_eq
  have hcur := State.cur_lt_of_frames hfr
  have hF : (T.setFrames (.invoking m args :: below)).frames = .invoking m args :: below := State.frames_setFrames _ hcur
  have hm : (T.setFrames (.invoking m args :: below)).vm.method? m = some meth := X.method'
  obtain ⟨t, ht, -⟩ := State.frames_cons hF
  obtain ⟨t0, ht0, -⟩ := State.frames_cons hfr
  refine ⟨X.admits, X.cas, X.clock, hF, ?_, ?_, hm, X.code, X.here, X.tail, State.WarmedH.refl (T.setFrames (.invoking m args :: below)), by rw [State.stackLimits_setFrames], by rw [State.stackBytes_setFrames], ?_⟩
  · have h := X.room
    have h1 := X.heapSize
    have h2 := X.used
    have h3 := X.book
    have h4 : (T.setFrames (.invoking m args :: below)).localsInUse = s.localsInUse := by
      rw [State.localsInUse_invoking X.frames X.method X.code, State.localsInUse_invoking hF hm X.code]
    have h5 : (T.setFrames (.invoking m args :: below)).me.stackBytes = s.me.stackBytes := by rw [State.stackBytes_setFrames]; exact X.bytes
    have h6 : e.platform.stackLimits (T.setFrames (.invoking m args :: below)).me = e.platform.stackLimits s.me := by rw [State.stackLimits_setFrames]; exact X.limits
    have h7 : (T.setFrames (.invoking m args :: below)).frames.length = s.frames.length := by rw [hF, X.frames]
    have h8 : (T.setFrames (.invoking m args :: below)).slotsTrue = true := h3
    have h9 : (T.setFrames (.invoking m args :: below)).heap.size = T.heap.size := rfl
    have h10 : (T.setFrames (.invoking m args :: below)).slotsUsed = T.slotsUsed := rfl
    simp only [State.hasRoom, Bool.and_eq_true, decide_eq_true_eq] at h ⊢
    rw [h4, h5, h6, h7, h9, h10]
    obtain ⟨⟨⟨⟨a1, a2, a3, a4, a5, a6⟩, a7⟩, a8⟩, a9⟩ := h
    exact ⟨⟨⟨⟨by omega, by omega, by omega, by omega, by omega, a6⟩, by omega⟩, by omega⟩, h8⟩
  · have h := X.hears
    have hw := X.warmed.alike
    have hmT : T.vm.method? m = some meth := X.method'
    cases below with
    | nil => simpa [State.hears, State.setFrames, hmT, X.method] using h
    | cons q r => cases q <;> simpa [State.hears, State.setFrames, hmT, X.method, State.code?_eq, hw.method?] using h
  · have h := (State.sameButNew.refl (T.setFrames (.invoking m args :: below)) ht).setFrames T.frames (by simpa [State.setFrames] using hcur)
    rw [State.setFrames_setFrames, State.setFrames_self ht0] at h
    exact h
end FRR
/-! An exception whose constructor's own link is another entry than 7 (NoSuchElementException(String): 13): the library's ctorThrowS speaks of the entry 7 alone. The same road, its first step told by its own bytes. -/
def fr_oat (own : String) (ic : Nat) (X Y : String) (names : List String) (i0 : Nat) (b0 : ByteArray) : List Cond :=
  Bundle.throwableAtoms ++ Bundle.throwableSAtoms ++ Bundle.passSAtoms X Y i0 b0 ++ Bundle.chainSAtoms Y names ++
  [.methodLink own ic (Bundle.initS X), .instantiable X 6, .selects X Bundle.tFill0 Bundle.tFill0, .selects X Bundle.tFill Bundle.tFill,
   .lays X Bundle.tN "cause" "Ljava/lang/Throwable;", .lays X Bundle.tN "stackTrace" Bundle.steD, .lays X Bundle.tN "suppressedExceptions" Bundle.listD, .lays X Bundle.tN "detailMessage" "Ljava/lang/String;",
   .isRef (.static Bundle.tN "UNASSIGNED_STACK" Bundle.steD), .isRef (.static Bundle.tN "SUPPRESSED_SENTINEL" Bundle.listD),
   .fieldLink Bundle.tN 198 Bundle.tN "backtrace" "Ljava/lang/Object;", .lays Bundle.tN Bundle.tN "backtrace" "Ljava/lang/Object;", .lays X Bundle.tN "backtrace" "Ljava/lang/Object;"]
section FRK
variable {p : Program} {l : Launch} {e : Env} {R : Room} {s : State} {m : MethodId} {args : Array Value} {below : List Frame} {meth : Method} {c : Code} {T : State} {cells slots : Nat}
theorem fr_fill {pl : Platform} {X : String} {y : MethodName} {cX : ClassId} {f : MethodId} (ha : l.admits e) (hf : s.vm.findClass X = some cX) (hy : y.cls ≠ "java/lang/invoke/MethodHandle" ∧ y.cls ≠ "java/lang/invoke/VarHandle") (hn : s.methodNamed? y = some f) (h : (Cond.selects X y y).before args s = true) : selectMethod e.platform s.vm cX f = .method f := by
  obtain ⟨c2, r2, m2, q1, q2, q3, q4, -⟩ := Cond.selects_spec h
  cases Option.some.inj (q1.symm.trans hf)
  cases Option.some.inj (q2.symm.trans (State.methodFound?_of_named hn hy))
  cases Option.some.inj (q3.symm.trans hn)
  rw [Launch.admits_selectMethod ha]; exact q4
set_option maxHeartbeats 1000000 in
theorem fr_ctor13 {own X Y : String} {names : List String} {ic i0 : Nat} {b0 : ByteArray} (St : Stand p l e R s m args below meth c T [] cells slots) (hexec : p.tables.exec = Jvm.exec) (htr : e.platform.stackTraces = false) (hown : s.vm.findClass own = some m.cls) (hX : Bundle.fit X = true) (hY : Bundle.fit Y = true) (hnames : ∀ n ∈ names, Bundle.fit n = true)
    (k0 : decode b0 0 = .ok (.aload_n 0, 1)) (k1 : decode b0 1 = .ok (.aload_n 1, 1)) (k2 : decode b0 2 = .ok (.invokespecial i0, 3)) (k5 : decode b0 5 = .ok (.return_, 1))
    (h : ∀ w ∈ fr_oat own ic X Y names i0 b0, w.before args s = true) {a : Addr} {cX : ClassId} {kX : Class} (hfX : s.vm.findClass X = some cX) (hkX : s.vm.classes[cX]? = some kX) (hcell : T.heap[a]? = some (freshCell cX kX)) (hnew : s.heap.size ≤ a) {msg : Value} (hmsg : msg.isRef = true)
    {g : JFrame} (hg : g.method = m) (hsize : g.locals.size = c.maxLocals) (hlocked : g.locked = none) (hentered : g.entered = []) {rest : List Value} (hstack : g.stack = msg :: .ref a :: .ref a :: rest)
    (d6 : decode c.code g.pc = .ok (.invokespecial ic, 3)) (d9 : decode c.code (g.pc + 3) = .ok (.athrow, 1)) (hout : ∀ x ∈ c.exceptionTable.toList, covers x (g.pc + 3) = false)
    (hf1 : names.length + 4 < R.frames) (hf2 : 2 * g.monitorRoom + ((Value.ref a :: rest).map fun v => v.category).sum + (13 * (names.length + 2) + 42) ≤ R.locals) (hlocks : meth.locks = false) :
    ∃ U : State, Steps p.tables e below (T.setTop g) U ∧ U.status = .running ∧ Ended U below (.threw a) ∧ s.WarmedH U.vm ∧ s.sameButNew ({ U with vm := s.vm } : State) [] cells slots ∧ ∃ ce, U.heap[a]? = some ce ∧ ce.vm = .none ∧ s.vm.findClass X = some ce.cls := by
  have howns : e.platform.frameOwnsMonitors = true := by rw [St.admits.platform]
  have hfin : e.platform.finalization = false := by rw [St.admits.platform]
  have hpl : e.platform.magicAccessors = ({} : Platform).magicAccessors := by rw [St.admits.platform]
  obtain ⟨Tc, Z0, L, -, Ys⟩ := ThrowableC.of_atoms (args := args) howns hfin hpl (fun x hx => h x (by simp [fr_oat, hx]))
  obtain ⟨Z, M, LZ, LM, hnZ⟩ := Init0T.ofS_atoms (args := args) hpl L Ys (fun x hx => h x (by simp [fr_oat, hx]))
  obtain ⟨P1, Ps, hlen, L1, hL, hP1m, hlink1, hlink⟩ := Bundle.chainS (args := args) hpl hnZ names Y hY hnames (fun x hx => h x (by simp [fr_oat, hx]))
  obtain ⟨P, LP, hPm, hPs⟩ := PassC.ofS_atoms (args := args) (s := s) hpl (X := X) (Y := Y) (Bundle.fit_spec hX).1 (Bundle.fit_spec hY).2 k0 k1 k2 k5 (fun x hx => h x (by simp [fr_oat, hx]))
  have hPsup : P.sup = P1.m := Option.some.inj (hPs.symm.trans hP1m)
  have hfound : s.vm.findClass X = some P.m.cls := findClass_of_methodNamed hPm
  cases Option.some.inj (hfX.symm.trans hfound)
  obtain ⟨c1, kX', hc1, hk, hord, -, -, hn6⟩ := Cond.instantiable_spec (h (.instantiable X 6) (by simp [fr_oat]))
  cases Option.some.inj (hc1.symm.trans hfound)
  cases Option.some.inj (hkX.symm.trans hk)
  have hsel0 := fr_fill (pl := e.platform) (args := args) St.admits hfound (by decide) Ys.fill0 (h (.selects X Bundle.tFill0 Bundle.tFill0) (by simp [fr_oat]))
  have hselF := fr_fill (pl := e.platform) (args := args) St.admits hfound (by decide) Ys.fill (h (.selects X Bundle.tFill Bundle.tFill) (by simp [fr_oat]))
  obtain ⟨cellS, hcS, hiss⟩ := Ys.statics
  obtain ⟨u0, hu0⟩ := Cond.staticRefV Ys.unassigned L.unassignedStatic L.statics hcS hiss (h (.isRef (.static Bundle.tN "UNASSIGNED_STACK" Bundle.steD)) (by simp [fr_oat]))
  obtain ⟨sen, hsen⟩ := Cond.staticRefV Ys.sentinel L.sentinelStatic L.statics hcS hiss (h (.isRef (.static Bundle.tN "SUPPRESSED_SENTINEL" Bundle.listD)) (by simp [fr_oat]))
  obtain ⟨ci198, i198, fB, hk198, hg198, ha198, hsB, -, hnB, htB, hffB⟩ := Cond.ownField (t := .object "java/lang/Object") Ys.found L.cls (by decide +kernel) (h (.fieldLink Bundle.tN 198 Bundle.tN "backtrace" "Ljava/lang/Object;") (by simp [fr_oat])) (h (.lays Bundle.tN Bundle.tN "backtrace" "Ljava/lang/Object;") (by simp [fr_oat])) e.platform hpl
  have hcellS : T.heap[Tc.aS]? = some cellS := State.sameButNew.old_cell (s' := T.setVm s.vm) St.same hcS
  have hknownS : cellS.vm ≠ .unknown := by
    intro hu
    rw [hu] at hiss
    cases hiss
  have hneS : Tc.aS ≠ a := Nat.ne_of_lt (Nat.lt_of_lt_of_le (Array.getElem?_eq_some_iff.mp hcS).1 hnew)
  obtain ⟨iM, hffM⟩ := Ys.msg
  obtain ⟨tyC, dC, hdC, hdnC⟩ := Cond.laysAt hfound hk Ys.cause (h (.lays X Bundle.tN "cause" "Ljava/lang/Throwable;") (by simp [fr_oat]))
  obtain ⟨tyS, dS, hdS, hdnS⟩ := Cond.laysAt hfound hk Ys.stack (h (.lays X Bundle.tN "stackTrace" Bundle.steD) (by simp [fr_oat]))
  obtain ⟨tyP, dP, hdP, hdnP⟩ := Cond.laysAt hfound hk Ys.supp (h (.lays X Bundle.tN "suppressedExceptions" Bundle.listD) (by simp [fr_oat]))
  obtain ⟨tyM, -, -, -⟩ := Cond.laysAt hfound hk hffM (h (.lays X Bundle.tN "detailMessage" "Ljava/lang/String;") (by simp [fr_oat]))
  obtain ⟨tyB, dB, hdB, hdnB⟩ := Cond.laysAt hfound hk hffB (h (.lays X Bundle.tN "backtrace" "Ljava/lang/Object;") (by simp [fr_oat]))
  have bC := Cond.laysApart hdB hdC hdnB hdnC (by rw [hnB, Ys.causeName]; decide)
  have bS := Cond.laysApart hdB hdS hdnB hdnS (by rw [hnB, Ys.stackName]; decide)
  have bP := Cond.laysApart hdB hdP hdnB hdnP (by rw [hnB, Ys.suppName]; decide)
  have hskip : SkipFacts Tc e.platform s (fun u => u) u0 ((preparedCellV Tc.toThrowableT (freshCell P.m.cls kX) a u0 sen).withEntry T.cur) :=
    ⟨{ ci198 := ci198, i198 := i198, fBack := fB }, ⟨hk198, hg198, ha198, hsB⟩, by
      have := fresh_default (c := P.m.cls) tyB
      rw [htB] at this
      simpa [preparedCellV, Cell.setSlot, Cell.withEntry, Array.getElem?_setIfInBounds, bC, bS, bP, bC.symm, bS.symm, bP.symm, defaultValue] using this, fun _ _ => rfl⟩
  obtain ⟨tm, methC, cdC, kC, vm₁, hnC, -, -, -, -, -, -, -, hW₁, st1⟩ := Steps.initColdS (tb := p.tables) (e := e) (below := below) (s := s) (U := T) St.here hexec St.warmed hpl hown (t := Bundle.initS X) rfl rfl (Bundle.fit_spec hX).2
    (h (.methodLink own ic (Bundle.initS X)) (by simp [fr_oat])) (h (.instanceMethod (Bundle.initS X)) (by simp [fr_oat, Bundle.passSAtoms])) (bytes := b0) (maxL := 2) (h (.code (Bundle.initS X) b0 2 none) (by simp [fr_oat, Bundle.passSAtoms]))
    (f := g) hg (a := a) (msg := msg) (rest := .ref a :: rest) hstack d6
  cases Option.some.inj (hnC.symm.trans hPm)
  obtain ⟨vm₂, X₂, st2⟩ := (St.noted hW₁).ctorMessageOffV hexec (g := { g with stack := .ref a :: rest }) hg hsize Tc L Z LZ M LM (P :: P1 :: Ps)
    (fun Q hQ => by
      rcases List.mem_cons.mp hQ with rfl | hQ
      · exact LP
      · rcases List.mem_cons.mp hQ with rfl | hQ
        · exact L1
        · exact hL Q hQ) ⟨hPsup, hlink1, hlink⟩ (u0 := u0) (sen := sen) (self := a) hmsg (cell := freshCell P.m.cls kX) (cellS := cellS)
    hcell (fun _ => by simp) (by simp) rfl rfl hsel0 hselF hcellS hneS hknownS hu0 hsen
    (Takes.of_laid hk hord tyC (by rw [Ys.causeType]; rfl)) (Takes.of_laid hk hord tyS (by rw [Ys.stackType]; exact fits_refV_array _ u0)) (Takes.of_laid hk hord tyP (by rw [Ys.suppType]; exact fits_refV_object _ sen))
    (Takes.of_laid hk hord tyM (by rw [Ys.msgType]; exact fits_refV_object _ ⟨msg, hmsg⟩)) Ys.objLocals hskip htr [] d6
    (by simp only [List.length_cons, hlen]; omega) (by simp only [List.length_cons, hlen]; exact hf2)
  obtain ⟨hwalk, hrun, hended, hWU, hsame⟩ := X₂.athrowLeaves hexec (g := { g with stack := .ref a :: rest, pc := g.pc + 3 }) hg hlocked hentered hout (a := a) (rest := rest) rfl d9 hlocks
  have hlt : a < ((T.setVm vm₁).setVm vm₂).heap.size := (Array.getElem?_eq_some_iff.mp hcell).1
  have hU := heapAt_setCell_self (s := (T.setVm vm₁).setVm vm₂) (plainBareV Tc.toThrowableT (freshCell P.m.cls kX) a u0 sen msg) hlt
  refine ⟨_, st1 _ (fun acts => ?_), hrun, hended, hWU, hsame.weaken (fun y hy hlt' => ?_) (Nat.le_refl _) (Nat.le_refl _), _, hU, rfl, hfound⟩
  · rw [doInvoke_state]
    exact st2 _ hwalk
  · exfalso
    have hb : y.base = a := by
      simp only [List.nil_append, List.mem_cons, List.not_mem_nil, or_false] at hy
      rcases hy with rfl | rfl | rfl | rfl | rfl <;> rfl
    rw [hb] at hlt'
    exact Nat.not_lt.mpr hnew hlt'
end FRK
section FRX
variable {p : Program} {l : Launch} {e : Env} {R : Room} {s : State} {m : MethodId} {args : Array Value} {below : List Frame} {meth : Method} {c : Code} {H : Heap} {locs : List Loc} {cells slots : Nat} {Q : State → Prop}
variable {D : va_G} {cl : List vw_C} {tys : List (ClassId × FieldType)} {A : Nat → Prop} {nw tbl : List Cond}
/-- a method that returns (x = none) or throws an exception of class E (x = some E); in both cases the cells are w' -/
def fr_Ox (Qn : Array Value → State → Outcome → State → Prop) (D : va_G) (cl : List vw_C) (tys : List (ClassId × FieldType)) (x : Option String) (w : va_W) (mc ms : Nat) (A : Nat → Prop) (a : Array Value) (st : State) (o : Outcome) (t : State) : Prop :=
  (x = none ∧ Qn a st o t ∧ ∃ L, FrameEnd st o t L mc ms ∧ ∀ q ∈ L, A q.base) ∨
  (∃ (E : String) (q : Addr) (ce : Cell) (L : List Loc), x = some E ∧ o = .threw q ∧ t.heap[q]? = some ce ∧ ce.vm = .none ∧ st.vm.findClass E = some ce.cls ∧ st.WarmedH t.vm ∧ st.sameButNew ({ t with vm := st.vm } : State) L mc ms ∧ (∀ z ∈ L, A z.base) ∧ fr_End D cl tys w A () t ∧ va_F A st t)
def fr_Mx (Qn : Int32 → va_W → (Nat → Prop) → Array Value → State → Outcome → State → Prop) (l : Launch) (y : MethodName) (ws : List Cond) (rm : Room) (D : va_G) (cl : List vw_C) (tys : List (ClassId × FieldType)) (nw : List Cond) (As : List Value) (w : va_W) (x : Option String) (r : Int32) (w' : va_W) (mc ms : Nat) : Prop :=
  ∀ sz : Nat, MetFree l y (headSpec ws rm) (va_Pc As (fr_Pre D cl tys nw w sz)) (fun _ _ _ _ _ => True) (fr_Ox (Qn r w' (va_A w sz)) D cl tys x w' mc ms (va_A w sz))
def fr_XQ (below : List Frame) (Qn : Array Value → State → Outcome → State → Prop) (D : va_G) (cl : List vw_C) (tys : List (ClassId × FieldType)) (x : Option String) (w : va_W) (a : Array Value) (s : State) (mc ms : Nat) (A : Nat → Prop) : State → Prop := fun t =>
  ∃ o, t.status = .running ∧ Ended t below o ∧ fr_Ox Qn D cl tys x w mc ms A a s o t
/-- a returning road in a method that may throw -/
theorem fr_xret {Qn : Array Value → State → Outcome → State → Prop} {x : Option String} {w : va_W} {mc ms : Nat} {g : JFrame} (hx : x = none) (k : W p l e R s m args below meth c H locs cells slots (MQ below Qn args s mc ms A) g) : W p l e R s m args below meth c H locs cells slots (fr_XQ below Qn D cl tys x w args s mc ms A) g := by
  intro T hT X
  obtain ⟨t, h1, o, h2, h3, h4, h5⟩ := k T hT X
  exact ⟨t, h1, o, h2, h3, Or.inl ⟨hx, h4, h5⟩⟩
theorem fr_Mx.of {Qn : Int32 → va_W → (Nat → Prop) → Array Value → State → Outcome → State → Prop} {y : MethodName} {rm : Room} {As : List Value} {w : va_W} {x : Option String} {r : Int32} {w' : va_W} {mc ms : Nat} {cc : ByteArray} {maxL : Nat} {ret : Option FieldType} (hy : plainName y.cls = true) (hnL : (lg_sl As).length ≤ maxL)
    (body : ∀ (p : Program) (e : Env) (s : State) (m : MethodId) (below : List Frame) (meth : Method) (c : Code) (A : Nat → Prop) (H : Heap) (locs : List Loc) (ls : Array Slot), fr_Cx p s m As.toArray meth c y.cls cc maxL ret [] tbl nw D cl tys A → va_P D cl w H → va_D A w → va_S A s.heap H locs → lv_has ls maxL (lv_args 0 As) →
      W p l e rm s m As.toArray below meth c H locs 0 0 (fr_XQ below (Qn r w' A) D cl tys x w' As.toArray s mc ms A) (F0 m 0 ls [])) : fr_Mx Qn l y (.code y cc maxL ret :: tbl) rm D cl tys nw As w x r w' mc ms := by
  intro sz
  refine MetFree.of_bodyS (code := cc) (maxLocals := maxL) (ret := ret) hy ?_ ?_
  · intro args s m h hn
    obtain ⟨meth, c, h1, h2, h3, h4, h5, h6, -, -⟩ := Cond.code_spec hn (atoms_spec (ws := .code y cc maxL ret :: tbl) h _ List.mem_cons_self)
    exact ⟨meth, c, h1, h2, h3, h4, h5, h6⟩
  · intro p e s m args below meth c s₁ B hml hv _
    obtain ⟨rfl, hsz, hP, hK, hD0, hN, hZ⟩ := hv
    subst hsz
    have hts := atoms_spec (ws := .code y cc maxL ret :: tbl) B.pre
    have hh0 : s₁.heap = s.heap := by rw [B.state]; rfl
    have K := body p e s m below meth c (va_A w s.heap.size) s.heap [] _ ⟨B.exec, B.bytes, hml, findClass_of_methodNamed B.named, fun z hz => hts z (List.mem_cons_of_mem _ hz), hK, B.notSynchronized, B.returns, fun q h => Or.inr h, hN, hZ, fr_noHandlers (B.noHandlers (hts _ List.mem_cons_self))⟩ hP hD0.self va_S.rf (lv_entry As hnL)
    rw [← lg_entry_eq] at K
    obtain ⟨t, a1, o, b1, b2, b3⟩ := K s₁ hh0 (Stand.of_body B)
    exact ⟨t, o, a1, b1, b2, b3⟩
theorem fr_Mx_none {y : MethodName} {ws : List Cond} {rm : Room} {As : List Value} {w : va_W} {x : Option String} {r : Int32} {w' : va_W} {mc ms : Nat} (h : fr_Mx (fr_Qi D cl tys) l y ws rm D cl tys nw As w x r w' mc ms) (hx : x = none) : fr_Mi l y ws rm D cl tys nw As w r w' mc ms := by
  intro sz p e ha hc hk s m args below hf happ hP hK
  obtain ⟨n, o, h1, h2, h3, h4⟩ := h sz p e ha hc hk s m args below hf happ hP hK
  refine ⟨n, o, h1, h2, h3, ?_⟩
  rcases h4 with ⟨-, h4, h5⟩ | ⟨E, q, ce, L, hE, -⟩
  · exact ⟨h4, h5⟩
  · rw [hx] at hE; cases hE
theorem fr_Mx_nonev {y : MethodName} {ws : List Cond} {rm : Room} {As : List Value} {w : va_W} {x : Option String} {r : Int32} {w' : va_W} {mc ms : Nat} (h : fr_Mx (fun _ => fr_Qv D cl tys) l y ws rm D cl tys nw As w x r w' mc ms) (hx : x = none) : fr_Mv l y ws rm D cl tys nw As w w' mc ms := by
  intro sz p e ha hc hk s m args below hf happ hP hK
  obtain ⟨n, o, h1, h2, h3, h4⟩ := h sz p e ha hc hk s m args below hf happ hP hK
  refine ⟨n, o, h1, h2, h3, ?_⟩
  rcases h4 with ⟨-, h4, h5⟩ | ⟨E, q, ce, L, hE, -⟩
  · exact ⟨h4, h5⟩
  · rw [hx] at hE; cases hE
def fr_z4 : List Cond := [.laysStatic Bundle.tN "UNASSIGNED_STACK" Bundle.steD, .laysStatic Bundle.tN "SUPPRESSED_SENTINEL" Bundle.listD, .isRef (.static Bundle.tN "UNASSIGNED_STACK" Bundle.steD), .isRef (.static Bundle.tN "SUPPRESSED_SENTINEL" Bundle.listD)]
theorem fr_z4_at {A : Nat → Prop} {U : State} (h : fr_zz A U U.heap) : ∀ w ∈ fr_z4, w.before args U = true := by
  intro w hw
  simp only [fr_z4, List.mem_cons, List.not_mem_nil, or_false] at hw
  rcases hw with rfl | rfl | rfl | rfl
  · exact h.1.lays
  · exact h.2.lays
  · exact h.1.isRef
  · exact h.2.isRef
variable {cc : ByteArray} {nL pc : Nat} {ls : Array Slot} {st : List Value} {own : String} {ret : Option FieldType} {hh : List ExceptionTableEntry}
set_option maxHeartbeats 1000000 in
/-- throw new E("a written text"), from its 'new' to the method's end -/
theorem fr_throwS {E tx : String} {names : List String} {ik is ic sa : Nat} (C : fr_Cx p s m args meth c own cc nL ret [] tbl nw D cl tys A) (hsz : ls.size = nL) (hl : l.stackTraces = false) (hcls : Bundle.fit E = true) (hnames : ∀ n ∈ names, Bundle.fit n = true) (hS : va_S A s.heap H locs)
    (hcl : (Cond.classLink own ik E).before args s = true) (hins : (Cond.instantiable E 6).before args s = true) (hini : (Cond.initialized E).before args s = true)
    (hg0 : goodWord (.classLink own ik E) = true ∧ goodWord (.instantiable E 6) = true ∧ goodWord (.initialized E) = true)
    (hgt : ∀ w ∈ tbl, goodWord w = true) (hat : ∀ w ∈ Bundle.ownAtoms own ic E names, w ∈ tbl ∨ (w ∈ nw ∧ w.onTables = true) ∨ w ∈ fr_z4) (hR : vk_R own is tx sa s)
    (hf1 : names.length + 3 < R.frames) (hf2 : 1 + (st.map fun v => v.category).sum + (13 * (names.length + 1) + 42) ≤ R.locals) (hf3 : cells + 1 ≤ R.cells) (hf4 : slots + 6 ≤ R.slots)
    (d0 : decode cc pc = .ok (.new ik, 3)) (d3 : decode cc (pc + 3) = .ok (.dup, 1)) (d4 : decode cc (pc + 4) = .ok (.ldc is, 2)) (d6 : decode cc (pc + 6) = .ok (.invokespecial ic, 3)) (d9 : decode cc (pc + 9) = .ok (.athrow, 1))
    (hQ : ∀ (t : State) (q : Addr) (ce : Cell), t.status = .running → Ended t below (.threw q) → t.heap[q]? = some ce → ce.vm = .none → s.vm.findClass E = some ce.cls → s.WarmedH t.vm → s.sameButNew ({ t with vm := s.vm } : State) locs (cells + 1) (slots + 6) → (∀ (a : Addr) (cell : Cell), H[a]? = some cell → t.heap[a]? = some cell) → H.size ≤ t.heap.size → Q t) :
    W p l e R s m args below meth c H locs cells slots Q (F0 m pc ls st) := by
  obtain ⟨hx, hb, hml, hown, ht, hK, hlocks, hr, hA, hN, hZ, hT0⟩ := C
  intro T hT X
  have hout : ∀ x ∈ c.exceptionTable.toList, covers x (pc + 9) = false := by rw [hT0]; intro x hx; cases hx
  have htr : e.platform.stackTraces = false := by rw [X.admits.platform]; exact hl
  have X' := fr_rebase (R' := { frames := R.frames, cells := 1, slots := 6, locals := R.locals }) X (Nat.le_refl _) (Nat.le_refl _) hf3 hf4
  have hZ' : fr_zz A (T.setFrames (.invoking m args :: below)) T.heap := by
    rw [hT]
    exact ⟨(hZ.1.kept hS.2.1).moved X.warmed.alike, (hZ.2.kept hS.2.1).moved X.warmed.alike⟩
  have word : ∀ w : Cond, goodWord w = true → w.before args s = true → w.before args (T.setFrames (.invoking m args :: below)) = true := fun w hg hw => word_at (U := T.setFrames (.invoking m args :: below)) X.warmed (good_of_word hg) hw
  have hat' : ∀ w ∈ Bundle.ownAtoms own ic E names, w.before args (T.setFrames (.invoking m args :: below)) = true := by
    intro w hw
    rcases hat w hw with h1 | ⟨h1, h2⟩ | h1
    · exact word w (hgt w h1) (ht w h1)
    · exact va_Nw.use h2 (fr_nest_warm (hN w h1).1 (U := T.setFrames (.invoking m args :: below)) X.warmed (hN w h1).2)
    · exact fr_z4_at hZ' w h1
  have hown' : (T.setFrames (.invoking m args :: below)).vm.findClass own = some m.cls := by
    show T.vm.findClass own = some m.cls
    rw [X.warmed.alike.findClass]; exact hown
  have K : W p l e { frames := R.frames, cells := 1, slots := 6, locals := R.locals } (T.setFrames (.invoking m args :: below)) m args below meth c T.heap [] 0 0 Q (F0 m pc ls st) := by
    refine W.newc hx hb hown' (word _ hg0.1 hcl) (word _ hg0.2.1 hins) (word _ hg0.2.2 hini) rfl d0 (Nat.le_refl _) (Nat.le_refl _) (fun cC kC h1 h2 h3 h4 => ?_)
    refine W.eq (g2 := F0 m (pc + 3) ls (.ref T.heap.size :: st)) rfl ?_
    refine lv_dup hx hb d3 rfl ?_
    refine va_ldcS hx hb hown' (tx := tx) (q := sa) (vk_R.warm X.warmed hR) d4 ?_
    intro T2 hT2 X2
    obtain ⟨U, hst, hrun, hend, hW, hsame, ce, hce, hOwn⟩ := X2.ctorThrowS hx htr (own := own) (cls := E) (names := names) (ic := ic) hown' hcls hnames hat' (fun x hx => by cases hx) h1 h2 (a := T.heap.size) (by rw [hT2]; simp [freshCell]) (Nat.le_refl _) (msg := .ref sa) rfl
      (g := F0 m (pc + 6) ls (.ref sa :: .ref T.heap.size :: .ref T.heap.size :: st)) rfl (hsz.trans hml.symm) rfl rfl (rest := st) rfl (by rw [hb]; exact d6) (by rw [hb]; exact d9) hout hf1 (by simpa [Value.category, JFrame.monitorRoom] using hf2) hlocks
    have hsame' : T.sameButNew ({ U with vm := T.vm } : State) [] 1 6 := fr_sbn_base hsame
    refine ⟨U, hst, hQ U T.heap.size ce hrun hend hce hOwn.vm ?_ (State.WarmedH.trans X.warmed hW) ?_ ?_ ?_⟩
    · rw [← X.warmed.alike.findClass]; exact hOwn.cls
    · have h := X.same.trans (hsame'.setVm s.vm)
      rw [List.append_nil] at h
      exact h
    · intro a cell ha
      rw [← hT] at ha
      exact State.sameButNew.old_cell hsame' ha
    · rw [← hT]
      exact hsame'.2.1
  exact K T rfl X'
set_option maxHeartbeats 1000000 in
/-- the same, for an exception whose constructor's link is another entry -/
theorem fr_throwN {E Y tx : String} {names : List String} {ik is ic sa i0 : Nat} {b0 : ByteArray} (k0 : decode b0 0 = .ok (.aload_n 0, 1)) (k1 : decode b0 1 = .ok (.aload_n 1, 1)) (k2 : decode b0 2 = .ok (.invokespecial i0, 3)) (k5 : decode b0 5 = .ok (.return_, 1)) (hY : Bundle.fit Y = true) (C : fr_Cx p s m args meth c own cc nL ret [] tbl nw D cl tys A) (hsz : ls.size = nL) (hl : l.stackTraces = false) (hcls : Bundle.fit E = true) (hnames : ∀ n ∈ names, Bundle.fit n = true) (hS : va_S A s.heap H locs)
    (hcl : (Cond.classLink own ik E).before args s = true) (hins : (Cond.instantiable E 6).before args s = true) (hini : (Cond.initialized E).before args s = true)
    (hg0 : goodWord (.classLink own ik E) = true ∧ goodWord (.instantiable E 6) = true ∧ goodWord (.initialized E) = true)
    (hgt : ∀ w ∈ tbl, goodWord w = true) (hat : ∀ w ∈ fr_oat own ic E Y names i0 b0, w ∈ tbl ∨ (w ∈ nw ∧ w.onTables = true) ∨ w ∈ fr_z4) (hR : vk_R own is tx sa s)
    (hf1 : names.length + 4 < R.frames) (hf2 : 1 + (st.map fun v => v.category).sum + (13 * (names.length + 2) + 42) ≤ R.locals) (hf3 : cells + 1 ≤ R.cells) (hf4 : slots + 6 ≤ R.slots)
    (d0 : decode cc pc = .ok (.new ik, 3)) (d3 : decode cc (pc + 3) = .ok (.dup, 1)) (d4 : decode cc (pc + 4) = .ok (.ldc is, 2)) (d6 : decode cc (pc + 6) = .ok (.invokespecial ic, 3)) (d9 : decode cc (pc + 9) = .ok (.athrow, 1))
    (hQ : ∀ (t : State) (q : Addr) (ce : Cell), t.status = .running → Ended t below (.threw q) → t.heap[q]? = some ce → ce.vm = .none → s.vm.findClass E = some ce.cls → s.WarmedH t.vm → s.sameButNew ({ t with vm := s.vm } : State) locs (cells + 1) (slots + 6) → (∀ (a : Addr) (cell : Cell), H[a]? = some cell → t.heap[a]? = some cell) → H.size ≤ t.heap.size → Q t) :
    W p l e R s m args below meth c H locs cells slots Q (F0 m pc ls st) := by
  obtain ⟨hx, hb, hml, hown, ht, hK, hlocks, hr, hA, hN, hZ, hT0⟩ := C
  intro T hT X
  have hout : ∀ x ∈ c.exceptionTable.toList, covers x (pc + 9) = false := by rw [hT0]; intro x hx; cases hx
  have htr : e.platform.stackTraces = false := by rw [X.admits.platform]; exact hl
  have X' := fr_rebase (R' := { frames := R.frames, cells := 1, slots := 6, locals := R.locals }) X (Nat.le_refl _) (Nat.le_refl _) hf3 hf4
  have hZ' : fr_zz A (T.setFrames (.invoking m args :: below)) T.heap := by
    rw [hT]
    exact ⟨(hZ.1.kept hS.2.1).moved X.warmed.alike, (hZ.2.kept hS.2.1).moved X.warmed.alike⟩
  have word : ∀ w : Cond, goodWord w = true → w.before args s = true → w.before args (T.setFrames (.invoking m args :: below)) = true := fun w hg hw => word_at (U := T.setFrames (.invoking m args :: below)) X.warmed (good_of_word hg) hw
  have hat' : ∀ w ∈ fr_oat own ic E Y names i0 b0, w.before args (T.setFrames (.invoking m args :: below)) = true := by
    intro w hw
    rcases hat w hw with h1 | ⟨h1, h2⟩ | h1
    · exact word w (hgt w h1) (ht w h1)
    · exact va_Nw.use h2 (fr_nest_warm (hN w h1).1 (U := T.setFrames (.invoking m args :: below)) X.warmed (hN w h1).2)
    · exact fr_z4_at hZ' w h1
  have hown' : (T.setFrames (.invoking m args :: below)).vm.findClass own = some m.cls := by
    show T.vm.findClass own = some m.cls
    rw [X.warmed.alike.findClass]; exact hown
  have K : W p l e { frames := R.frames, cells := 1, slots := 6, locals := R.locals } (T.setFrames (.invoking m args :: below)) m args below meth c T.heap [] 0 0 Q (F0 m pc ls st) := by
    refine W.newc hx hb hown' (word _ hg0.1 hcl) (word _ hg0.2.1 hins) (word _ hg0.2.2 hini) rfl d0 (Nat.le_refl _) (Nat.le_refl _) (fun cC kC h1 h2 h3 h4 => ?_)
    refine W.eq (g2 := F0 m (pc + 3) ls (.ref T.heap.size :: st)) rfl ?_
    refine lv_dup hx hb d3 rfl ?_
    refine va_ldcS hx hb hown' (tx := tx) (q := sa) (vk_R.warm X.warmed hR) d4 ?_
    intro T2 hT2 X2
    obtain ⟨U, hst, hrun, hend, hW, hsame, ce, hce, hcv, hcc⟩ := fr_ctor13 X2 hx htr hown' hcls hY hnames k0 k1 k2 k5 hat' h1 h2 (a := T.heap.size) (by rw [hT2]; simp [freshCell]) (Nat.le_refl _) (msg := .ref sa) rfl
      (g := F0 m (pc + 6) ls (.ref sa :: .ref T.heap.size :: .ref T.heap.size :: st)) rfl (hsz.trans hml.symm) rfl rfl (rest := st) rfl (by rw [hb]; exact d6) (by rw [hb]; exact d9) hout hf1 (by simpa [Value.category, JFrame.monitorRoom] using hf2) hlocks
    have hsame' : T.sameButNew ({ U with vm := T.vm } : State) [] 1 6 := fr_sbn_base hsame
    refine ⟨U, hst, hQ U T.heap.size ce hrun hend hce hcv ?_ (State.WarmedH.trans X.warmed hW) ?_ ?_ ?_⟩
    · rw [← X.warmed.alike.findClass]; exact hcc
    · have h := X.same.trans (hsame'.setVm s.vm)
      rw [List.append_nil] at h
      exact h
    · intro a cell ha
      rw [← hT] at ha
      exact State.sameButNew.old_cell hsame' ha
    · rw [← hT]
      exact hsame'.2.1
  exact K T rfl X'
/-- the end of such a road, as a contract has it -/
theorem fr_xthrow {Qn : Array Value → State → Outcome → State → Prop} {E : String} {x : Option String} {w : va_W} {mc ms : Nat} (hx : x = some E) (hK : va_K D cl tys s) (hP : va_P D cl w H) (hD : va_D A w) (hS : va_S A s.heap H locs) (hc : mc = cells + 1) (hs : ms = slots + 6) :
    ∀ (t : State) (q : Addr) (ce : Cell), t.status = .running → Ended t below (.threw q) → t.heap[q]? = some ce → ce.vm = .none → s.vm.findClass E = some ce.cls → s.WarmedH t.vm → s.sameButNew ({ t with vm := s.vm } : State) locs (cells + 1) (slots + 6) → (∀ (a : Addr) (cell : Cell), H[a]? = some cell → t.heap[a]? = some cell) → H.size ≤ t.heap.size → fr_XQ below Qn D cl tys x w args s mc ms A t := by
  subst hc; subst hs
  intro t q ce h1 h2 h3 h4 h5 h6 h7 h8 h9
  have hk : ∀ a : Nat, a < H.size → t.heap[a]? = H[a]? := fun a ha => by
    have e1 : H[a]? = some (H[a]) := Array.getElem?_eq_getElem ha
    rw [e1]; exact h8 a _ e1
  refine ⟨.threw q, h1, h2, Or.inr ⟨E, q, ce, locs, hx, rfl, h3, h4, h5, h6, h7, hS.2.2, ⟨?_, va_K.moved h6.alike hK, hD⟩, ?_⟩⟩
  · exact hP.kept (fun k z hz => hk z.1 (hP k z hz).lt)
  · exact ⟨Nat.le_trans hS.1 h9, fun a h10 h11 => by rw [hk a (Nat.lt_of_lt_of_le h10 hS.1)]; exact hS.2.1 a h10 h11⟩
end FRX
end
section
def y_within : MethodName := ⟨"FragileRules", "isWithin", "(II)Z"⟩
theorem dF_isWithin_0 : decode prog_1_method_16_code 0 = .ok (.iload_n 0, 1) := by decide +kernel
theorem dF_isWithin_1 : decode prog_1_method_16_code 1 = .ok (.ifCond .lt 12, 3) := by decide +kernel
theorem dF_isWithin_4 : decode prog_1_method_16_code 4 = .ok (.iload_n 0, 1) := by decide +kernel
theorem dF_isWithin_5 : decode prog_1_method_16_code 5 = .ok (.iload_n 1, 1) := by decide +kernel
theorem dF_isWithin_6 : decode prog_1_method_16_code 6 = .ok (.if_icmp .gt 7, 3) := by decide +kernel
theorem dF_isWithin_9 : decode prog_1_method_16_code 9 = .ok (.iconst 1, 1) := by decide +kernel
theorem dF_isWithin_10 : decode prog_1_method_16_code 10 = .ok (.goto 4, 3) := by decide +kernel
theorem dF_isWithin_13 : decode prog_1_method_16_code 13 = .ok (.iconst 0, 1) := by decide +kernel
theorem dF_isWithin_14 : decode prog_1_method_16_code 14 = .ok (.ireturn, 1) := by decide +kernel
def y_has : MethodName := ⟨"FragileRules$Unit", "has", "(I)Z"⟩
theorem dU_has_0 : decode prog_4_method_2_code 0 = .ok (.aload_n 0, 1) := by decide +kernel
theorem dU_has_1 : decode prog_4_method_2_code 1 = .ok (.getfield 16, 3) := by decide +kernel
theorem dU_has_4 : decode prog_4_method_2_code 4 = .ok (.iload_n 1, 1) := by decide +kernel
theorem dU_has_5 : decode prog_4_method_2_code 5 = .ok (.iand, 1) := by decide +kernel
theorem dU_has_6 : decode prog_4_method_2_code 6 = .ok (.ifCond .eq 7, 3) := by decide +kernel
theorem dU_has_9 : decode prog_4_method_2_code 9 = .ok (.iconst 1, 1) := by decide +kernel
theorem dU_has_10 : decode prog_4_method_2_code 10 = .ok (.goto 4, 3) := by decide +kernel
theorem dU_has_13 : decode prog_4_method_2_code 13 = .ok (.iconst 0, 1) := by decide +kernel
theorem dU_has_14 : decode prog_4_method_2_code 14 = .ok (.ireturn, 1) := by decide +kernel
def y_signAt : MethodName := ⟨"FragileRules$Text", "signAt", "(I)I"⟩
theorem dT_signAt_0 : decode prog_3_method_8_code 0 = .ok (.iload_n 1, 1) := by decide +kernel
theorem dT_signAt_1 : decode prog_3_method_8_code 1 = .ok (.ifCond .lt 20, 3) := by decide +kernel
theorem dT_signAt_4 : decode prog_3_method_8_code 4 = .ok (.iload_n 1, 1) := by decide +kernel
theorem dT_signAt_5 : decode prog_3_method_8_code 5 = .ok (.aload_n 0, 1) := by decide +kernel
theorem dT_signAt_6 : decode prog_3_method_8_code 6 = .ok (.getfield 15, 3) := by decide +kernel
theorem dT_signAt_9 : decode prog_3_method_8_code 9 = .ok (.if_icmp .ge 12, 3) := by decide +kernel
theorem dT_signAt_12 : decode prog_3_method_8_code 12 = .ok (.aload_n 0, 1) := by decide +kernel
theorem dT_signAt_13 : decode prog_3_method_8_code 13 = .ok (.getfield 9, 3) := by decide +kernel
theorem dT_signAt_16 : decode prog_3_method_8_code 16 = .ok (.iload_n 1, 1) := by decide +kernel
theorem dT_signAt_17 : decode prog_3_method_8_code 17 = .ok (.iaload, 1) := by decide +kernel
theorem dT_signAt_18 : decode prog_3_method_8_code 18 = .ok (.goto 4, 3) := by decide +kernel
theorem dT_signAt_21 : decode prog_3_method_8_code 21 = .ok (.iconst (-1), 1) := by decide +kernel
theorem dT_signAt_22 : decode prog_3_method_8_code 22 = .ok (.ireturn, 1) := by decide +kernel
def y_digitAt : MethodName := ⟨"FragileRules$Text", "digitAt", "(I)I"⟩
theorem dT_digitAt_0 : decode prog_3_method_7_code 0 = .ok (.aload_n 0, 1) := by decide +kernel
theorem dT_digitAt_1 : decode prog_3_method_7_code 1 = .ok (.iload_n 1, 1) := by decide +kernel
theorem dT_digitAt_2 : decode prog_3_method_7_code 2 = .ok (.invokevirtual 26, 3) := by decide +kernel
theorem dT_digitAt_5 : decode prog_3_method_7_code 5 = .ok (.istore_n 2, 1) := by decide +kernel
theorem dT_digitAt_6 : decode prog_3_method_7_code 6 = .ok (.iload_n 2, 1) := by decide +kernel
theorem dT_digitAt_7 : decode prog_3_method_7_code 7 = .ok (.bipush 48, 2) := by decide +kernel
theorem dT_digitAt_9 : decode prog_3_method_7_code 9 = .ok (.if_icmp .lt 16, 3) := by decide +kernel
theorem dT_digitAt_12 : decode prog_3_method_7_code 12 = .ok (.iload_n 2, 1) := by decide +kernel
theorem dT_digitAt_13 : decode prog_3_method_7_code 13 = .ok (.bipush 57, 2) := by decide +kernel
theorem dT_digitAt_15 : decode prog_3_method_7_code 15 = .ok (.if_icmp .gt 10, 3) := by decide +kernel
theorem dT_digitAt_18 : decode prog_3_method_7_code 18 = .ok (.iload_n 2, 1) := by decide +kernel
theorem dT_digitAt_19 : decode prog_3_method_7_code 19 = .ok (.bipush 48, 2) := by decide +kernel
theorem dT_digitAt_21 : decode prog_3_method_7_code 21 = .ok (.isub, 1) := by decide +kernel
theorem dT_digitAt_22 : decode prog_3_method_7_code 22 = .ok (.goto 4, 3) := by decide +kernel
theorem dT_digitAt_25 : decode prog_3_method_7_code 25 = .ok (.iconst (-1), 1) := by decide +kernel
theorem dT_digitAt_26 : decode prog_3_method_7_code 26 = .ok (.ireturn, 1) := by decide +kernel
def y_rowAt : MethodName := ⟨"FragileRules$Text", "rowAt", "(I)I"⟩
theorem dT_rowAt_0 : decode prog_3_method_5_code 0 = .ok (.aload_n 0, 1) := by decide +kernel
theorem dT_rowAt_1 : decode prog_3_method_5_code 1 = .ok (.iload_n 1, 1) := by decide +kernel
theorem dT_rowAt_2 : decode prog_3_method_5_code 2 = .ok (.invokevirtual 26, 3) := by decide +kernel
theorem dT_rowAt_5 : decode prog_3_method_5_code 5 = .ok (.lookupswitch 51 #[(65, 45), (66, 47), (76, 49), (78, 43)], 43) := by decide +kernel
theorem dT_rowAt_48 : decode prog_3_method_5_code 48 = .ok (.iconst 0, 1) := by decide +kernel
theorem dT_rowAt_49 : decode prog_3_method_5_code 49 = .ok (.ireturn, 1) := by decide +kernel
theorem dT_rowAt_50 : decode prog_3_method_5_code 50 = .ok (.iconst 1, 1) := by decide +kernel
theorem dT_rowAt_51 : decode prog_3_method_5_code 51 = .ok (.ireturn, 1) := by decide +kernel
theorem dT_rowAt_52 : decode prog_3_method_5_code 52 = .ok (.iconst 2, 1) := by decide +kernel
theorem dT_rowAt_53 : decode prog_3_method_5_code 53 = .ok (.ireturn, 1) := by decide +kernel
theorem dT_rowAt_54 : decode prog_3_method_5_code 54 = .ok (.iconst 3, 1) := by decide +kernel
theorem dT_rowAt_55 : decode prog_3_method_5_code 55 = .ok (.ireturn, 1) := by decide +kernel
theorem dT_rowAt_56 : decode prog_3_method_5_code 56 = .ok (.iconst (-1), 1) := by decide +kernel
theorem dT_rowAt_57 : decode prog_3_method_5_code 57 = .ok (.ireturn, 1) := by decide +kernel
def y_numberAt : MethodName := ⟨"FragileRules$Text", "numberAt", "(I)I"⟩
theorem dT_numberAt_0 : decode prog_3_method_6_code 0 = .ok (.aload_n 0, 1) := by decide +kernel
theorem dT_numberAt_1 : decode prog_3_method_6_code 1 = .ok (.iload_n 1, 1) := by decide +kernel
theorem dT_numberAt_2 : decode prog_3_method_6_code 2 = .ok (.invokevirtual 29, 3) := by decide +kernel
theorem dT_numberAt_5 : decode prog_3_method_6_code 5 = .ok (.istore_n 2, 1) := by decide +kernel
theorem dT_numberAt_6 : decode prog_3_method_6_code 6 = .ok (.aload_n 0, 1) := by decide +kernel
theorem dT_numberAt_7 : decode prog_3_method_6_code 7 = .ok (.iload_n 1, 1) := by decide +kernel
theorem dT_numberAt_8 : decode prog_3_method_6_code 8 = .ok (.iconst 1, 1) := by decide +kernel
theorem dT_numberAt_9 : decode prog_3_method_6_code 9 = .ok (.iadd, 1) := by decide +kernel
theorem dT_numberAt_10 : decode prog_3_method_6_code 10 = .ok (.invokevirtual 29, 3) := by decide +kernel
theorem dT_numberAt_13 : decode prog_3_method_6_code 13 = .ok (.istore_n 3, 1) := by decide +kernel
theorem dT_numberAt_14 : decode prog_3_method_6_code 14 = .ok (.iload_n 3, 1) := by decide +kernel
theorem dT_numberAt_15 : decode prog_3_method_6_code 15 = .ok (.iconst (-1), 1) := by decide +kernel
theorem dT_numberAt_16 : decode prog_3_method_6_code 16 = .ok (.if_icmp .ne 7, 3) := by decide +kernel
theorem dT_numberAt_19 : decode prog_3_method_6_code 19 = .ok (.iload_n 2, 1) := by decide +kernel
theorem dT_numberAt_20 : decode prog_3_method_6_code 20 = .ok (.goto 9, 3) := by decide +kernel
theorem dT_numberAt_23 : decode prog_3_method_6_code 23 = .ok (.bipush 10, 2) := by decide +kernel
theorem dT_numberAt_25 : decode prog_3_method_6_code 25 = .ok (.iload_n 2, 1) := by decide +kernel
theorem dT_numberAt_26 : decode prog_3_method_6_code 26 = .ok (.imul, 1) := by decide +kernel
theorem dT_numberAt_27 : decode prog_3_method_6_code 27 = .ok (.iload_n 3, 1) := by decide +kernel
theorem dT_numberAt_28 : decode prog_3_method_6_code 28 = .ok (.iadd, 1) := by decide +kernel
theorem dT_numberAt_29 : decode prog_3_method_6_code 29 = .ok (.ireturn, 1) := by decide +kernel
def y_behind : MethodName := ⟨"FragileRules$Text", "behindLine", "(I)I"⟩
theorem dT_behindLine_0 : decode prog_3_method_4_code 0 = .ok (.aload_n 0, 1) := by decide +kernel
theorem dT_behindLine_1 : decode prog_3_method_4_code 1 = .ok (.iload_n 1, 1) := by decide +kernel
theorem dT_behindLine_2 : decode prog_3_method_4_code 2 = .ok (.invokevirtual 23, 3) := by decide +kernel
theorem dT_behindLine_5 : decode prog_3_method_4_code 5 = .ok (.istore_n 2, 1) := by decide +kernel
theorem dT_behindLine_6 : decode prog_3_method_4_code 6 = .ok (.iload_n 2, 1) := by decide +kernel
theorem dT_behindLine_7 : decode prog_3_method_4_code 7 = .ok (.iconst (-1), 1) := by decide +kernel
theorem dT_behindLine_8 : decode prog_3_method_4_code 8 = .ok (.if_icmp .ne 7, 3) := by decide +kernel
theorem dT_behindLine_11 : decode prog_3_method_4_code 11 = .ok (.iconst (-1), 1) := by decide +kernel
theorem dT_behindLine_12 : decode prog_3_method_4_code 12 = .ok (.iload_n 1, 1) := by decide +kernel
theorem dT_behindLine_13 : decode prog_3_method_4_code 13 = .ok (.isub, 1) := by decide +kernel
theorem dT_behindLine_14 : decode prog_3_method_4_code 14 = .ok (.ireturn, 1) := by decide +kernel
theorem dT_behindLine_15 : decode prog_3_method_4_code 15 = .ok (.aload_n 0, 1) := by decide +kernel
theorem dT_behindLine_16 : decode prog_3_method_4_code 16 = .ok (.iload_n 1, 1) := by decide +kernel
theorem dT_behindLine_17 : decode prog_3_method_4_code 17 = .ok (.iconst 1, 1) := by decide +kernel
theorem dT_behindLine_18 : decode prog_3_method_4_code 18 = .ok (.iadd, 1) := by decide +kernel
theorem dT_behindLine_19 : decode prog_3_method_4_code 19 = .ok (.invokevirtual 26, 3) := by decide +kernel
theorem dT_behindLine_22 : decode prog_3_method_4_code 22 = .ok (.bipush 32, 2) := by decide +kernel
theorem dT_behindLine_24 : decode prog_3_method_4_code 24 = .ok (.if_icmp .eq 8, 3) := by decide +kernel
theorem dT_behindLine_27 : decode prog_3_method_4_code 27 = .ok (.bipush (-2), 2) := by decide +kernel
theorem dT_behindLine_29 : decode prog_3_method_4_code 29 = .ok (.iload_n 1, 1) := by decide +kernel
theorem dT_behindLine_30 : decode prog_3_method_4_code 30 = .ok (.isub, 1) := by decide +kernel
theorem dT_behindLine_31 : decode prog_3_method_4_code 31 = .ok (.ireturn, 1) := by decide +kernel
theorem dT_behindLine_32 : decode prog_3_method_4_code 32 = .ok (.aload_n 0, 1) := by decide +kernel
theorem dT_behindLine_33 : decode prog_3_method_4_code 33 = .ok (.iload_n 1, 1) := by decide +kernel
theorem dT_behindLine_34 : decode prog_3_method_4_code 34 = .ok (.iconst 2, 1) := by decide +kernel
theorem dT_behindLine_35 : decode prog_3_method_4_code 35 = .ok (.iadd, 1) := by decide +kernel
theorem dT_behindLine_36 : decode prog_3_method_4_code 36 = .ok (.invokevirtual 29, 3) := by decide +kernel
theorem dT_behindLine_39 : decode prog_3_method_4_code 39 = .ok (.bipush 7, 2) := by decide +kernel
theorem dT_behindLine_41 : decode prog_3_method_4_code 41 = .ok (.invokestatic 32, 3) := by decide +kernel
theorem dT_behindLine_44 : decode prog_3_method_4_code 44 = .ok (.ifCond .ne 8, 3) := by decide +kernel
theorem dT_behindLine_47 : decode prog_3_method_4_code 47 = .ok (.bipush (-3), 2) := by decide +kernel
theorem dT_behindLine_49 : decode prog_3_method_4_code 49 = .ok (.iload_n 1, 1) := by decide +kernel
theorem dT_behindLine_50 : decode prog_3_method_4_code 50 = .ok (.isub, 1) := by decide +kernel
theorem dT_behindLine_51 : decode prog_3_method_4_code 51 = .ok (.ireturn, 1) := by decide +kernel
theorem dT_behindLine_52 : decode prog_3_method_4_code 52 = .ok (.aload_n 0, 1) := by decide +kernel
theorem dT_behindLine_53 : decode prog_3_method_4_code 53 = .ok (.iload_n 1, 1) := by decide +kernel
theorem dT_behindLine_54 : decode prog_3_method_4_code 54 = .ok (.iconst 3, 1) := by decide +kernel
theorem dT_behindLine_55 : decode prog_3_method_4_code 55 = .ok (.iadd, 1) := by decide +kernel
theorem dT_behindLine_56 : decode prog_3_method_4_code 56 = .ok (.invokevirtual 26, 3) := by decide +kernel
theorem dT_behindLine_59 : decode prog_3_method_4_code 59 = .ok (.bipush 32, 2) := by decide +kernel
theorem dT_behindLine_61 : decode prog_3_method_4_code 61 = .ok (.if_icmp .eq 8, 3) := by decide +kernel
theorem dT_behindLine_64 : decode prog_3_method_4_code 64 = .ok (.bipush (-4), 2) := by decide +kernel
theorem dT_behindLine_66 : decode prog_3_method_4_code 66 = .ok (.iload_n 1, 1) := by decide +kernel
theorem dT_behindLine_67 : decode prog_3_method_4_code 67 = .ok (.isub, 1) := by decide +kernel
theorem dT_behindLine_68 : decode prog_3_method_4_code 68 = .ok (.ireturn, 1) := by decide +kernel
theorem dT_behindLine_69 : decode prog_3_method_4_code 69 = .ok (.aload_n 0, 1) := by decide +kernel
theorem dT_behindLine_70 : decode prog_3_method_4_code 70 = .ok (.iload_n 1, 1) := by decide +kernel
theorem dT_behindLine_71 : decode prog_3_method_4_code 71 = .ok (.iconst 4, 1) := by decide +kernel
theorem dT_behindLine_72 : decode prog_3_method_4_code 72 = .ok (.iadd, 1) := by decide +kernel
theorem dT_behindLine_73 : decode prog_3_method_4_code 73 = .ok (.invokevirtual 29, 3) := by decide +kernel
theorem dT_behindLine_76 : decode prog_3_method_4_code 76 = .ok (.istore_n 3, 1) := by decide +kernel
theorem dT_behindLine_77 : decode prog_3_method_4_code 77 = .ok (.iload_n 3, 1) := by decide +kernel
theorem dT_behindLine_78 : decode prog_3_method_4_code 78 = .ok (.iload_n 2, 1) := by decide +kernel
theorem dT_behindLine_79 : decode prog_3_method_4_code 79 = .ok (.iconst 2, 1) := by decide +kernel
theorem dT_behindLine_80 : decode prog_3_method_4_code 80 = .ok (.if_icmp .eq 8, 3) := by decide +kernel
theorem dT_behindLine_83 : decode prog_3_method_4_code 83 = .ok (.iload_n 2, 1) := by decide +kernel
theorem dT_behindLine_84 : decode prog_3_method_4_code 84 = .ok (.iconst 3, 1) := by decide +kernel
theorem dT_behindLine_85 : decode prog_3_method_4_code 85 = .ok (.if_icmp .ne 8, 3) := by decide +kernel
theorem dT_behindLine_88 : decode prog_3_method_4_code 88 = .ok (.bipush 9, 2) := by decide +kernel
theorem dT_behindLine_90 : decode prog_3_method_4_code 90 = .ok (.goto 5, 3) := by decide +kernel
theorem dT_behindLine_93 : decode prog_3_method_4_code 93 = .ok (.bipush 7, 2) := by decide +kernel
theorem dT_behindLine_95 : decode prog_3_method_4_code 95 = .ok (.invokestatic 32, 3) := by decide +kernel
theorem dT_behindLine_98 : decode prog_3_method_4_code 98 = .ok (.ifCond .ne 8, 3) := by decide +kernel
theorem dT_behindLine_101 : decode prog_3_method_4_code 101 = .ok (.bipush (-5), 2) := by decide +kernel
theorem dT_behindLine_103 : decode prog_3_method_4_code 103 = .ok (.iload_n 1, 1) := by decide +kernel
theorem dT_behindLine_104 : decode prog_3_method_4_code 104 = .ok (.isub, 1) := by decide +kernel
theorem dT_behindLine_105 : decode prog_3_method_4_code 105 = .ok (.ireturn, 1) := by decide +kernel
theorem dT_behindLine_106 : decode prog_3_method_4_code 106 = .ok (.iload_n 2, 1) := by decide +kernel
theorem dT_behindLine_107 : decode prog_3_method_4_code 107 = .ok (.iconst 2, 1) := by decide +kernel
theorem dT_behindLine_108 : decode prog_3_method_4_code 108 = .ok (.if_icmp .ne 22, 3) := by decide +kernel
theorem dT_behindLine_111 : decode prog_3_method_4_code 111 = .ok (.iload_n 3, 1) := by decide +kernel
theorem dT_behindLine_112 : decode prog_3_method_4_code 112 = .ok (.ifCond .eq 18, 3) := by decide +kernel
theorem dT_behindLine_115 : decode prog_3_method_4_code 115 = .ok (.aload_n 0, 1) := by decide +kernel
theorem dT_behindLine_116 : decode prog_3_method_4_code 116 = .ok (.iload_n 1, 1) := by decide +kernel
theorem dT_behindLine_117 : decode prog_3_method_4_code 117 = .ok (.iconst 5, 1) := by decide +kernel
theorem dT_behindLine_118 : decode prog_3_method_4_code 118 = .ok (.iadd, 1) := by decide +kernel
theorem dT_behindLine_119 : decode prog_3_method_4_code 119 = .ok (.invokevirtual 29, 3) := by decide +kernel
theorem dT_behindLine_122 : decode prog_3_method_4_code 122 = .ok (.iconst (-1), 1) := by decide +kernel
theorem dT_behindLine_123 : decode prog_3_method_4_code 123 = .ok (.if_icmp .eq 7, 3) := by decide +kernel
theorem dT_behindLine_126 : decode prog_3_method_4_code 126 = .ok (.iconst 1, 1) := by decide +kernel
theorem dT_behindLine_127 : decode prog_3_method_4_code 127 = .ok (.goto 4, 3) := by decide +kernel
theorem dT_behindLine_130 : decode prog_3_method_4_code 130 = .ok (.iconst 0, 1) := by decide +kernel
theorem dT_behindLine_131 : decode prog_3_method_4_code 131 = .ok (.istore 4, 2) := by decide +kernel
theorem dT_behindLine_133 : decode prog_3_method_4_code 133 = .ok (.iload_n 1, 1) := by decide +kernel
theorem dT_behindLine_134 : decode prog_3_method_4_code 134 = .ok (.iload 4, 2) := by decide +kernel
theorem dT_behindLine_136 : decode prog_3_method_4_code 136 = .ok (.ifCond .eq 8, 3) := by decide +kernel
theorem dT_behindLine_139 : decode prog_3_method_4_code 139 = .ok (.bipush 6, 2) := by decide +kernel
theorem dT_behindLine_141 : decode prog_3_method_4_code 141 = .ok (.goto 4, 3) := by decide +kernel
theorem dT_behindLine_144 : decode prog_3_method_4_code 144 = .ok (.iconst 5, 1) := by decide +kernel
theorem dT_behindLine_145 : decode prog_3_method_4_code 145 = .ok (.iadd, 1) := by decide +kernel
theorem dT_behindLine_146 : decode prog_3_method_4_code 146 = .ok (.istore 5, 2) := by decide +kernel
theorem dT_behindLine_148 : decode prog_3_method_4_code 148 = .ok (.aload_n 0, 1) := by decide +kernel
theorem dT_behindLine_149 : decode prog_3_method_4_code 149 = .ok (.iload 5, 2) := by decide +kernel
theorem dT_behindLine_151 : decode prog_3_method_4_code 151 = .ok (.invokevirtual 26, 3) := by decide +kernel
theorem dT_behindLine_154 : decode prog_3_method_4_code 154 = .ok (.bipush 10, 2) := by decide +kernel
theorem dT_behindLine_156 : decode prog_3_method_4_code 156 = .ok (.if_icmp .ne 10, 3) := by decide +kernel
theorem dT_behindLine_159 : decode prog_3_method_4_code 159 = .ok (.iload 5, 2) := by decide +kernel
theorem dT_behindLine_161 : decode prog_3_method_4_code 161 = .ok (.iconst 1, 1) := by decide +kernel
theorem dT_behindLine_162 : decode prog_3_method_4_code 162 = .ok (.iadd, 1) := by decide +kernel
theorem dT_behindLine_163 : decode prog_3_method_4_code 163 = .ok (.goto 7, 3) := by decide +kernel
theorem dT_behindLine_166 : decode prog_3_method_4_code 166 = .ok (.iconst (-1), 1) := by decide +kernel
theorem dT_behindLine_167 : decode prog_3_method_4_code 167 = .ok (.iload 5, 2) := by decide +kernel
theorem dT_behindLine_169 : decode prog_3_method_4_code 169 = .ok (.isub, 1) := by decide +kernel
theorem dT_behindLine_170 : decode prog_3_method_4_code 170 = .ok (.ireturn, 1) := by decide +kernel
def y_wrongPlace : MethodName := ⟨"FragileRules$Text", "wrongPlace", "()I"⟩
theorem dT_wrongPlace_0 : decode prog_3_method_2_code 0 = .ok (.iconst 0, 1) := by decide +kernel
theorem dT_wrongPlace_1 : decode prog_3_method_2_code 1 = .ok (.istore_n 1, 1) := by decide +kernel
theorem dT_wrongPlace_2 : decode prog_3_method_2_code 2 = .ok (.iconst 0, 1) := by decide +kernel
theorem dT_wrongPlace_3 : decode prog_3_method_2_code 3 = .ok (.istore_n 2, 1) := by decide +kernel
theorem dT_wrongPlace_4 : decode prog_3_method_2_code 4 = .ok (.iload_n 2, 1) := by decide +kernel
theorem dT_wrongPlace_5 : decode prog_3_method_2_code 5 = .ok (.sipush 200, 3) := by decide +kernel
theorem dT_wrongPlace_8 : decode prog_3_method_2_code 8 = .ok (.if_icmp .ge 33, 3) := by decide +kernel
theorem dT_wrongPlace_11 : decode prog_3_method_2_code 11 = .ok (.iload_n 1, 1) := by decide +kernel
theorem dT_wrongPlace_12 : decode prog_3_method_2_code 12 = .ok (.aload_n 0, 1) := by decide +kernel
theorem dT_wrongPlace_13 : decode prog_3_method_2_code 13 = .ok (.getfield 15, 3) := by decide +kernel
theorem dT_wrongPlace_16 : decode prog_3_method_2_code 16 = .ok (.if_icmp .ge 25, 3) := by decide +kernel
theorem dT_wrongPlace_19 : decode prog_3_method_2_code 19 = .ok (.aload_n 0, 1) := by decide +kernel
theorem dT_wrongPlace_20 : decode prog_3_method_2_code 20 = .ok (.iload_n 1, 1) := by decide +kernel
theorem dT_wrongPlace_21 : decode prog_3_method_2_code 21 = .ok (.invokevirtual 19, 3) := by decide +kernel
theorem dT_wrongPlace_24 : decode prog_3_method_2_code 24 = .ok (.istore_n 3, 1) := by decide +kernel
theorem dT_wrongPlace_25 : decode prog_3_method_2_code 25 = .ok (.iload_n 3, 1) := by decide +kernel
theorem dT_wrongPlace_26 : decode prog_3_method_2_code 26 = .ok (.ifCond .ge 7, 3) := by decide +kernel
theorem dT_wrongPlace_29 : decode prog_3_method_2_code 29 = .ok (.iconst (-1), 1) := by decide +kernel
theorem dT_wrongPlace_30 : decode prog_3_method_2_code 30 = .ok (.iload_n 3, 1) := by decide +kernel
theorem dT_wrongPlace_31 : decode prog_3_method_2_code 31 = .ok (.isub, 1) := by decide +kernel
theorem dT_wrongPlace_32 : decode prog_3_method_2_code 32 = .ok (.ireturn, 1) := by decide +kernel
theorem dT_wrongPlace_33 : decode prog_3_method_2_code 33 = .ok (.iload_n 3, 1) := by decide +kernel
theorem dT_wrongPlace_34 : decode prog_3_method_2_code 34 = .ok (.istore_n 1, 1) := by decide +kernel
theorem dT_wrongPlace_35 : decode prog_3_method_2_code 35 = .ok (.iinc 2 1, 3) := by decide +kernel
theorem dT_wrongPlace_38 : decode prog_3_method_2_code 38 = .ok (.goto (-34), 3) := by decide +kernel
theorem dT_wrongPlace_41 : decode prog_3_method_2_code 41 = .ok (.iconst (-1), 1) := by decide +kernel
theorem dT_wrongPlace_42 : decode prog_3_method_2_code 42 = .ok (.ireturn, 1) := by decide +kernel
def y_lineCount : MethodName := ⟨"FragileRules$Text", "lineCount", "()I"⟩
theorem dT_lineCount_0 : decode prog_3_method_3_code 0 = .ok (.iconst 0, 1) := by decide +kernel
theorem dT_lineCount_1 : decode prog_3_method_3_code 1 = .ok (.istore_n 1, 1) := by decide +kernel
theorem dT_lineCount_2 : decode prog_3_method_3_code 2 = .ok (.iconst 0, 1) := by decide +kernel
theorem dT_lineCount_3 : decode prog_3_method_3_code 3 = .ok (.istore_n 2, 1) := by decide +kernel
theorem dT_lineCount_4 : decode prog_3_method_3_code 4 = .ok (.iload_n 2, 1) := by decide +kernel
theorem dT_lineCount_5 : decode prog_3_method_3_code 5 = .ok (.aload_n 0, 1) := by decide +kernel
theorem dT_lineCount_6 : decode prog_3_method_3_code 6 = .ok (.getfield 15, 3) := by decide +kernel
theorem dT_lineCount_9 : decode prog_3_method_3_code 9 = .ok (.if_icmp .ge 23, 3) := by decide +kernel
theorem dT_lineCount_12 : decode prog_3_method_3_code 12 = .ok (.aload_n 0, 1) := by decide +kernel
theorem dT_lineCount_13 : decode prog_3_method_3_code 13 = .ok (.getfield 9, 3) := by decide +kernel
theorem dT_lineCount_16 : decode prog_3_method_3_code 16 = .ok (.iload_n 2, 1) := by decide +kernel
theorem dT_lineCount_17 : decode prog_3_method_3_code 17 = .ok (.iaload, 1) := by decide +kernel
theorem dT_lineCount_18 : decode prog_3_method_3_code 18 = .ok (.bipush 10, 2) := by decide +kernel
theorem dT_lineCount_20 : decode prog_3_method_3_code 20 = .ok (.if_icmp .ne 6, 3) := by decide +kernel
theorem dT_lineCount_23 : decode prog_3_method_3_code 23 = .ok (.iinc 1 1, 3) := by decide +kernel
theorem dT_lineCount_26 : decode prog_3_method_3_code 26 = .ok (.iinc 2 1, 3) := by decide +kernel
theorem dT_lineCount_29 : decode prog_3_method_3_code 29 = .ok (.goto (-25), 3) := by decide +kernel
theorem dT_lineCount_32 : decode prog_3_method_3_code 32 = .ok (.iload_n 1, 1) := by decide +kernel
theorem dT_lineCount_33 : decode prog_3_method_3_code 33 = .ok (.ireturn, 1) := by decide +kernel
def y_isUnit : MethodName := ⟨"FragileRules", "isUnit", "(I)Z"⟩
theorem dF_isUnit_0 : decode prog_1_method_19_code 0 = .ok (.iload_n 1, 1) := by decide +kernel
theorem dF_isUnit_1 : decode prog_1_method_19_code 1 = .ok (.ifCond .lt 15, 3) := by decide +kernel
theorem dF_isUnit_4 : decode prog_1_method_19_code 4 = .ok (.iload_n 1, 1) := by decide +kernel
theorem dF_isUnit_5 : decode prog_1_method_19_code 5 = .ok (.aload_n 0, 1) := by decide +kernel
theorem dF_isUnit_6 : decode prog_1_method_19_code 6 = .ok (.getfield 15, 3) := by decide +kernel
theorem dF_isUnit_9 : decode prog_1_method_19_code 9 = .ok (.if_icmp .ge 7, 3) := by decide +kernel
theorem dF_isUnit_12 : decode prog_1_method_19_code 12 = .ok (.iconst 1, 1) := by decide +kernel
theorem dF_isUnit_13 : decode prog_1_method_19_code 13 = .ok (.goto 4, 3) := by decide +kernel
theorem dF_isUnit_16 : decode prog_1_method_19_code 16 = .ok (.iconst 0, 1) := by decide +kernel
theorem dF_isUnit_17 : decode prog_1_method_19_code 17 = .ok (.ireturn, 1) := by decide +kernel
def y_isRuleNumber : MethodName := ⟨"FragileRules", "isRuleNumber", "(I)Z"⟩
theorem dF_isRuleNumber_0 : decode prog_1_method_20_code 0 = .ok (.iload_n 1, 1) := by decide +kernel
theorem dF_isRuleNumber_1 : decode prog_1_method_20_code 1 = .ok (.iconst 1, 1) := by decide +kernel
theorem dF_isRuleNumber_2 : decode prog_1_method_20_code 2 = .ok (.if_icmp .lt 15, 3) := by decide +kernel
theorem dF_isRuleNumber_5 : decode prog_1_method_20_code 5 = .ok (.iload_n 1, 1) := by decide +kernel
theorem dF_isRuleNumber_6 : decode prog_1_method_20_code 6 = .ok (.aload_n 0, 1) := by decide +kernel
theorem dF_isRuleNumber_7 : decode prog_1_method_20_code 7 = .ok (.getfield 25, 3) := by decide +kernel
theorem dF_isRuleNumber_10 : decode prog_1_method_20_code 10 = .ok (.if_icmp .gt 7, 3) := by decide +kernel
theorem dF_isRuleNumber_13 : decode prog_1_method_20_code 13 = .ok (.iconst 1, 1) := by decide +kernel
theorem dF_isRuleNumber_14 : decode prog_1_method_20_code 14 = .ok (.goto 4, 3) := by decide +kernel
theorem dF_isRuleNumber_17 : decode prog_1_method_20_code 17 = .ok (.iconst 0, 1) := by decide +kernel
theorem dF_isRuleNumber_18 : decode prog_1_method_20_code 18 = .ok (.ireturn, 1) := by decide +kernel
def y_asking : MethodName := ⟨"FragileRules$Rule", "asking", "()I"⟩
theorem dR_asking_0 : decode prog_2_method_2_code 0 = .ok (.aload_n 0, 1) := by decide +kernel
theorem dR_asking_1 : decode prog_2_method_2_code 1 = .ok (.getfield 9, 3) := by decide +kernel
theorem dR_asking_4 : decode prog_2_method_2_code 4 = .ok (.tableswitch 54 1 5 #[36, 54, 54, 38, 40], 36) := by decide +kernel
theorem dR_asking_40 : decode prog_2_method_2_code 40 = .ok (.iconst 1, 1) := by decide +kernel
theorem dR_asking_41 : decode prog_2_method_2_code 41 = .ok (.ireturn, 1) := by decide +kernel
theorem dR_asking_42 : decode prog_2_method_2_code 42 = .ok (.iconst 2, 1) := by decide +kernel
theorem dR_asking_43 : decode prog_2_method_2_code 43 = .ok (.ireturn, 1) := by decide +kernel
theorem dR_asking_44 : decode prog_2_method_2_code 44 = .ok (.aload_n 0, 1) := by decide +kernel
theorem dR_asking_45 : decode prog_2_method_2_code 45 = .ok (.getfield 15, 3) := by decide +kernel
theorem dR_asking_48 : decode prog_2_method_2_code 48 = .ok (.iconst 2, 1) := by decide +kernel
theorem dR_asking_49 : decode prog_2_method_2_code 49 = .ok (.if_icmp .ne 7, 3) := by decide +kernel
theorem dR_asking_52 : decode prog_2_method_2_code 52 = .ok (.iconst 1, 1) := by decide +kernel
theorem dR_asking_53 : decode prog_2_method_2_code 53 = .ok (.goto 4, 3) := by decide +kernel
theorem dR_asking_56 : decode prog_2_method_2_code 56 = .ok (.iconst 0, 1) := by decide +kernel
theorem dR_asking_57 : decode prog_2_method_2_code 57 = .ok (.ireturn, 1) := by decide +kernel
theorem dR_asking_58 : decode prog_2_method_2_code 58 = .ok (.iconst 0, 1) := by decide +kernel
theorem dR_asking_59 : decode prog_2_method_2_code 59 = .ok (.ireturn, 1) := by decide +kernel
def y_doing : MethodName := ⟨"FragileRules$Rule", "refusesByItsDoing", "(LFragileRules$Unit;LFragileRules$Unit;I)Z"⟩
theorem dR_refusesByItsDoing_0 : decode prog_2_method_4_code 0 = .ok (.aload_n 0, 1) := by decide +kernel
theorem dR_refusesByItsDoing_1 : decode prog_2_method_4_code 1 = .ok (.getfield 15, 3) := by decide +kernel
theorem dR_refusesByItsDoing_4 : decode prog_2_method_4_code 4 = .ok (.tableswitch 87 0 2 #[28, 34, 52], 28) := by decide +kernel
theorem dR_refusesByItsDoing_32 : decode prog_2_method_4_code 32 = .ok (.aload_n 1, 1) := by decide +kernel
theorem dR_refusesByItsDoing_33 : decode prog_2_method_4_code 33 = .ok (.iconst 1, 1) := by decide +kernel
theorem dR_refusesByItsDoing_34 : decode prog_2_method_4_code 34 = .ok (.invokevirtual 32, 3) := by decide +kernel
theorem dR_refusesByItsDoing_37 : decode prog_2_method_4_code 37 = .ok (.ireturn, 1) := by decide +kernel
theorem dR_refusesByItsDoing_38 : decode prog_2_method_4_code 38 = .ok (.aload_n 2, 1) := by decide +kernel
theorem dR_refusesByItsDoing_39 : decode prog_2_method_4_code 39 = .ok (.iconst 2, 1) := by decide +kernel
theorem dR_refusesByItsDoing_40 : decode prog_2_method_4_code 40 = .ok (.invokevirtual 32, 3) := by decide +kernel
theorem dR_refusesByItsDoing_43 : decode prog_2_method_4_code 43 = .ok (.ifCond .eq 11, 3) := by decide +kernel
theorem dR_refusesByItsDoing_46 : decode prog_2_method_4_code 46 = .ok (.iload_n 3, 1) := by decide +kernel
theorem dR_refusesByItsDoing_47 : decode prog_2_method_4_code 47 = .ok (.ifCond .eq 7, 3) := by decide +kernel
theorem dR_refusesByItsDoing_50 : decode prog_2_method_4_code 50 = .ok (.iconst 1, 1) := by decide +kernel
theorem dR_refusesByItsDoing_51 : decode prog_2_method_4_code 51 = .ok (.goto 4, 3) := by decide +kernel
theorem dR_refusesByItsDoing_54 : decode prog_2_method_4_code 54 = .ok (.iconst 0, 1) := by decide +kernel
theorem dR_refusesByItsDoing_55 : decode prog_2_method_4_code 55 = .ok (.ireturn, 1) := by decide +kernel
theorem dR_refusesByItsDoing_56 : decode prog_2_method_4_code 56 = .ok (.aload_n 1, 1) := by decide +kernel
theorem dR_refusesByItsDoing_57 : decode prog_2_method_4_code 57 = .ok (.bipush 8, 2) := by decide +kernel
theorem dR_refusesByItsDoing_59 : decode prog_2_method_4_code 59 = .ok (.invokevirtual 32, 3) := by decide +kernel
theorem dR_refusesByItsDoing_62 : decode prog_2_method_4_code 62 = .ok (.ifCond .ne 12, 3) := by decide +kernel
theorem dR_refusesByItsDoing_65 : decode prog_2_method_4_code 65 = .ok (.aload_n 2, 1) := by decide +kernel
theorem dR_refusesByItsDoing_66 : decode prog_2_method_4_code 66 = .ok (.bipush 8, 2) := by decide +kernel
theorem dR_refusesByItsDoing_68 : decode prog_2_method_4_code 68 = .ok (.invokevirtual 32, 3) := by decide +kernel
theorem dR_refusesByItsDoing_71 : decode prog_2_method_4_code 71 = .ok (.ifCond .eq 18, 3) := by decide +kernel
theorem dR_refusesByItsDoing_74 : decode prog_2_method_4_code 74 = .ok (.aload_n 1, 1) := by decide +kernel
theorem dR_refusesByItsDoing_75 : decode prog_2_method_4_code 75 = .ok (.getfield 24, 3) := by decide +kernel
theorem dR_refusesByItsDoing_78 : decode prog_2_method_4_code 78 = .ok (.aload_n 2, 1) := by decide +kernel
theorem dR_refusesByItsDoing_79 : decode prog_2_method_4_code 79 = .ok (.getfield 24, 3) := by decide +kernel
theorem dR_refusesByItsDoing_82 : decode prog_2_method_4_code 82 = .ok (.if_icmp .eq 7, 3) := by decide +kernel
theorem dR_refusesByItsDoing_85 : decode prog_2_method_4_code 85 = .ok (.iconst 1, 1) := by decide +kernel
theorem dR_refusesByItsDoing_86 : decode prog_2_method_4_code 86 = .ok (.goto 4, 3) := by decide +kernel
theorem dR_refusesByItsDoing_89 : decode prog_2_method_4_code 89 = .ok (.iconst 0, 1) := by decide +kernel
theorem dR_refusesByItsDoing_90 : decode prog_2_method_4_code 90 = .ok (.ireturn, 1) := by decide +kernel
theorem dR_refusesByItsDoing_91 : decode prog_2_method_4_code 91 = .ok (.aload_n 1, 1) := by decide +kernel
theorem dR_refusesByItsDoing_92 : decode prog_2_method_4_code 92 = .ok (.iconst 4, 1) := by decide +kernel
theorem dR_refusesByItsDoing_93 : decode prog_2_method_4_code 93 = .ok (.invokevirtual 32, 3) := by decide +kernel
theorem dR_refusesByItsDoing_96 : decode prog_2_method_4_code 96 = .ok (.ifCond .eq 18, 3) := by decide +kernel
theorem dR_refusesByItsDoing_99 : decode prog_2_method_4_code 99 = .ok (.aload_n 1, 1) := by decide +kernel
theorem dR_refusesByItsDoing_100 : decode prog_2_method_4_code 100 = .ok (.getfield 24, 3) := by decide +kernel
theorem dR_refusesByItsDoing_103 : decode prog_2_method_4_code 103 = .ok (.aload_n 2, 1) := by decide +kernel
theorem dR_refusesByItsDoing_104 : decode prog_2_method_4_code 104 = .ok (.getfield 24, 3) := by decide +kernel
theorem dR_refusesByItsDoing_107 : decode prog_2_method_4_code 107 = .ok (.if_icmp .eq 7, 3) := by decide +kernel
theorem dR_refusesByItsDoing_110 : decode prog_2_method_4_code 110 = .ok (.iconst 1, 1) := by decide +kernel
theorem dR_refusesByItsDoing_111 : decode prog_2_method_4_code 111 = .ok (.goto 4, 3) := by decide +kernel
theorem dR_refusesByItsDoing_114 : decode prog_2_method_4_code 114 = .ok (.iconst 0, 1) := by decide +kernel
theorem dR_refusesByItsDoing_115 : decode prog_2_method_4_code 115 = .ok (.ireturn, 1) := by decide +kernel
def y_refuses : MethodName := ⟨"FragileRules$Rule", "refuses", "(LFragileRules$Unit;LFragileRules$Unit;I)Z"⟩
theorem dR_refuses_0 : decode prog_2_method_3_code 0 = .ok (.aload_n 0, 1) := by decide +kernel
theorem dR_refuses_1 : decode prog_2_method_3_code 1 = .ok (.getfield 9, 3) := by decide +kernel
theorem dR_refuses_4 : decode prog_2_method_3_code 4 = .ok (.tableswitch 195 0 4 #[36, 64, 114, 145, 170], 36) := by decide +kernel
theorem dR_refuses_40 : decode prog_2_method_3_code 40 = .ok (.aload_n 2, 1) := by decide +kernel
theorem dR_refuses_41 : decode prog_2_method_3_code 41 = .ok (.getfield 24, 3) := by decide +kernel
theorem dR_refuses_44 : decode prog_2_method_3_code 44 = .ok (.aload_n 0, 1) := by decide +kernel
theorem dR_refuses_45 : decode prog_2_method_3_code 45 = .ok (.getfield 15, 3) := by decide +kernel
theorem dR_refuses_48 : decode prog_2_method_3_code 48 = .ok (.if_icmp .ne 18, 3) := by decide +kernel
theorem dR_refuses_51 : decode prog_2_method_3_code 51 = .ok (.aload_n 1, 1) := by decide +kernel
theorem dR_refuses_52 : decode prog_2_method_3_code 52 = .ok (.getfield 24, 3) := by decide +kernel
theorem dR_refuses_55 : decode prog_2_method_3_code 55 = .ok (.aload_n 0, 1) := by decide +kernel
theorem dR_refuses_56 : decode prog_2_method_3_code 56 = .ok (.getfield 18, 3) := by decide +kernel
theorem dR_refuses_59 : decode prog_2_method_3_code 59 = .ok (.if_icmp .ne 7, 3) := by decide +kernel
theorem dR_refuses_62 : decode prog_2_method_3_code 62 = .ok (.iconst 1, 1) := by decide +kernel
theorem dR_refuses_63 : decode prog_2_method_3_code 63 = .ok (.goto 4, 3) := by decide +kernel
theorem dR_refuses_66 : decode prog_2_method_3_code 66 = .ok (.iconst 0, 1) := by decide +kernel
theorem dR_refuses_67 : decode prog_2_method_3_code 67 = .ok (.ireturn, 1) := by decide +kernel
theorem dR_refuses_68 : decode prog_2_method_3_code 68 = .ok (.aload_n 1, 1) := by decide +kernel
theorem dR_refuses_69 : decode prog_2_method_3_code 69 = .ok (.getfield 24, 3) := by decide +kernel
theorem dR_refuses_72 : decode prog_2_method_3_code 72 = .ok (.aload_n 0, 1) := by decide +kernel
theorem dR_refuses_73 : decode prog_2_method_3_code 73 = .ok (.getfield 15, 3) := by decide +kernel
theorem dR_refuses_76 : decode prog_2_method_3_code 76 = .ok (.if_icmp .ne 14, 3) := by decide +kernel
theorem dR_refuses_79 : decode prog_2_method_3_code 79 = .ok (.aload_n 2, 1) := by decide +kernel
theorem dR_refuses_80 : decode prog_2_method_3_code 80 = .ok (.getfield 24, 3) := by decide +kernel
theorem dR_refuses_83 : decode prog_2_method_3_code 83 = .ok (.aload_n 0, 1) := by decide +kernel
theorem dR_refuses_84 : decode prog_2_method_3_code 84 = .ok (.getfield 18, 3) := by decide +kernel
theorem dR_refuses_87 : decode prog_2_method_3_code 87 = .ok (.if_icmp .eq 25, 3) := by decide +kernel
theorem dR_refuses_90 : decode prog_2_method_3_code 90 = .ok (.aload_n 1, 1) := by decide +kernel
theorem dR_refuses_91 : decode prog_2_method_3_code 91 = .ok (.getfield 24, 3) := by decide +kernel
theorem dR_refuses_94 : decode prog_2_method_3_code 94 = .ok (.aload_n 0, 1) := by decide +kernel
theorem dR_refuses_95 : decode prog_2_method_3_code 95 = .ok (.getfield 18, 3) := by decide +kernel
theorem dR_refuses_98 : decode prog_2_method_3_code 98 = .ok (.if_icmp .ne 18, 3) := by decide +kernel
theorem dR_refuses_101 : decode prog_2_method_3_code 101 = .ok (.aload_n 2, 1) := by decide +kernel
theorem dR_refuses_102 : decode prog_2_method_3_code 102 = .ok (.getfield 24, 3) := by decide +kernel
theorem dR_refuses_105 : decode prog_2_method_3_code 105 = .ok (.aload_n 0, 1) := by decide +kernel
theorem dR_refuses_106 : decode prog_2_method_3_code 106 = .ok (.getfield 15, 3) := by decide +kernel
theorem dR_refuses_109 : decode prog_2_method_3_code 109 = .ok (.if_icmp .ne 7, 3) := by decide +kernel
theorem dR_refuses_112 : decode prog_2_method_3_code 112 = .ok (.iconst 1, 1) := by decide +kernel
theorem dR_refuses_113 : decode prog_2_method_3_code 113 = .ok (.goto 4, 3) := by decide +kernel
theorem dR_refuses_116 : decode prog_2_method_3_code 116 = .ok (.iconst 0, 1) := by decide +kernel
theorem dR_refuses_117 : decode prog_2_method_3_code 117 = .ok (.ireturn, 1) := by decide +kernel
theorem dR_refuses_118 : decode prog_2_method_3_code 118 = .ok (.aload_n 1, 1) := by decide +kernel
theorem dR_refuses_119 : decode prog_2_method_3_code 119 = .ok (.getfield 24, 3) := by decide +kernel
theorem dR_refuses_122 : decode prog_2_method_3_code 122 = .ok (.aload_n 0, 1) := by decide +kernel
theorem dR_refuses_123 : decode prog_2_method_3_code 123 = .ok (.getfield 15, 3) := by decide +kernel
theorem dR_refuses_126 : decode prog_2_method_3_code 126 = .ok (.if_icmp .ne 21, 3) := by decide +kernel
theorem dR_refuses_129 : decode prog_2_method_3_code 129 = .ok (.aload_n 2, 1) := by decide +kernel
theorem dR_refuses_130 : decode prog_2_method_3_code 130 = .ok (.getfield 29, 3) := by decide +kernel
theorem dR_refuses_133 : decode prog_2_method_3_code 133 = .ok (.bipush 10, 2) := by decide +kernel
theorem dR_refuses_135 : decode prog_2_method_3_code 135 = .ok (.aload_n 0, 1) := by decide +kernel
theorem dR_refuses_136 : decode prog_2_method_3_code 136 = .ok (.getfield 18, 3) := by decide +kernel
theorem dR_refuses_139 : decode prog_2_method_3_code 139 = .ok (.imul, 1) := by decide +kernel
theorem dR_refuses_140 : decode prog_2_method_3_code 140 = .ok (.if_icmp .le 7, 3) := by decide +kernel
theorem dR_refuses_143 : decode prog_2_method_3_code 143 = .ok (.iconst 1, 1) := by decide +kernel
theorem dR_refuses_144 : decode prog_2_method_3_code 144 = .ok (.goto 4, 3) := by decide +kernel
theorem dR_refuses_147 : decode prog_2_method_3_code 147 = .ok (.iconst 0, 1) := by decide +kernel
theorem dR_refuses_148 : decode prog_2_method_3_code 148 = .ok (.ireturn, 1) := by decide +kernel
theorem dR_refuses_149 : decode prog_2_method_3_code 149 = .ok (.aload_n 2, 1) := by decide +kernel
theorem dR_refuses_150 : decode prog_2_method_3_code 150 = .ok (.getfield 24, 3) := by decide +kernel
theorem dR_refuses_153 : decode prog_2_method_3_code 153 = .ok (.aload_n 0, 1) := by decide +kernel
theorem dR_refuses_154 : decode prog_2_method_3_code 154 = .ok (.getfield 15, 3) := by decide +kernel
theorem dR_refuses_157 : decode prog_2_method_3_code 157 = .ok (.if_icmp .ne 15, 3) := by decide +kernel
theorem dR_refuses_160 : decode prog_2_method_3_code 160 = .ok (.iload_n 3, 1) := by decide +kernel
theorem dR_refuses_161 : decode prog_2_method_3_code 161 = .ok (.aload_n 0, 1) := by decide +kernel
theorem dR_refuses_162 : decode prog_2_method_3_code 162 = .ok (.getfield 18, 3) := by decide +kernel
theorem dR_refuses_165 : decode prog_2_method_3_code 165 = .ok (.if_icmp .lt 7, 3) := by decide +kernel
theorem dR_refuses_168 : decode prog_2_method_3_code 168 = .ok (.iconst 1, 1) := by decide +kernel
theorem dR_refuses_169 : decode prog_2_method_3_code 169 = .ok (.goto 4, 3) := by decide +kernel
theorem dR_refuses_172 : decode prog_2_method_3_code 172 = .ok (.iconst 0, 1) := by decide +kernel
theorem dR_refuses_173 : decode prog_2_method_3_code 173 = .ok (.ireturn, 1) := by decide +kernel
theorem dR_refuses_174 : decode prog_2_method_3_code 174 = .ok (.iload_n 3, 1) := by decide +kernel
theorem dR_refuses_175 : decode prog_2_method_3_code 175 = .ok (.aload_n 0, 1) := by decide +kernel
theorem dR_refuses_176 : decode prog_2_method_3_code 176 = .ok (.getfield 15, 3) := by decide +kernel
theorem dR_refuses_179 : decode prog_2_method_3_code 179 = .ok (.if_icmp .ne 18, 3) := by decide +kernel
theorem dR_refuses_182 : decode prog_2_method_3_code 182 = .ok (.aload_n 1, 1) := by decide +kernel
theorem dR_refuses_183 : decode prog_2_method_3_code 183 = .ok (.aload_n 0, 1) := by decide +kernel
theorem dR_refuses_184 : decode prog_2_method_3_code 184 = .ok (.getfield 18, 3) := by decide +kernel
theorem dR_refuses_187 : decode prog_2_method_3_code 187 = .ok (.invokevirtual 32, 3) := by decide +kernel
theorem dR_refuses_190 : decode prog_2_method_3_code 190 = .ok (.ifCond .ne 7, 3) := by decide +kernel
theorem dR_refuses_193 : decode prog_2_method_3_code 193 = .ok (.iconst 1, 1) := by decide +kernel
theorem dR_refuses_194 : decode prog_2_method_3_code 194 = .ok (.goto 4, 3) := by decide +kernel
theorem dR_refuses_197 : decode prog_2_method_3_code 197 = .ok (.iconst 0, 1) := by decide +kernel
theorem dR_refuses_198 : decode prog_2_method_3_code 198 = .ok (.ireturn, 1) := by decide +kernel
theorem dR_refuses_199 : decode prog_2_method_3_code 199 = .ok (.aload_n 0, 1) := by decide +kernel
theorem dR_refuses_200 : decode prog_2_method_3_code 200 = .ok (.getfield 18, 3) := by decide +kernel
theorem dR_refuses_203 : decode prog_2_method_3_code 203 = .ok (.iconst 1, 1) := by decide +kernel
theorem dR_refuses_204 : decode prog_2_method_3_code 204 = .ok (.if_icmp .eq 13, 3) := by decide +kernel
theorem dR_refuses_207 : decode prog_2_method_3_code 207 = .ok (.aload_n 0, 1) := by decide +kernel
theorem dR_refuses_208 : decode prog_2_method_3_code 208 = .ok (.aload_n 1, 1) := by decide +kernel
theorem dR_refuses_209 : decode prog_2_method_3_code 209 = .ok (.aload_n 2, 1) := by decide +kernel
theorem dR_refuses_210 : decode prog_2_method_3_code 210 = .ok (.iload_n 3, 1) := by decide +kernel
theorem dR_refuses_211 : decode prog_2_method_3_code 211 = .ok (.invokevirtual 36, 3) := by decide +kernel
theorem dR_refuses_214 : decode prog_2_method_3_code 214 = .ok (.ifCond .eq 7, 3) := by decide +kernel
theorem dR_refuses_217 : decode prog_2_method_3_code 217 = .ok (.iconst 1, 1) := by decide +kernel
theorem dR_refuses_218 : decode prog_2_method_3_code 218 = .ok (.goto 4, 3) := by decide +kernel
theorem dR_refuses_221 : decode prog_2_method_3_code 221 = .ok (.iconst 0, 1) := by decide +kernel
theorem dR_refuses_222 : decode prog_2_method_3_code 222 = .ok (.ireturn, 1) := by decide +kernel
def y_count : MethodName := ⟨"FragileRules", "count", "(I)I"⟩
theorem dF_count_0 : decode prog_1_method_15_code 0 = .ok (.iload_n 1, 1) := by decide +kernel
theorem dF_count_1 : decode prog_1_method_15_code 1 = .ok (.tableswitch 63 0 4 #[35, 40, 45, 53, 58], 35) := by decide +kernel
theorem dF_count_36 : decode prog_1_method_15_code 36 = .ok (.aload_n 0, 1) := by decide +kernel
theorem dF_count_37 : decode prog_1_method_15_code 37 = .ok (.getfield 15, 3) := by decide +kernel
theorem dF_count_40 : decode prog_1_method_15_code 40 = .ok (.ireturn, 1) := by decide +kernel
theorem dF_count_41 : decode prog_1_method_15_code 41 = .ok (.aload_n 0, 1) := by decide +kernel
theorem dF_count_42 : decode prog_1_method_15_code 42 = .ok (.getfield 25, 3) := by decide +kernel
theorem dF_count_45 : decode prog_1_method_15_code 45 = .ok (.ireturn, 1) := by decide +kernel
theorem dF_count_46 : decode prog_1_method_15_code 46 = .ok (.aload_n 0, 1) := by decide +kernel
theorem dF_count_47 : decode prog_1_method_15_code 47 = .ok (.getfield 41, 3) := by decide +kernel
theorem dF_count_50 : decode prog_1_method_15_code 50 = .ok (.getfield 98, 3) := by decide +kernel
theorem dF_count_53 : decode prog_1_method_15_code 53 = .ok (.ireturn, 1) := by decide +kernel
theorem dF_count_54 : decode prog_1_method_15_code 54 = .ok (.aload_n 0, 1) := by decide +kernel
theorem dF_count_55 : decode prog_1_method_15_code 55 = .ok (.getfield 45, 3) := by decide +kernel
theorem dF_count_58 : decode prog_1_method_15_code 58 = .ok (.ireturn, 1) := by decide +kernel
theorem dF_count_59 : decode prog_1_method_15_code 59 = .ok (.aload_n 0, 1) := by decide +kernel
theorem dF_count_60 : decode prog_1_method_15_code 60 = .ok (.getfield 48, 3) := by decide +kernel
theorem dF_count_63 : decode prog_1_method_15_code 63 = .ok (.ireturn, 1) := by decide +kernel
theorem dF_count_64 : decode prog_1_method_15_code 64 = .ok (.iconst (-1), 1) := by decide +kernel
theorem dF_count_65 : decode prog_1_method_15_code 65 = .ok (.ireturn, 1) := by decide +kernel
def y_asked : MethodName := ⟨"FragileRules", "asked", "(I)I"⟩
theorem dF_asked_0 : decode prog_1_method_10_code 0 = .ok (.iload_n 1, 1) := by decide +kernel
theorem dF_asked_1 : decode prog_1_method_10_code 1 = .ok (.ifCond .lt 20, 3) := by decide +kernel
theorem dF_asked_4 : decode prog_1_method_10_code 4 = .ok (.iload_n 1, 1) := by decide +kernel
theorem dF_asked_5 : decode prog_1_method_10_code 5 = .ok (.aload_n 0, 1) := by decide +kernel
theorem dF_asked_6 : decode prog_1_method_10_code 6 = .ok (.getfield 35, 3) := by decide +kernel
theorem dF_asked_9 : decode prog_1_method_10_code 9 = .ok (.if_icmp .ge 12, 3) := by decide +kernel
theorem dF_asked_12 : decode prog_1_method_10_code 12 = .ok (.aload_n 0, 1) := by decide +kernel
theorem dF_asked_13 : decode prog_1_method_10_code 13 = .ok (.getfield 32, 3) := by decide +kernel
theorem dF_asked_16 : decode prog_1_method_10_code 16 = .ok (.iload_n 1, 1) := by decide +kernel
theorem dF_asked_17 : decode prog_1_method_10_code 17 = .ok (.iaload, 1) := by decide +kernel
theorem dF_asked_18 : decode prog_1_method_10_code 18 = .ok (.goto 4, 3) := by decide +kernel
theorem dF_asked_21 : decode prog_1_method_10_code 21 = .ok (.iconst (-1), 1) := by decide +kernel
theorem dF_asked_22 : decode prog_1_method_10_code 22 = .ok (.ireturn, 1) := by decide +kernel
def y_placeIn : MethodName := ⟨"FragileRules", "placeInOrder", "(I)I"⟩
theorem dF_placeInOrder_0 : decode prog_1_method_23_code 0 = .ok (.iconst 0, 1) := by decide +kernel
theorem dF_placeInOrder_1 : decode prog_1_method_23_code 1 = .ok (.istore_n 2, 1) := by decide +kernel
theorem dF_placeInOrder_2 : decode prog_1_method_23_code 2 = .ok (.iload_n 2, 1) := by decide +kernel
theorem dF_placeInOrder_3 : decode prog_1_method_23_code 3 = .ok (.aload_n 0, 1) := by decide +kernel
theorem dF_placeInOrder_4 : decode prog_1_method_23_code 4 = .ok (.getfield 25, 3) := by decide +kernel
theorem dF_placeInOrder_7 : decode prog_1_method_23_code 7 = .ok (.iconst 1, 1) := by decide +kernel
theorem dF_placeInOrder_8 : decode prog_1_method_23_code 8 = .ok (.isub, 1) := by decide +kernel
theorem dF_placeInOrder_9 : decode prog_1_method_23_code 9 = .ok (.if_icmp .ge 19, 3) := by decide +kernel
theorem dF_placeInOrder_12 : decode prog_1_method_23_code 12 = .ok (.aload_n 0, 1) := by decide +kernel
theorem dF_placeInOrder_13 : decode prog_1_method_23_code 13 = .ok (.getfield 28, 3) := by decide +kernel
theorem dF_placeInOrder_16 : decode prog_1_method_23_code 16 = .ok (.iload_n 2, 1) := by decide +kernel
theorem dF_placeInOrder_17 : decode prog_1_method_23_code 17 = .ok (.iaload, 1) := by decide +kernel
theorem dF_placeInOrder_18 : decode prog_1_method_23_code 18 = .ok (.iload_n 1, 1) := by decide +kernel
theorem dF_placeInOrder_19 : decode prog_1_method_23_code 19 = .ok (.if_icmp .eq 9, 3) := by decide +kernel
theorem dF_placeInOrder_22 : decode prog_1_method_23_code 22 = .ok (.iinc 2 1, 3) := by decide +kernel
theorem dF_placeInOrder_25 : decode prog_1_method_23_code 25 = .ok (.goto (-23), 3) := by decide +kernel
theorem dF_placeInOrder_28 : decode prog_1_method_23_code 28 = .ok (.iload_n 2, 1) := by decide +kernel
theorem dF_placeInOrder_29 : decode prog_1_method_23_code 29 = .ok (.ireturn, 1) := by decide +kernel
def y_addRule : MethodName := ⟨"FragileRules", "addRule", "(III)I"⟩
theorem dF_addRule_0 : decode prog_1_method_21_code 0 = .ok (.aload_n 0, 1) := by decide +kernel
theorem dF_addRule_1 : decode prog_1_method_21_code 1 = .ok (.getfield 21, 3) := by decide +kernel
theorem dF_addRule_4 : decode prog_1_method_21_code 4 = .ok (.aload_n 0, 1) := by decide +kernel
theorem dF_addRule_5 : decode prog_1_method_21_code 5 = .ok (.getfield 25, 3) := by decide +kernel
theorem dF_addRule_8 : decode prog_1_method_21_code 8 = .ok (.aaload, 1) := by decide +kernel
theorem dF_addRule_9 : decode prog_1_method_21_code 9 = .ok (.astore 4, 2) := by decide +kernel
theorem dF_addRule_11 : decode prog_1_method_21_code 11 = .ok (.aload 4, 2) := by decide +kernel
theorem dF_addRule_13 : decode prog_1_method_21_code 13 = .ok (.iload_n 1, 1) := by decide +kernel
theorem dF_addRule_14 : decode prog_1_method_21_code 14 = .ok (.putfield 171, 3) := by decide +kernel
theorem dF_addRule_17 : decode prog_1_method_21_code 17 = .ok (.aload 4, 2) := by decide +kernel
theorem dF_addRule_19 : decode prog_1_method_21_code 19 = .ok (.iload_n 2, 1) := by decide +kernel
theorem dF_addRule_20 : decode prog_1_method_21_code 20 = .ok (.putfield 174, 3) := by decide +kernel
theorem dF_addRule_23 : decode prog_1_method_21_code 23 = .ok (.aload 4, 2) := by decide +kernel
theorem dF_addRule_25 : decode prog_1_method_21_code 25 = .ok (.iload_n 3, 1) := by decide +kernel
theorem dF_addRule_26 : decode prog_1_method_21_code 26 = .ok (.putfield 177, 3) := by decide +kernel
theorem dF_addRule_29 : decode prog_1_method_21_code 29 = .ok (.aload_n 0, 1) := by decide +kernel
theorem dF_addRule_30 : decode prog_1_method_21_code 30 = .ok (.getfield 28, 3) := by decide +kernel
theorem dF_addRule_33 : decode prog_1_method_21_code 33 = .ok (.aload_n 0, 1) := by decide +kernel
theorem dF_addRule_34 : decode prog_1_method_21_code 34 = .ok (.getfield 25, 3) := by decide +kernel
theorem dF_addRule_37 : decode prog_1_method_21_code 37 = .ok (.aload_n 0, 1) := by decide +kernel
theorem dF_addRule_38 : decode prog_1_method_21_code 38 = .ok (.getfield 25, 3) := by decide +kernel
theorem dF_addRule_41 : decode prog_1_method_21_code 41 = .ok (.iconst 1, 1) := by decide +kernel
theorem dF_addRule_42 : decode prog_1_method_21_code 42 = .ok (.iadd, 1) := by decide +kernel
theorem dF_addRule_43 : decode prog_1_method_21_code 43 = .ok (.iastore, 1) := by decide +kernel
theorem dF_addRule_44 : decode prog_1_method_21_code 44 = .ok (.aload_n 0, 1) := by decide +kernel
theorem dF_addRule_45 : decode prog_1_method_21_code 45 = .ok (.dup, 1) := by decide +kernel
theorem dF_addRule_46 : decode prog_1_method_21_code 46 = .ok (.getfield 25, 3) := by decide +kernel
theorem dF_addRule_49 : decode prog_1_method_21_code 49 = .ok (.iconst 1, 1) := by decide +kernel
theorem dF_addRule_50 : decode prog_1_method_21_code 50 = .ok (.iadd, 1) := by decide +kernel
theorem dF_addRule_51 : decode prog_1_method_21_code 51 = .ok (.putfield 25, 3) := by decide +kernel
theorem dF_addRule_54 : decode prog_1_method_21_code 54 = .ok (.aload_n 0, 1) := by decide +kernel
theorem dF_addRule_55 : decode prog_1_method_21_code 55 = .ok (.getfield 25, 3) := by decide +kernel
theorem dF_addRule_58 : decode prog_1_method_21_code 58 = .ok (.ireturn, 1) := by decide +kernel
def y_firstRefusing : MethodName := ⟨"FragileRules", "firstRefusing", "(ILFragileRules$Unit;LFragileRules$Unit;I)I"⟩
theorem dF_firstRefusing_0 : decode prog_1_method_26_code 0 = .ok (.aload_n 0, 1) := by decide +kernel
theorem dF_firstRefusing_1 : decode prog_1_method_26_code 1 = .ok (.iconst 0, 1) := by decide +kernel
theorem dF_firstRefusing_2 : decode prog_1_method_26_code 2 = .ok (.putfield 35, 3) := by decide +kernel
theorem dF_firstRefusing_5 : decode prog_1_method_26_code 5 = .ok (.iconst 0, 1) := by decide +kernel
theorem dF_firstRefusing_6 : decode prog_1_method_26_code 6 = .ok (.istore 5, 2) := by decide +kernel
theorem dF_firstRefusing_8 : decode prog_1_method_26_code 8 = .ok (.iload 5, 2) := by decide +kernel
theorem dF_firstRefusing_10 : decode prog_1_method_26_code 10 = .ok (.aload_n 0, 1) := by decide +kernel
theorem dF_firstRefusing_11 : decode prog_1_method_26_code 11 = .ok (.getfield 25, 3) := by decide +kernel
theorem dF_firstRefusing_14 : decode prog_1_method_26_code 14 = .ok (.if_icmp .ge 85, 3) := by decide +kernel
theorem dF_firstRefusing_17 : decode prog_1_method_26_code 17 = .ok (.aload_n 0, 1) := by decide +kernel
theorem dF_firstRefusing_18 : decode prog_1_method_26_code 18 = .ok (.getfield 28, 3) := by decide +kernel
theorem dF_firstRefusing_21 : decode prog_1_method_26_code 21 = .ok (.iload 5, 2) := by decide +kernel
theorem dF_firstRefusing_23 : decode prog_1_method_26_code 23 = .ok (.iaload, 1) := by decide +kernel
theorem dF_firstRefusing_24 : decode prog_1_method_26_code 24 = .ok (.istore 6, 2) := by decide +kernel
theorem dF_firstRefusing_26 : decode prog_1_method_26_code 26 = .ok (.aload_n 0, 1) := by decide +kernel
theorem dF_firstRefusing_27 : decode prog_1_method_26_code 27 = .ok (.getfield 21, 3) := by decide +kernel
theorem dF_firstRefusing_30 : decode prog_1_method_26_code 30 = .ok (.iload 6, 2) := by decide +kernel
theorem dF_firstRefusing_32 : decode prog_1_method_26_code 32 = .ok (.iconst 1, 1) := by decide +kernel
theorem dF_firstRefusing_33 : decode prog_1_method_26_code 33 = .ok (.isub, 1) := by decide +kernel
theorem dF_firstRefusing_34 : decode prog_1_method_26_code 34 = .ok (.aaload, 1) := by decide +kernel
theorem dF_firstRefusing_35 : decode prog_1_method_26_code 35 = .ok (.astore 7, 2) := by decide +kernel
theorem dF_firstRefusing_37 : decode prog_1_method_26_code 37 = .ok (.aload 7, 2) := by decide +kernel
theorem dF_firstRefusing_39 : decode prog_1_method_26_code 39 = .ok (.invokevirtual 204, 3) := by decide +kernel
theorem dF_firstRefusing_42 : decode prog_1_method_26_code 42 = .ok (.iload_n 1, 1) := by decide +kernel
theorem dF_firstRefusing_43 : decode prog_1_method_26_code 43 = .ok (.if_icmp .ne 50, 3) := by decide +kernel
theorem dF_firstRefusing_46 : decode prog_1_method_26_code 46 = .ok (.aload_n 0, 1) := by decide +kernel
theorem dF_firstRefusing_47 : decode prog_1_method_26_code 47 = .ok (.getfield 32, 3) := by decide +kernel
theorem dF_firstRefusing_50 : decode prog_1_method_26_code 50 = .ok (.aload_n 0, 1) := by decide +kernel
theorem dF_firstRefusing_51 : decode prog_1_method_26_code 51 = .ok (.getfield 35, 3) := by decide +kernel
theorem dF_firstRefusing_54 : decode prog_1_method_26_code 54 = .ok (.iload 6, 2) := by decide +kernel
theorem dF_firstRefusing_56 : decode prog_1_method_26_code 56 = .ok (.iastore, 1) := by decide +kernel
theorem dF_firstRefusing_57 : decode prog_1_method_26_code 57 = .ok (.aload_n 0, 1) := by decide +kernel
theorem dF_firstRefusing_58 : decode prog_1_method_26_code 58 = .ok (.dup, 1) := by decide +kernel
theorem dF_firstRefusing_59 : decode prog_1_method_26_code 59 = .ok (.getfield 35, 3) := by decide +kernel
theorem dF_firstRefusing_62 : decode prog_1_method_26_code 62 = .ok (.iconst 1, 1) := by decide +kernel
theorem dF_firstRefusing_63 : decode prog_1_method_26_code 63 = .ok (.iadd, 1) := by decide +kernel
theorem dF_firstRefusing_64 : decode prog_1_method_26_code 64 = .ok (.putfield 35, 3) := by decide +kernel
theorem dF_firstRefusing_67 : decode prog_1_method_26_code 67 = .ok (.aload 7, 2) := by decide +kernel
theorem dF_firstRefusing_69 : decode prog_1_method_26_code 69 = .ok (.aload_n 2, 1) := by decide +kernel
theorem dF_firstRefusing_70 : decode prog_1_method_26_code 70 = .ok (.aload_n 3, 1) := by decide +kernel
theorem dF_firstRefusing_71 : decode prog_1_method_26_code 71 = .ok (.iload 4, 2) := by decide +kernel
theorem dF_firstRefusing_73 : decode prog_1_method_26_code 73 = .ok (.invokevirtual 207, 3) := by decide +kernel
theorem dF_firstRefusing_76 : decode prog_1_method_26_code 76 = .ok (.ifCond .eq 17, 3) := by decide +kernel
theorem dF_firstRefusing_79 : decode prog_1_method_26_code 79 = .ok (.aload 7, 2) := by decide +kernel
theorem dF_firstRefusing_81 : decode prog_1_method_26_code 81 = .ok (.dup, 1) := by decide +kernel
theorem dF_firstRefusing_82 : decode prog_1_method_26_code 82 = .ok (.getfield 151, 3) := by decide +kernel
theorem dF_firstRefusing_85 : decode prog_1_method_26_code 85 = .ok (.iconst 1, 1) := by decide +kernel
theorem dF_firstRefusing_86 : decode prog_1_method_26_code 86 = .ok (.iadd, 1) := by decide +kernel
theorem dF_firstRefusing_87 : decode prog_1_method_26_code 87 = .ok (.putfield 151, 3) := by decide +kernel
theorem dF_firstRefusing_90 : decode prog_1_method_26_code 90 = .ok (.iload 6, 2) := by decide +kernel
theorem dF_firstRefusing_92 : decode prog_1_method_26_code 92 = .ok (.ireturn, 1) := by decide +kernel
theorem dF_firstRefusing_93 : decode prog_1_method_26_code 93 = .ok (.iinc 5 1, 3) := by decide +kernel
theorem dF_firstRefusing_96 : decode prog_1_method_26_code 96 = .ok (.goto (-88), 3) := by decide +kernel
theorem dF_firstRefusing_99 : decode prog_1_method_26_code 99 = .ok (.iconst 0, 1) := by decide +kernel
theorem dF_firstRefusing_100 : decode prog_1_method_26_code 100 = .ok (.ireturn, 1) := by decide +kernel
def y_verdict : MethodName := ⟨"FragileRules", "verdict", "(ILFragileRules$Unit;LFragileRules$Unit;I)I"⟩
theorem dF_verdict_0 : decode prog_1_method_24_code 0 = .ok (.aload_n 0, 1) := by decide +kernel
theorem dF_verdict_1 : decode prog_1_method_24_code 1 = .ok (.iload_n 1, 1) := by decide +kernel
theorem dF_verdict_2 : decode prog_1_method_24_code 2 = .ok (.aload_n 2, 1) := by decide +kernel
theorem dF_verdict_3 : decode prog_1_method_24_code 3 = .ok (.aload_n 3, 1) := by decide +kernel
theorem dF_verdict_4 : decode prog_1_method_24_code 4 = .ok (.iload 4, 2) := by decide +kernel
theorem dF_verdict_6 : decode prog_1_method_24_code 6 = .ok (.invokevirtual 201, 3) := by decide +kernel
theorem dF_verdict_9 : decode prog_1_method_24_code 9 = .ok (.istore 5, 2) := by decide +kernel
theorem dF_verdict_11 : decode prog_1_method_24_code 11 = .ok (.aload_n 0, 1) := by decide +kernel
theorem dF_verdict_12 : decode prog_1_method_24_code 12 = .ok (.dup, 1) := by decide +kernel
theorem dF_verdict_13 : decode prog_1_method_24_code 13 = .ok (.getfield 45, 3) := by decide +kernel
theorem dF_verdict_16 : decode prog_1_method_24_code 16 = .ok (.iconst 1, 1) := by decide +kernel
theorem dF_verdict_17 : decode prog_1_method_24_code 17 = .ok (.iadd, 1) := by decide +kernel
theorem dF_verdict_18 : decode prog_1_method_24_code 18 = .ok (.putfield 45, 3) := by decide +kernel
theorem dF_verdict_21 : decode prog_1_method_24_code 21 = .ok (.iload 5, 2) := by decide +kernel
theorem dF_verdict_23 : decode prog_1_method_24_code 23 = .ok (.ifCond .eq 13, 3) := by decide +kernel
theorem dF_verdict_26 : decode prog_1_method_24_code 26 = .ok (.aload_n 0, 1) := by decide +kernel
theorem dF_verdict_27 : decode prog_1_method_24_code 27 = .ok (.dup, 1) := by decide +kernel
theorem dF_verdict_28 : decode prog_1_method_24_code 28 = .ok (.getfield 48, 3) := by decide +kernel
theorem dF_verdict_31 : decode prog_1_method_24_code 31 = .ok (.iconst 1, 1) := by decide +kernel
theorem dF_verdict_32 : decode prog_1_method_24_code 32 = .ok (.iadd, 1) := by decide +kernel
theorem dF_verdict_33 : decode prog_1_method_24_code 33 = .ok (.putfield 48, 3) := by decide +kernel
theorem dF_verdict_36 : decode prog_1_method_24_code 36 = .ok (.iload 5, 2) := by decide +kernel
theorem dF_verdict_38 : decode prog_1_method_24_code 38 = .ok (.ireturn, 1) := by decide +kernel
def y_bitCount : MethodName := ⟨"java/lang/Integer", "bitCount", "(I)I"⟩
theorem dI_bitCount_0 : decode prog_10_method_49_code 0 = .ok (.iload_n 0, 1) := by decide +kernel
theorem dI_bitCount_1 : decode prog_10_method_49_code 1 = .ok (.iload_n 0, 1) := by decide +kernel
theorem dI_bitCount_2 : decode prog_10_method_49_code 2 = .ok (.iconst 1, 1) := by decide +kernel
theorem dI_bitCount_3 : decode prog_10_method_49_code 3 = .ok (.iushr, 1) := by decide +kernel
theorem dI_bitCount_4 : decode prog_10_method_49_code 4 = .ok (.ldc_w 265, 3) := by decide +kernel
theorem dI_bitCount_7 : decode prog_10_method_49_code 7 = .ok (.iand, 1) := by decide +kernel
theorem dI_bitCount_8 : decode prog_10_method_49_code 8 = .ok (.isub, 1) := by decide +kernel
theorem dI_bitCount_9 : decode prog_10_method_49_code 9 = .ok (.istore_n 0, 1) := by decide +kernel
theorem dI_bitCount_10 : decode prog_10_method_49_code 10 = .ok (.iload_n 0, 1) := by decide +kernel
theorem dI_bitCount_11 : decode prog_10_method_49_code 11 = .ok (.ldc_w 266, 3) := by decide +kernel
theorem dI_bitCount_14 : decode prog_10_method_49_code 14 = .ok (.iand, 1) := by decide +kernel
theorem dI_bitCount_15 : decode prog_10_method_49_code 15 = .ok (.iload_n 0, 1) := by decide +kernel
theorem dI_bitCount_16 : decode prog_10_method_49_code 16 = .ok (.iconst 2, 1) := by decide +kernel
theorem dI_bitCount_17 : decode prog_10_method_49_code 17 = .ok (.iushr, 1) := by decide +kernel
theorem dI_bitCount_18 : decode prog_10_method_49_code 18 = .ok (.ldc_w 266, 3) := by decide +kernel
theorem dI_bitCount_21 : decode prog_10_method_49_code 21 = .ok (.iand, 1) := by decide +kernel
theorem dI_bitCount_22 : decode prog_10_method_49_code 22 = .ok (.iadd, 1) := by decide +kernel
theorem dI_bitCount_23 : decode prog_10_method_49_code 23 = .ok (.istore_n 0, 1) := by decide +kernel
theorem dI_bitCount_24 : decode prog_10_method_49_code 24 = .ok (.iload_n 0, 1) := by decide +kernel
theorem dI_bitCount_25 : decode prog_10_method_49_code 25 = .ok (.iload_n 0, 1) := by decide +kernel
theorem dI_bitCount_26 : decode prog_10_method_49_code 26 = .ok (.iconst 4, 1) := by decide +kernel
theorem dI_bitCount_27 : decode prog_10_method_49_code 27 = .ok (.iushr, 1) := by decide +kernel
theorem dI_bitCount_28 : decode prog_10_method_49_code 28 = .ok (.iadd, 1) := by decide +kernel
theorem dI_bitCount_29 : decode prog_10_method_49_code 29 = .ok (.ldc_w 267, 3) := by decide +kernel
theorem dI_bitCount_32 : decode prog_10_method_49_code 32 = .ok (.iand, 1) := by decide +kernel
theorem dI_bitCount_33 : decode prog_10_method_49_code 33 = .ok (.istore_n 0, 1) := by decide +kernel
theorem dI_bitCount_34 : decode prog_10_method_49_code 34 = .ok (.iload_n 0, 1) := by decide +kernel
theorem dI_bitCount_35 : decode prog_10_method_49_code 35 = .ok (.iload_n 0, 1) := by decide +kernel
theorem dI_bitCount_36 : decode prog_10_method_49_code 36 = .ok (.bipush 8, 2) := by decide +kernel
theorem dI_bitCount_38 : decode prog_10_method_49_code 38 = .ok (.iushr, 1) := by decide +kernel
theorem dI_bitCount_39 : decode prog_10_method_49_code 39 = .ok (.iadd, 1) := by decide +kernel
theorem dI_bitCount_40 : decode prog_10_method_49_code 40 = .ok (.istore_n 0, 1) := by decide +kernel
theorem dI_bitCount_41 : decode prog_10_method_49_code 41 = .ok (.iload_n 0, 1) := by decide +kernel
theorem dI_bitCount_42 : decode prog_10_method_49_code 42 = .ok (.iload_n 0, 1) := by decide +kernel
theorem dI_bitCount_43 : decode prog_10_method_49_code 43 = .ok (.bipush 16, 2) := by decide +kernel
theorem dI_bitCount_45 : decode prog_10_method_49_code 45 = .ok (.iushr, 1) := by decide +kernel
theorem dI_bitCount_46 : decode prog_10_method_49_code 46 = .ok (.iadd, 1) := by decide +kernel
theorem dI_bitCount_47 : decode prog_10_method_49_code 47 = .ok (.istore_n 0, 1) := by decide +kernel
theorem dI_bitCount_48 : decode prog_10_method_49_code 48 = .ok (.iload_n 0, 1) := by decide +kernel
theorem dI_bitCount_49 : decode prog_10_method_49_code 49 = .ok (.bipush 63, 2) := by decide +kernel
theorem dI_bitCount_51 : decode prog_10_method_49_code 51 = .ok (.iand, 1) := by decide +kernel
theorem dI_bitCount_52 : decode prog_10_method_49_code 52 = .ok (.ireturn, 1) := by decide +kernel
def y_isMark : MethodName := ⟨"FragileRules", "isMark", "(I)Z"⟩
theorem dF_isMark_0 : decode prog_1_method_17_code 0 = .ok (.iload_n 0, 1) := by decide +kernel
theorem dF_isMark_1 : decode prog_1_method_17_code 1 = .ok (.bipush 16, 2) := by decide +kernel
theorem dF_isMark_3 : decode prog_1_method_17_code 3 = .ok (.invokestatic 53, 3) := by decide +kernel
theorem dF_isMark_6 : decode prog_1_method_17_code 6 = .ok (.ifCond .eq 15, 3) := by decide +kernel
theorem dF_isMark_9 : decode prog_1_method_17_code 9 = .ok (.iload_n 0, 1) := by decide +kernel
theorem dF_isMark_10 : decode prog_1_method_17_code 10 = .ok (.invokestatic 184, 3) := by decide +kernel
theorem dF_isMark_13 : decode prog_1_method_17_code 13 = .ok (.iconst 1, 1) := by decide +kernel
theorem dF_isMark_14 : decode prog_1_method_17_code 14 = .ok (.if_icmp .ne 7, 3) := by decide +kernel
theorem dF_isMark_17 : decode prog_1_method_17_code 17 = .ok (.iconst 1, 1) := by decide +kernel
theorem dF_isMark_18 : decode prog_1_method_17_code 18 = .ok (.goto 4, 3) := by decide +kernel
theorem dF_isMark_21 : decode prog_1_method_17_code 21 = .ok (.iconst 0, 1) := by decide +kernel
theorem dF_isMark_22 : decode prog_1_method_17_code 22 = .ok (.ireturn, 1) := by decide +kernel
def y_isRule : MethodName := ⟨"FragileRules", "isRule", "(III)Z"⟩
theorem dF_isRule_0 : decode prog_1_method_18_code 0 = .ok (.iload_n 0, 1) := by decide +kernel
theorem dF_isRule_1 : decode prog_1_method_18_code 1 = .ok (.tableswitch 132 0 4 #[35, 35, 59, 83, 107], 35) := by decide +kernel
theorem dF_isRule_36 : decode prog_1_method_18_code 36 = .ok (.iload_n 1, 1) := by decide +kernel
theorem dF_isRule_37 : decode prog_1_method_18_code 37 = .ok (.bipush 7, 2) := by decide +kernel
theorem dF_isRule_39 : decode prog_1_method_18_code 39 = .ok (.invokestatic 53, 3) := by decide +kernel
theorem dF_isRule_42 : decode prog_1_method_18_code 42 = .ok (.ifCond .eq 16, 3) := by decide +kernel
theorem dF_isRule_45 : decode prog_1_method_18_code 45 = .ok (.iload_n 2, 1) := by decide +kernel
theorem dF_isRule_46 : decode prog_1_method_18_code 46 = .ok (.bipush 7, 2) := by decide +kernel
theorem dF_isRule_48 : decode prog_1_method_18_code 48 = .ok (.invokestatic 53, 3) := by decide +kernel
theorem dF_isRule_51 : decode prog_1_method_18_code 51 = .ok (.ifCond .eq 7, 3) := by decide +kernel
theorem dF_isRule_54 : decode prog_1_method_18_code 54 = .ok (.iconst 1, 1) := by decide +kernel
theorem dF_isRule_55 : decode prog_1_method_18_code 55 = .ok (.goto 4, 3) := by decide +kernel
theorem dF_isRule_58 : decode prog_1_method_18_code 58 = .ok (.iconst 0, 1) := by decide +kernel
theorem dF_isRule_59 : decode prog_1_method_18_code 59 = .ok (.ireturn, 1) := by decide +kernel
theorem dF_isRule_60 : decode prog_1_method_18_code 60 = .ok (.iload_n 1, 1) := by decide +kernel
theorem dF_isRule_61 : decode prog_1_method_18_code 61 = .ok (.bipush 7, 2) := by decide +kernel
theorem dF_isRule_63 : decode prog_1_method_18_code 63 = .ok (.invokestatic 53, 3) := by decide +kernel
theorem dF_isRule_66 : decode prog_1_method_18_code 66 = .ok (.ifCond .eq 16, 3) := by decide +kernel
theorem dF_isRule_69 : decode prog_1_method_18_code 69 = .ok (.iload_n 2, 1) := by decide +kernel
theorem dF_isRule_70 : decode prog_1_method_18_code 70 = .ok (.bipush 99, 2) := by decide +kernel
theorem dF_isRule_72 : decode prog_1_method_18_code 72 = .ok (.invokestatic 53, 3) := by decide +kernel
theorem dF_isRule_75 : decode prog_1_method_18_code 75 = .ok (.ifCond .eq 7, 3) := by decide +kernel
theorem dF_isRule_78 : decode prog_1_method_18_code 78 = .ok (.iconst 1, 1) := by decide +kernel
theorem dF_isRule_79 : decode prog_1_method_18_code 79 = .ok (.goto 4, 3) := by decide +kernel
theorem dF_isRule_82 : decode prog_1_method_18_code 82 = .ok (.iconst 0, 1) := by decide +kernel
theorem dF_isRule_83 : decode prog_1_method_18_code 83 = .ok (.ireturn, 1) := by decide +kernel
theorem dF_isRule_84 : decode prog_1_method_18_code 84 = .ok (.iload_n 1, 1) := by decide +kernel
theorem dF_isRule_85 : decode prog_1_method_18_code 85 = .ok (.bipush 7, 2) := by decide +kernel
theorem dF_isRule_87 : decode prog_1_method_18_code 87 = .ok (.invokestatic 53, 3) := by decide +kernel
theorem dF_isRule_90 : decode prog_1_method_18_code 90 = .ok (.ifCond .eq 16, 3) := by decide +kernel
theorem dF_isRule_93 : decode prog_1_method_18_code 93 = .ok (.iload_n 2, 1) := by decide +kernel
theorem dF_isRule_94 : decode prog_1_method_18_code 94 = .ok (.bipush 9, 2) := by decide +kernel
theorem dF_isRule_96 : decode prog_1_method_18_code 96 = .ok (.invokestatic 53, 3) := by decide +kernel
theorem dF_isRule_99 : decode prog_1_method_18_code 99 = .ok (.ifCond .eq 7, 3) := by decide +kernel
theorem dF_isRule_102 : decode prog_1_method_18_code 102 = .ok (.iconst 1, 1) := by decide +kernel
theorem dF_isRule_103 : decode prog_1_method_18_code 103 = .ok (.goto 4, 3) := by decide +kernel
theorem dF_isRule_106 : decode prog_1_method_18_code 106 = .ok (.iconst 0, 1) := by decide +kernel
theorem dF_isRule_107 : decode prog_1_method_18_code 107 = .ok (.ireturn, 1) := by decide +kernel
theorem dF_isRule_108 : decode prog_1_method_18_code 108 = .ok (.iload_n 1, 1) := by decide +kernel
theorem dF_isRule_109 : decode prog_1_method_18_code 109 = .ok (.invokestatic 139, 3) := by decide +kernel
theorem dF_isRule_112 : decode prog_1_method_18_code 112 = .ok (.ifCond .eq 19, 3) := by decide +kernel
theorem dF_isRule_115 : decode prog_1_method_18_code 115 = .ok (.iload_n 2, 1) := by decide +kernel
theorem dF_isRule_116 : decode prog_1_method_18_code 116 = .ok (.invokestatic 139, 3) := by decide +kernel
theorem dF_isRule_119 : decode prog_1_method_18_code 119 = .ok (.ifCond .eq 12, 3) := by decide +kernel
theorem dF_isRule_122 : decode prog_1_method_18_code 122 = .ok (.iload_n 1, 1) := by decide +kernel
theorem dF_isRule_123 : decode prog_1_method_18_code 123 = .ok (.iload_n 2, 1) := by decide +kernel
theorem dF_isRule_124 : decode prog_1_method_18_code 124 = .ok (.if_icmp .eq 7, 3) := by decide +kernel
theorem dF_isRule_127 : decode prog_1_method_18_code 127 = .ok (.iconst 1, 1) := by decide +kernel
theorem dF_isRule_128 : decode prog_1_method_18_code 128 = .ok (.goto 4, 3) := by decide +kernel
theorem dF_isRule_131 : decode prog_1_method_18_code 131 = .ok (.iconst 0, 1) := by decide +kernel
theorem dF_isRule_132 : decode prog_1_method_18_code 132 = .ok (.ireturn, 1) := by decide +kernel
theorem dF_isRule_133 : decode prog_1_method_18_code 133 = .ok (.iconst 0, 1) := by decide +kernel
theorem dF_isRule_134 : decode prog_1_method_18_code 134 = .ok (.ireturn, 1) := by decide +kernel
def y_addLines : MethodName := ⟨"FragileRules", "addLines", "(I)V"⟩
theorem dF_addLines_0 : decode prog_1_method_22_code 0 = .ok (.iconst 0, 1) := by decide +kernel
theorem dF_addLines_1 : decode prog_1_method_22_code 1 = .ok (.istore_n 2, 1) := by decide +kernel
theorem dF_addLines_2 : decode prog_1_method_22_code 2 = .ok (.iconst 0, 1) := by decide +kernel
theorem dF_addLines_3 : decode prog_1_method_22_code 3 = .ok (.istore_n 3, 1) := by decide +kernel
theorem dF_addLines_4 : decode prog_1_method_22_code 4 = .ok (.iload_n 3, 1) := by decide +kernel
theorem dF_addLines_5 : decode prog_1_method_22_code 5 = .ok (.iload_n 1, 1) := by decide +kernel
theorem dF_addLines_6 : decode prog_1_method_22_code 6 = .ok (.if_icmp .ge 51, 3) := by decide +kernel
theorem dF_addLines_9 : decode prog_1_method_22_code 9 = .ok (.aload_n 0, 1) := by decide +kernel
theorem dF_addLines_10 : decode prog_1_method_22_code 10 = .ok (.aload_n 0, 1) := by decide +kernel
theorem dF_addLines_11 : decode prog_1_method_22_code 11 = .ok (.getfield 41, 3) := by decide +kernel
theorem dF_addLines_14 : decode prog_1_method_22_code 14 = .ok (.iload_n 2, 1) := by decide +kernel
theorem dF_addLines_15 : decode prog_1_method_22_code 15 = .ok (.invokevirtual 189, 3) := by decide +kernel
theorem dF_addLines_18 : decode prog_1_method_22_code 18 = .ok (.aload_n 0, 1) := by decide +kernel
theorem dF_addLines_19 : decode prog_1_method_22_code 19 = .ok (.getfield 41, 3) := by decide +kernel
theorem dF_addLines_22 : decode prog_1_method_22_code 22 = .ok (.iload_n 2, 1) := by decide +kernel
theorem dF_addLines_23 : decode prog_1_method_22_code 23 = .ok (.iconst 2, 1) := by decide +kernel
theorem dF_addLines_24 : decode prog_1_method_22_code 24 = .ok (.iadd, 1) := by decide +kernel
theorem dF_addLines_25 : decode prog_1_method_22_code 25 = .ok (.invokevirtual 192, 3) := by decide +kernel
theorem dF_addLines_28 : decode prog_1_method_22_code 28 = .ok (.aload_n 0, 1) := by decide +kernel
theorem dF_addLines_29 : decode prog_1_method_22_code 29 = .ok (.getfield 41, 3) := by decide +kernel
theorem dF_addLines_32 : decode prog_1_method_22_code 32 = .ok (.iload_n 2, 1) := by decide +kernel
theorem dF_addLines_33 : decode prog_1_method_22_code 33 = .ok (.iconst 4, 1) := by decide +kernel
theorem dF_addLines_34 : decode prog_1_method_22_code 34 = .ok (.iadd, 1) := by decide +kernel
theorem dF_addLines_35 : decode prog_1_method_22_code 35 = .ok (.invokevirtual 195, 3) := by decide +kernel
theorem dF_addLines_38 : decode prog_1_method_22_code 38 = .ok (.invokevirtual 90, 3) := by decide +kernel
theorem dF_addLines_41 : decode prog_1_method_22_code 41 = .ok (.pop, 1) := by decide +kernel
theorem dF_addLines_42 : decode prog_1_method_22_code 42 = .ok (.aload_n 0, 1) := by decide +kernel
theorem dF_addLines_43 : decode prog_1_method_22_code 43 = .ok (.getfield 41, 3) := by decide +kernel
theorem dF_addLines_46 : decode prog_1_method_22_code 46 = .ok (.iload_n 2, 1) := by decide +kernel
theorem dF_addLines_47 : decode prog_1_method_22_code 47 = .ok (.invokevirtual 198, 3) := by decide +kernel
theorem dF_addLines_50 : decode prog_1_method_22_code 50 = .ok (.istore_n 2, 1) := by decide +kernel
theorem dF_addLines_51 : decode prog_1_method_22_code 51 = .ok (.iinc 3 1, 3) := by decide +kernel
theorem dF_addLines_54 : decode prog_1_method_22_code 54 = .ok (.goto (-50), 3) := by decide +kernel
theorem dF_addLines_57 : decode prog_1_method_22_code 57 = .ok (.return_, 1) := by decide +kernel
def y_marks : MethodName := ⟨"FragileRules", "firstRefusingMarks", "(LFragileRules$Unit;)I"⟩
theorem dF_firstRefusingMarks_0 : decode prog_1_method_25_code 0 = .ok (.iconst 1, 1) := by decide +kernel
theorem dF_firstRefusingMarks_1 : decode prog_1_method_25_code 1 = .ok (.istore_n 2, 1) := by decide +kernel
theorem dF_firstRefusingMarks_2 : decode prog_1_method_25_code 2 = .ok (.iload_n 2, 1) := by decide +kernel
theorem dF_firstRefusingMarks_3 : decode prog_1_method_25_code 3 = .ok (.bipush 16, 2) := by decide +kernel
theorem dF_firstRefusingMarks_5 : decode prog_1_method_25_code 5 = .ok (.if_icmp .gt 37, 3) := by decide +kernel
theorem dF_firstRefusingMarks_8 : decode prog_1_method_25_code 8 = .ok (.aload_n 1, 1) := by decide +kernel
theorem dF_firstRefusingMarks_9 : decode prog_1_method_25_code 9 = .ok (.iload_n 2, 1) := by decide +kernel
theorem dF_firstRefusingMarks_10 : decode prog_1_method_25_code 10 = .ok (.invokevirtual 144, 3) := by decide +kernel
theorem dF_firstRefusingMarks_13 : decode prog_1_method_25_code 13 = .ok (.ifCond .eq 14, 3) := by decide +kernel
theorem dF_firstRefusingMarks_16 : decode prog_1_method_25_code 16 = .ok (.aload_n 0, 1) := by decide +kernel
theorem dF_firstRefusingMarks_17 : decode prog_1_method_25_code 17 = .ok (.iconst 2, 1) := by decide +kernel
theorem dF_firstRefusingMarks_18 : decode prog_1_method_25_code 18 = .ok (.aload_n 1, 1) := by decide +kernel
theorem dF_firstRefusingMarks_19 : decode prog_1_method_25_code 19 = .ok (.aload_n 1, 1) := by decide +kernel
theorem dF_firstRefusingMarks_20 : decode prog_1_method_25_code 20 = .ok (.iload_n 2, 1) := by decide +kernel
theorem dF_firstRefusingMarks_21 : decode prog_1_method_25_code 21 = .ok (.invokevirtual 201, 3) := by decide +kernel
theorem dF_firstRefusingMarks_24 : decode prog_1_method_25_code 24 = .ok (.goto 4, 3) := by decide +kernel
theorem dF_firstRefusingMarks_27 : decode prog_1_method_25_code 27 = .ok (.iconst 0, 1) := by decide +kernel
theorem dF_firstRefusingMarks_28 : decode prog_1_method_25_code 28 = .ok (.istore_n 3, 1) := by decide +kernel
theorem dF_firstRefusingMarks_29 : decode prog_1_method_25_code 29 = .ok (.iload_n 3, 1) := by decide +kernel
theorem dF_firstRefusingMarks_30 : decode prog_1_method_25_code 30 = .ok (.ifCond .eq 5, 3) := by decide +kernel
theorem dF_firstRefusingMarks_33 : decode prog_1_method_25_code 33 = .ok (.iload_n 3, 1) := by decide +kernel
theorem dF_firstRefusingMarks_34 : decode prog_1_method_25_code 34 = .ok (.ireturn, 1) := by decide +kernel
theorem dF_firstRefusingMarks_35 : decode prog_1_method_25_code 35 = .ok (.iload_n 2, 1) := by decide +kernel
theorem dF_firstRefusingMarks_36 : decode prog_1_method_25_code 36 = .ok (.iconst 1, 1) := by decide +kernel
theorem dF_firstRefusingMarks_37 : decode prog_1_method_25_code 37 = .ok (.ishl, 1) := by decide +kernel
theorem dF_firstRefusingMarks_38 : decode prog_1_method_25_code 38 = .ok (.istore_n 2, 1) := by decide +kernel
theorem dF_firstRefusingMarks_39 : decode prog_1_method_25_code 39 = .ok (.goto (-37), 3) := by decide +kernel
theorem dF_firstRefusingMarks_42 : decode prog_1_method_25_code 42 = .ok (.iconst 0, 1) := by decide +kernel
theorem dF_firstRefusingMarks_43 : decode prog_1_method_25_code 43 = .ok (.ireturn, 1) := by decide +kernel
def y_unit : MethodName := ⟨"FragileRules", "unit", "(III)I"⟩
theorem dF_unit_0 : decode prog_1_method_2_code 0 = .ok (.iload_n 1, 1) := by decide +kernel
theorem dF_unit_1 : decode prog_1_method_2_code 1 = .ok (.bipush 7, 2) := by decide +kernel
theorem dF_unit_3 : decode prog_1_method_2_code 3 = .ok (.invokestatic 53, 3) := by decide +kernel
theorem dF_unit_6 : decode prog_1_method_2_code 6 = .ok (.ifCond .eq 22, 3) := by decide +kernel
theorem dF_unit_9 : decode prog_1_method_2_code 9 = .ok (.iload_n 2, 1) := by decide +kernel
theorem dF_unit_10 : decode prog_1_method_2_code 10 = .ok (.sipush 1000, 3) := by decide +kernel
theorem dF_unit_13 : decode prog_1_method_2_code 13 = .ok (.invokestatic 53, 3) := by decide +kernel
theorem dF_unit_16 : decode prog_1_method_2_code 16 = .ok (.ifCond .eq 12, 3) := by decide +kernel
theorem dF_unit_19 : decode prog_1_method_2_code 19 = .ok (.iload_n 3, 1) := by decide +kernel
theorem dF_unit_20 : decode prog_1_method_2_code 20 = .ok (.bipush 31, 2) := by decide +kernel
theorem dF_unit_22 : decode prog_1_method_2_code 22 = .ok (.invokestatic 53, 3) := by decide +kernel
theorem dF_unit_25 : decode prog_1_method_2_code 25 = .ok (.ifCond .ne 13, 3) := by decide +kernel
theorem dF_unit_28 : decode prog_1_method_2_code 28 = .ok (.new 57, 3) := by decide +kernel
theorem dF_unit_31 : decode prog_1_method_2_code 31 = .ok (.dup, 1) := by decide +kernel
theorem dF_unit_32 : decode prog_1_method_2_code 32 = .ok (.ldc 59, 2) := by decide +kernel
theorem dF_unit_34 : decode prog_1_method_2_code 34 = .ok (.invokespecial 61, 3) := by decide +kernel
theorem dF_unit_37 : decode prog_1_method_2_code 37 = .ok (.athrow, 1) := by decide +kernel
theorem dF_unit_38 : decode prog_1_method_2_code 38 = .ok (.aload_n 0, 1) := by decide +kernel
theorem dF_unit_39 : decode prog_1_method_2_code 39 = .ok (.getfield 15, 3) := by decide +kernel
theorem dF_unit_42 : decode prog_1_method_2_code 42 = .ok (.bipush 10, 2) := by decide +kernel
theorem dF_unit_44 : decode prog_1_method_2_code 44 = .ok (.if_icmp .lt 13, 3) := by decide +kernel
theorem dF_unit_47 : decode prog_1_method_2_code 47 = .ok (.new 64, 3) := by decide +kernel
theorem dF_unit_50 : decode prog_1_method_2_code 50 = .ok (.dup, 1) := by decide +kernel
theorem dF_unit_51 : decode prog_1_method_2_code 51 = .ok (.ldc 66, 2) := by decide +kernel
theorem dF_unit_53 : decode prog_1_method_2_code 53 = .ok (.invokespecial 68, 3) := by decide +kernel
theorem dF_unit_56 : decode prog_1_method_2_code 56 = .ok (.athrow, 1) := by decide +kernel
theorem dF_unit_57 : decode prog_1_method_2_code 57 = .ok (.aload_n 0, 1) := by decide +kernel
theorem dF_unit_58 : decode prog_1_method_2_code 58 = .ok (.getfield 11, 3) := by decide +kernel
theorem dF_unit_61 : decode prog_1_method_2_code 61 = .ok (.aload_n 0, 1) := by decide +kernel
theorem dF_unit_62 : decode prog_1_method_2_code 62 = .ok (.getfield 15, 3) := by decide +kernel
theorem dF_unit_65 : decode prog_1_method_2_code 65 = .ok (.aaload, 1) := by decide +kernel
theorem dF_unit_66 : decode prog_1_method_2_code 66 = .ok (.astore 4, 2) := by decide +kernel
theorem dF_unit_68 : decode prog_1_method_2_code 68 = .ok (.aload 4, 2) := by decide +kernel
theorem dF_unit_70 : decode prog_1_method_2_code 70 = .ok (.iload_n 1, 1) := by decide +kernel
theorem dF_unit_71 : decode prog_1_method_2_code 71 = .ok (.putfield 69, 3) := by decide +kernel
theorem dF_unit_74 : decode prog_1_method_2_code 74 = .ok (.aload 4, 2) := by decide +kernel
theorem dF_unit_76 : decode prog_1_method_2_code 76 = .ok (.iload_n 2, 1) := by decide +kernel
theorem dF_unit_77 : decode prog_1_method_2_code 77 = .ok (.putfield 72, 3) := by decide +kernel
theorem dF_unit_80 : decode prog_1_method_2_code 80 = .ok (.aload 4, 2) := by decide +kernel
theorem dF_unit_82 : decode prog_1_method_2_code 82 = .ok (.iload_n 3, 1) := by decide +kernel
theorem dF_unit_83 : decode prog_1_method_2_code 83 = .ok (.putfield 75, 3) := by decide +kernel
theorem dF_unit_86 : decode prog_1_method_2_code 86 = .ok (.aload_n 0, 1) := by decide +kernel
theorem dF_unit_87 : decode prog_1_method_2_code 87 = .ok (.aload 4, 2) := by decide +kernel
theorem dF_unit_89 : decode prog_1_method_2_code 89 = .ok (.invokevirtual 78, 3) := by decide +kernel
theorem dF_unit_92 : decode prog_1_method_2_code 92 = .ok (.istore 5, 2) := by decide +kernel
theorem dF_unit_94 : decode prog_1_method_2_code 94 = .ok (.aload_n 0, 1) := by decide +kernel
theorem dF_unit_95 : decode prog_1_method_2_code 95 = .ok (.iconst 0, 1) := by decide +kernel
theorem dF_unit_96 : decode prog_1_method_2_code 96 = .ok (.putfield 35, 3) := by decide +kernel
theorem dF_unit_99 : decode prog_1_method_2_code 99 = .ok (.iload 5, 2) := by decide +kernel
theorem dF_unit_101 : decode prog_1_method_2_code 101 = .ok (.ifCond .eq 8, 3) := by decide +kernel
theorem dF_unit_104 : decode prog_1_method_2_code 104 = .ok (.iconst (-1), 1) := by decide +kernel
theorem dF_unit_105 : decode prog_1_method_2_code 105 = .ok (.iload 5, 2) := by decide +kernel
theorem dF_unit_107 : decode prog_1_method_2_code 107 = .ok (.isub, 1) := by decide +kernel
theorem dF_unit_108 : decode prog_1_method_2_code 108 = .ok (.ireturn, 1) := by decide +kernel
theorem dF_unit_109 : decode prog_1_method_2_code 109 = .ok (.aload_n 0, 1) := by decide +kernel
theorem dF_unit_110 : decode prog_1_method_2_code 110 = .ok (.dup, 1) := by decide +kernel
theorem dF_unit_111 : decode prog_1_method_2_code 111 = .ok (.getfield 15, 3) := by decide +kernel
theorem dF_unit_114 : decode prog_1_method_2_code 114 = .ok (.iconst 1, 1) := by decide +kernel
theorem dF_unit_115 : decode prog_1_method_2_code 115 = .ok (.iadd, 1) := by decide +kernel
theorem dF_unit_116 : decode prog_1_method_2_code 116 = .ok (.putfield 15, 3) := by decide +kernel
theorem dF_unit_119 : decode prog_1_method_2_code 119 = .ok (.aload_n 0, 1) := by decide +kernel
theorem dF_unit_120 : decode prog_1_method_2_code 120 = .ok (.getfield 15, 3) := by decide +kernel
theorem dF_unit_123 : decode prog_1_method_2_code 123 = .ok (.iconst 1, 1) := by decide +kernel
theorem dF_unit_124 : decode prog_1_method_2_code 124 = .ok (.isub, 1) := by decide +kernel
theorem dF_unit_125 : decode prog_1_method_2_code 125 = .ok (.ireturn, 1) := by decide +kernel
def y_rule : MethodName := ⟨"FragileRules", "rule", "(III)I"⟩
theorem dF_rule_0 : decode prog_1_method_3_code 0 = .ok (.iload_n 1, 1) := by decide +kernel
theorem dF_rule_1 : decode prog_1_method_3_code 1 = .ok (.iload_n 2, 1) := by decide +kernel
theorem dF_rule_2 : decode prog_1_method_3_code 2 = .ok (.iload_n 3, 1) := by decide +kernel
theorem dF_rule_3 : decode prog_1_method_3_code 3 = .ok (.invokestatic 82, 3) := by decide +kernel
theorem dF_rule_6 : decode prog_1_method_3_code 6 = .ok (.ifCond .ne 13, 3) := by decide +kernel
theorem dF_rule_9 : decode prog_1_method_3_code 9 = .ok (.new 57, 3) := by decide +kernel
theorem dF_rule_12 : decode prog_1_method_3_code 12 = .ok (.dup, 1) := by decide +kernel
theorem dF_rule_13 : decode prog_1_method_3_code 13 = .ok (.ldc 86, 2) := by decide +kernel
theorem dF_rule_15 : decode prog_1_method_3_code 15 = .ok (.invokespecial 61, 3) := by decide +kernel
theorem dF_rule_18 : decode prog_1_method_3_code 18 = .ok (.athrow, 1) := by decide +kernel
theorem dF_rule_19 : decode prog_1_method_3_code 19 = .ok (.aload_n 0, 1) := by decide +kernel
theorem dF_rule_20 : decode prog_1_method_3_code 20 = .ok (.getfield 25, 3) := by decide +kernel
theorem dF_rule_23 : decode prog_1_method_3_code 23 = .ok (.bipush 12, 2) := by decide +kernel
theorem dF_rule_25 : decode prog_1_method_3_code 25 = .ok (.if_icmp .lt 13, 3) := by decide +kernel
theorem dF_rule_28 : decode prog_1_method_3_code 28 = .ok (.new 64, 3) := by decide +kernel
theorem dF_rule_31 : decode prog_1_method_3_code 31 = .ok (.dup, 1) := by decide +kernel
theorem dF_rule_32 : decode prog_1_method_3_code 32 = .ok (.ldc 88, 2) := by decide +kernel
theorem dF_rule_34 : decode prog_1_method_3_code 34 = .ok (.invokespecial 68, 3) := by decide +kernel
theorem dF_rule_37 : decode prog_1_method_3_code 37 = .ok (.athrow, 1) := by decide +kernel
theorem dF_rule_38 : decode prog_1_method_3_code 38 = .ok (.aload_n 0, 1) := by decide +kernel
theorem dF_rule_39 : decode prog_1_method_3_code 39 = .ok (.iload_n 1, 1) := by decide +kernel
theorem dF_rule_40 : decode prog_1_method_3_code 40 = .ok (.iload_n 2, 1) := by decide +kernel
theorem dF_rule_41 : decode prog_1_method_3_code 41 = .ok (.iload_n 3, 1) := by decide +kernel
theorem dF_rule_42 : decode prog_1_method_3_code 42 = .ok (.invokevirtual 90, 3) := by decide +kernel
theorem dF_rule_45 : decode prog_1_method_3_code 45 = .ok (.ireturn, 1) := by decide +kernel
def y_own : MethodName := ⟨"FragileRules", "own", "(IZ)I"⟩
theorem dF_own_0 : decode prog_1_method_4_code 0 = .ok (.iload_n 1, 1) := by decide +kernel
theorem dF_own_1 : decode prog_1_method_4_code 1 = .ok (.iconst 3, 1) := by decide +kernel
theorem dF_own_2 : decode prog_1_method_4_code 2 = .ok (.invokestatic 53, 3) := by decide +kernel
theorem dF_own_5 : decode prog_1_method_4_code 5 = .ok (.ifCond .ne 13, 3) := by decide +kernel
theorem dF_own_8 : decode prog_1_method_4_code 8 = .ok (.new 57, 3) := by decide +kernel
theorem dF_own_11 : decode prog_1_method_4_code 11 = .ok (.dup, 1) := by decide +kernel
theorem dF_own_12 : decode prog_1_method_4_code 12 = .ok (.ldc 94, 2) := by decide +kernel
theorem dF_own_14 : decode prog_1_method_4_code 14 = .ok (.invokespecial 61, 3) := by decide +kernel
theorem dF_own_17 : decode prog_1_method_4_code 17 = .ok (.athrow, 1) := by decide +kernel
theorem dF_own_18 : decode prog_1_method_4_code 18 = .ok (.aload_n 0, 1) := by decide +kernel
theorem dF_own_19 : decode prog_1_method_4_code 19 = .ok (.getfield 25, 3) := by decide +kernel
theorem dF_own_22 : decode prog_1_method_4_code 22 = .ok (.bipush 12, 2) := by decide +kernel
theorem dF_own_24 : decode prog_1_method_4_code 24 = .ok (.if_icmp .lt 13, 3) := by decide +kernel
theorem dF_own_27 : decode prog_1_method_4_code 27 = .ok (.new 64, 3) := by decide +kernel
theorem dF_own_30 : decode prog_1_method_4_code 30 = .ok (.dup, 1) := by decide +kernel
theorem dF_own_31 : decode prog_1_method_4_code 31 = .ok (.ldc 88, 2) := by decide +kernel
theorem dF_own_33 : decode prog_1_method_4_code 33 = .ok (.invokespecial 68, 3) := by decide +kernel
theorem dF_own_36 : decode prog_1_method_4_code 36 = .ok (.athrow, 1) := by decide +kernel
theorem dF_own_37 : decode prog_1_method_4_code 37 = .ok (.aload_n 0, 1) := by decide +kernel
theorem dF_own_38 : decode prog_1_method_4_code 38 = .ok (.iconst 5, 1) := by decide +kernel
theorem dF_own_39 : decode prog_1_method_4_code 39 = .ok (.iload_n 1, 1) := by decide +kernel
theorem dF_own_40 : decode prog_1_method_4_code 40 = .ok (.iload_n 2, 1) := by decide +kernel
theorem dF_own_41 : decode prog_1_method_4_code 41 = .ok (.ifCond .eq 7, 3) := by decide +kernel
theorem dF_own_44 : decode prog_1_method_4_code 44 = .ok (.iconst 1, 1) := by decide +kernel
theorem dF_own_45 : decode prog_1_method_4_code 45 = .ok (.goto 4, 3) := by decide +kernel
theorem dF_own_48 : decode prog_1_method_4_code 48 = .ok (.iconst 0, 1) := by decide +kernel
theorem dF_own_49 : decode prog_1_method_4_code 49 = .ok (.invokevirtual 90, 3) := by decide +kernel
theorem dF_own_52 : decode prog_1_method_4_code 52 = .ok (.ireturn, 1) := by decide +kernel
def y_sign : MethodName := ⟨"FragileRules", "sign", "(I)V"⟩
theorem dF_sign_0 : decode prog_1_method_5_code 0 = .ok (.iload_n 1, 1) := by decide +kernel
theorem dF_sign_1 : decode prog_1_method_5_code 1 = .ok (.bipush 10, 2) := by decide +kernel
theorem dF_sign_3 : decode prog_1_method_5_code 3 = .ok (.if_icmp .eq 25, 3) := by decide +kernel
theorem dF_sign_6 : decode prog_1_method_5_code 6 = .ok (.iload_n 1, 1) := by decide +kernel
theorem dF_sign_7 : decode prog_1_method_5_code 7 = .ok (.bipush 32, 2) := by decide +kernel
theorem dF_sign_9 : decode prog_1_method_5_code 9 = .ok (.if_icmp .lt 9, 3) := by decide +kernel
theorem dF_sign_12 : decode prog_1_method_5_code 12 = .ok (.iload_n 1, 1) := by decide +kernel
theorem dF_sign_13 : decode prog_1_method_5_code 13 = .ok (.bipush 126, 2) := by decide +kernel
theorem dF_sign_15 : decode prog_1_method_5_code 15 = .ok (.if_icmp .le 13, 3) := by decide +kernel
theorem dF_sign_18 : decode prog_1_method_5_code 18 = .ok (.new 57, 3) := by decide +kernel
theorem dF_sign_21 : decode prog_1_method_5_code 21 = .ok (.dup, 1) := by decide +kernel
theorem dF_sign_22 : decode prog_1_method_5_code 22 = .ok (.ldc 96, 2) := by decide +kernel
theorem dF_sign_24 : decode prog_1_method_5_code 24 = .ok (.invokespecial 61, 3) := by decide +kernel
theorem dF_sign_27 : decode prog_1_method_5_code 27 = .ok (.athrow, 1) := by decide +kernel
theorem dF_sign_28 : decode prog_1_method_5_code 28 = .ok (.aload_n 0, 1) := by decide +kernel
theorem dF_sign_29 : decode prog_1_method_5_code 29 = .ok (.getfield 41, 3) := by decide +kernel
theorem dF_sign_32 : decode prog_1_method_5_code 32 = .ok (.getfield 98, 3) := by decide +kernel
theorem dF_sign_35 : decode prog_1_method_5_code 35 = .ok (.sipush 200, 3) := by decide +kernel
theorem dF_sign_38 : decode prog_1_method_5_code 38 = .ok (.if_icmp .lt 13, 3) := by decide +kernel
theorem dF_sign_41 : decode prog_1_method_5_code 41 = .ok (.new 64, 3) := by decide +kernel
theorem dF_sign_44 : decode prog_1_method_5_code 44 = .ok (.dup, 1) := by decide +kernel
theorem dF_sign_45 : decode prog_1_method_5_code 45 = .ok (.ldc 101, 2) := by decide +kernel
theorem dF_sign_47 : decode prog_1_method_5_code 47 = .ok (.invokespecial 68, 3) := by decide +kernel
theorem dF_sign_50 : decode prog_1_method_5_code 50 = .ok (.athrow, 1) := by decide +kernel
theorem dF_sign_51 : decode prog_1_method_5_code 51 = .ok (.aload_n 0, 1) := by decide +kernel
theorem dF_sign_52 : decode prog_1_method_5_code 52 = .ok (.getfield 41, 3) := by decide +kernel
theorem dF_sign_55 : decode prog_1_method_5_code 55 = .ok (.getfield 103, 3) := by decide +kernel
theorem dF_sign_58 : decode prog_1_method_5_code 58 = .ok (.aload_n 0, 1) := by decide +kernel
theorem dF_sign_59 : decode prog_1_method_5_code 59 = .ok (.getfield 41, 3) := by decide +kernel
theorem dF_sign_62 : decode prog_1_method_5_code 62 = .ok (.getfield 98, 3) := by decide +kernel
theorem dF_sign_65 : decode prog_1_method_5_code 65 = .ok (.iload_n 1, 1) := by decide +kernel
theorem dF_sign_66 : decode prog_1_method_5_code 66 = .ok (.iastore, 1) := by decide +kernel
theorem dF_sign_67 : decode prog_1_method_5_code 67 = .ok (.aload_n 0, 1) := by decide +kernel
theorem dF_sign_68 : decode prog_1_method_5_code 68 = .ok (.getfield 41, 3) := by decide +kernel
theorem dF_sign_71 : decode prog_1_method_5_code 71 = .ok (.dup, 1) := by decide +kernel
theorem dF_sign_72 : decode prog_1_method_5_code 72 = .ok (.getfield 98, 3) := by decide +kernel
theorem dF_sign_75 : decode prog_1_method_5_code 75 = .ok (.iconst 1, 1) := by decide +kernel
theorem dF_sign_76 : decode prog_1_method_5_code 76 = .ok (.iadd, 1) := by decide +kernel
theorem dF_sign_77 : decode prog_1_method_5_code 77 = .ok (.putfield 98, 3) := by decide +kernel
theorem dF_sign_80 : decode prog_1_method_5_code 80 = .ok (.return_, 1) := by decide +kernel
def y_read : MethodName := ⟨"FragileRules", "read", "()I"⟩
theorem dF_read_0 : decode prog_1_method_6_code 0 = .ok (.aload_n 0, 1) := by decide +kernel
theorem dF_read_1 : decode prog_1_method_6_code 1 = .ok (.getfield 41, 3) := by decide +kernel
theorem dF_read_4 : decode prog_1_method_6_code 4 = .ok (.invokevirtual 106, 3) := by decide +kernel
theorem dF_read_7 : decode prog_1_method_6_code 7 = .ok (.istore_n 1, 1) := by decide +kernel
theorem dF_read_8 : decode prog_1_method_6_code 8 = .ok (.aload_n 0, 1) := by decide +kernel
theorem dF_read_9 : decode prog_1_method_6_code 9 = .ok (.getfield 41, 3) := by decide +kernel
theorem dF_read_12 : decode prog_1_method_6_code 12 = .ok (.invokevirtual 110, 3) := by decide +kernel
theorem dF_read_15 : decode prog_1_method_6_code 15 = .ok (.istore_n 2, 1) := by decide +kernel
theorem dF_read_16 : decode prog_1_method_6_code 16 = .ok (.iload_n 2, 1) := by decide +kernel
theorem dF_read_17 : decode prog_1_method_6_code 17 = .ok (.bipush 12, 2) := by decide +kernel
theorem dF_read_19 : decode prog_1_method_6_code 19 = .ok (.aload_n 0, 1) := by decide +kernel
theorem dF_read_20 : decode prog_1_method_6_code 20 = .ok (.getfield 25, 3) := by decide +kernel
theorem dF_read_23 : decode prog_1_method_6_code 23 = .ok (.isub, 1) := by decide +kernel
theorem dF_read_24 : decode prog_1_method_6_code 24 = .ok (.if_icmp .gt 7, 3) := by decide +kernel
theorem dF_read_27 : decode prog_1_method_6_code 27 = .ok (.iconst 1, 1) := by decide +kernel
theorem dF_read_28 : decode prog_1_method_6_code 28 = .ok (.goto 4, 3) := by decide +kernel
theorem dF_read_31 : decode prog_1_method_6_code 31 = .ok (.iconst 0, 1) := by decide +kernel
theorem dF_read_32 : decode prog_1_method_6_code 32 = .ok (.istore_n 3, 1) := by decide +kernel
theorem dF_read_33 : decode prog_1_method_6_code 33 = .ok (.iload_n 1, 1) := by decide +kernel
theorem dF_read_34 : decode prog_1_method_6_code 34 = .ok (.iconst (-1), 1) := by decide +kernel
theorem dF_read_35 : decode prog_1_method_6_code 35 = .ok (.if_icmp .ne 12, 3) := by decide +kernel
theorem dF_read_38 : decode prog_1_method_6_code 38 = .ok (.iload_n 3, 1) := by decide +kernel
theorem dF_read_39 : decode prog_1_method_6_code 39 = .ok (.ifCond .eq 8, 3) := by decide +kernel
theorem dF_read_42 : decode prog_1_method_6_code 42 = .ok (.aload_n 0, 1) := by decide +kernel
theorem dF_read_43 : decode prog_1_method_6_code 43 = .ok (.iload_n 2, 1) := by decide +kernel
theorem dF_read_44 : decode prog_1_method_6_code 44 = .ok (.invokevirtual 113, 3) := by decide +kernel
theorem dF_read_47 : decode prog_1_method_6_code 47 = .ok (.aload_n 0, 1) := by decide +kernel
theorem dF_read_48 : decode prog_1_method_6_code 48 = .ok (.getfield 41, 3) := by decide +kernel
theorem dF_read_51 : decode prog_1_method_6_code 51 = .ok (.iconst 0, 1) := by decide +kernel
theorem dF_read_52 : decode prog_1_method_6_code 52 = .ok (.putfield 98, 3) := by decide +kernel
theorem dF_read_55 : decode prog_1_method_6_code 55 = .ok (.iload_n 1, 1) := by decide +kernel
theorem dF_read_56 : decode prog_1_method_6_code 56 = .ok (.iconst (-1), 1) := by decide +kernel
theorem dF_read_57 : decode prog_1_method_6_code 57 = .ok (.if_icmp .eq 7, 3) := by decide +kernel
theorem dF_read_60 : decode prog_1_method_6_code 60 = .ok (.iconst (-1), 1) := by decide +kernel
theorem dF_read_61 : decode prog_1_method_6_code 61 = .ok (.iload_n 1, 1) := by decide +kernel
theorem dF_read_62 : decode prog_1_method_6_code 62 = .ok (.isub, 1) := by decide +kernel
theorem dF_read_63 : decode prog_1_method_6_code 63 = .ok (.ireturn, 1) := by decide +kernel
theorem dF_read_64 : decode prog_1_method_6_code 64 = .ok (.iload_n 3, 1) := by decide +kernel
theorem dF_read_65 : decode prog_1_method_6_code 65 = .ok (.ifCond .ne 13, 3) := by decide +kernel
theorem dF_read_68 : decode prog_1_method_6_code 68 = .ok (.new 64, 3) := by decide +kernel
theorem dF_read_71 : decode prog_1_method_6_code 71 = .ok (.dup, 1) := by decide +kernel
theorem dF_read_72 : decode prog_1_method_6_code 72 = .ok (.ldc 117, 2) := by decide +kernel
theorem dF_read_74 : decode prog_1_method_6_code 74 = .ok (.invokespecial 68, 3) := by decide +kernel
theorem dF_read_77 : decode prog_1_method_6_code 77 = .ok (.athrow, 1) := by decide +kernel
theorem dF_read_78 : decode prog_1_method_6_code 78 = .ok (.aload_n 0, 1) := by decide +kernel
theorem dF_read_79 : decode prog_1_method_6_code 79 = .ok (.getfield 25, 3) := by decide +kernel
theorem dF_read_82 : decode prog_1_method_6_code 82 = .ok (.ireturn, 1) := by decide +kernel
def y_may : MethodName := ⟨"FragileRules", "may", "(III)I"⟩
theorem dF_may_0 : decode prog_1_method_7_code 0 = .ok (.aload_n 0, 1) := by decide +kernel
theorem dF_may_1 : decode prog_1_method_7_code 1 = .ok (.iload_n 1, 1) := by decide +kernel
theorem dF_may_2 : decode prog_1_method_7_code 2 = .ok (.invokevirtual 119, 3) := by decide +kernel
theorem dF_may_5 : decode prog_1_method_7_code 5 = .ok (.ifCond .eq 11, 3) := by decide +kernel
theorem dF_may_8 : decode prog_1_method_7_code 8 = .ok (.aload_n 0, 1) := by decide +kernel
theorem dF_may_9 : decode prog_1_method_7_code 9 = .ok (.iload_n 2, 1) := by decide +kernel
theorem dF_may_10 : decode prog_1_method_7_code 10 = .ok (.invokevirtual 119, 3) := by decide +kernel
theorem dF_may_13 : decode prog_1_method_7_code 13 = .ok (.ifCond .ne 13, 3) := by decide +kernel
theorem dF_may_16 : decode prog_1_method_7_code 16 = .ok (.new 123, 3) := by decide +kernel
theorem dF_may_19 : decode prog_1_method_7_code 19 = .ok (.dup, 1) := by decide +kernel
theorem dF_may_20 : decode prog_1_method_7_code 20 = .ok (.ldc 125, 2) := by decide +kernel
theorem dF_may_22 : decode prog_1_method_7_code 22 = .ok (.invokespecial 127, 3) := by decide +kernel
theorem dF_may_25 : decode prog_1_method_7_code 25 = .ok (.athrow, 1) := by decide +kernel
theorem dF_may_26 : decode prog_1_method_7_code 26 = .ok (.iload_n 3, 1) := by decide +kernel
theorem dF_may_27 : decode prog_1_method_7_code 27 = .ok (.bipush 9, 2) := by decide +kernel
theorem dF_may_29 : decode prog_1_method_7_code 29 = .ok (.invokestatic 53, 3) := by decide +kernel
theorem dF_may_32 : decode prog_1_method_7_code 32 = .ok (.ifCond .ne 13, 3) := by decide +kernel
theorem dF_may_35 : decode prog_1_method_7_code 35 = .ok (.new 57, 3) := by decide +kernel
theorem dF_may_38 : decode prog_1_method_7_code 38 = .ok (.dup, 1) := by decide +kernel
theorem dF_may_39 : decode prog_1_method_7_code 39 = .ok (.ldc 128, 2) := by decide +kernel
theorem dF_may_41 : decode prog_1_method_7_code 41 = .ok (.invokespecial 61, 3) := by decide +kernel
theorem dF_may_44 : decode prog_1_method_7_code 44 = .ok (.athrow, 1) := by decide +kernel
theorem dF_may_45 : decode prog_1_method_7_code 45 = .ok (.iload_n 1, 1) := by decide +kernel
theorem dF_may_46 : decode prog_1_method_7_code 46 = .ok (.iload_n 2, 1) := by decide +kernel
theorem dF_may_47 : decode prog_1_method_7_code 47 = .ok (.if_icmp .ne 13, 3) := by decide +kernel
theorem dF_may_50 : decode prog_1_method_7_code 50 = .ok (.new 130, 3) := by decide +kernel
theorem dF_may_53 : decode prog_1_method_7_code 53 = .ok (.dup, 1) := by decide +kernel
theorem dF_may_54 : decode prog_1_method_7_code 54 = .ok (.ldc 132, 2) := by decide +kernel
theorem dF_may_56 : decode prog_1_method_7_code 56 = .ok (.invokespecial 134, 3) := by decide +kernel
theorem dF_may_59 : decode prog_1_method_7_code 59 = .ok (.athrow, 1) := by decide +kernel
theorem dF_may_60 : decode prog_1_method_7_code 60 = .ok (.aload_n 0, 1) := by decide +kernel
theorem dF_may_61 : decode prog_1_method_7_code 61 = .ok (.iconst 0, 1) := by decide +kernel
theorem dF_may_62 : decode prog_1_method_7_code 62 = .ok (.aload_n 0, 1) := by decide +kernel
theorem dF_may_63 : decode prog_1_method_7_code 63 = .ok (.getfield 11, 3) := by decide +kernel
theorem dF_may_66 : decode prog_1_method_7_code 66 = .ok (.iload_n 1, 1) := by decide +kernel
theorem dF_may_67 : decode prog_1_method_7_code 67 = .ok (.aaload, 1) := by decide +kernel
theorem dF_may_68 : decode prog_1_method_7_code 68 = .ok (.aload_n 0, 1) := by decide +kernel
theorem dF_may_69 : decode prog_1_method_7_code 69 = .ok (.getfield 11, 3) := by decide +kernel
theorem dF_may_72 : decode prog_1_method_7_code 72 = .ok (.iload_n 2, 1) := by decide +kernel
theorem dF_may_73 : decode prog_1_method_7_code 73 = .ok (.aaload, 1) := by decide +kernel
theorem dF_may_74 : decode prog_1_method_7_code 74 = .ok (.iload_n 3, 1) := by decide +kernel
theorem dF_may_75 : decode prog_1_method_7_code 75 = .ok (.invokevirtual 135, 3) := by decide +kernel
theorem dF_may_78 : decode prog_1_method_7_code 78 = .ok (.ireturn, 1) := by decide +kernel
def y_together : MethodName := ⟨"FragileRules", "together", "(II)I"⟩
theorem dF_together_0 : decode prog_1_method_8_code 0 = .ok (.aload_n 0, 1) := by decide +kernel
theorem dF_together_1 : decode prog_1_method_8_code 1 = .ok (.iload_n 1, 1) := by decide +kernel
theorem dF_together_2 : decode prog_1_method_8_code 2 = .ok (.invokevirtual 119, 3) := by decide +kernel
theorem dF_together_5 : decode prog_1_method_8_code 5 = .ok (.ifCond .eq 11, 3) := by decide +kernel
theorem dF_together_8 : decode prog_1_method_8_code 8 = .ok (.aload_n 0, 1) := by decide +kernel
theorem dF_together_9 : decode prog_1_method_8_code 9 = .ok (.iload_n 2, 1) := by decide +kernel
theorem dF_together_10 : decode prog_1_method_8_code 10 = .ok (.invokevirtual 119, 3) := by decide +kernel
theorem dF_together_13 : decode prog_1_method_8_code 13 = .ok (.ifCond .ne 13, 3) := by decide +kernel
theorem dF_together_16 : decode prog_1_method_8_code 16 = .ok (.new 123, 3) := by decide +kernel
theorem dF_together_19 : decode prog_1_method_8_code 19 = .ok (.dup, 1) := by decide +kernel
theorem dF_together_20 : decode prog_1_method_8_code 20 = .ok (.ldc 125, 2) := by decide +kernel
theorem dF_together_22 : decode prog_1_method_8_code 22 = .ok (.invokespecial 127, 3) := by decide +kernel
theorem dF_together_25 : decode prog_1_method_8_code 25 = .ok (.athrow, 1) := by decide +kernel
theorem dF_together_26 : decode prog_1_method_8_code 26 = .ok (.iload_n 1, 1) := by decide +kernel
theorem dF_together_27 : decode prog_1_method_8_code 27 = .ok (.iload_n 2, 1) := by decide +kernel
theorem dF_together_28 : decode prog_1_method_8_code 28 = .ok (.if_icmp .ne 13, 3) := by decide +kernel
theorem dF_together_31 : decode prog_1_method_8_code 31 = .ok (.new 130, 3) := by decide +kernel
theorem dF_together_34 : decode prog_1_method_8_code 34 = .ok (.dup, 1) := by decide +kernel
theorem dF_together_35 : decode prog_1_method_8_code 35 = .ok (.ldc 132, 2) := by decide +kernel
theorem dF_together_37 : decode prog_1_method_8_code 37 = .ok (.invokespecial 134, 3) := by decide +kernel
theorem dF_together_40 : decode prog_1_method_8_code 40 = .ok (.athrow, 1) := by decide +kernel
theorem dF_together_41 : decode prog_1_method_8_code 41 = .ok (.aload_n 0, 1) := by decide +kernel
theorem dF_together_42 : decode prog_1_method_8_code 42 = .ok (.iconst 1, 1) := by decide +kernel
theorem dF_together_43 : decode prog_1_method_8_code 43 = .ok (.aload_n 0, 1) := by decide +kernel
theorem dF_together_44 : decode prog_1_method_8_code 44 = .ok (.getfield 11, 3) := by decide +kernel
theorem dF_together_47 : decode prog_1_method_8_code 47 = .ok (.iload_n 1, 1) := by decide +kernel
theorem dF_together_48 : decode prog_1_method_8_code 48 = .ok (.aaload, 1) := by decide +kernel
theorem dF_together_49 : decode prog_1_method_8_code 49 = .ok (.aload_n 0, 1) := by decide +kernel
theorem dF_together_50 : decode prog_1_method_8_code 50 = .ok (.getfield 11, 3) := by decide +kernel
theorem dF_together_53 : decode prog_1_method_8_code 53 = .ok (.iload_n 2, 1) := by decide +kernel
theorem dF_together_54 : decode prog_1_method_8_code 54 = .ok (.aaload, 1) := by decide +kernel
theorem dF_together_55 : decode prog_1_method_8_code 55 = .ok (.iconst 0, 1) := by decide +kernel
theorem dF_together_56 : decode prog_1_method_8_code 56 = .ok (.invokevirtual 135, 3) := by decide +kernel
theorem dF_together_59 : decode prog_1_method_8_code 59 = .ok (.ireturn, 1) := by decide +kernel
def y_mark : MethodName := ⟨"FragileRules", "mark", "(II)I"⟩
theorem dF_mark_0 : decode prog_1_method_9_code 0 = .ok (.aload_n 0, 1) := by decide +kernel
theorem dF_mark_1 : decode prog_1_method_9_code 1 = .ok (.iload_n 1, 1) := by decide +kernel
theorem dF_mark_2 : decode prog_1_method_9_code 2 = .ok (.invokevirtual 119, 3) := by decide +kernel
theorem dF_mark_5 : decode prog_1_method_9_code 5 = .ok (.ifCond .ne 13, 3) := by decide +kernel
theorem dF_mark_8 : decode prog_1_method_9_code 8 = .ok (.new 123, 3) := by decide +kernel
theorem dF_mark_11 : decode prog_1_method_9_code 11 = .ok (.dup, 1) := by decide +kernel
theorem dF_mark_12 : decode prog_1_method_9_code 12 = .ok (.ldc 125, 2) := by decide +kernel
theorem dF_mark_14 : decode prog_1_method_9_code 14 = .ok (.invokespecial 127, 3) := by decide +kernel
theorem dF_mark_17 : decode prog_1_method_9_code 17 = .ok (.athrow, 1) := by decide +kernel
theorem dF_mark_18 : decode prog_1_method_9_code 18 = .ok (.iload_n 2, 1) := by decide +kernel
theorem dF_mark_19 : decode prog_1_method_9_code 19 = .ok (.invokestatic 139, 3) := by decide +kernel
theorem dF_mark_22 : decode prog_1_method_9_code 22 = .ok (.ifCond .ne 13, 3) := by decide +kernel
theorem dF_mark_25 : decode prog_1_method_9_code 25 = .ok (.new 57, 3) := by decide +kernel
theorem dF_mark_28 : decode prog_1_method_9_code 28 = .ok (.dup, 1) := by decide +kernel
theorem dF_mark_29 : decode prog_1_method_9_code 29 = .ok (.ldc 142, 2) := by decide +kernel
theorem dF_mark_31 : decode prog_1_method_9_code 31 = .ok (.invokespecial 61, 3) := by decide +kernel
theorem dF_mark_34 : decode prog_1_method_9_code 34 = .ok (.athrow, 1) := by decide +kernel
theorem dF_mark_35 : decode prog_1_method_9_code 35 = .ok (.aload_n 0, 1) := by decide +kernel
theorem dF_mark_36 : decode prog_1_method_9_code 36 = .ok (.getfield 11, 3) := by decide +kernel
theorem dF_mark_39 : decode prog_1_method_9_code 39 = .ok (.iload_n 1, 1) := by decide +kernel
theorem dF_mark_40 : decode prog_1_method_9_code 40 = .ok (.aaload, 1) := by decide +kernel
theorem dF_mark_41 : decode prog_1_method_9_code 41 = .ok (.astore_n 3, 1) := by decide +kernel
theorem dF_mark_42 : decode prog_1_method_9_code 42 = .ok (.aload_n 3, 1) := by decide +kernel
theorem dF_mark_43 : decode prog_1_method_9_code 43 = .ok (.iload_n 2, 1) := by decide +kernel
theorem dF_mark_44 : decode prog_1_method_9_code 44 = .ok (.invokevirtual 144, 3) := by decide +kernel
theorem dF_mark_47 : decode prog_1_method_9_code 47 = .ok (.ifCond .eq 13, 3) := by decide +kernel
theorem dF_mark_50 : decode prog_1_method_9_code 50 = .ok (.new 130, 3) := by decide +kernel
theorem dF_mark_53 : decode prog_1_method_9_code 53 = .ok (.dup, 1) := by decide +kernel
theorem dF_mark_54 : decode prog_1_method_9_code 54 = .ok (.ldc 147, 2) := by decide +kernel
theorem dF_mark_56 : decode prog_1_method_9_code 56 = .ok (.invokespecial 134, 3) := by decide +kernel
theorem dF_mark_59 : decode prog_1_method_9_code 59 = .ok (.athrow, 1) := by decide +kernel
theorem dF_mark_60 : decode prog_1_method_9_code 60 = .ok (.aload_n 0, 1) := by decide +kernel
theorem dF_mark_61 : decode prog_1_method_9_code 61 = .ok (.iconst 2, 1) := by decide +kernel
theorem dF_mark_62 : decode prog_1_method_9_code 62 = .ok (.aload_n 3, 1) := by decide +kernel
theorem dF_mark_63 : decode prog_1_method_9_code 63 = .ok (.aload_n 3, 1) := by decide +kernel
theorem dF_mark_64 : decode prog_1_method_9_code 64 = .ok (.iload_n 2, 1) := by decide +kernel
theorem dF_mark_65 : decode prog_1_method_9_code 65 = .ok (.invokevirtual 135, 3) := by decide +kernel
theorem dF_mark_68 : decode prog_1_method_9_code 68 = .ok (.istore 4, 2) := by decide +kernel
theorem dF_mark_70 : decode prog_1_method_9_code 70 = .ok (.iload 4, 2) := by decide +kernel
theorem dF_mark_72 : decode prog_1_method_9_code 72 = .ok (.ifCond .ne 13, 3) := by decide +kernel
theorem dF_mark_75 : decode prog_1_method_9_code 75 = .ok (.aload_n 3, 1) := by decide +kernel
theorem dF_mark_76 : decode prog_1_method_9_code 76 = .ok (.dup, 1) := by decide +kernel
theorem dF_mark_77 : decode prog_1_method_9_code 77 = .ok (.getfield 75, 3) := by decide +kernel
theorem dF_mark_80 : decode prog_1_method_9_code 80 = .ok (.iload_n 2, 1) := by decide +kernel
theorem dF_mark_81 : decode prog_1_method_9_code 81 = .ok (.ior, 1) := by decide +kernel
theorem dF_mark_82 : decode prog_1_method_9_code 82 = .ok (.putfield 75, 3) := by decide +kernel
theorem dF_mark_85 : decode prog_1_method_9_code 85 = .ok (.iload 4, 2) := by decide +kernel
theorem dF_mark_87 : decode prog_1_method_9_code 87 = .ok (.ireturn, 1) := by decide +kernel
def y_never : MethodName := ⟨"FragileRules", "never", "(I)I"⟩
theorem dF_never_0 : decode prog_1_method_11_code 0 = .ok (.iload_n 1, 1) := by decide +kernel
theorem dF_never_1 : decode prog_1_method_11_code 1 = .ok (.ifCond .ge 13, 3) := by decide +kernel
theorem dF_never_4 : decode prog_1_method_11_code 4 = .ok (.new 57, 3) := by decide +kernel
theorem dF_never_7 : decode prog_1_method_11_code 7 = .ok (.dup, 1) := by decide +kernel
theorem dF_never_8 : decode prog_1_method_11_code 8 = .ok (.ldc 149, 2) := by decide +kernel
theorem dF_never_10 : decode prog_1_method_11_code 10 = .ok (.invokespecial 61, 3) := by decide +kernel
theorem dF_never_13 : decode prog_1_method_11_code 13 = .ok (.athrow, 1) := by decide +kernel
theorem dF_never_14 : decode prog_1_method_11_code 14 = .ok (.iconst 0, 1) := by decide +kernel
theorem dF_never_15 : decode prog_1_method_11_code 15 = .ok (.istore_n 2, 1) := by decide +kernel
theorem dF_never_16 : decode prog_1_method_11_code 16 = .ok (.iconst 1, 1) := by decide +kernel
theorem dF_never_17 : decode prog_1_method_11_code 17 = .ok (.istore_n 3, 1) := by decide +kernel
theorem dF_never_18 : decode prog_1_method_11_code 18 = .ok (.iload_n 3, 1) := by decide +kernel
theorem dF_never_19 : decode prog_1_method_11_code 19 = .ok (.aload_n 0, 1) := by decide +kernel
theorem dF_never_20 : decode prog_1_method_11_code 20 = .ok (.getfield 25, 3) := by decide +kernel
theorem dF_never_23 : decode prog_1_method_11_code 23 = .ok (.if_icmp .gt 33, 3) := by decide +kernel
theorem dF_never_26 : decode prog_1_method_11_code 26 = .ok (.aload_n 0, 1) := by decide +kernel
theorem dF_never_27 : decode prog_1_method_11_code 27 = .ok (.getfield 21, 3) := by decide +kernel
theorem dF_never_30 : decode prog_1_method_11_code 30 = .ok (.iload_n 3, 1) := by decide +kernel
theorem dF_never_31 : decode prog_1_method_11_code 31 = .ok (.iconst 1, 1) := by decide +kernel
theorem dF_never_32 : decode prog_1_method_11_code 32 = .ok (.isub, 1) := by decide +kernel
theorem dF_never_33 : decode prog_1_method_11_code 33 = .ok (.aaload, 1) := by decide +kernel
theorem dF_never_34 : decode prog_1_method_11_code 34 = .ok (.getfield 151, 3) := by decide +kernel
theorem dF_never_37 : decode prog_1_method_11_code 37 = .ok (.ifCond .ne 13, 3) := by decide +kernel
theorem dF_never_40 : decode prog_1_method_11_code 40 = .ok (.iload_n 2, 1) := by decide +kernel
theorem dF_never_41 : decode prog_1_method_11_code 41 = .ok (.iload_n 1, 1) := by decide +kernel
theorem dF_never_42 : decode prog_1_method_11_code 42 = .ok (.if_icmp .ne 5, 3) := by decide +kernel
theorem dF_never_45 : decode prog_1_method_11_code 45 = .ok (.iload_n 3, 1) := by decide +kernel
theorem dF_never_46 : decode prog_1_method_11_code 46 = .ok (.ireturn, 1) := by decide +kernel
theorem dF_never_47 : decode prog_1_method_11_code 47 = .ok (.iinc 2 1, 3) := by decide +kernel
theorem dF_never_50 : decode prog_1_method_11_code 50 = .ok (.iinc 3 1, 3) := by decide +kernel
theorem dF_never_53 : decode prog_1_method_11_code 53 = .ok (.goto (-35), 3) := by decide +kernel
theorem dF_never_56 : decode prog_1_method_11_code 56 = .ok (.iconst (-1), 1) := by decide +kernel
theorem dF_never_57 : decode prog_1_method_11_code 57 = .ok (.ireturn, 1) := by decide +kernel
def y_order : MethodName := ⟨"FragileRules", "order", "(II)I"⟩
theorem dF_order_0 : decode prog_1_method_12_code 0 = .ok (.aload_n 0, 1) := by decide +kernel
theorem dF_order_1 : decode prog_1_method_12_code 1 = .ok (.iload_n 1, 1) := by decide +kernel
theorem dF_order_2 : decode prog_1_method_12_code 2 = .ok (.invokevirtual 154, 3) := by decide +kernel
theorem dF_order_5 : decode prog_1_method_12_code 5 = .ok (.ifCond .ne 13, 3) := by decide +kernel
theorem dF_order_8 : decode prog_1_method_12_code 8 = .ok (.new 123, 3) := by decide +kernel
theorem dF_order_11 : decode prog_1_method_12_code 11 = .ok (.dup, 1) := by decide +kernel
theorem dF_order_12 : decode prog_1_method_12_code 12 = .ok (.ldc 157, 2) := by decide +kernel
theorem dF_order_14 : decode prog_1_method_12_code 14 = .ok (.invokespecial 127, 3) := by decide +kernel
theorem dF_order_17 : decode prog_1_method_12_code 17 = .ok (.athrow, 1) := by decide +kernel
theorem dF_order_18 : decode prog_1_method_12_code 18 = .ok (.iload_n 2, 1) := by decide +kernel
theorem dF_order_19 : decode prog_1_method_12_code 19 = .ok (.aload_n 0, 1) := by decide +kernel
theorem dF_order_20 : decode prog_1_method_12_code 20 = .ok (.getfield 25, 3) := by decide +kernel
theorem dF_order_23 : decode prog_1_method_12_code 23 = .ok (.iconst 1, 1) := by decide +kernel
theorem dF_order_24 : decode prog_1_method_12_code 24 = .ok (.isub, 1) := by decide +kernel
theorem dF_order_25 : decode prog_1_method_12_code 25 = .ok (.invokestatic 53, 3) := by decide +kernel
theorem dF_order_28 : decode prog_1_method_12_code 28 = .ok (.ifCond .ne 13, 3) := by decide +kernel
theorem dF_order_31 : decode prog_1_method_12_code 31 = .ok (.new 57, 3) := by decide +kernel
theorem dF_order_34 : decode prog_1_method_12_code 34 = .ok (.dup, 1) := by decide +kernel
theorem dF_order_35 : decode prog_1_method_12_code 35 = .ok (.ldc 159, 2) := by decide +kernel
theorem dF_order_37 : decode prog_1_method_12_code 37 = .ok (.invokespecial 61, 3) := by decide +kernel
theorem dF_order_40 : decode prog_1_method_12_code 40 = .ok (.athrow, 1) := by decide +kernel
theorem dF_order_41 : decode prog_1_method_12_code 41 = .ok (.aload_n 0, 1) := by decide +kernel
theorem dF_order_42 : decode prog_1_method_12_code 42 = .ok (.iload_n 1, 1) := by decide +kernel
theorem dF_order_43 : decode prog_1_method_12_code 43 = .ok (.invokevirtual 161, 3) := by decide +kernel
theorem dF_order_46 : decode prog_1_method_12_code 46 = .ok (.istore_n 3, 1) := by decide +kernel
theorem dF_order_47 : decode prog_1_method_12_code 47 = .ok (.iload_n 3, 1) := by decide +kernel
theorem dF_order_48 : decode prog_1_method_12_code 48 = .ok (.iload_n 2, 1) := by decide +kernel
theorem dF_order_49 : decode prog_1_method_12_code 49 = .ok (.if_icmp .ge 24, 3) := by decide +kernel
theorem dF_order_52 : decode prog_1_method_12_code 52 = .ok (.aload_n 0, 1) := by decide +kernel
theorem dF_order_53 : decode prog_1_method_12_code 53 = .ok (.getfield 28, 3) := by decide +kernel
theorem dF_order_56 : decode prog_1_method_12_code 56 = .ok (.iload_n 3, 1) := by decide +kernel
theorem dF_order_57 : decode prog_1_method_12_code 57 = .ok (.iconst 1, 1) := by decide +kernel
theorem dF_order_58 : decode prog_1_method_12_code 58 = .ok (.iadd, 1) := by decide +kernel
theorem dF_order_59 : decode prog_1_method_12_code 59 = .ok (.aload_n 0, 1) := by decide +kernel
theorem dF_order_60 : decode prog_1_method_12_code 60 = .ok (.getfield 28, 3) := by decide +kernel
theorem dF_order_63 : decode prog_1_method_12_code 63 = .ok (.iload_n 3, 1) := by decide +kernel
theorem dF_order_64 : decode prog_1_method_12_code 64 = .ok (.iload_n 2, 1) := by decide +kernel
theorem dF_order_65 : decode prog_1_method_12_code 65 = .ok (.iload_n 3, 1) := by decide +kernel
theorem dF_order_66 : decode prog_1_method_12_code 66 = .ok (.isub, 1) := by decide +kernel
theorem dF_order_67 : decode prog_1_method_12_code 67 = .ok (.invokestatic 165, 3) := by decide +kernel
theorem dF_order_70 : decode prog_1_method_12_code 70 = .ok (.goto 21, 3) := by decide +kernel
theorem dF_order_73 : decode prog_1_method_12_code 73 = .ok (.aload_n 0, 1) := by decide +kernel
theorem dF_order_74 : decode prog_1_method_12_code 74 = .ok (.getfield 28, 3) := by decide +kernel
theorem dF_order_77 : decode prog_1_method_12_code 77 = .ok (.iload_n 2, 1) := by decide +kernel
theorem dF_order_78 : decode prog_1_method_12_code 78 = .ok (.aload_n 0, 1) := by decide +kernel
theorem dF_order_79 : decode prog_1_method_12_code 79 = .ok (.getfield 28, 3) := by decide +kernel
theorem dF_order_82 : decode prog_1_method_12_code 82 = .ok (.iload_n 2, 1) := by decide +kernel
theorem dF_order_83 : decode prog_1_method_12_code 83 = .ok (.iconst 1, 1) := by decide +kernel
theorem dF_order_84 : decode prog_1_method_12_code 84 = .ok (.iadd, 1) := by decide +kernel
theorem dF_order_85 : decode prog_1_method_12_code 85 = .ok (.iload_n 3, 1) := by decide +kernel
theorem dF_order_86 : decode prog_1_method_12_code 86 = .ok (.iload_n 2, 1) := by decide +kernel
theorem dF_order_87 : decode prog_1_method_12_code 87 = .ok (.isub, 1) := by decide +kernel
theorem dF_order_88 : decode prog_1_method_12_code 88 = .ok (.invokestatic 165, 3) := by decide +kernel
theorem dF_order_91 : decode prog_1_method_12_code 91 = .ok (.aload_n 0, 1) := by decide +kernel
theorem dF_order_92 : decode prog_1_method_12_code 92 = .ok (.getfield 28, 3) := by decide +kernel
theorem dF_order_95 : decode prog_1_method_12_code 95 = .ok (.iload_n 2, 1) := by decide +kernel
theorem dF_order_96 : decode prog_1_method_12_code 96 = .ok (.iload_n 1, 1) := by decide +kernel
theorem dF_order_97 : decode prog_1_method_12_code 97 = .ok (.iastore, 1) := by decide +kernel
theorem dF_order_98 : decode prog_1_method_12_code 98 = .ok (.iload_n 3, 1) := by decide +kernel
theorem dF_order_99 : decode prog_1_method_12_code 99 = .ok (.ireturn, 1) := by decide +kernel
def y_told : MethodName := ⟨"FragileRules", "told", "(II)I"⟩
theorem dF_told_0 : decode prog_1_method_13_code 0 = .ok (.aload_n 0, 1) := by decide +kernel
theorem dF_told_1 : decode prog_1_method_13_code 1 = .ok (.iload_n 1, 1) := by decide +kernel
theorem dF_told_2 : decode prog_1_method_13_code 2 = .ok (.invokevirtual 154, 3) := by decide +kernel
theorem dF_told_5 : decode prog_1_method_13_code 5 = .ok (.ifCond .ne 13, 3) := by decide +kernel
theorem dF_told_8 : decode prog_1_method_13_code 8 = .ok (.new 123, 3) := by decide +kernel
theorem dF_told_11 : decode prog_1_method_13_code 11 = .ok (.dup, 1) := by decide +kernel
theorem dF_told_12 : decode prog_1_method_13_code 12 = .ok (.ldc 157, 2) := by decide +kernel
theorem dF_told_14 : decode prog_1_method_13_code 14 = .ok (.invokespecial 127, 3) := by decide +kernel
theorem dF_told_17 : decode prog_1_method_13_code 17 = .ok (.athrow, 1) := by decide +kernel
theorem dF_told_18 : decode prog_1_method_13_code 18 = .ok (.aload_n 0, 1) := by decide +kernel
theorem dF_told_19 : decode prog_1_method_13_code 19 = .ok (.getfield 21, 3) := by decide +kernel
theorem dF_told_22 : decode prog_1_method_13_code 22 = .ok (.iload_n 1, 1) := by decide +kernel
theorem dF_told_23 : decode prog_1_method_13_code 23 = .ok (.iconst 1, 1) := by decide +kernel
theorem dF_told_24 : decode prog_1_method_13_code 24 = .ok (.isub, 1) := by decide +kernel
theorem dF_told_25 : decode prog_1_method_13_code 25 = .ok (.aaload, 1) := by decide +kernel
theorem dF_told_26 : decode prog_1_method_13_code 26 = .ok (.astore_n 3, 1) := by decide +kernel
theorem dF_told_27 : decode prog_1_method_13_code 27 = .ok (.iload_n 2, 1) := by decide +kernel
theorem dF_told_28 : decode prog_1_method_13_code 28 = .ok (.tableswitch 62 0 4 #[36, 41, 46, 51, 57], 36) := by decide +kernel
theorem dF_told_64 : decode prog_1_method_13_code 64 = .ok (.aload_n 3, 1) := by decide +kernel
theorem dF_told_65 : decode prog_1_method_13_code 65 = .ok (.getfield 171, 3) := by decide +kernel
theorem dF_told_68 : decode prog_1_method_13_code 68 = .ok (.ireturn, 1) := by decide +kernel
theorem dF_told_69 : decode prog_1_method_13_code 69 = .ok (.aload_n 3, 1) := by decide +kernel
theorem dF_told_70 : decode prog_1_method_13_code 70 = .ok (.getfield 174, 3) := by decide +kernel
theorem dF_told_73 : decode prog_1_method_13_code 73 = .ok (.ireturn, 1) := by decide +kernel
theorem dF_told_74 : decode prog_1_method_13_code 74 = .ok (.aload_n 3, 1) := by decide +kernel
theorem dF_told_75 : decode prog_1_method_13_code 75 = .ok (.getfield 177, 3) := by decide +kernel
theorem dF_told_78 : decode prog_1_method_13_code 78 = .ok (.ireturn, 1) := by decide +kernel
theorem dF_told_79 : decode prog_1_method_13_code 79 = .ok (.aload_n 0, 1) := by decide +kernel
theorem dF_told_80 : decode prog_1_method_13_code 80 = .ok (.iload_n 1, 1) := by decide +kernel
theorem dF_told_81 : decode prog_1_method_13_code 81 = .ok (.invokevirtual 161, 3) := by decide +kernel
theorem dF_told_84 : decode prog_1_method_13_code 84 = .ok (.ireturn, 1) := by decide +kernel
theorem dF_told_85 : decode prog_1_method_13_code 85 = .ok (.aload_n 3, 1) := by decide +kernel
theorem dF_told_86 : decode prog_1_method_13_code 86 = .ok (.getfield 151, 3) := by decide +kernel
theorem dF_told_89 : decode prog_1_method_13_code 89 = .ok (.ireturn, 1) := by decide +kernel
theorem dF_told_90 : decode prog_1_method_13_code 90 = .ok (.new 57, 3) := by decide +kernel
theorem dF_told_93 : decode prog_1_method_13_code 93 = .ok (.dup, 1) := by decide +kernel
theorem dF_told_94 : decode prog_1_method_13_code 94 = .ok (.ldc 180, 2) := by decide +kernel
theorem dF_told_96 : decode prog_1_method_13_code 96 = .ok (.invokespecial 61, 3) := by decide +kernel
theorem dF_told_99 : decode prog_1_method_13_code 99 = .ok (.athrow, 1) := by decide +kernel
def y_about : MethodName := ⟨"FragileRules", "about", "(II)I"⟩
theorem dF_about_0 : decode prog_1_method_14_code 0 = .ok (.aload_n 0, 1) := by decide +kernel
theorem dF_about_1 : decode prog_1_method_14_code 1 = .ok (.iload_n 1, 1) := by decide +kernel
theorem dF_about_2 : decode prog_1_method_14_code 2 = .ok (.invokevirtual 119, 3) := by decide +kernel
theorem dF_about_5 : decode prog_1_method_14_code 5 = .ok (.ifCond .ne 13, 3) := by decide +kernel
theorem dF_about_8 : decode prog_1_method_14_code 8 = .ok (.new 123, 3) := by decide +kernel
theorem dF_about_11 : decode prog_1_method_14_code 11 = .ok (.dup, 1) := by decide +kernel
theorem dF_about_12 : decode prog_1_method_14_code 12 = .ok (.ldc 125, 2) := by decide +kernel
theorem dF_about_14 : decode prog_1_method_14_code 14 = .ok (.invokespecial 127, 3) := by decide +kernel
theorem dF_about_17 : decode prog_1_method_14_code 17 = .ok (.athrow, 1) := by decide +kernel
theorem dF_about_18 : decode prog_1_method_14_code 18 = .ok (.iload_n 2, 1) := by decide +kernel
theorem dF_about_19 : decode prog_1_method_14_code 19 = .ok (.tableswitch 55 0 2 #[25, 35, 45], 25) := by decide +kernel
theorem dF_about_44 : decode prog_1_method_14_code 44 = .ok (.aload_n 0, 1) := by decide +kernel
theorem dF_about_45 : decode prog_1_method_14_code 45 = .ok (.getfield 11, 3) := by decide +kernel
theorem dF_about_48 : decode prog_1_method_14_code 48 = .ok (.iload_n 1, 1) := by decide +kernel
theorem dF_about_49 : decode prog_1_method_14_code 49 = .ok (.aaload, 1) := by decide +kernel
theorem dF_about_50 : decode prog_1_method_14_code 50 = .ok (.getfield 69, 3) := by decide +kernel
theorem dF_about_53 : decode prog_1_method_14_code 53 = .ok (.ireturn, 1) := by decide +kernel
theorem dF_about_54 : decode prog_1_method_14_code 54 = .ok (.aload_n 0, 1) := by decide +kernel
theorem dF_about_55 : decode prog_1_method_14_code 55 = .ok (.getfield 11, 3) := by decide +kernel
theorem dF_about_58 : decode prog_1_method_14_code 58 = .ok (.iload_n 1, 1) := by decide +kernel
theorem dF_about_59 : decode prog_1_method_14_code 59 = .ok (.aaload, 1) := by decide +kernel
theorem dF_about_60 : decode prog_1_method_14_code 60 = .ok (.getfield 72, 3) := by decide +kernel
theorem dF_about_63 : decode prog_1_method_14_code 63 = .ok (.ireturn, 1) := by decide +kernel
theorem dF_about_64 : decode prog_1_method_14_code 64 = .ok (.aload_n 0, 1) := by decide +kernel
theorem dF_about_65 : decode prog_1_method_14_code 65 = .ok (.getfield 11, 3) := by decide +kernel
theorem dF_about_68 : decode prog_1_method_14_code 68 = .ok (.iload_n 1, 1) := by decide +kernel
theorem dF_about_69 : decode prog_1_method_14_code 69 = .ok (.aaload, 1) := by decide +kernel
theorem dF_about_70 : decode prog_1_method_14_code 70 = .ok (.getfield 75, 3) := by decide +kernel
theorem dF_about_73 : decode prog_1_method_14_code 73 = .ok (.ireturn, 1) := by decide +kernel
theorem dF_about_74 : decode prog_1_method_14_code 74 = .ok (.new 57, 3) := by decide +kernel
theorem dF_about_77 : decode prog_1_method_14_code 77 = .ok (.dup, 1) := by decide +kernel
theorem dF_about_78 : decode prog_1_method_14_code 78 = .ok (.ldc 182, 2) := by decide +kernel
theorem dF_about_80 : decode prog_1_method_14_code 80 = .ok (.invokespecial 61, 3) := by decide +kernel
theorem dF_about_83 : decode prog_1_method_14_code 83 = .ok (.athrow, 1) := by decide +kernel
theorem fl_U_16 : Cond.fieldLink "FragileRules$Unit" 16 "FragileRules$Unit" "marks" "I" ∈ fr_tbl := fr_in 78 (by decide +kernel) rfl
theorem fl_T_15 : Cond.fieldLink "FragileRules$Text" 15 "FragileRules$Text" "length" "I" ∈ fr_tbl := fr_in 59 (by decide +kernel) rfl
theorem fl_T_9 : Cond.fieldLink "FragileRules$Text" 9 "FragileRules$Text" "signs" "[I" ∈ fr_tbl := fr_in 57 (by decide +kernel) rfl
theorem ml_T_26 : Cond.methodLink "FragileRules$Text" 26 ⟨"FragileRules$Text", "signAt", "(I)I"⟩ ∈ fr_tbl := fr_in 331 (by decide +kernel) rfl
theorem mi_signAt : Cond.instanceMethod ⟨"FragileRules$Text", "signAt", "(I)I"⟩ ∈ fr_tbl := fr_in 332 (by decide +kernel) rfl
theorem msel_signAt : Cond.selects "FragileRules$Text" ⟨"FragileRules$Text", "signAt", "(I)I"⟩ ⟨"FragileRules$Text", "signAt", "(I)I"⟩ ∈ fr_tbl := fr_in 333 (by decide +kernel) rfl
theorem mini_T : Cond.initialized "FragileRules$Text" ∈ fr_tbl := fr_in 26 (by decide +kernel) rfl
theorem mc_signAt : Cond.code ⟨"FragileRules$Text", "signAt", "(I)I"⟩ prog_3_method_8_code 2 (some FieldType.int) ∈ fr_tbl := fr_in 334 (by decide +kernel) rfl
theorem ml_T_29 : Cond.methodLink "FragileRules$Text" 29 ⟨"FragileRules$Text", "digitAt", "(I)I"⟩ ∈ fr_tbl := fr_in 335 (by decide +kernel) rfl
theorem mi_digitAt : Cond.instanceMethod ⟨"FragileRules$Text", "digitAt", "(I)I"⟩ ∈ fr_tbl := fr_in 336 (by decide +kernel) rfl
theorem msel_digitAt : Cond.selects "FragileRules$Text" ⟨"FragileRules$Text", "digitAt", "(I)I"⟩ ⟨"FragileRules$Text", "digitAt", "(I)I"⟩ ∈ fr_tbl := fr_in 337 (by decide +kernel) rfl
theorem mc_digitAt : Cond.code ⟨"FragileRules$Text", "digitAt", "(I)I"⟩ prog_3_method_7_code 3 (some FieldType.int) ∈ fr_tbl := fr_in 338 (by decide +kernel) rfl
theorem ml_T_23 : Cond.methodLink "FragileRules$Text" 23 ⟨"FragileRules$Text", "rowAt", "(I)I"⟩ ∈ fr_tbl := fr_in 327 (by decide +kernel) rfl
theorem mi_rowAt : Cond.instanceMethod ⟨"FragileRules$Text", "rowAt", "(I)I"⟩ ∈ fr_tbl := fr_in 328 (by decide +kernel) rfl
theorem msel_rowAt : Cond.selects "FragileRules$Text" ⟨"FragileRules$Text", "rowAt", "(I)I"⟩ ⟨"FragileRules$Text", "rowAt", "(I)I"⟩ ∈ fr_tbl := fr_in 329 (by decide +kernel) rfl
theorem mc_rowAt : Cond.code ⟨"FragileRules$Text", "rowAt", "(I)I"⟩ prog_3_method_5_code 2 (some FieldType.int) ∈ fr_tbl := fr_in 330 (by decide +kernel) rfl
theorem mc_within : Cond.code ⟨"FragileRules", "isWithin", "(II)Z"⟩ prog_1_method_16_code 2 (some FieldType.boolean) ∈ fr_tbl := fr_in 159 (by decide +kernel) rfl
theorem mini_F : Cond.initialized "FragileRules" ∈ fr_tbl := fr_in 25 (by decide +kernel) rfl
theorem mst_within : Cond.static ⟨"FragileRules", "isWithin", "(II)Z"⟩ ∈ fr_tbl := fr_in 158 (by decide +kernel) rfl
theorem ml_T_19 : Cond.methodLink "FragileRules$Text" 19 ⟨"FragileRules$Text", "behindLine", "(I)I"⟩ ∈ fr_tbl := fr_in 323 (by decide +kernel) rfl
theorem mi_behind : Cond.instanceMethod ⟨"FragileRules$Text", "behindLine", "(I)I"⟩ ∈ fr_tbl := fr_in 324 (by decide +kernel) rfl
theorem msel_behind : Cond.selects "FragileRules$Text" ⟨"FragileRules$Text", "behindLine", "(I)I"⟩ ⟨"FragileRules$Text", "behindLine", "(I)I"⟩ ∈ fr_tbl := fr_in 325 (by decide +kernel) rfl
theorem mc_behind : Cond.code ⟨"FragileRules$Text", "behindLine", "(I)I"⟩ prog_3_method_4_code 6 (some FieldType.int) ∈ fr_tbl := fr_in 326 (by decide +kernel) rfl
theorem fl_F_15 : Cond.fieldLink "FragileRules" 15 "FragileRules" "unitCount" "I" ∈ fr_tbl := fr_in 110 (by decide +kernel) rfl
theorem fl_F_25 : Cond.fieldLink "FragileRules" 25 "FragileRules" "ruleCount" "I" ∈ fr_tbl := fr_in 112 (by decide +kernel) rfl
theorem fl_R_9 : Cond.fieldLink "FragileRules$Rule" 9 "FragileRules$Rule" "row" "I" ∈ fr_tbl := fr_in 92 (by decide +kernel) rfl
theorem fl_R_15 : Cond.fieldLink "FragileRules$Rule" 15 "FragileRules$Rule" "a" "I" ∈ fr_tbl := fr_in 94 (by decide +kernel) rfl
theorem ml_R_32 : Cond.methodLink "FragileRules$Rule" 32 ⟨"FragileRules$Unit", "has", "(I)Z"⟩ ∈ fr_tbl := fr_in 265 (by decide +kernel) rfl
theorem mi_has : Cond.instanceMethod ⟨"FragileRules$Unit", "has", "(I)Z"⟩ ∈ fr_tbl := fr_in 250 (by decide +kernel) rfl
theorem msel_has : Cond.selects "FragileRules$Unit" ⟨"FragileRules$Unit", "has", "(I)Z"⟩ ⟨"FragileRules$Unit", "has", "(I)Z"⟩ ∈ fr_tbl := fr_in 251 (by decide +kernel) rfl
theorem mini_U : Cond.initialized "FragileRules$Unit" ∈ fr_tbl := fr_in 27 (by decide +kernel) rfl
theorem mc_has : Cond.code ⟨"FragileRules$Unit", "has", "(I)Z"⟩ prog_4_method_2_code 2 (some FieldType.boolean) ∈ fr_tbl := fr_in 252 (by decide +kernel) rfl
theorem fl_R_24 : Cond.fieldLink "FragileRules$Rule" 24 "FragileRules$Unit" "kind" "I" ∈ fr_tbl := fr_in 74 (by decide +kernel) rfl
theorem fl_R_18 : Cond.fieldLink "FragileRules$Rule" 18 "FragileRules$Rule" "b" "I" ∈ fr_tbl := fr_in 96 (by decide +kernel) rfl
theorem fl_R_29 : Cond.fieldLink "FragileRules$Rule" 29 "FragileRules$Unit" "weight" "I" ∈ fr_tbl := fr_in 77 (by decide +kernel) rfl
theorem ml_R_36 : Cond.methodLink "FragileRules$Rule" 36 ⟨"FragileRules$Rule", "refusesByItsDoing", "(LFragileRules$Unit;LFragileRules$Unit;I)Z"⟩ ∈ fr_tbl := fr_in 266 (by decide +kernel) rfl
theorem mi_doing : Cond.instanceMethod ⟨"FragileRules$Rule", "refusesByItsDoing", "(LFragileRules$Unit;LFragileRules$Unit;I)Z"⟩ ∈ fr_tbl := fr_in 267 (by decide +kernel) rfl
theorem msel_doing : Cond.selects "FragileRules$Rule" ⟨"FragileRules$Rule", "refusesByItsDoing", "(LFragileRules$Unit;LFragileRules$Unit;I)Z"⟩ ⟨"FragileRules$Rule", "refusesByItsDoing", "(LFragileRules$Unit;LFragileRules$Unit;I)Z"⟩ ∈ fr_tbl := fr_in 268 (by decide +kernel) rfl
theorem mini_R : Cond.initialized "FragileRules$Rule" ∈ fr_tbl := fr_in 28 (by decide +kernel) rfl
theorem mc_doing : Cond.code ⟨"FragileRules$Rule", "refusesByItsDoing", "(LFragileRules$Unit;LFragileRules$Unit;I)Z"⟩ prog_2_method_4_code 4 (some FieldType.boolean) ∈ fr_tbl := fr_in 269 (by decide +kernel) rfl
theorem fl_F_41 : Cond.fieldLink "FragileRules" 41 "FragileRules" "text" "LFragileRules$Text;" ∈ fr_tbl := fr_in 116 (by decide +kernel) rfl
theorem fl_F_98 : Cond.fieldLink "FragileRules" 98 "FragileRules$Text" "length" "I" ∈ fr_tbl := fr_in 60 (by decide +kernel) rfl
theorem fl_F_45 : Cond.fieldLink "FragileRules" 45 "FragileRules" "verdictCount" "I" ∈ fr_tbl := fr_in 117 (by decide +kernel) rfl
theorem fl_F_48 : Cond.fieldLink "FragileRules" 48 "FragileRules" "refusedCount" "I" ∈ fr_tbl := fr_in 118 (by decide +kernel) rfl
theorem fl_F_35 : Cond.fieldLink "FragileRules" 35 "FragileRules" "askedCount" "I" ∈ fr_tbl := fr_in 115 (by decide +kernel) rfl
theorem fl_F_32 : Cond.fieldLink "FragileRules" 32 "FragileRules" "askedNumbers" "[I" ∈ fr_tbl := fr_in 114 (by decide +kernel) rfl
theorem fl_F_28 : Cond.fieldLink "FragileRules" 28 "FragileRules" "numbersInOrder" "[I" ∈ fr_tbl := fr_in 113 (by decide +kernel) rfl
theorem fl_F_21 : Cond.fieldLink "FragileRules" 21 "FragileRules" "rules" "[LFragileRules$Rule;" ∈ fr_tbl := fr_in 111 (by decide +kernel) rfl
theorem fl_F_171 : Cond.fieldLink "FragileRules" 171 "FragileRules$Rule" "row" "I" ∈ fr_tbl := fr_in 93 (by decide +kernel) rfl
theorem fl_F_174 : Cond.fieldLink "FragileRules" 174 "FragileRules$Rule" "a" "I" ∈ fr_tbl := fr_in 95 (by decide +kernel) rfl
theorem fl_F_177 : Cond.fieldLink "FragileRules" 177 "FragileRules$Rule" "b" "I" ∈ fr_tbl := fr_in 97 (by decide +kernel) rfl
theorem ml_F_204 : Cond.methodLink "FragileRules" 204 ⟨"FragileRules$Rule", "asking", "()I"⟩ ∈ fr_tbl := fr_in 257 (by decide +kernel) rfl
theorem mi_asking : Cond.instanceMethod ⟨"FragileRules$Rule", "asking", "()I"⟩ ∈ fr_tbl := fr_in 258 (by decide +kernel) rfl
theorem msel_asking : Cond.selects "FragileRules$Rule" ⟨"FragileRules$Rule", "asking", "()I"⟩ ⟨"FragileRules$Rule", "asking", "()I"⟩ ∈ fr_tbl := fr_in 259 (by decide +kernel) rfl
theorem mc_asking : Cond.code ⟨"FragileRules$Rule", "asking", "()I"⟩ prog_2_method_2_code 1 (some FieldType.int) ∈ fr_tbl := fr_in 260 (by decide +kernel) rfl
theorem ml_F_207 : Cond.methodLink "FragileRules" 207 ⟨"FragileRules$Rule", "refuses", "(LFragileRules$Unit;LFragileRules$Unit;I)Z"⟩ ∈ fr_tbl := fr_in 261 (by decide +kernel) rfl
theorem mi_refuses : Cond.instanceMethod ⟨"FragileRules$Rule", "refuses", "(LFragileRules$Unit;LFragileRules$Unit;I)Z"⟩ ∈ fr_tbl := fr_in 262 (by decide +kernel) rfl
theorem msel_refuses : Cond.selects "FragileRules$Rule" ⟨"FragileRules$Rule", "refuses", "(LFragileRules$Unit;LFragileRules$Unit;I)Z"⟩ ⟨"FragileRules$Rule", "refuses", "(LFragileRules$Unit;LFragileRules$Unit;I)Z"⟩ ∈ fr_tbl := fr_in 263 (by decide +kernel) rfl
theorem mc_refuses : Cond.code ⟨"FragileRules$Rule", "refuses", "(LFragileRules$Unit;LFragileRules$Unit;I)Z"⟩ prog_2_method_3_code 4 (some FieldType.boolean) ∈ fr_tbl := fr_in 264 (by decide +kernel) rfl
theorem fl_F_151 : Cond.fieldLink "FragileRules" 151 "FragileRules$Rule" "refusals" "I" ∈ fr_tbl := fr_in 99 (by decide +kernel) rfl
theorem ml_F_201 : Cond.methodLink "FragileRules" 201 ⟨"FragileRules", "firstRefusing", "(ILFragileRules$Unit;LFragileRules$Unit;I)I"⟩ ∈ fr_tbl := fr_in 253 (by decide +kernel) rfl
theorem mi_firstRefusing : Cond.instanceMethod ⟨"FragileRules", "firstRefusing", "(ILFragileRules$Unit;LFragileRules$Unit;I)I"⟩ ∈ fr_tbl := fr_in 255 (by decide +kernel) rfl
theorem msel_firstRefusing : Cond.selects "FragileRules" ⟨"FragileRules", "firstRefusing", "(ILFragileRules$Unit;LFragileRules$Unit;I)I"⟩ ⟨"FragileRules", "firstRefusing", "(ILFragileRules$Unit;LFragileRules$Unit;I)I"⟩ ∈ fr_tbl := fr_in 2 (by decide +kernel) rfl
theorem mc_firstRefusing : Cond.code ⟨"FragileRules", "firstRefusing", "(ILFragileRules$Unit;LFragileRules$Unit;I)I"⟩ prog_1_method_26_code 8 (some FieldType.int) ∈ fr_tbl := fr_in 256 (by decide +kernel) rfl
theorem cst_I_265 : Cond.constant "java/lang/Integer" 265 (1431655765 : Int32) ∈ fr_tbl := fr_in 286 (by decide +kernel) rfl
theorem cst_I_266 : Cond.constant "java/lang/Integer" 266 (858993459 : Int32) ∈ fr_tbl := fr_in 287 (by decide +kernel) rfl
theorem cst_I_267 : Cond.constant "java/lang/Integer" 267 (252645135 : Int32) ∈ fr_tbl := fr_in 288 (by decide +kernel) rfl
theorem ml_F_53 : Cond.methodLink "FragileRules" 53 ⟨"FragileRules", "isWithin", "(II)Z"⟩ ∈ fr_tbl := fr_in 157 (by decide +kernel) rfl
theorem ml_F_184 : Cond.methodLink "FragileRules" 184 ⟨"java/lang/Integer", "bitCount", "(I)I"⟩ ∈ fr_tbl := fr_in 283 (by decide +kernel) rfl
theorem mst_bitCount : Cond.static ⟨"java/lang/Integer", "bitCount", "(I)I"⟩ ∈ fr_tbl := fr_in 284 (by decide +kernel) rfl
theorem mini_I : Cond.initialized "java/lang/Integer" ∈ fr_tbl := fr_in 35 (by decide +kernel) rfl
theorem mc_bitCount : Cond.code ⟨"java/lang/Integer", "bitCount", "(I)I"⟩ prog_10_method_49_code 1 (some FieldType.int) ∈ fr_tbl := fr_in 285 (by decide +kernel) rfl
theorem ml_F_139 : Cond.methodLink "FragileRules" 139 ⟨"FragileRules", "isMark", "(I)Z"⟩ ∈ fr_tbl := fr_in 280 (by decide +kernel) rfl
theorem mst_isMark : Cond.static ⟨"FragileRules", "isMark", "(I)Z"⟩ ∈ fr_tbl := fr_in 281 (by decide +kernel) rfl
theorem mc_isMark : Cond.code ⟨"FragileRules", "isMark", "(I)Z"⟩ prog_1_method_17_code 1 (some FieldType.boolean) ∈ fr_tbl := fr_in 282 (by decide +kernel) rfl
theorem ml_F_189 : Cond.methodLink "FragileRules" 189 ⟨"FragileRules$Text", "rowAt", "(I)I"⟩ ∈ fr_tbl := fr_in 348 (by decide +kernel) rfl
theorem ml_F_192 : Cond.methodLink "FragileRules" 192 ⟨"FragileRules$Text", "digitAt", "(I)I"⟩ ∈ fr_tbl := fr_in 349 (by decide +kernel) rfl
theorem ml_F_195 : Cond.methodLink "FragileRules" 195 ⟨"FragileRules$Text", "numberAt", "(I)I"⟩ ∈ fr_tbl := fr_in 350 (by decide +kernel) rfl
theorem mi_numberAt : Cond.instanceMethod ⟨"FragileRules$Text", "numberAt", "(I)I"⟩ ∈ fr_tbl := fr_in 351 (by decide +kernel) rfl
theorem msel_numberAt : Cond.selects "FragileRules$Text" ⟨"FragileRules$Text", "numberAt", "(I)I"⟩ ⟨"FragileRules$Text", "numberAt", "(I)I"⟩ ∈ fr_tbl := fr_in 352 (by decide +kernel) rfl
theorem mc_numberAt : Cond.code ⟨"FragileRules$Text", "numberAt", "(I)I"⟩ prog_3_method_6_code 4 (some FieldType.int) ∈ fr_tbl := fr_in 353 (by decide +kernel) rfl
theorem ml_F_90 : Cond.methodLink "FragileRules" 90 ⟨"FragileRules", "addRule", "(III)I"⟩ ∈ fr_tbl := fr_in 291 (by decide +kernel) rfl
theorem mi_addRule : Cond.instanceMethod ⟨"FragileRules", "addRule", "(III)I"⟩ ∈ fr_tbl := fr_in 293 (by decide +kernel) rfl
theorem msel_addRule : Cond.selects "FragileRules" ⟨"FragileRules", "addRule", "(III)I"⟩ ⟨"FragileRules", "addRule", "(III)I"⟩ ∈ fr_tbl := fr_in 3 (by decide +kernel) rfl
theorem mc_addRule : Cond.code ⟨"FragileRules", "addRule", "(III)I"⟩ prog_1_method_21_code 5 (some FieldType.int) ∈ fr_tbl := fr_in 294 (by decide +kernel) rfl
theorem ml_F_198 : Cond.methodLink "FragileRules" 198 ⟨"FragileRules$Text", "behindLine", "(I)I"⟩ ∈ fr_tbl := fr_in 354 (by decide +kernel) rfl
theorem ml_F_144 : Cond.methodLink "FragileRules" 144 ⟨"FragileRules$Unit", "has", "(I)Z"⟩ ∈ fr_tbl := fr_in 249 (by decide +kernel) rfl
theorem cl0_F_57 : Cond.classLink "FragileRules" 57 "java/lang/IllegalArgumentException" ∈ fr_tbl := fr_in 160 (by decide +kernel) rfl
theorem mins_IllegalArgumentException : Cond.instantiable "java/lang/IllegalArgumentException" 6 ∈ fr_tbl := fr_in 161 (by decide +kernel) rfl
theorem mini_IllegalArgumentException : Cond.initialized "java/lang/IllegalArgumentException" ∈ fr_tbl := fr_in 33 (by decide +kernel) rfl
theorem fl_F_11 : Cond.fieldLink "FragileRules" 11 "FragileRules" "units" "[LFragileRules$Unit;" ∈ fr_tbl := fr_in 109 (by decide +kernel) rfl
theorem fl_F_69 : Cond.fieldLink "FragileRules" 69 "FragileRules$Unit" "kind" "I" ∈ fr_tbl := fr_in 73 (by decide +kernel) rfl
theorem fl_F_72 : Cond.fieldLink "FragileRules" 72 "FragileRules$Unit" "weight" "I" ∈ fr_tbl := fr_in 76 (by decide +kernel) rfl
theorem fl_F_75 : Cond.fieldLink "FragileRules" 75 "FragileRules$Unit" "marks" "I" ∈ fr_tbl := fr_in 79 (by decide +kernel) rfl
theorem ml_F_78 : Cond.methodLink "FragileRules" 78 ⟨"FragileRules", "firstRefusingMarks", "(LFragileRules$Unit;)I"⟩ ∈ fr_tbl := fr_in 245 (by decide +kernel) rfl
theorem mi_marks : Cond.instanceMethod ⟨"FragileRules", "firstRefusingMarks", "(LFragileRules$Unit;)I"⟩ ∈ fr_tbl := fr_in 247 (by decide +kernel) rfl
theorem msel_marks : Cond.selects "FragileRules" ⟨"FragileRules", "firstRefusingMarks", "(LFragileRules$Unit;)I"⟩ ⟨"FragileRules", "firstRefusingMarks", "(LFragileRules$Unit;)I"⟩ ∈ fr_tbl := fr_in 1 (by decide +kernel) rfl
theorem mc_marks : Cond.code ⟨"FragileRules", "firstRefusingMarks", "(LFragileRules$Unit;)I"⟩ prog_1_method_25_code 4 (some FieldType.int) ∈ fr_tbl := fr_in 248 (by decide +kernel) rfl
theorem cl0_F_64 : Cond.classLink "FragileRules" 64 "java/lang/UnsupportedOperationException" ∈ fr_tbl := fr_in 229 (by decide +kernel) rfl
theorem mins_UnsupportedOperationException : Cond.instantiable "java/lang/UnsupportedOperationException" 6 ∈ fr_tbl := fr_in 230 (by decide +kernel) rfl
theorem mini_UnsupportedOperationException : Cond.initialized "java/lang/UnsupportedOperationException" ∈ fr_tbl := fr_in 34 (by decide +kernel) rfl
theorem ml_F_82 : Cond.methodLink "FragileRules" 82 ⟨"FragileRules", "isRule", "(III)Z"⟩ ∈ fr_tbl := fr_in 277 (by decide +kernel) rfl
theorem mst_isRule : Cond.static ⟨"FragileRules", "isRule", "(III)Z"⟩ ∈ fr_tbl := fr_in 278 (by decide +kernel) rfl
theorem mc_isRule : Cond.code ⟨"FragileRules", "isRule", "(III)Z"⟩ prog_1_method_18_code 3 (some FieldType.boolean) ∈ fr_tbl := fr_in 279 (by decide +kernel) rfl
theorem fl_F_103 : Cond.fieldLink "FragileRules" 103 "FragileRules$Text" "signs" "[I" ∈ fr_tbl := fr_in 58 (by decide +kernel) rfl
theorem ml_F_106 : Cond.methodLink "FragileRules" 106 ⟨"FragileRules$Text", "wrongPlace", "()I"⟩ ∈ fr_tbl := fr_in 319 (by decide +kernel) rfl
theorem mi_wrongPlace : Cond.instanceMethod ⟨"FragileRules$Text", "wrongPlace", "()I"⟩ ∈ fr_tbl := fr_in 320 (by decide +kernel) rfl
theorem msel_wrongPlace : Cond.selects "FragileRules$Text" ⟨"FragileRules$Text", "wrongPlace", "()I"⟩ ⟨"FragileRules$Text", "wrongPlace", "()I"⟩ ∈ fr_tbl := fr_in 321 (by decide +kernel) rfl
theorem mc_wrongPlace : Cond.code ⟨"FragileRules$Text", "wrongPlace", "()I"⟩ prog_3_method_2_code 4 (some FieldType.int) ∈ fr_tbl := fr_in 322 (by decide +kernel) rfl
theorem ml_F_110 : Cond.methodLink "FragileRules" 110 ⟨"FragileRules$Text", "lineCount", "()I"⟩ ∈ fr_tbl := fr_in 340 (by decide +kernel) rfl
theorem mi_lineCount : Cond.instanceMethod ⟨"FragileRules$Text", "lineCount", "()I"⟩ ∈ fr_tbl := fr_in 341 (by decide +kernel) rfl
theorem msel_lineCount : Cond.selects "FragileRules$Text" ⟨"FragileRules$Text", "lineCount", "()I"⟩ ⟨"FragileRules$Text", "lineCount", "()I"⟩ ∈ fr_tbl := fr_in 342 (by decide +kernel) rfl
theorem mc_lineCount : Cond.code ⟨"FragileRules$Text", "lineCount", "()I"⟩ prog_3_method_3_code 3 (some FieldType.int) ∈ fr_tbl := fr_in 343 (by decide +kernel) rfl
theorem ml_F_113 : Cond.methodLink "FragileRules" 113 ⟨"FragileRules", "addLines", "(I)V"⟩ ∈ fr_tbl := fr_in 344 (by decide +kernel) rfl
theorem mi_addLines : Cond.instanceMethod ⟨"FragileRules", "addLines", "(I)V"⟩ ∈ fr_tbl := fr_in 346 (by decide +kernel) rfl
theorem msel_addLines : Cond.selects "FragileRules" ⟨"FragileRules", "addLines", "(I)V"⟩ ⟨"FragileRules", "addLines", "(I)V"⟩ ∈ fr_tbl := fr_in 4 (by decide +kernel) rfl
theorem mc_addLines : Cond.code ⟨"FragileRules", "addLines", "(I)V"⟩ prog_1_method_22_code 4 (none : Option Jvm.ClassFile.FieldType) ∈ fr_tbl := fr_in 347 (by decide +kernel) rfl
theorem ml_F_119 : Cond.methodLink "FragileRules" 119 ⟨"FragileRules", "isUnit", "(I)Z"⟩ ∈ fr_tbl := fr_in 365 (by decide +kernel) rfl
theorem mi_isUnit : Cond.instanceMethod ⟨"FragileRules", "isUnit", "(I)Z"⟩ ∈ fr_tbl := fr_in 367 (by decide +kernel) rfl
theorem msel_isUnit : Cond.selects "FragileRules" ⟨"FragileRules", "isUnit", "(I)Z"⟩ ⟨"FragileRules", "isUnit", "(I)Z"⟩ ∈ fr_tbl := fr_in 5 (by decide +kernel) rfl
theorem mc_isUnit : Cond.code ⟨"FragileRules", "isUnit", "(I)Z"⟩ prog_1_method_19_code 2 (some FieldType.boolean) ∈ fr_tbl := fr_in 368 (by decide +kernel) rfl
theorem cl0_F_123 : Cond.classLink "FragileRules" 123 "java/util/NoSuchElementException" ∈ fr_tbl := fr_in 369 (by decide +kernel) rfl
theorem mins_NoSuchElementException : Cond.instantiable "java/util/NoSuchElementException" 6 ∈ fr_tbl := fr_in 370 (by decide +kernel) rfl
theorem mini_NoSuchElementException : Cond.initialized "java/util/NoSuchElementException" ∈ fr_tbl := fr_in 36 (by decide +kernel) rfl
theorem ml_F_135 : Cond.methodLink "FragileRules" 135 ⟨"FragileRules", "verdict", "(ILFragileRules$Unit;LFragileRules$Unit;I)I"⟩ ∈ fr_tbl := fr_in 402 (by decide +kernel) rfl
theorem mi_verdict : Cond.instanceMethod ⟨"FragileRules", "verdict", "(ILFragileRules$Unit;LFragileRules$Unit;I)I"⟩ ∈ fr_tbl := fr_in 404 (by decide +kernel) rfl
theorem msel_verdict : Cond.selects "FragileRules" ⟨"FragileRules", "verdict", "(ILFragileRules$Unit;LFragileRules$Unit;I)I"⟩ ⟨"FragileRules", "verdict", "(ILFragileRules$Unit;LFragileRules$Unit;I)I"⟩ ∈ fr_tbl := fr_in 6 (by decide +kernel) rfl
theorem mc_verdict : Cond.code ⟨"FragileRules", "verdict", "(ILFragileRules$Unit;LFragileRules$Unit;I)I"⟩ prog_1_method_24_code 6 (some FieldType.int) ∈ fr_tbl := fr_in 405 (by decide +kernel) rfl
theorem cl0_F_130 : Cond.classLink "FragileRules" 130 "java/lang/IllegalStateException" ∈ fr_tbl := fr_in 386 (by decide +kernel) rfl
theorem mins_IllegalStateException : Cond.instantiable "java/lang/IllegalStateException" 6 ∈ fr_tbl := fr_in 387 (by decide +kernel) rfl
theorem mini_IllegalStateException : Cond.initialized "java/lang/IllegalStateException" ∈ fr_tbl := fr_in 37 (by decide +kernel) rfl
theorem ml_F_154 : Cond.methodLink "FragileRules" 154 ⟨"FragileRules", "isRuleNumber", "(I)Z"⟩ ∈ fr_tbl := fr_in 437 (by decide +kernel) rfl
theorem mi_isRuleNumber : Cond.instanceMethod ⟨"FragileRules", "isRuleNumber", "(I)Z"⟩ ∈ fr_tbl := fr_in 439 (by decide +kernel) rfl
theorem msel_isRuleNumber : Cond.selects "FragileRules" ⟨"FragileRules", "isRuleNumber", "(I)Z"⟩ ⟨"FragileRules", "isRuleNumber", "(I)Z"⟩ ∈ fr_tbl := fr_in 7 (by decide +kernel) rfl
theorem mc_isRuleNumber : Cond.code ⟨"FragileRules", "isRuleNumber", "(I)Z"⟩ prog_1_method_20_code 2 (some FieldType.boolean) ∈ fr_tbl := fr_in 440 (by decide +kernel) rfl
theorem ml_F_161 : Cond.methodLink "FragileRules" 161 ⟨"FragileRules", "placeInOrder", "(I)I"⟩ ∈ fr_tbl := fr_in 443 (by decide +kernel) rfl
theorem mi_placeIn : Cond.instanceMethod ⟨"FragileRules", "placeInOrder", "(I)I"⟩ ∈ fr_tbl := fr_in 445 (by decide +kernel) rfl
theorem msel_placeIn : Cond.selects "FragileRules" ⟨"FragileRules", "placeInOrder", "(I)I"⟩ ⟨"FragileRules", "placeInOrder", "(I)I"⟩ ∈ fr_tbl := fr_in 8 (by decide +kernel) rfl
theorem mc_placeIn : Cond.code ⟨"FragileRules", "placeInOrder", "(I)I"⟩ prog_1_method_23_code 3 (some FieldType.int) ∈ fr_tbl := fr_in 446 (by decide +kernel) rfl
theorem ac_link_F_165 : Cond.methodLink "FragileRules" 165 ⟨"java/lang/System", "arraycopy", "(Ljava/lang/Object;ILjava/lang/Object;II)V"⟩ ∈ fr_tbl := fr_in 447 (by decide +kernel) rfl
theorem ac_native : Cond.native ⟨"java/lang/System", "arraycopy", "(Ljava/lang/Object;ILjava/lang/Object;II)V"⟩ ∈ fr_tbl := fr_in 449 (by decide +kernel) rfl
theorem ac_static : Cond.static ⟨"java/lang/System", "arraycopy", "(Ljava/lang/Object;ILjava/lang/Object;II)V"⟩ ∈ fr_tbl := fr_in 448 (by decide +kernel) rfl
theorem mini_System : Cond.initialized "java/lang/System" ∈ fr_tbl := fr_in 38 (by decide +kernel) rfl
end
section
def fr_nw : List Cond := [Cond.arrayOver (FieldType.object "FragileRules$Unit"),
  Cond.arrayOver (FieldType.object "FragileRules$Rule"),
  Cond.methodLinkNest "FragileRules" 40 ⟨"FragileRules$Text", "<init>", "()V"⟩ "FragileRules",
  Cond.methodLinkNest "FragileRules" 51 ⟨"FragileRules$Unit", "<init>", "()V"⟩ "FragileRules",
  Cond.methodLinkNest "FragileRules" 52 ⟨"FragileRules$Rule", "<init>", "()V"⟩ "FragileRules",
  Cond.castable "java/lang/IllegalArgumentException" "java/lang/IllegalArgumentException",
  Cond.declares ⟨"java/lang/RuntimeException", "<init>", "()V"⟩,
  Cond.declares ⟨"java/lang/RuntimeException", "<init>", "(Ljava/lang/String;)V"⟩,
  Cond.declares ⟨"java/lang/Exception", "<init>", "()V"⟩,
  Cond.declares ⟨"java/lang/Exception", "<init>", "(Ljava/lang/String;)V"⟩,
  Cond.declares ⟨"java/lang/Throwable", "<init>", "()V"⟩,
  Cond.declares ⟨"java/lang/Throwable", "<init>", "(Ljava/lang/String;)V"⟩,
  Cond.stringRef "FragileRules" 59 "kind, weight or marks out of range",
  Cond.castable "java/lang/UnsupportedOperationException" "java/lang/UnsupportedOperationException",
  Cond.stringRef "FragileRules" 66 "no room for a unit",
  Cond.stringRef "FragileRules" 86 "not as the row says",
  Cond.stringRef "FragileRules" 88 "no room for a rule",
  Cond.stringRef "FragileRules" 94 "no such doing",
  Cond.stringRef "FragileRules" 96 "no such sign",
  Cond.stringRef "FragileRules" 101 "no room for a sign",
  Cond.methodLinkNest "FragileRules$Text" 32 ⟨"FragileRules", "isWithin", "(II)Z"⟩ "FragileRules",
  Cond.stringRef "FragileRules" 117 "no room for the rules of the text",
  Cond.castable "java/util/NoSuchElementException" "java/util/NoSuchElementException",
  Cond.stringRef "FragileRules" 125 "no such unit",
  Cond.stringRef "FragileRules" 128 "no such place",
  Cond.castable "java/lang/IllegalStateException" "java/lang/IllegalStateException",
  Cond.stringRef "FragileRules" 132 "the same unit",
  Cond.stringRef "FragileRules" 142 "no such mark",
  Cond.stringRef "FragileRules" 147 "it has the mark",
  Cond.stringRef "FragileRules" 149 "below 0",
  Cond.stringRef "FragileRules" 157 "no such rule",
  Cond.stringRef "FragileRules" 159 "no such place in the order",
  Cond.stringRef "FragileRules" 180 "nothing of that is told of a rule",
  Cond.stringRef "FragileRules" 182 "nothing of that is told of a unit"]
theorem nst_T_32 : Cond.methodLinkNest "FragileRules$Text" 32 ⟨"FragileRules", "isWithin", "(II)Z"⟩ "FragileRules" ∈ fr_nw := by decide +kernel
theorem str_F_101 : Cond.stringRef "FragileRules" 101 "no room for a sign" ∈ fr_nw := by decide +kernel
theorem str_F_117 : Cond.stringRef "FragileRules" 117 "no room for the rules of the text" ∈ fr_nw := by decide +kernel
theorem str_F_125 : Cond.stringRef "FragileRules" 125 "no such unit" ∈ fr_nw := by decide +kernel
theorem str_F_128 : Cond.stringRef "FragileRules" 128 "no such place" ∈ fr_nw := by decide +kernel
theorem str_F_132 : Cond.stringRef "FragileRules" 132 "the same unit" ∈ fr_nw := by decide +kernel
theorem str_F_142 : Cond.stringRef "FragileRules" 142 "no such mark" ∈ fr_nw := by decide +kernel
theorem str_F_147 : Cond.stringRef "FragileRules" 147 "it has the mark" ∈ fr_nw := by decide +kernel
theorem str_F_149 : Cond.stringRef "FragileRules" 149 "below 0" ∈ fr_nw := by decide +kernel
theorem str_F_157 : Cond.stringRef "FragileRules" 157 "no such rule" ∈ fr_nw := by decide +kernel
theorem str_F_159 : Cond.stringRef "FragileRules" 159 "no such place in the order" ∈ fr_nw := by decide +kernel
theorem str_F_180 : Cond.stringRef "FragileRules" 180 "nothing of that is told of a rule" ∈ fr_nw := by decide +kernel
theorem str_F_182 : Cond.stringRef "FragileRules" 182 "nothing of that is told of a unit" ∈ fr_nw := by decide +kernel
theorem str_F_59 : Cond.stringRef "FragileRules" 59 "kind, weight or marks out of range" ∈ fr_nw := by decide +kernel
theorem str_F_66 : Cond.stringRef "FragileRules" 66 "no room for a unit" ∈ fr_nw := by decide +kernel
theorem str_F_86 : Cond.stringRef "FragileRules" 86 "not as the row says" ∈ fr_nw := by decide +kernel
theorem str_F_88 : Cond.stringRef "FragileRules" 88 "no room for a rule" ∈ fr_nw := by decide +kernel
theorem str_F_94 : Cond.stringRef "FragileRules" 94 "no such doing" ∈ fr_nw := by decide +kernel
theorem str_F_96 : Cond.stringRef "FragileRules" 96 "no such sign" ∈ fr_nw := by decide +kernel
def fr_ty (ka : Nat → ClassId) : List (ClassId × FieldType) := [(ka 0, .object "FragileRules$Unit"), (ka 1, .object "FragileRules$Rule"), (ka 2, .int), (ka 3, .long)]
set_option maxRecDepth 100000 in
theorem oa_IllegalArgumentException : ∀ w ∈ Bundle.ownAtoms "FragileRules" 61 "java/lang/IllegalArgumentException" ["java/lang/RuntimeException", "java/lang/Exception"], w ∈ fr_tbl ∨ (w ∈ fr_nw ∧ w.onTables = true) ∨ w ∈ fr_z4 := by decide +kernel
set_option maxRecDepth 100000 in
theorem oa_UnsupportedOperationException : ∀ w ∈ Bundle.ownAtoms "FragileRules" 68 "java/lang/UnsupportedOperationException" ["java/lang/RuntimeException", "java/lang/Exception"], w ∈ fr_tbl ∨ (w ∈ fr_nw ∧ w.onTables = true) ∨ w ∈ fr_z4 := by decide +kernel
set_option maxRecDepth 100000 in
theorem oa_NoSuchElementException : ∀ w ∈ fr_oat "FragileRules" 127 "java/util/NoSuchElementException" "java/lang/RuntimeException" ["java/lang/Exception"] 13 prog_16_method_4_code, w ∈ fr_tbl ∨ (w ∈ fr_nw ∧ w.onTables = true) ∨ w ∈ fr_z4 := by decide +kernel
set_option maxRecDepth 100000 in
theorem oa_IllegalStateException : ∀ w ∈ Bundle.ownAtoms "FragileRules" 134 "java/lang/IllegalStateException" ["java/lang/RuntimeException", "java/lang/Exception"], w ∈ fr_tbl ∨ (w ∈ fr_nw ∧ w.onTables = true) ∨ w ∈ fr_z4 := by decide +kernel
theorem gf_U_16 {p : Program} {l : Launch} {e : Env} {R : Room} {s : State} {m : MethodId} {args : Array Value} {below : List Frame} {meth : Method} {c : Code} {H : Heap} {locs : List Loc} {cells slots : Nat} {Q : State → Prop} {D : va_G} {A : Nat → Prop} {cc : ByteArray} {nL pc : Nat} {ret : Option FieldType} {hh : List ExceptionTableEntry} {ls : Array Slot} {rest : List Value} {ka : Nat → ClassId} {al : Nat → Nat} {f : Nat → Nat → Int32} {Z : va_W} (C : fr_Cx p s m args meth c "FragileRules$Unit" cc nL ret hh fr_tbl fr_nw D vwCl (fr_ty ka) A) (hP : va_P D vwCl (fr_cw ka al f Z) H) {i : Nat} (hi : i < 10) (hdg : decode cc pc = .ok (.getfield 16, 3)) (kk : W p l e R s m args below meth c H locs cells slots Q (F0 m (pc + 3) ls (.int (f 3 i) :: rest))) : W p l e R s m args below meth c H locs cells slots Q (F0 m pc ls (.ref (al (7 + i)) :: rest)) :=
  va_get (D := D) (ci := 1) (v := .int (f 3 i)) (C := "FragileRules$Unit") (T := TXU) (N := 3) C.1 C.2.1 C.2.2.2.2.1 iXU C.2.2.2.1 C.2.2.2.2.2.1 hP (7 + i) (fr_cw_u hi) rfl 2 (by decide) (C.2.2.2.2.1 _ fl_U_16) (fun _ h9 => h9) rfl hdg kk
theorem gf_T_15 {p : Program} {l : Launch} {e : Env} {R : Room} {s : State} {m : MethodId} {args : Array Value} {below : List Frame} {meth : Method} {c : Code} {H : Heap} {locs : List Loc} {cells slots : Nat} {Q : State → Prop} {D : va_G} {A : Nat → Prop} {cc : ByteArray} {nL pc : Nat} {ret : Option FieldType} {hh : List ExceptionTableEntry} {ls : Array Slot} {rest : List Value} {ka : Nat → ClassId} {al : Nat → Nat} {f : Nat → Nat → Int32} {Z : va_W} (C : fr_Cx p s m args meth c "FragileRules$Text" cc nL ret hh fr_tbl fr_nw D vwCl (fr_ty ka) A) (hP : va_P D vwCl (fr_cw ka al f Z) H) (hdg : decode cc pc = .ok (.getfield 15, 3)) (kk : W p l e R s m args below meth c H locs cells slots Q (F0 m (pc + 3) ls (.int (f 0 5) :: rest))) : W p l e R s m args below meth c H locs cells slots Q (F0 m pc ls (.ref (al 5) :: rest)) :=
  va_get (D := D) (ci := 3) (v := .int (f 0 5)) (C := "FragileRules$Text") (T := TXT) (N := 2) C.1 C.2.1 C.2.2.2.2.1 iXT C.2.2.2.1 C.2.2.2.2.2.1 hP 5 rfl rfl 1 (by decide) (C.2.2.2.2.1 _ fl_T_15) (fun _ h9 => h9) rfl hdg kk
theorem gf_T_9 {p : Program} {l : Launch} {e : Env} {R : Room} {s : State} {m : MethodId} {args : Array Value} {below : List Frame} {meth : Method} {c : Code} {H : Heap} {locs : List Loc} {cells slots : Nat} {Q : State → Prop} {D : va_G} {A : Nat → Prop} {cc : ByteArray} {nL pc : Nat} {ret : Option FieldType} {hh : List ExceptionTableEntry} {ls : Array Slot} {rest : List Value} {ka : Nat → ClassId} {al : Nat → Nat} {f : Nat → Nat → Int32} {Z : va_W} (C : fr_Cx p s m args meth c "FragileRules$Text" cc nL ret hh fr_tbl fr_nw D vwCl (fr_ty ka) A) (hP : va_P D vwCl (fr_cw ka al f Z) H) (hdg : decode cc pc = .ok (.getfield 9, 3)) (kk : W p l e R s m args below meth c H locs cells slots Q (F0 m (pc + 3) ls (.ref (al 6) :: rest))) : W p l e R s m args below meth c H locs cells slots Q (F0 m pc ls (.ref (al 5) :: rest)) :=
  va_get (D := D) (ci := 3) (v := .ref (al 6)) (C := "FragileRules$Text") (T := TXT) (N := 2) C.1 C.2.1 C.2.2.2.2.1 iXT C.2.2.2.1 C.2.2.2.2.2.1 hP 5 rfl rfl 0 (by decide) (C.2.2.2.2.1 _ fl_T_9) (fun _ h9 => h9) rfl hdg kk
theorem ald_10 {p : Program} {l : Launch} {e : Env} {R : Room} {s : State} {m : MethodId} {args : Array Value} {below : List Frame} {meth : Method} {c : Code} {H : Heap} {locs : List Loc} {cells slots : Nat} {Q : State → Prop} {D : va_G} {A : Nat → Prop} {cc : ByteArray} {nL pc : Nat} {ret : Option FieldType} {hh : List ExceptionTableEntry} {ls : Array Slot} {rest : List Value} {ka : Nat → ClassId} {al : Nat → Nat} {f : Nat → Nat → Int32} {Z : va_W} {own : String} {x : Int32} (C : fr_Cx p s m args meth c own cc nL ret hh fr_tbl fr_nw D vwCl (fr_ty ka) A) (hP : va_P D vwCl (fr_cw ka al f Z) H) (hin : vp_in x 200) (hdg : decode cc pc = .ok (.iaload, 1)) (kk : W p l e R s m args below meth c H locs cells slots Q (F0 m (pc + 1) ls (.int (f 10 x.toNatClampNeg) :: rest))) : W p l e R s m args below meth c H locs cells slots Q (F0 m pc ls (.int x :: .ref (al 6) :: rest)) :=
  va_iald (D := D) C.1 C.2.1 C.2.2.2.2.2.1 hP 6 2 (f := fun j => f 10 j) rfl rfl hin hdg kk
theorem gf_F_15 {p : Program} {l : Launch} {e : Env} {R : Room} {s : State} {m : MethodId} {args : Array Value} {below : List Frame} {meth : Method} {c : Code} {H : Heap} {locs : List Loc} {cells slots : Nat} {Q : State → Prop} {D : va_G} {A : Nat → Prop} {cc : ByteArray} {nL pc : Nat} {ret : Option FieldType} {hh : List ExceptionTableEntry} {ls : Array Slot} {rest : List Value} {ka : Nat → ClassId} {al : Nat → Nat} {f : Nat → Nat → Int32} {Z : va_W} (C : fr_Cx p s m args meth c "FragileRules" cc nL ret hh fr_tbl fr_nw D vwCl (fr_ty ka) A) (hP : va_P D vwCl (fr_cw ka al f Z) H) (hdg : decode cc pc = .ok (.getfield 15, 3)) (kk : W p l e R s m args below meth c H locs cells slots Q (F0 m (pc + 3) ls (.int (f 0 0) :: rest))) : W p l e R s m args below meth c H locs cells slots Q (F0 m pc ls (.ref (al 0) :: rest)) :=
  va_get (D := D) (ci := 0) (v := .int (f 0 0)) (C := "FragileRules") (T := TXF) (N := 10) C.1 C.2.1 C.2.2.2.2.1 iXF C.2.2.2.1 C.2.2.2.2.2.1 hP 0 rfl rfl 1 (by decide) (C.2.2.2.2.1 _ fl_F_15) (fun _ h9 => h9) rfl hdg kk
theorem gf_F_25 {p : Program} {l : Launch} {e : Env} {R : Room} {s : State} {m : MethodId} {args : Array Value} {below : List Frame} {meth : Method} {c : Code} {H : Heap} {locs : List Loc} {cells slots : Nat} {Q : State → Prop} {D : va_G} {A : Nat → Prop} {cc : ByteArray} {nL pc : Nat} {ret : Option FieldType} {hh : List ExceptionTableEntry} {ls : Array Slot} {rest : List Value} {ka : Nat → ClassId} {al : Nat → Nat} {f : Nat → Nat → Int32} {Z : va_W} (C : fr_Cx p s m args meth c "FragileRules" cc nL ret hh fr_tbl fr_nw D vwCl (fr_ty ka) A) (hP : va_P D vwCl (fr_cw ka al f Z) H) (hdg : decode cc pc = .ok (.getfield 25, 3)) (kk : W p l e R s m args below meth c H locs cells slots Q (F0 m (pc + 3) ls (.int (f 0 1) :: rest))) : W p l e R s m args below meth c H locs cells slots Q (F0 m pc ls (.ref (al 0) :: rest)) :=
  va_get (D := D) (ci := 0) (v := .int (f 0 1)) (C := "FragileRules") (T := TXF) (N := 10) C.1 C.2.1 C.2.2.2.2.1 iXF C.2.2.2.1 C.2.2.2.2.2.1 hP 0 rfl rfl 3 (by decide) (C.2.2.2.2.1 _ fl_F_25) (fun _ h9 => h9) rfl hdg kk
theorem gf_R_9 {p : Program} {l : Launch} {e : Env} {R : Room} {s : State} {m : MethodId} {args : Array Value} {below : List Frame} {meth : Method} {c : Code} {H : Heap} {locs : List Loc} {cells slots : Nat} {Q : State → Prop} {D : va_G} {A : Nat → Prop} {cc : ByteArray} {nL pc : Nat} {ret : Option FieldType} {hh : List ExceptionTableEntry} {ls : Array Slot} {rest : List Value} {ka : Nat → ClassId} {al : Nat → Nat} {f : Nat → Nat → Int32} {Z : va_W} (C : fr_Cx p s m args meth c "FragileRules$Rule" cc nL ret hh fr_tbl fr_nw D vwCl (fr_ty ka) A) (hP : va_P D vwCl (fr_cw ka al f Z) H) {i : Nat} (hi : i < 12) (hdg : decode cc pc = .ok (.getfield 9, 3)) (kk : W p l e R s m args below meth c H locs cells slots Q (F0 m (pc + 3) ls (.int (f 4 i) :: rest))) : W p l e R s m args below meth c H locs cells slots Q (F0 m pc ls (.ref (al (17 + i)) :: rest)) :=
  va_get (D := D) (ci := 2) (v := .int (f 4 i)) (C := "FragileRules$Rule") (T := TXR) (N := 4) C.1 C.2.1 C.2.2.2.2.1 iXR C.2.2.2.1 C.2.2.2.2.2.1 hP (17 + i) (fr_cw_r hi) rfl 0 (by decide) (C.2.2.2.2.1 _ fl_R_9) (fun _ h9 => h9) rfl hdg kk
theorem gf_R_15 {p : Program} {l : Launch} {e : Env} {R : Room} {s : State} {m : MethodId} {args : Array Value} {below : List Frame} {meth : Method} {c : Code} {H : Heap} {locs : List Loc} {cells slots : Nat} {Q : State → Prop} {D : va_G} {A : Nat → Prop} {cc : ByteArray} {nL pc : Nat} {ret : Option FieldType} {hh : List ExceptionTableEntry} {ls : Array Slot} {rest : List Value} {ka : Nat → ClassId} {al : Nat → Nat} {f : Nat → Nat → Int32} {Z : va_W} (C : fr_Cx p s m args meth c "FragileRules$Rule" cc nL ret hh fr_tbl fr_nw D vwCl (fr_ty ka) A) (hP : va_P D vwCl (fr_cw ka al f Z) H) {i : Nat} (hi : i < 12) (hdg : decode cc pc = .ok (.getfield 15, 3)) (kk : W p l e R s m args below meth c H locs cells slots Q (F0 m (pc + 3) ls (.int (f 5 i) :: rest))) : W p l e R s m args below meth c H locs cells slots Q (F0 m pc ls (.ref (al (17 + i)) :: rest)) :=
  va_get (D := D) (ci := 2) (v := .int (f 5 i)) (C := "FragileRules$Rule") (T := TXR) (N := 4) C.1 C.2.1 C.2.2.2.2.1 iXR C.2.2.2.1 C.2.2.2.2.2.1 hP (17 + i) (fr_cw_r hi) rfl 1 (by decide) (C.2.2.2.2.1 _ fl_R_15) (fun _ h9 => h9) rfl hdg kk
theorem gf_R_24 {p : Program} {l : Launch} {e : Env} {R : Room} {s : State} {m : MethodId} {args : Array Value} {below : List Frame} {meth : Method} {c : Code} {H : Heap} {locs : List Loc} {cells slots : Nat} {Q : State → Prop} {D : va_G} {A : Nat → Prop} {cc : ByteArray} {nL pc : Nat} {ret : Option FieldType} {hh : List ExceptionTableEntry} {ls : Array Slot} {rest : List Value} {ka : Nat → ClassId} {al : Nat → Nat} {f : Nat → Nat → Int32} {Z : va_W} (C : fr_Cx p s m args meth c "FragileRules$Rule" cc nL ret hh fr_tbl fr_nw D vwCl (fr_ty ka) A) (hP : va_P D vwCl (fr_cw ka al f Z) H) {i : Nat} (hi : i < 10) (hdg : decode cc pc = .ok (.getfield 24, 3)) (kk : W p l e R s m args below meth c H locs cells slots Q (F0 m (pc + 3) ls (.int (f 1 i) :: rest))) : W p l e R s m args below meth c H locs cells slots Q (F0 m pc ls (.ref (al (7 + i)) :: rest)) :=
  va_get (D := D) (ci := 1) (v := .int (f 1 i)) (C := "FragileRules$Unit") (T := TXU) (N := 3) C.1 C.2.1 C.2.2.2.2.1 iXU C.2.2.2.1 C.2.2.2.2.2.1 hP (7 + i) (fr_cw_u hi) rfl 0 (by decide) (C.2.2.2.2.1 _ fl_R_24) (fun _ h9 => h9) rfl hdg kk
theorem gf_R_18 {p : Program} {l : Launch} {e : Env} {R : Room} {s : State} {m : MethodId} {args : Array Value} {below : List Frame} {meth : Method} {c : Code} {H : Heap} {locs : List Loc} {cells slots : Nat} {Q : State → Prop} {D : va_G} {A : Nat → Prop} {cc : ByteArray} {nL pc : Nat} {ret : Option FieldType} {hh : List ExceptionTableEntry} {ls : Array Slot} {rest : List Value} {ka : Nat → ClassId} {al : Nat → Nat} {f : Nat → Nat → Int32} {Z : va_W} (C : fr_Cx p s m args meth c "FragileRules$Rule" cc nL ret hh fr_tbl fr_nw D vwCl (fr_ty ka) A) (hP : va_P D vwCl (fr_cw ka al f Z) H) {i : Nat} (hi : i < 12) (hdg : decode cc pc = .ok (.getfield 18, 3)) (kk : W p l e R s m args below meth c H locs cells slots Q (F0 m (pc + 3) ls (.int (f 6 i) :: rest))) : W p l e R s m args below meth c H locs cells slots Q (F0 m pc ls (.ref (al (17 + i)) :: rest)) :=
  va_get (D := D) (ci := 2) (v := .int (f 6 i)) (C := "FragileRules$Rule") (T := TXR) (N := 4) C.1 C.2.1 C.2.2.2.2.1 iXR C.2.2.2.1 C.2.2.2.2.2.1 hP (17 + i) (fr_cw_r hi) rfl 2 (by decide) (C.2.2.2.2.1 _ fl_R_18) (fun _ h9 => h9) rfl hdg kk
theorem gf_R_29 {p : Program} {l : Launch} {e : Env} {R : Room} {s : State} {m : MethodId} {args : Array Value} {below : List Frame} {meth : Method} {c : Code} {H : Heap} {locs : List Loc} {cells slots : Nat} {Q : State → Prop} {D : va_G} {A : Nat → Prop} {cc : ByteArray} {nL pc : Nat} {ret : Option FieldType} {hh : List ExceptionTableEntry} {ls : Array Slot} {rest : List Value} {ka : Nat → ClassId} {al : Nat → Nat} {f : Nat → Nat → Int32} {Z : va_W} (C : fr_Cx p s m args meth c "FragileRules$Rule" cc nL ret hh fr_tbl fr_nw D vwCl (fr_ty ka) A) (hP : va_P D vwCl (fr_cw ka al f Z) H) {i : Nat} (hi : i < 10) (hdg : decode cc pc = .ok (.getfield 29, 3)) (kk : W p l e R s m args below meth c H locs cells slots Q (F0 m (pc + 3) ls (.int (f 2 i) :: rest))) : W p l e R s m args below meth c H locs cells slots Q (F0 m pc ls (.ref (al (7 + i)) :: rest)) :=
  va_get (D := D) (ci := 1) (v := .int (f 2 i)) (C := "FragileRules$Unit") (T := TXU) (N := 3) C.1 C.2.1 C.2.2.2.2.1 iXU C.2.2.2.1 C.2.2.2.2.2.1 hP (7 + i) (fr_cw_u hi) rfl 1 (by decide) (C.2.2.2.2.1 _ fl_R_29) (fun _ h9 => h9) rfl hdg kk
theorem gf_F_41 {p : Program} {l : Launch} {e : Env} {R : Room} {s : State} {m : MethodId} {args : Array Value} {below : List Frame} {meth : Method} {c : Code} {H : Heap} {locs : List Loc} {cells slots : Nat} {Q : State → Prop} {D : va_G} {A : Nat → Prop} {cc : ByteArray} {nL pc : Nat} {ret : Option FieldType} {hh : List ExceptionTableEntry} {ls : Array Slot} {rest : List Value} {ka : Nat → ClassId} {al : Nat → Nat} {f : Nat → Nat → Int32} {Z : va_W} (C : fr_Cx p s m args meth c "FragileRules" cc nL ret hh fr_tbl fr_nw D vwCl (fr_ty ka) A) (hP : va_P D vwCl (fr_cw ka al f Z) H) (hdg : decode cc pc = .ok (.getfield 41, 3)) (kk : W p l e R s m args below meth c H locs cells slots Q (F0 m (pc + 3) ls (.ref (al 5) :: rest))) : W p l e R s m args below meth c H locs cells slots Q (F0 m pc ls (.ref (al 0) :: rest)) :=
  va_get (D := D) (ci := 0) (v := .ref (al 5)) (C := "FragileRules") (T := TXF) (N := 10) C.1 C.2.1 C.2.2.2.2.1 iXF C.2.2.2.1 C.2.2.2.2.2.1 hP 0 rfl rfl 7 (by decide) (C.2.2.2.2.1 _ fl_F_41) (fun _ h9 => h9) rfl hdg kk
theorem gf_F_98 {p : Program} {l : Launch} {e : Env} {R : Room} {s : State} {m : MethodId} {args : Array Value} {below : List Frame} {meth : Method} {c : Code} {H : Heap} {locs : List Loc} {cells slots : Nat} {Q : State → Prop} {D : va_G} {A : Nat → Prop} {cc : ByteArray} {nL pc : Nat} {ret : Option FieldType} {hh : List ExceptionTableEntry} {ls : Array Slot} {rest : List Value} {ka : Nat → ClassId} {al : Nat → Nat} {f : Nat → Nat → Int32} {Z : va_W} (C : fr_Cx p s m args meth c "FragileRules" cc nL ret hh fr_tbl fr_nw D vwCl (fr_ty ka) A) (hP : va_P D vwCl (fr_cw ka al f Z) H) (hdg : decode cc pc = .ok (.getfield 98, 3)) (kk : W p l e R s m args below meth c H locs cells slots Q (F0 m (pc + 3) ls (.int (f 0 5) :: rest))) : W p l e R s m args below meth c H locs cells slots Q (F0 m pc ls (.ref (al 5) :: rest)) :=
  va_get (D := D) (ci := 3) (v := .int (f 0 5)) (C := "FragileRules$Text") (T := TXT) (N := 2) C.1 C.2.1 C.2.2.2.2.1 iXT C.2.2.2.1 C.2.2.2.2.2.1 hP 5 rfl rfl 1 (by decide) (C.2.2.2.2.1 _ fl_F_98) (fun _ h9 => h9) rfl hdg kk
theorem gf_F_45 {p : Program} {l : Launch} {e : Env} {R : Room} {s : State} {m : MethodId} {args : Array Value} {below : List Frame} {meth : Method} {c : Code} {H : Heap} {locs : List Loc} {cells slots : Nat} {Q : State → Prop} {D : va_G} {A : Nat → Prop} {cc : ByteArray} {nL pc : Nat} {ret : Option FieldType} {hh : List ExceptionTableEntry} {ls : Array Slot} {rest : List Value} {ka : Nat → ClassId} {al : Nat → Nat} {f : Nat → Nat → Int32} {Z : va_W} (C : fr_Cx p s m args meth c "FragileRules" cc nL ret hh fr_tbl fr_nw D vwCl (fr_ty ka) A) (hP : va_P D vwCl (fr_cw ka al f Z) H) (hdg : decode cc pc = .ok (.getfield 45, 3)) (kk : W p l e R s m args below meth c H locs cells slots Q (F0 m (pc + 3) ls (.int (f 0 3) :: rest))) : W p l e R s m args below meth c H locs cells slots Q (F0 m pc ls (.ref (al 0) :: rest)) :=
  va_get (D := D) (ci := 0) (v := .int (f 0 3)) (C := "FragileRules") (T := TXF) (N := 10) C.1 C.2.1 C.2.2.2.2.1 iXF C.2.2.2.1 C.2.2.2.2.2.1 hP 0 rfl rfl 8 (by decide) (C.2.2.2.2.1 _ fl_F_45) (fun _ h9 => h9) rfl hdg kk
theorem gf_F_48 {p : Program} {l : Launch} {e : Env} {R : Room} {s : State} {m : MethodId} {args : Array Value} {below : List Frame} {meth : Method} {c : Code} {H : Heap} {locs : List Loc} {cells slots : Nat} {Q : State → Prop} {D : va_G} {A : Nat → Prop} {cc : ByteArray} {nL pc : Nat} {ret : Option FieldType} {hh : List ExceptionTableEntry} {ls : Array Slot} {rest : List Value} {ka : Nat → ClassId} {al : Nat → Nat} {f : Nat → Nat → Int32} {Z : va_W} (C : fr_Cx p s m args meth c "FragileRules" cc nL ret hh fr_tbl fr_nw D vwCl (fr_ty ka) A) (hP : va_P D vwCl (fr_cw ka al f Z) H) (hdg : decode cc pc = .ok (.getfield 48, 3)) (kk : W p l e R s m args below meth c H locs cells slots Q (F0 m (pc + 3) ls (.int (f 0 4) :: rest))) : W p l e R s m args below meth c H locs cells slots Q (F0 m pc ls (.ref (al 0) :: rest)) :=
  va_get (D := D) (ci := 0) (v := .int (f 0 4)) (C := "FragileRules") (T := TXF) (N := 10) C.1 C.2.1 C.2.2.2.2.1 iXF C.2.2.2.1 C.2.2.2.2.2.1 hP 0 rfl rfl 9 (by decide) (C.2.2.2.2.1 _ fl_F_48) (fun _ h9 => h9) rfl hdg kk
theorem gf_F_35 {p : Program} {l : Launch} {e : Env} {R : Room} {s : State} {m : MethodId} {args : Array Value} {below : List Frame} {meth : Method} {c : Code} {H : Heap} {locs : List Loc} {cells slots : Nat} {Q : State → Prop} {D : va_G} {A : Nat → Prop} {cc : ByteArray} {nL pc : Nat} {ret : Option FieldType} {hh : List ExceptionTableEntry} {ls : Array Slot} {rest : List Value} {ka : Nat → ClassId} {al : Nat → Nat} {f : Nat → Nat → Int32} {Z : va_W} (C : fr_Cx p s m args meth c "FragileRules" cc nL ret hh fr_tbl fr_nw D vwCl (fr_ty ka) A) (hP : va_P D vwCl (fr_cw ka al f Z) H) (hdg : decode cc pc = .ok (.getfield 35, 3)) (kk : W p l e R s m args below meth c H locs cells slots Q (F0 m (pc + 3) ls (.int (f 0 2) :: rest))) : W p l e R s m args below meth c H locs cells slots Q (F0 m pc ls (.ref (al 0) :: rest)) :=
  va_get (D := D) (ci := 0) (v := .int (f 0 2)) (C := "FragileRules") (T := TXF) (N := 10) C.1 C.2.1 C.2.2.2.2.1 iXF C.2.2.2.1 C.2.2.2.2.2.1 hP 0 rfl rfl 6 (by decide) (C.2.2.2.2.1 _ fl_F_35) (fun _ h9 => h9) rfl hdg kk
theorem gf_F_32 {p : Program} {l : Launch} {e : Env} {R : Room} {s : State} {m : MethodId} {args : Array Value} {below : List Frame} {meth : Method} {c : Code} {H : Heap} {locs : List Loc} {cells slots : Nat} {Q : State → Prop} {D : va_G} {A : Nat → Prop} {cc : ByteArray} {nL pc : Nat} {ret : Option FieldType} {hh : List ExceptionTableEntry} {ls : Array Slot} {rest : List Value} {ka : Nat → ClassId} {al : Nat → Nat} {f : Nat → Nat → Int32} {Z : va_W} (C : fr_Cx p s m args meth c "FragileRules" cc nL ret hh fr_tbl fr_nw D vwCl (fr_ty ka) A) (hP : va_P D vwCl (fr_cw ka al f Z) H) (hdg : decode cc pc = .ok (.getfield 32, 3)) (kk : W p l e R s m args below meth c H locs cells slots Q (F0 m (pc + 3) ls (.ref (al 4) :: rest))) : W p l e R s m args below meth c H locs cells slots Q (F0 m pc ls (.ref (al 0) :: rest)) :=
  va_get (D := D) (ci := 0) (v := .ref (al 4)) (C := "FragileRules") (T := TXF) (N := 10) C.1 C.2.1 C.2.2.2.2.1 iXF C.2.2.2.1 C.2.2.2.2.2.1 hP 0 rfl rfl 5 (by decide) (C.2.2.2.2.1 _ fl_F_32) (fun _ h9 => h9) rfl hdg kk
theorem ald_9 {p : Program} {l : Launch} {e : Env} {R : Room} {s : State} {m : MethodId} {args : Array Value} {below : List Frame} {meth : Method} {c : Code} {H : Heap} {locs : List Loc} {cells slots : Nat} {Q : State → Prop} {D : va_G} {A : Nat → Prop} {cc : ByteArray} {nL pc : Nat} {ret : Option FieldType} {hh : List ExceptionTableEntry} {ls : Array Slot} {rest : List Value} {ka : Nat → ClassId} {al : Nat → Nat} {f : Nat → Nat → Int32} {Z : va_W} {own : String} {x : Int32} (C : fr_Cx p s m args meth c own cc nL ret hh fr_tbl fr_nw D vwCl (fr_ty ka) A) (hP : va_P D vwCl (fr_cw ka al f Z) H) (hin : vp_in x 12) (hdg : decode cc pc = .ok (.iaload, 1)) (kk : W p l e R s m args below meth c H locs cells slots Q (F0 m (pc + 1) ls (.int (f 9 x.toNatClampNeg) :: rest))) : W p l e R s m args below meth c H locs cells slots Q (F0 m pc ls (.int x :: .ref (al 4) :: rest)) :=
  va_iald (D := D) C.1 C.2.1 C.2.2.2.2.2.1 hP 4 2 (f := fun j => f 9 j) rfl rfl hin hdg kk
theorem gf_F_28 {p : Program} {l : Launch} {e : Env} {R : Room} {s : State} {m : MethodId} {args : Array Value} {below : List Frame} {meth : Method} {c : Code} {H : Heap} {locs : List Loc} {cells slots : Nat} {Q : State → Prop} {D : va_G} {A : Nat → Prop} {cc : ByteArray} {nL pc : Nat} {ret : Option FieldType} {hh : List ExceptionTableEntry} {ls : Array Slot} {rest : List Value} {ka : Nat → ClassId} {al : Nat → Nat} {f : Nat → Nat → Int32} {Z : va_W} (C : fr_Cx p s m args meth c "FragileRules" cc nL ret hh fr_tbl fr_nw D vwCl (fr_ty ka) A) (hP : va_P D vwCl (fr_cw ka al f Z) H) (hdg : decode cc pc = .ok (.getfield 28, 3)) (kk : W p l e R s m args below meth c H locs cells slots Q (F0 m (pc + 3) ls (.ref (al 3) :: rest))) : W p l e R s m args below meth c H locs cells slots Q (F0 m pc ls (.ref (al 0) :: rest)) :=
  va_get (D := D) (ci := 0) (v := .ref (al 3)) (C := "FragileRules") (T := TXF) (N := 10) C.1 C.2.1 C.2.2.2.2.1 iXF C.2.2.2.1 C.2.2.2.2.2.1 hP 0 rfl rfl 4 (by decide) (C.2.2.2.2.1 _ fl_F_28) (fun _ h9 => h9) rfl hdg kk
theorem ald_8 {p : Program} {l : Launch} {e : Env} {R : Room} {s : State} {m : MethodId} {args : Array Value} {below : List Frame} {meth : Method} {c : Code} {H : Heap} {locs : List Loc} {cells slots : Nat} {Q : State → Prop} {D : va_G} {A : Nat → Prop} {cc : ByteArray} {nL pc : Nat} {ret : Option FieldType} {hh : List ExceptionTableEntry} {ls : Array Slot} {rest : List Value} {ka : Nat → ClassId} {al : Nat → Nat} {f : Nat → Nat → Int32} {Z : va_W} {own : String} {x : Int32} (C : fr_Cx p s m args meth c own cc nL ret hh fr_tbl fr_nw D vwCl (fr_ty ka) A) (hP : va_P D vwCl (fr_cw ka al f Z) H) (hin : vp_in x 12) (hdg : decode cc pc = .ok (.iaload, 1)) (kk : W p l e R s m args below meth c H locs cells slots Q (F0 m (pc + 1) ls (.int (f 8 x.toNatClampNeg) :: rest))) : W p l e R s m args below meth c H locs cells slots Q (F0 m pc ls (.int x :: .ref (al 3) :: rest)) :=
  va_iald (D := D) C.1 C.2.1 C.2.2.2.2.2.1 hP 3 2 (f := fun j => f 8 j) rfl rfl hin hdg kk
theorem gf_F_21 {p : Program} {l : Launch} {e : Env} {R : Room} {s : State} {m : MethodId} {args : Array Value} {below : List Frame} {meth : Method} {c : Code} {H : Heap} {locs : List Loc} {cells slots : Nat} {Q : State → Prop} {D : va_G} {A : Nat → Prop} {cc : ByteArray} {nL pc : Nat} {ret : Option FieldType} {hh : List ExceptionTableEntry} {ls : Array Slot} {rest : List Value} {ka : Nat → ClassId} {al : Nat → Nat} {f : Nat → Nat → Int32} {Z : va_W} (C : fr_Cx p s m args meth c "FragileRules" cc nL ret hh fr_tbl fr_nw D vwCl (fr_ty ka) A) (hP : va_P D vwCl (fr_cw ka al f Z) H) (hdg : decode cc pc = .ok (.getfield 21, 3)) (kk : W p l e R s m args below meth c H locs cells slots Q (F0 m (pc + 3) ls (.ref (al 2) :: rest))) : W p l e R s m args below meth c H locs cells slots Q (F0 m pc ls (.ref (al 0) :: rest)) :=
  va_get (D := D) (ci := 0) (v := .ref (al 2)) (C := "FragileRules") (T := TXF) (N := 10) C.1 C.2.1 C.2.2.2.2.1 iXF C.2.2.2.1 C.2.2.2.2.2.1 hP 0 rfl rfl 2 (by decide) (C.2.2.2.2.1 _ fl_F_21) (fun _ h9 => h9) rfl hdg kk
theorem ald_aR {p : Program} {l : Launch} {e : Env} {R : Room} {s : State} {m : MethodId} {args : Array Value} {below : List Frame} {meth : Method} {c : Code} {H : Heap} {locs : List Loc} {cells slots : Nat} {Q : State → Prop} {D : va_G} {A : Nat → Prop} {cc : ByteArray} {nL pc : Nat} {ret : Option FieldType} {hh : List ExceptionTableEntry} {ls : Array Slot} {rest : List Value} {ka : Nat → ClassId} {al : Nat → Nat} {f : Nat → Nat → Int32} {Z : va_W} {own : String} {x : Int32} (C : fr_Cx p s m args meth c own cc nL ret hh fr_tbl fr_nw D vwCl (fr_ty ka) A) (hP : va_P D vwCl (fr_cw ka al f Z) H) (hin : vp_in x 12) (hdg : decode cc pc = .ok (.aaload, 1)) (kk : W p l e R s m args below meth c H locs cells slots Q (F0 m (pc + 1) ls (.ref (al (17 + x.toNatClampNeg)) :: rest))) : W p l e R s m args below meth c H locs cells slots Q (F0 m pc ls (.int x :: .ref (al 2) :: rest)) :=
  va_aldq (D := D) C.1 C.2.1 C.2.2.2.2.2.1 hP 2 1 (f := fun i => some (al (17 + i))) rfl rfl hin hdg kk
theorem sw_4_i {ka : Nat → ClassId} {al : Nat → Nat} {f : Nat → Nat → Int32} {Z : va_W} {v : Int32} {i : Nat} (hi : i < 12) : (fr_cw ka al f Z).set (17 + i) (al (17 + i), .inr (2, ([.int (f 4 i), .int (f 5 i), .int (f 6 i), .int (f 7 i)] : List Value).set 0 (.int v))) = fr_cw ka al (fr_up f 4 i v) Z := by
  have ho : fr_uc al (fr_up f 4 i v) = fr_uc al f := by funext j; simp [fr_uc, fr_up]
  have hm := fr_map_set (fr_rc al f) (fr_rc al (fr_up f 4 i v)) 12 i hi (fun j hj => by simp [fr_rc, fr_up, hj])
  have hc : (al (17 + i), .inr (2, ([.int (f 4 i), .int (f 5 i), .int (f 6 i), .int (f 7 i)] : List Value).set 0 (.int v))) = fr_rc al (fr_up f 4 i v) i := by simp [fr_rc, fr_up]
  rw [hc]
  rw [show 17 + i = (i + 10) + 7 from by omega]
  simp only [fr_cw, ho, List.set_cons_succ]
  rw [List.set_append_right _ _ (by simp), show i + 10 - ((List.range 10).map (fr_uc al f)).length = i from by simp, List.set_append_left _ _ (by simpa using hi), hm]
  simp [fr_oc, fr_tc, fr_up]
theorem pf_F_171 {p : Program} {l : Launch} {e : Env} {R : Room} {s : State} {m : MethodId} {args : Array Value} {below : List Frame} {meth : Method} {c : Code} {H : Heap} {locs : List Loc} {cells slots : Nat} {Q : State → Prop} {D : va_G} {A : Nat → Prop} {cc : ByteArray} {nL pc : Nat} {ret : Option FieldType} {hh : List ExceptionTableEntry} {ls : Array Slot} {rest : List Value} {ka : Nat → ClassId} {al : Nat → Nat} {f : Nat → Nat → Int32} {Z : va_W} {v : Int32} (C : fr_Cx p s m args meth c "FragileRules" cc nL ret hh fr_tbl fr_nw D vwCl (fr_ty ka) A) (hP : va_P D vwCl (fr_cw ka al f Z) H) (hD : va_D A (fr_cw ka al f Z)) (hS : va_S A s.heap H locs) {i : Nat} (hi : i < 12) (hdg : decode cc pc = .ok (.putfield 171, 3)) (kk : ∀ (H : Heap) (locs : List Loc), va_P D vwCl (fr_cw ka al (fr_up f 4 i v) Z) H → va_D A (fr_cw ka al (fr_up f 4 i v) Z) → va_S A s.heap H locs → W p l e R s m args below meth c H locs cells slots Q (F0 m (pc + 3) ls rest)) : W p l e R s m args below meth c H locs cells slots Q (F0 m pc ls (.int v :: .ref (al (17 + i)) :: rest)) := by
  refine va_put (D := D) (ci := 2) (v := .int v) (ty := .int) (C := "FragileRules$Rule") (T := TXR) (N := 4) C.1 C.2.1 C.2.2.2.2.1 iXR tyXR tokXR nmXR C.2.2.2.1 C.2.2.2.2.2.1 hP hD hS (17 + i) (fr_cw_r hi) rfl 0 (by decide) (C.2.2.2.2.1 _ fl_F_171) (fun _ h9 => h9) rfl (by decide +kernel) rfl rfl (Nat.le_of_ble_eq_true rfl) hdg (fun H1 locs1 hP1 hD1 hS1 => ?_)
  rw [sw_4_i hi] at hP1 hD1
  exact kk H1 locs1 hP1 hD1 hS1
theorem sw_5_i {ka : Nat → ClassId} {al : Nat → Nat} {f : Nat → Nat → Int32} {Z : va_W} {v : Int32} {i : Nat} (hi : i < 12) : (fr_cw ka al f Z).set (17 + i) (al (17 + i), .inr (2, ([.int (f 4 i), .int (f 5 i), .int (f 6 i), .int (f 7 i)] : List Value).set 1 (.int v))) = fr_cw ka al (fr_up f 5 i v) Z := by
  have ho : fr_uc al (fr_up f 5 i v) = fr_uc al f := by funext j; simp [fr_uc, fr_up]
  have hm := fr_map_set (fr_rc al f) (fr_rc al (fr_up f 5 i v)) 12 i hi (fun j hj => by simp [fr_rc, fr_up, hj])
  have hc : (al (17 + i), .inr (2, ([.int (f 4 i), .int (f 5 i), .int (f 6 i), .int (f 7 i)] : List Value).set 1 (.int v))) = fr_rc al (fr_up f 5 i v) i := by simp [fr_rc, fr_up]
  rw [hc]
  rw [show 17 + i = (i + 10) + 7 from by omega]
  simp only [fr_cw, ho, List.set_cons_succ]
  rw [List.set_append_right _ _ (by simp), show i + 10 - ((List.range 10).map (fr_uc al f)).length = i from by simp, List.set_append_left _ _ (by simpa using hi), hm]
  simp [fr_oc, fr_tc, fr_up]
theorem pf_F_174 {p : Program} {l : Launch} {e : Env} {R : Room} {s : State} {m : MethodId} {args : Array Value} {below : List Frame} {meth : Method} {c : Code} {H : Heap} {locs : List Loc} {cells slots : Nat} {Q : State → Prop} {D : va_G} {A : Nat → Prop} {cc : ByteArray} {nL pc : Nat} {ret : Option FieldType} {hh : List ExceptionTableEntry} {ls : Array Slot} {rest : List Value} {ka : Nat → ClassId} {al : Nat → Nat} {f : Nat → Nat → Int32} {Z : va_W} {v : Int32} (C : fr_Cx p s m args meth c "FragileRules" cc nL ret hh fr_tbl fr_nw D vwCl (fr_ty ka) A) (hP : va_P D vwCl (fr_cw ka al f Z) H) (hD : va_D A (fr_cw ka al f Z)) (hS : va_S A s.heap H locs) {i : Nat} (hi : i < 12) (hdg : decode cc pc = .ok (.putfield 174, 3)) (kk : ∀ (H : Heap) (locs : List Loc), va_P D vwCl (fr_cw ka al (fr_up f 5 i v) Z) H → va_D A (fr_cw ka al (fr_up f 5 i v) Z) → va_S A s.heap H locs → W p l e R s m args below meth c H locs cells slots Q (F0 m (pc + 3) ls rest)) : W p l e R s m args below meth c H locs cells slots Q (F0 m pc ls (.int v :: .ref (al (17 + i)) :: rest)) := by
  refine va_put (D := D) (ci := 2) (v := .int v) (ty := .int) (C := "FragileRules$Rule") (T := TXR) (N := 4) C.1 C.2.1 C.2.2.2.2.1 iXR tyXR tokXR nmXR C.2.2.2.1 C.2.2.2.2.2.1 hP hD hS (17 + i) (fr_cw_r hi) rfl 1 (by decide) (C.2.2.2.2.1 _ fl_F_174) (fun _ h9 => h9) rfl (by decide +kernel) rfl rfl (Nat.le_of_ble_eq_true rfl) hdg (fun H1 locs1 hP1 hD1 hS1 => ?_)
  rw [sw_5_i hi] at hP1 hD1
  exact kk H1 locs1 hP1 hD1 hS1
theorem sw_6_i {ka : Nat → ClassId} {al : Nat → Nat} {f : Nat → Nat → Int32} {Z : va_W} {v : Int32} {i : Nat} (hi : i < 12) : (fr_cw ka al f Z).set (17 + i) (al (17 + i), .inr (2, ([.int (f 4 i), .int (f 5 i), .int (f 6 i), .int (f 7 i)] : List Value).set 2 (.int v))) = fr_cw ka al (fr_up f 6 i v) Z := by
  have ho : fr_uc al (fr_up f 6 i v) = fr_uc al f := by funext j; simp [fr_uc, fr_up]
  have hm := fr_map_set (fr_rc al f) (fr_rc al (fr_up f 6 i v)) 12 i hi (fun j hj => by simp [fr_rc, fr_up, hj])
  have hc : (al (17 + i), .inr (2, ([.int (f 4 i), .int (f 5 i), .int (f 6 i), .int (f 7 i)] : List Value).set 2 (.int v))) = fr_rc al (fr_up f 6 i v) i := by simp [fr_rc, fr_up]
  rw [hc]
  rw [show 17 + i = (i + 10) + 7 from by omega]
  simp only [fr_cw, ho, List.set_cons_succ]
  rw [List.set_append_right _ _ (by simp), show i + 10 - ((List.range 10).map (fr_uc al f)).length = i from by simp, List.set_append_left _ _ (by simpa using hi), hm]
  simp [fr_oc, fr_tc, fr_up]
theorem pf_F_177 {p : Program} {l : Launch} {e : Env} {R : Room} {s : State} {m : MethodId} {args : Array Value} {below : List Frame} {meth : Method} {c : Code} {H : Heap} {locs : List Loc} {cells slots : Nat} {Q : State → Prop} {D : va_G} {A : Nat → Prop} {cc : ByteArray} {nL pc : Nat} {ret : Option FieldType} {hh : List ExceptionTableEntry} {ls : Array Slot} {rest : List Value} {ka : Nat → ClassId} {al : Nat → Nat} {f : Nat → Nat → Int32} {Z : va_W} {v : Int32} (C : fr_Cx p s m args meth c "FragileRules" cc nL ret hh fr_tbl fr_nw D vwCl (fr_ty ka) A) (hP : va_P D vwCl (fr_cw ka al f Z) H) (hD : va_D A (fr_cw ka al f Z)) (hS : va_S A s.heap H locs) {i : Nat} (hi : i < 12) (hdg : decode cc pc = .ok (.putfield 177, 3)) (kk : ∀ (H : Heap) (locs : List Loc), va_P D vwCl (fr_cw ka al (fr_up f 6 i v) Z) H → va_D A (fr_cw ka al (fr_up f 6 i v) Z) → va_S A s.heap H locs → W p l e R s m args below meth c H locs cells slots Q (F0 m (pc + 3) ls rest)) : W p l e R s m args below meth c H locs cells slots Q (F0 m pc ls (.int v :: .ref (al (17 + i)) :: rest)) := by
  refine va_put (D := D) (ci := 2) (v := .int v) (ty := .int) (C := "FragileRules$Rule") (T := TXR) (N := 4) C.1 C.2.1 C.2.2.2.2.1 iXR tyXR tokXR nmXR C.2.2.2.1 C.2.2.2.2.2.1 hP hD hS (17 + i) (fr_cw_r hi) rfl 2 (by decide) (C.2.2.2.2.1 _ fl_F_177) (fun _ h9 => h9) rfl (by decide +kernel) rfl rfl (Nat.le_of_ble_eq_true rfl) hdg (fun H1 locs1 hP1 hD1 hS1 => ?_)
  rw [sw_6_i hi] at hP1 hD1
  exact kk H1 locs1 hP1 hD1 hS1
theorem sa_8 {ka : Nat → ClassId} {al : Nat → Nat} {f : Nat → Nat → Int32} {Z : va_W} {v : Int32} {k : Nat} : (fr_cw ka al f Z).set 3 (al 3, .inl (ka 2, 12, .inl (upd (fun j => f 8 j) k v))) = fr_cw ka al (fr_up f 8 k v) Z := by
  have hu : fr_uc al (fr_up f 8 k v) = fr_uc al f := by funext i; simp [fr_uc, fr_up]
  have hr : fr_rc al (fr_up f 8 k v) = fr_rc al f := by funext i; simp [fr_rc, fr_up]
  have ha : upd (fun j => f 8 j) k v = (fun j => fr_up f 8 k v 8 j) := by funext j; simp [upd, fr_up]
  simp only [fr_cw, hu, hr, ha]
  simp [fr_oc, fr_tc, fr_ia, fr_up]
theorem ast_8 {p : Program} {l : Launch} {e : Env} {R : Room} {s : State} {m : MethodId} {args : Array Value} {below : List Frame} {meth : Method} {c : Code} {H : Heap} {locs : List Loc} {cells slots : Nat} {Q : State → Prop} {D : va_G} {A : Nat → Prop} {cc : ByteArray} {nL pc : Nat} {ret : Option FieldType} {hh : List ExceptionTableEntry} {ls : Array Slot} {rest : List Value} {ka : Nat → ClassId} {al : Nat → Nat} {f : Nat → Nat → Int32} {Z : va_W} {own : String} {x v : Int32} (C : fr_Cx p s m args meth c own cc nL ret hh fr_tbl fr_nw D vwCl (fr_ty ka) A) (hP : va_P D vwCl (fr_cw ka al f Z) H) (hD : va_D A (fr_cw ka al f Z)) (hS : va_S A s.heap H locs) (hin : vp_in x 12) (hdg : decode cc pc = .ok (.iastore, 1)) (kk : ∀ (H : Heap) (locs : List Loc), va_P D vwCl (fr_cw ka al (fr_up f 8 x.toNatClampNeg v) Z) H → va_D A (fr_cw ka al (fr_up f 8 x.toNatClampNeg v) Z) → va_S A s.heap H locs → W p l e R s m args below meth c H locs cells slots Q (F0 m (pc + 1) ls rest)) : W p l e R s m args below meth c H locs cells slots Q (F0 m pc ls (.int v :: .int x :: .ref (al 3) :: rest)) := by
  refine va_iast (D := D) C.1 C.2.1 C.2.2.2.2.2.1 hP hD hS 3 2 (f := fun j => f 8 j) rfl rfl hin hdg (fun H1 locs1 hP1 hD1 hS1 => ?_)
  rw [sa_8] at hP1 hD1
  exact kk H1 locs1 hP1 hD1 hS1
theorem sw_0_1 {ka : Nat → ClassId} {al : Nat → Nat} {f : Nat → Nat → Int32} {Z : va_W} {v : Int32} : (fr_cw ka al f Z).set 0 (al 0, .inr (0, ([.ref (al 1), .int (f 0 0), .ref (al 2), .int (f 0 1), .ref (al 3), .ref (al 4), .int (f 0 2), .ref (al 5), .int (f 0 3), .int (f 0 4)] : List Value).set 3 (.int v))) = fr_cw ka al (fr_up f 0 1 v) Z := by
  have hu : fr_uc al (fr_up f 0 1 v) = fr_uc al f := by funext i; simp [fr_uc, fr_up]
  have hr : fr_rc al (fr_up f 0 1 v) = fr_rc al f := by funext i; simp [fr_rc, fr_up]
  simp only [fr_cw, hu, hr]
  simp [fr_oc, fr_tc, fr_up]
theorem pf_F_25 {p : Program} {l : Launch} {e : Env} {R : Room} {s : State} {m : MethodId} {args : Array Value} {below : List Frame} {meth : Method} {c : Code} {H : Heap} {locs : List Loc} {cells slots : Nat} {Q : State → Prop} {D : va_G} {A : Nat → Prop} {cc : ByteArray} {nL pc : Nat} {ret : Option FieldType} {hh : List ExceptionTableEntry} {ls : Array Slot} {rest : List Value} {ka : Nat → ClassId} {al : Nat → Nat} {f : Nat → Nat → Int32} {Z : va_W} {v : Int32} (C : fr_Cx p s m args meth c "FragileRules" cc nL ret hh fr_tbl fr_nw D vwCl (fr_ty ka) A) (hP : va_P D vwCl (fr_cw ka al f Z) H) (hD : va_D A (fr_cw ka al f Z)) (hS : va_S A s.heap H locs) (hdg : decode cc pc = .ok (.putfield 25, 3)) (kk : ∀ (H : Heap) (locs : List Loc), va_P D vwCl (fr_cw ka al (fr_up f 0 1 v) Z) H → va_D A (fr_cw ka al (fr_up f 0 1 v) Z) → va_S A s.heap H locs → W p l e R s m args below meth c H locs cells slots Q (F0 m (pc + 3) ls rest)) : W p l e R s m args below meth c H locs cells slots Q (F0 m pc ls (.int v :: .ref (al 0) :: rest)) := by
  refine va_put (D := D) (ci := 0) (v := .int v) (ty := .int) (C := "FragileRules") (T := TXF) (N := 10) C.1 C.2.1 C.2.2.2.2.1 iXF tyXF tokXF nmXF C.2.2.2.1 C.2.2.2.2.2.1 hP hD hS 0 rfl rfl 3 (by decide) (C.2.2.2.2.1 _ fl_F_25) (fun _ h9 => h9) rfl (by decide +kernel) rfl rfl (Nat.le_of_ble_eq_true rfl) hdg (fun H1 locs1 hP1 hD1 hS1 => ?_)
  rw [sw_0_1] at hP1 hD1
  exact kk H1 locs1 hP1 hD1 hS1
theorem sa_9 {ka : Nat → ClassId} {al : Nat → Nat} {f : Nat → Nat → Int32} {Z : va_W} {v : Int32} {k : Nat} : (fr_cw ka al f Z).set 4 (al 4, .inl (ka 2, 12, .inl (upd (fun j => f 9 j) k v))) = fr_cw ka al (fr_up f 9 k v) Z := by
  have hu : fr_uc al (fr_up f 9 k v) = fr_uc al f := by funext i; simp [fr_uc, fr_up]
  have hr : fr_rc al (fr_up f 9 k v) = fr_rc al f := by funext i; simp [fr_rc, fr_up]
  have ha : upd (fun j => f 9 j) k v = (fun j => fr_up f 9 k v 9 j) := by funext j; simp [upd, fr_up]
  simp only [fr_cw, hu, hr, ha]
  simp [fr_oc, fr_tc, fr_ia, fr_up]
theorem ast_9 {p : Program} {l : Launch} {e : Env} {R : Room} {s : State} {m : MethodId} {args : Array Value} {below : List Frame} {meth : Method} {c : Code} {H : Heap} {locs : List Loc} {cells slots : Nat} {Q : State → Prop} {D : va_G} {A : Nat → Prop} {cc : ByteArray} {nL pc : Nat} {ret : Option FieldType} {hh : List ExceptionTableEntry} {ls : Array Slot} {rest : List Value} {ka : Nat → ClassId} {al : Nat → Nat} {f : Nat → Nat → Int32} {Z : va_W} {own : String} {x v : Int32} (C : fr_Cx p s m args meth c own cc nL ret hh fr_tbl fr_nw D vwCl (fr_ty ka) A) (hP : va_P D vwCl (fr_cw ka al f Z) H) (hD : va_D A (fr_cw ka al f Z)) (hS : va_S A s.heap H locs) (hin : vp_in x 12) (hdg : decode cc pc = .ok (.iastore, 1)) (kk : ∀ (H : Heap) (locs : List Loc), va_P D vwCl (fr_cw ka al (fr_up f 9 x.toNatClampNeg v) Z) H → va_D A (fr_cw ka al (fr_up f 9 x.toNatClampNeg v) Z) → va_S A s.heap H locs → W p l e R s m args below meth c H locs cells slots Q (F0 m (pc + 1) ls rest)) : W p l e R s m args below meth c H locs cells slots Q (F0 m pc ls (.int v :: .int x :: .ref (al 4) :: rest)) := by
  refine va_iast (D := D) C.1 C.2.1 C.2.2.2.2.2.1 hP hD hS 4 2 (f := fun j => f 9 j) rfl rfl hin hdg (fun H1 locs1 hP1 hD1 hS1 => ?_)
  rw [sa_9] at hP1 hD1
  exact kk H1 locs1 hP1 hD1 hS1
theorem sw_0_2 {ka : Nat → ClassId} {al : Nat → Nat} {f : Nat → Nat → Int32} {Z : va_W} {v : Int32} : (fr_cw ka al f Z).set 0 (al 0, .inr (0, ([.ref (al 1), .int (f 0 0), .ref (al 2), .int (f 0 1), .ref (al 3), .ref (al 4), .int (f 0 2), .ref (al 5), .int (f 0 3), .int (f 0 4)] : List Value).set 6 (.int v))) = fr_cw ka al (fr_up f 0 2 v) Z := by
  have hu : fr_uc al (fr_up f 0 2 v) = fr_uc al f := by funext i; simp [fr_uc, fr_up]
  have hr : fr_rc al (fr_up f 0 2 v) = fr_rc al f := by funext i; simp [fr_rc, fr_up]
  simp only [fr_cw, hu, hr]
  simp [fr_oc, fr_tc, fr_up]
theorem pf_F_35 {p : Program} {l : Launch} {e : Env} {R : Room} {s : State} {m : MethodId} {args : Array Value} {below : List Frame} {meth : Method} {c : Code} {H : Heap} {locs : List Loc} {cells slots : Nat} {Q : State → Prop} {D : va_G} {A : Nat → Prop} {cc : ByteArray} {nL pc : Nat} {ret : Option FieldType} {hh : List ExceptionTableEntry} {ls : Array Slot} {rest : List Value} {ka : Nat → ClassId} {al : Nat → Nat} {f : Nat → Nat → Int32} {Z : va_W} {v : Int32} (C : fr_Cx p s m args meth c "FragileRules" cc nL ret hh fr_tbl fr_nw D vwCl (fr_ty ka) A) (hP : va_P D vwCl (fr_cw ka al f Z) H) (hD : va_D A (fr_cw ka al f Z)) (hS : va_S A s.heap H locs) (hdg : decode cc pc = .ok (.putfield 35, 3)) (kk : ∀ (H : Heap) (locs : List Loc), va_P D vwCl (fr_cw ka al (fr_up f 0 2 v) Z) H → va_D A (fr_cw ka al (fr_up f 0 2 v) Z) → va_S A s.heap H locs → W p l e R s m args below meth c H locs cells slots Q (F0 m (pc + 3) ls rest)) : W p l e R s m args below meth c H locs cells slots Q (F0 m pc ls (.int v :: .ref (al 0) :: rest)) := by
  refine va_put (D := D) (ci := 0) (v := .int v) (ty := .int) (C := "FragileRules") (T := TXF) (N := 10) C.1 C.2.1 C.2.2.2.2.1 iXF tyXF tokXF nmXF C.2.2.2.1 C.2.2.2.2.2.1 hP hD hS 0 rfl rfl 6 (by decide) (C.2.2.2.2.1 _ fl_F_35) (fun _ h9 => h9) rfl (by decide +kernel) rfl rfl (Nat.le_of_ble_eq_true rfl) hdg (fun H1 locs1 hP1 hD1 hS1 => ?_)
  rw [sw_0_2] at hP1 hD1
  exact kk H1 locs1 hP1 hD1 hS1
theorem gf_F_151 {p : Program} {l : Launch} {e : Env} {R : Room} {s : State} {m : MethodId} {args : Array Value} {below : List Frame} {meth : Method} {c : Code} {H : Heap} {locs : List Loc} {cells slots : Nat} {Q : State → Prop} {D : va_G} {A : Nat → Prop} {cc : ByteArray} {nL pc : Nat} {ret : Option FieldType} {hh : List ExceptionTableEntry} {ls : Array Slot} {rest : List Value} {ka : Nat → ClassId} {al : Nat → Nat} {f : Nat → Nat → Int32} {Z : va_W} (C : fr_Cx p s m args meth c "FragileRules" cc nL ret hh fr_tbl fr_nw D vwCl (fr_ty ka) A) (hP : va_P D vwCl (fr_cw ka al f Z) H) {i : Nat} (hi : i < 12) (hdg : decode cc pc = .ok (.getfield 151, 3)) (kk : W p l e R s m args below meth c H locs cells slots Q (F0 m (pc + 3) ls (.int (f 7 i) :: rest))) : W p l e R s m args below meth c H locs cells slots Q (F0 m pc ls (.ref (al (17 + i)) :: rest)) :=
  va_get (D := D) (ci := 2) (v := .int (f 7 i)) (C := "FragileRules$Rule") (T := TXR) (N := 4) C.1 C.2.1 C.2.2.2.2.1 iXR C.2.2.2.1 C.2.2.2.2.2.1 hP (17 + i) (fr_cw_r hi) rfl 3 (by decide) (C.2.2.2.2.1 _ fl_F_151) (fun _ h9 => h9) rfl hdg kk
theorem sw_7_i {ka : Nat → ClassId} {al : Nat → Nat} {f : Nat → Nat → Int32} {Z : va_W} {v : Int32} {i : Nat} (hi : i < 12) : (fr_cw ka al f Z).set (17 + i) (al (17 + i), .inr (2, ([.int (f 4 i), .int (f 5 i), .int (f 6 i), .int (f 7 i)] : List Value).set 3 (.int v))) = fr_cw ka al (fr_up f 7 i v) Z := by
  have ho : fr_uc al (fr_up f 7 i v) = fr_uc al f := by funext j; simp [fr_uc, fr_up]
  have hm := fr_map_set (fr_rc al f) (fr_rc al (fr_up f 7 i v)) 12 i hi (fun j hj => by simp [fr_rc, fr_up, hj])
  have hc : (al (17 + i), .inr (2, ([.int (f 4 i), .int (f 5 i), .int (f 6 i), .int (f 7 i)] : List Value).set 3 (.int v))) = fr_rc al (fr_up f 7 i v) i := by simp [fr_rc, fr_up]
  rw [hc]
  rw [show 17 + i = (i + 10) + 7 from by omega]
  simp only [fr_cw, ho, List.set_cons_succ]
  rw [List.set_append_right _ _ (by simp), show i + 10 - ((List.range 10).map (fr_uc al f)).length = i from by simp, List.set_append_left _ _ (by simpa using hi), hm]
  simp [fr_oc, fr_tc, fr_up]
theorem pf_F_151 {p : Program} {l : Launch} {e : Env} {R : Room} {s : State} {m : MethodId} {args : Array Value} {below : List Frame} {meth : Method} {c : Code} {H : Heap} {locs : List Loc} {cells slots : Nat} {Q : State → Prop} {D : va_G} {A : Nat → Prop} {cc : ByteArray} {nL pc : Nat} {ret : Option FieldType} {hh : List ExceptionTableEntry} {ls : Array Slot} {rest : List Value} {ka : Nat → ClassId} {al : Nat → Nat} {f : Nat → Nat → Int32} {Z : va_W} {v : Int32} (C : fr_Cx p s m args meth c "FragileRules" cc nL ret hh fr_tbl fr_nw D vwCl (fr_ty ka) A) (hP : va_P D vwCl (fr_cw ka al f Z) H) (hD : va_D A (fr_cw ka al f Z)) (hS : va_S A s.heap H locs) {i : Nat} (hi : i < 12) (hdg : decode cc pc = .ok (.putfield 151, 3)) (kk : ∀ (H : Heap) (locs : List Loc), va_P D vwCl (fr_cw ka al (fr_up f 7 i v) Z) H → va_D A (fr_cw ka al (fr_up f 7 i v) Z) → va_S A s.heap H locs → W p l e R s m args below meth c H locs cells slots Q (F0 m (pc + 3) ls rest)) : W p l e R s m args below meth c H locs cells slots Q (F0 m pc ls (.int v :: .ref (al (17 + i)) :: rest)) := by
  refine va_put (D := D) (ci := 2) (v := .int v) (ty := .int) (C := "FragileRules$Rule") (T := TXR) (N := 4) C.1 C.2.1 C.2.2.2.2.1 iXR tyXR tokXR nmXR C.2.2.2.1 C.2.2.2.2.2.1 hP hD hS (17 + i) (fr_cw_r hi) rfl 3 (by decide) (C.2.2.2.2.1 _ fl_F_151) (fun _ h9 => h9) rfl (by decide +kernel) rfl rfl (Nat.le_of_ble_eq_true rfl) hdg (fun H1 locs1 hP1 hD1 hS1 => ?_)
  rw [sw_7_i hi] at hP1 hD1
  exact kk H1 locs1 hP1 hD1 hS1
theorem sw_0_3 {ka : Nat → ClassId} {al : Nat → Nat} {f : Nat → Nat → Int32} {Z : va_W} {v : Int32} : (fr_cw ka al f Z).set 0 (al 0, .inr (0, ([.ref (al 1), .int (f 0 0), .ref (al 2), .int (f 0 1), .ref (al 3), .ref (al 4), .int (f 0 2), .ref (al 5), .int (f 0 3), .int (f 0 4)] : List Value).set 8 (.int v))) = fr_cw ka al (fr_up f 0 3 v) Z := by
  have hu : fr_uc al (fr_up f 0 3 v) = fr_uc al f := by funext i; simp [fr_uc, fr_up]
  have hr : fr_rc al (fr_up f 0 3 v) = fr_rc al f := by funext i; simp [fr_rc, fr_up]
  simp only [fr_cw, hu, hr]
  simp [fr_oc, fr_tc, fr_up]
theorem pf_F_45 {p : Program} {l : Launch} {e : Env} {R : Room} {s : State} {m : MethodId} {args : Array Value} {below : List Frame} {meth : Method} {c : Code} {H : Heap} {locs : List Loc} {cells slots : Nat} {Q : State → Prop} {D : va_G} {A : Nat → Prop} {cc : ByteArray} {nL pc : Nat} {ret : Option FieldType} {hh : List ExceptionTableEntry} {ls : Array Slot} {rest : List Value} {ka : Nat → ClassId} {al : Nat → Nat} {f : Nat → Nat → Int32} {Z : va_W} {v : Int32} (C : fr_Cx p s m args meth c "FragileRules" cc nL ret hh fr_tbl fr_nw D vwCl (fr_ty ka) A) (hP : va_P D vwCl (fr_cw ka al f Z) H) (hD : va_D A (fr_cw ka al f Z)) (hS : va_S A s.heap H locs) (hdg : decode cc pc = .ok (.putfield 45, 3)) (kk : ∀ (H : Heap) (locs : List Loc), va_P D vwCl (fr_cw ka al (fr_up f 0 3 v) Z) H → va_D A (fr_cw ka al (fr_up f 0 3 v) Z) → va_S A s.heap H locs → W p l e R s m args below meth c H locs cells slots Q (F0 m (pc + 3) ls rest)) : W p l e R s m args below meth c H locs cells slots Q (F0 m pc ls (.int v :: .ref (al 0) :: rest)) := by
  refine va_put (D := D) (ci := 0) (v := .int v) (ty := .int) (C := "FragileRules") (T := TXF) (N := 10) C.1 C.2.1 C.2.2.2.2.1 iXF tyXF tokXF nmXF C.2.2.2.1 C.2.2.2.2.2.1 hP hD hS 0 rfl rfl 8 (by decide) (C.2.2.2.2.1 _ fl_F_45) (fun _ h9 => h9) rfl (by decide +kernel) rfl rfl (Nat.le_of_ble_eq_true rfl) hdg (fun H1 locs1 hP1 hD1 hS1 => ?_)
  rw [sw_0_3] at hP1 hD1
  exact kk H1 locs1 hP1 hD1 hS1
theorem sw_0_4 {ka : Nat → ClassId} {al : Nat → Nat} {f : Nat → Nat → Int32} {Z : va_W} {v : Int32} : (fr_cw ka al f Z).set 0 (al 0, .inr (0, ([.ref (al 1), .int (f 0 0), .ref (al 2), .int (f 0 1), .ref (al 3), .ref (al 4), .int (f 0 2), .ref (al 5), .int (f 0 3), .int (f 0 4)] : List Value).set 9 (.int v))) = fr_cw ka al (fr_up f 0 4 v) Z := by
  have hu : fr_uc al (fr_up f 0 4 v) = fr_uc al f := by funext i; simp [fr_uc, fr_up]
  have hr : fr_rc al (fr_up f 0 4 v) = fr_rc al f := by funext i; simp [fr_rc, fr_up]
  simp only [fr_cw, hu, hr]
  simp [fr_oc, fr_tc, fr_up]
theorem pf_F_48 {p : Program} {l : Launch} {e : Env} {R : Room} {s : State} {m : MethodId} {args : Array Value} {below : List Frame} {meth : Method} {c : Code} {H : Heap} {locs : List Loc} {cells slots : Nat} {Q : State → Prop} {D : va_G} {A : Nat → Prop} {cc : ByteArray} {nL pc : Nat} {ret : Option FieldType} {hh : List ExceptionTableEntry} {ls : Array Slot} {rest : List Value} {ka : Nat → ClassId} {al : Nat → Nat} {f : Nat → Nat → Int32} {Z : va_W} {v : Int32} (C : fr_Cx p s m args meth c "FragileRules" cc nL ret hh fr_tbl fr_nw D vwCl (fr_ty ka) A) (hP : va_P D vwCl (fr_cw ka al f Z) H) (hD : va_D A (fr_cw ka al f Z)) (hS : va_S A s.heap H locs) (hdg : decode cc pc = .ok (.putfield 48, 3)) (kk : ∀ (H : Heap) (locs : List Loc), va_P D vwCl (fr_cw ka al (fr_up f 0 4 v) Z) H → va_D A (fr_cw ka al (fr_up f 0 4 v) Z) → va_S A s.heap H locs → W p l e R s m args below meth c H locs cells slots Q (F0 m (pc + 3) ls rest)) : W p l e R s m args below meth c H locs cells slots Q (F0 m pc ls (.int v :: .ref (al 0) :: rest)) := by
  refine va_put (D := D) (ci := 0) (v := .int v) (ty := .int) (C := "FragileRules") (T := TXF) (N := 10) C.1 C.2.1 C.2.2.2.2.1 iXF tyXF tokXF nmXF C.2.2.2.1 C.2.2.2.2.2.1 hP hD hS 0 rfl rfl 9 (by decide) (C.2.2.2.2.1 _ fl_F_48) (fun _ h9 => h9) rfl (by decide +kernel) rfl rfl (Nat.le_of_ble_eq_true rfl) hdg (fun H1 locs1 hP1 hD1 hS1 => ?_)
  rw [sw_0_4] at hP1 hD1
  exact kk H1 locs1 hP1 hD1 hS1
set_option maxRecDepth 100000 in
theorem th_IAE {p : Program} {l : Launch} {e : Env} {R : Room} {s : State} {m : MethodId} {args : Array Value} {below : List Frame} {meth : Method} {c : Code} {H : Heap} {locs : List Loc} {cells slots : Nat} {Q : State → Prop} {D : va_G} {A : Nat → Prop} {cc : ByteArray} {nL pc : Nat} {ret : Option FieldType} {ls : Array Slot} {ka : Nat → ClassId} {is sa : Nat} {tx : String} {st : List Value} (C : fr_Cx p s m args meth c "FragileRules" cc nL ret [] fr_tbl fr_nw D vwCl (fr_ty ka) A) (hsz : ls.size = nL) (hls : l.stackTraces = false) (hS : va_S A s.heap H locs) (hR : vk_R "FragileRules" is tx sa s) (hf1 : 5 < R.frames) (hf2 : 1 + (st.map fun v => v.category).sum + 81 ≤ R.locals) (hf3 : cells + 1 ≤ R.cells) (hf4 : slots + 6 ≤ R.slots)
    (d0 : decode cc pc = .ok (.new 57, 3)) (d3 : decode cc (pc + 3) = .ok (.dup, 1)) (d4 : decode cc (pc + 4) = .ok (.ldc is, 2)) (d6 : decode cc (pc + 6) = .ok (.invokespecial 61, 3)) (d9 : decode cc (pc + 9) = .ok (.athrow, 1))
    (hQ : ∀ (t : State) (q : Addr) (ce : Cell), t.status = .running → Ended t below (.threw q) → t.heap[q]? = some ce → ce.vm = .none → s.vm.findClass "java/lang/IllegalArgumentException" = some ce.cls → s.WarmedH t.vm → s.sameButNew ({ t with vm := s.vm } : State) locs (cells + 1) (slots + 6) → (∀ (a : Addr) (cell : Cell), H[a]? = some cell → t.heap[a]? = some cell) → H.size ≤ t.heap.size → Q t) : W p l e R s m args below meth c H locs cells slots Q (F0 m pc ls st) :=
  fr_throwS (E := "java/lang/IllegalArgumentException") (names := ["java/lang/RuntimeException", "java/lang/Exception"]) C hsz hls (by decide +kernel) (by decide +kernel) hS (C.2.2.2.2.1 _ cl0_F_57) (C.2.2.2.2.1 _ mins_IllegalArgumentException) (C.2.2.2.2.1 _ mini_IllegalArgumentException) ⟨rfl, rfl, rfl⟩ fr_tbl_good oa_IllegalArgumentException hR hf1 hf2 hf3 hf4 d0 d3 d4 d6 d9 hQ
theorem gf_F_11 {p : Program} {l : Launch} {e : Env} {R : Room} {s : State} {m : MethodId} {args : Array Value} {below : List Frame} {meth : Method} {c : Code} {H : Heap} {locs : List Loc} {cells slots : Nat} {Q : State → Prop} {D : va_G} {A : Nat → Prop} {cc : ByteArray} {nL pc : Nat} {ret : Option FieldType} {hh : List ExceptionTableEntry} {ls : Array Slot} {rest : List Value} {ka : Nat → ClassId} {al : Nat → Nat} {f : Nat → Nat → Int32} {Z : va_W} (C : fr_Cx p s m args meth c "FragileRules" cc nL ret hh fr_tbl fr_nw D vwCl (fr_ty ka) A) (hP : va_P D vwCl (fr_cw ka al f Z) H) (hdg : decode cc pc = .ok (.getfield 11, 3)) (kk : W p l e R s m args below meth c H locs cells slots Q (F0 m (pc + 3) ls (.ref (al 1) :: rest))) : W p l e R s m args below meth c H locs cells slots Q (F0 m pc ls (.ref (al 0) :: rest)) :=
  va_get (D := D) (ci := 0) (v := .ref (al 1)) (C := "FragileRules") (T := TXF) (N := 10) C.1 C.2.1 C.2.2.2.2.1 iXF C.2.2.2.1 C.2.2.2.2.2.1 hP 0 rfl rfl 0 (by decide) (C.2.2.2.2.1 _ fl_F_11) (fun _ h9 => h9) rfl hdg kk
theorem ald_aU {p : Program} {l : Launch} {e : Env} {R : Room} {s : State} {m : MethodId} {args : Array Value} {below : List Frame} {meth : Method} {c : Code} {H : Heap} {locs : List Loc} {cells slots : Nat} {Q : State → Prop} {D : va_G} {A : Nat → Prop} {cc : ByteArray} {nL pc : Nat} {ret : Option FieldType} {hh : List ExceptionTableEntry} {ls : Array Slot} {rest : List Value} {ka : Nat → ClassId} {al : Nat → Nat} {f : Nat → Nat → Int32} {Z : va_W} {own : String} {x : Int32} (C : fr_Cx p s m args meth c own cc nL ret hh fr_tbl fr_nw D vwCl (fr_ty ka) A) (hP : va_P D vwCl (fr_cw ka al f Z) H) (hin : vp_in x 10) (hdg : decode cc pc = .ok (.aaload, 1)) (kk : W p l e R s m args below meth c H locs cells slots Q (F0 m (pc + 1) ls (.ref (al (7 + x.toNatClampNeg)) :: rest))) : W p l e R s m args below meth c H locs cells slots Q (F0 m pc ls (.int x :: .ref (al 1) :: rest)) :=
  va_aldq (D := D) C.1 C.2.1 C.2.2.2.2.2.1 hP 1 0 (f := fun i => some (al (7 + i))) rfl rfl hin hdg kk
theorem sw_1_i {ka : Nat → ClassId} {al : Nat → Nat} {f : Nat → Nat → Int32} {Z : va_W} {v : Int32} {i : Nat} (hi : i < 10) : (fr_cw ka al f Z).set (7 + i) (al (7 + i), .inr (1, ([.int (f 1 i), .int (f 2 i), .int (f 3 i)] : List Value).set 0 (.int v))) = fr_cw ka al (fr_up f 1 i v) Z := by
  have ho : fr_rc al (fr_up f 1 i v) = fr_rc al f := by funext j; simp [fr_rc, fr_up]
  have hm := fr_map_set (fr_uc al f) (fr_uc al (fr_up f 1 i v)) 10 i hi (fun j hj => by simp [fr_uc, fr_up, hj])
  have hc : (al (7 + i), .inr (1, ([.int (f 1 i), .int (f 2 i), .int (f 3 i)] : List Value).set 0 (.int v))) = fr_uc al (fr_up f 1 i v) i := by simp [fr_uc, fr_up]
  rw [hc]
  rw [show 7 + i = i + 7 from Nat.add_comm _ _]
  simp only [fr_cw, ho, List.set_cons_succ]
  rw [List.set_append_left _ _ (by simpa using hi), hm]
  simp [fr_oc, fr_tc, fr_up]
theorem pf_F_69 {p : Program} {l : Launch} {e : Env} {R : Room} {s : State} {m : MethodId} {args : Array Value} {below : List Frame} {meth : Method} {c : Code} {H : Heap} {locs : List Loc} {cells slots : Nat} {Q : State → Prop} {D : va_G} {A : Nat → Prop} {cc : ByteArray} {nL pc : Nat} {ret : Option FieldType} {hh : List ExceptionTableEntry} {ls : Array Slot} {rest : List Value} {ka : Nat → ClassId} {al : Nat → Nat} {f : Nat → Nat → Int32} {Z : va_W} {v : Int32} (C : fr_Cx p s m args meth c "FragileRules" cc nL ret hh fr_tbl fr_nw D vwCl (fr_ty ka) A) (hP : va_P D vwCl (fr_cw ka al f Z) H) (hD : va_D A (fr_cw ka al f Z)) (hS : va_S A s.heap H locs) {i : Nat} (hi : i < 10) (hdg : decode cc pc = .ok (.putfield 69, 3)) (kk : ∀ (H : Heap) (locs : List Loc), va_P D vwCl (fr_cw ka al (fr_up f 1 i v) Z) H → va_D A (fr_cw ka al (fr_up f 1 i v) Z) → va_S A s.heap H locs → W p l e R s m args below meth c H locs cells slots Q (F0 m (pc + 3) ls rest)) : W p l e R s m args below meth c H locs cells slots Q (F0 m pc ls (.int v :: .ref (al (7 + i)) :: rest)) := by
  refine va_put (D := D) (ci := 1) (v := .int v) (ty := .int) (C := "FragileRules$Unit") (T := TXU) (N := 3) C.1 C.2.1 C.2.2.2.2.1 iXU tyXU tokXU nmXU C.2.2.2.1 C.2.2.2.2.2.1 hP hD hS (7 + i) (fr_cw_u hi) rfl 0 (by decide) (C.2.2.2.2.1 _ fl_F_69) (fun _ h9 => h9) rfl (by decide +kernel) rfl rfl (Nat.le_of_ble_eq_true rfl) hdg (fun H1 locs1 hP1 hD1 hS1 => ?_)
  rw [sw_1_i hi] at hP1 hD1
  exact kk H1 locs1 hP1 hD1 hS1
theorem sw_2_i {ka : Nat → ClassId} {al : Nat → Nat} {f : Nat → Nat → Int32} {Z : va_W} {v : Int32} {i : Nat} (hi : i < 10) : (fr_cw ka al f Z).set (7 + i) (al (7 + i), .inr (1, ([.int (f 1 i), .int (f 2 i), .int (f 3 i)] : List Value).set 1 (.int v))) = fr_cw ka al (fr_up f 2 i v) Z := by
  have ho : fr_rc al (fr_up f 2 i v) = fr_rc al f := by funext j; simp [fr_rc, fr_up]
  have hm := fr_map_set (fr_uc al f) (fr_uc al (fr_up f 2 i v)) 10 i hi (fun j hj => by simp [fr_uc, fr_up, hj])
  have hc : (al (7 + i), .inr (1, ([.int (f 1 i), .int (f 2 i), .int (f 3 i)] : List Value).set 1 (.int v))) = fr_uc al (fr_up f 2 i v) i := by simp [fr_uc, fr_up]
  rw [hc]
  rw [show 7 + i = i + 7 from Nat.add_comm _ _]
  simp only [fr_cw, ho, List.set_cons_succ]
  rw [List.set_append_left _ _ (by simpa using hi), hm]
  simp [fr_oc, fr_tc, fr_up]
theorem pf_F_72 {p : Program} {l : Launch} {e : Env} {R : Room} {s : State} {m : MethodId} {args : Array Value} {below : List Frame} {meth : Method} {c : Code} {H : Heap} {locs : List Loc} {cells slots : Nat} {Q : State → Prop} {D : va_G} {A : Nat → Prop} {cc : ByteArray} {nL pc : Nat} {ret : Option FieldType} {hh : List ExceptionTableEntry} {ls : Array Slot} {rest : List Value} {ka : Nat → ClassId} {al : Nat → Nat} {f : Nat → Nat → Int32} {Z : va_W} {v : Int32} (C : fr_Cx p s m args meth c "FragileRules" cc nL ret hh fr_tbl fr_nw D vwCl (fr_ty ka) A) (hP : va_P D vwCl (fr_cw ka al f Z) H) (hD : va_D A (fr_cw ka al f Z)) (hS : va_S A s.heap H locs) {i : Nat} (hi : i < 10) (hdg : decode cc pc = .ok (.putfield 72, 3)) (kk : ∀ (H : Heap) (locs : List Loc), va_P D vwCl (fr_cw ka al (fr_up f 2 i v) Z) H → va_D A (fr_cw ka al (fr_up f 2 i v) Z) → va_S A s.heap H locs → W p l e R s m args below meth c H locs cells slots Q (F0 m (pc + 3) ls rest)) : W p l e R s m args below meth c H locs cells slots Q (F0 m pc ls (.int v :: .ref (al (7 + i)) :: rest)) := by
  refine va_put (D := D) (ci := 1) (v := .int v) (ty := .int) (C := "FragileRules$Unit") (T := TXU) (N := 3) C.1 C.2.1 C.2.2.2.2.1 iXU tyXU tokXU nmXU C.2.2.2.1 C.2.2.2.2.2.1 hP hD hS (7 + i) (fr_cw_u hi) rfl 1 (by decide) (C.2.2.2.2.1 _ fl_F_72) (fun _ h9 => h9) rfl (by decide +kernel) rfl rfl (Nat.le_of_ble_eq_true rfl) hdg (fun H1 locs1 hP1 hD1 hS1 => ?_)
  rw [sw_2_i hi] at hP1 hD1
  exact kk H1 locs1 hP1 hD1 hS1
theorem sw_3_i {ka : Nat → ClassId} {al : Nat → Nat} {f : Nat → Nat → Int32} {Z : va_W} {v : Int32} {i : Nat} (hi : i < 10) : (fr_cw ka al f Z).set (7 + i) (al (7 + i), .inr (1, ([.int (f 1 i), .int (f 2 i), .int (f 3 i)] : List Value).set 2 (.int v))) = fr_cw ka al (fr_up f 3 i v) Z := by
  have ho : fr_rc al (fr_up f 3 i v) = fr_rc al f := by funext j; simp [fr_rc, fr_up]
  have hm := fr_map_set (fr_uc al f) (fr_uc al (fr_up f 3 i v)) 10 i hi (fun j hj => by simp [fr_uc, fr_up, hj])
  have hc : (al (7 + i), .inr (1, ([.int (f 1 i), .int (f 2 i), .int (f 3 i)] : List Value).set 2 (.int v))) = fr_uc al (fr_up f 3 i v) i := by simp [fr_uc, fr_up]
  rw [hc]
  rw [show 7 + i = i + 7 from Nat.add_comm _ _]
  simp only [fr_cw, ho, List.set_cons_succ]
  rw [List.set_append_left _ _ (by simpa using hi), hm]
  simp [fr_oc, fr_tc, fr_up]
theorem pf_F_75 {p : Program} {l : Launch} {e : Env} {R : Room} {s : State} {m : MethodId} {args : Array Value} {below : List Frame} {meth : Method} {c : Code} {H : Heap} {locs : List Loc} {cells slots : Nat} {Q : State → Prop} {D : va_G} {A : Nat → Prop} {cc : ByteArray} {nL pc : Nat} {ret : Option FieldType} {hh : List ExceptionTableEntry} {ls : Array Slot} {rest : List Value} {ka : Nat → ClassId} {al : Nat → Nat} {f : Nat → Nat → Int32} {Z : va_W} {v : Int32} (C : fr_Cx p s m args meth c "FragileRules" cc nL ret hh fr_tbl fr_nw D vwCl (fr_ty ka) A) (hP : va_P D vwCl (fr_cw ka al f Z) H) (hD : va_D A (fr_cw ka al f Z)) (hS : va_S A s.heap H locs) {i : Nat} (hi : i < 10) (hdg : decode cc pc = .ok (.putfield 75, 3)) (kk : ∀ (H : Heap) (locs : List Loc), va_P D vwCl (fr_cw ka al (fr_up f 3 i v) Z) H → va_D A (fr_cw ka al (fr_up f 3 i v) Z) → va_S A s.heap H locs → W p l e R s m args below meth c H locs cells slots Q (F0 m (pc + 3) ls rest)) : W p l e R s m args below meth c H locs cells slots Q (F0 m pc ls (.int v :: .ref (al (7 + i)) :: rest)) := by
  refine va_put (D := D) (ci := 1) (v := .int v) (ty := .int) (C := "FragileRules$Unit") (T := TXU) (N := 3) C.1 C.2.1 C.2.2.2.2.1 iXU tyXU tokXU nmXU C.2.2.2.1 C.2.2.2.2.2.1 hP hD hS (7 + i) (fr_cw_u hi) rfl 2 (by decide) (C.2.2.2.2.1 _ fl_F_75) (fun _ h9 => h9) rfl (by decide +kernel) rfl rfl (Nat.le_of_ble_eq_true rfl) hdg (fun H1 locs1 hP1 hD1 hS1 => ?_)
  rw [sw_3_i hi] at hP1 hD1
  exact kk H1 locs1 hP1 hD1 hS1
theorem sw_0_0 {ka : Nat → ClassId} {al : Nat → Nat} {f : Nat → Nat → Int32} {Z : va_W} {v : Int32} : (fr_cw ka al f Z).set 0 (al 0, .inr (0, ([.ref (al 1), .int (f 0 0), .ref (al 2), .int (f 0 1), .ref (al 3), .ref (al 4), .int (f 0 2), .ref (al 5), .int (f 0 3), .int (f 0 4)] : List Value).set 1 (.int v))) = fr_cw ka al (fr_up f 0 0 v) Z := by
  have hu : fr_uc al (fr_up f 0 0 v) = fr_uc al f := by funext i; simp [fr_uc, fr_up]
  have hr : fr_rc al (fr_up f 0 0 v) = fr_rc al f := by funext i; simp [fr_rc, fr_up]
  simp only [fr_cw, hu, hr]
  simp [fr_oc, fr_tc, fr_up]
theorem pf_F_15 {p : Program} {l : Launch} {e : Env} {R : Room} {s : State} {m : MethodId} {args : Array Value} {below : List Frame} {meth : Method} {c : Code} {H : Heap} {locs : List Loc} {cells slots : Nat} {Q : State → Prop} {D : va_G} {A : Nat → Prop} {cc : ByteArray} {nL pc : Nat} {ret : Option FieldType} {hh : List ExceptionTableEntry} {ls : Array Slot} {rest : List Value} {ka : Nat → ClassId} {al : Nat → Nat} {f : Nat → Nat → Int32} {Z : va_W} {v : Int32} (C : fr_Cx p s m args meth c "FragileRules" cc nL ret hh fr_tbl fr_nw D vwCl (fr_ty ka) A) (hP : va_P D vwCl (fr_cw ka al f Z) H) (hD : va_D A (fr_cw ka al f Z)) (hS : va_S A s.heap H locs) (hdg : decode cc pc = .ok (.putfield 15, 3)) (kk : ∀ (H : Heap) (locs : List Loc), va_P D vwCl (fr_cw ka al (fr_up f 0 0 v) Z) H → va_D A (fr_cw ka al (fr_up f 0 0 v) Z) → va_S A s.heap H locs → W p l e R s m args below meth c H locs cells slots Q (F0 m (pc + 3) ls rest)) : W p l e R s m args below meth c H locs cells slots Q (F0 m pc ls (.int v :: .ref (al 0) :: rest)) := by
  refine va_put (D := D) (ci := 0) (v := .int v) (ty := .int) (C := "FragileRules") (T := TXF) (N := 10) C.1 C.2.1 C.2.2.2.2.1 iXF tyXF tokXF nmXF C.2.2.2.1 C.2.2.2.2.2.1 hP hD hS 0 rfl rfl 1 (by decide) (C.2.2.2.2.1 _ fl_F_15) (fun _ h9 => h9) rfl (by decide +kernel) rfl rfl (Nat.le_of_ble_eq_true rfl) hdg (fun H1 locs1 hP1 hD1 hS1 => ?_)
  rw [sw_0_0] at hP1 hD1
  exact kk H1 locs1 hP1 hD1 hS1
set_option maxRecDepth 100000 in
theorem th_UOE {p : Program} {l : Launch} {e : Env} {R : Room} {s : State} {m : MethodId} {args : Array Value} {below : List Frame} {meth : Method} {c : Code} {H : Heap} {locs : List Loc} {cells slots : Nat} {Q : State → Prop} {D : va_G} {A : Nat → Prop} {cc : ByteArray} {nL pc : Nat} {ret : Option FieldType} {ls : Array Slot} {ka : Nat → ClassId} {is sa : Nat} {tx : String} {st : List Value} (C : fr_Cx p s m args meth c "FragileRules" cc nL ret [] fr_tbl fr_nw D vwCl (fr_ty ka) A) (hsz : ls.size = nL) (hls : l.stackTraces = false) (hS : va_S A s.heap H locs) (hR : vk_R "FragileRules" is tx sa s) (hf1 : 5 < R.frames) (hf2 : 1 + (st.map fun v => v.category).sum + 81 ≤ R.locals) (hf3 : cells + 1 ≤ R.cells) (hf4 : slots + 6 ≤ R.slots)
    (d0 : decode cc pc = .ok (.new 64, 3)) (d3 : decode cc (pc + 3) = .ok (.dup, 1)) (d4 : decode cc (pc + 4) = .ok (.ldc is, 2)) (d6 : decode cc (pc + 6) = .ok (.invokespecial 68, 3)) (d9 : decode cc (pc + 9) = .ok (.athrow, 1))
    (hQ : ∀ (t : State) (q : Addr) (ce : Cell), t.status = .running → Ended t below (.threw q) → t.heap[q]? = some ce → ce.vm = .none → s.vm.findClass "java/lang/UnsupportedOperationException" = some ce.cls → s.WarmedH t.vm → s.sameButNew ({ t with vm := s.vm } : State) locs (cells + 1) (slots + 6) → (∀ (a : Addr) (cell : Cell), H[a]? = some cell → t.heap[a]? = some cell) → H.size ≤ t.heap.size → Q t) : W p l e R s m args below meth c H locs cells slots Q (F0 m pc ls st) :=
  fr_throwS (E := "java/lang/UnsupportedOperationException") (names := ["java/lang/RuntimeException", "java/lang/Exception"]) C hsz hls (by decide +kernel) (by decide +kernel) hS (C.2.2.2.2.1 _ cl0_F_64) (C.2.2.2.2.1 _ mins_UnsupportedOperationException) (C.2.2.2.2.1 _ mini_UnsupportedOperationException) ⟨rfl, rfl, rfl⟩ fr_tbl_good oa_UnsupportedOperationException hR hf1 hf2 hf3 hf4 d0 d3 d4 d6 d9 hQ
theorem gf_F_103 {p : Program} {l : Launch} {e : Env} {R : Room} {s : State} {m : MethodId} {args : Array Value} {below : List Frame} {meth : Method} {c : Code} {H : Heap} {locs : List Loc} {cells slots : Nat} {Q : State → Prop} {D : va_G} {A : Nat → Prop} {cc : ByteArray} {nL pc : Nat} {ret : Option FieldType} {hh : List ExceptionTableEntry} {ls : Array Slot} {rest : List Value} {ka : Nat → ClassId} {al : Nat → Nat} {f : Nat → Nat → Int32} {Z : va_W} (C : fr_Cx p s m args meth c "FragileRules" cc nL ret hh fr_tbl fr_nw D vwCl (fr_ty ka) A) (hP : va_P D vwCl (fr_cw ka al f Z) H) (hdg : decode cc pc = .ok (.getfield 103, 3)) (kk : W p l e R s m args below meth c H locs cells slots Q (F0 m (pc + 3) ls (.ref (al 6) :: rest))) : W p l e R s m args below meth c H locs cells slots Q (F0 m pc ls (.ref (al 5) :: rest)) :=
  va_get (D := D) (ci := 3) (v := .ref (al 6)) (C := "FragileRules$Text") (T := TXT) (N := 2) C.1 C.2.1 C.2.2.2.2.1 iXT C.2.2.2.1 C.2.2.2.2.2.1 hP 5 rfl rfl 0 (by decide) (C.2.2.2.2.1 _ fl_F_103) (fun _ h9 => h9) rfl hdg kk
theorem sa_10 {ka : Nat → ClassId} {al : Nat → Nat} {f : Nat → Nat → Int32} {Z : va_W} {v : Int32} {k : Nat} : (fr_cw ka al f Z).set 6 (al 6, .inl (ka 2, 200, .inl (upd (fun j => f 10 j) k v))) = fr_cw ka al (fr_up f 10 k v) Z := by
  have hu : fr_uc al (fr_up f 10 k v) = fr_uc al f := by funext i; simp [fr_uc, fr_up]
  have hr : fr_rc al (fr_up f 10 k v) = fr_rc al f := by funext i; simp [fr_rc, fr_up]
  have ha : upd (fun j => f 10 j) k v = (fun j => fr_up f 10 k v 10 j) := by funext j; simp [upd, fr_up]
  simp only [fr_cw, hu, hr, ha]
  simp [fr_oc, fr_tc, fr_ia, fr_up]
theorem ast_10 {p : Program} {l : Launch} {e : Env} {R : Room} {s : State} {m : MethodId} {args : Array Value} {below : List Frame} {meth : Method} {c : Code} {H : Heap} {locs : List Loc} {cells slots : Nat} {Q : State → Prop} {D : va_G} {A : Nat → Prop} {cc : ByteArray} {nL pc : Nat} {ret : Option FieldType} {hh : List ExceptionTableEntry} {ls : Array Slot} {rest : List Value} {ka : Nat → ClassId} {al : Nat → Nat} {f : Nat → Nat → Int32} {Z : va_W} {own : String} {x v : Int32} (C : fr_Cx p s m args meth c own cc nL ret hh fr_tbl fr_nw D vwCl (fr_ty ka) A) (hP : va_P D vwCl (fr_cw ka al f Z) H) (hD : va_D A (fr_cw ka al f Z)) (hS : va_S A s.heap H locs) (hin : vp_in x 200) (hdg : decode cc pc = .ok (.iastore, 1)) (kk : ∀ (H : Heap) (locs : List Loc), va_P D vwCl (fr_cw ka al (fr_up f 10 x.toNatClampNeg v) Z) H → va_D A (fr_cw ka al (fr_up f 10 x.toNatClampNeg v) Z) → va_S A s.heap H locs → W p l e R s m args below meth c H locs cells slots Q (F0 m (pc + 1) ls rest)) : W p l e R s m args below meth c H locs cells slots Q (F0 m pc ls (.int v :: .int x :: .ref (al 6) :: rest)) := by
  refine va_iast (D := D) C.1 C.2.1 C.2.2.2.2.2.1 hP hD hS 6 2 (f := fun j => f 10 j) rfl rfl hin hdg (fun H1 locs1 hP1 hD1 hS1 => ?_)
  rw [sa_10] at hP1 hD1
  exact kk H1 locs1 hP1 hD1 hS1
theorem sw_0_5 {ka : Nat → ClassId} {al : Nat → Nat} {f : Nat → Nat → Int32} {Z : va_W} {v : Int32} : (fr_cw ka al f Z).set 5 (al 5, .inr (3, ([.ref (al 6), .int (f 0 5)] : List Value).set 1 (.int v))) = fr_cw ka al (fr_up f 0 5 v) Z := by
  have hu : fr_uc al (fr_up f 0 5 v) = fr_uc al f := by funext i; simp [fr_uc, fr_up]
  have hr : fr_rc al (fr_up f 0 5 v) = fr_rc al f := by funext i; simp [fr_rc, fr_up]
  simp only [fr_cw, hu, hr]
  simp [fr_oc, fr_tc, fr_up]
theorem pf_F_98 {p : Program} {l : Launch} {e : Env} {R : Room} {s : State} {m : MethodId} {args : Array Value} {below : List Frame} {meth : Method} {c : Code} {H : Heap} {locs : List Loc} {cells slots : Nat} {Q : State → Prop} {D : va_G} {A : Nat → Prop} {cc : ByteArray} {nL pc : Nat} {ret : Option FieldType} {hh : List ExceptionTableEntry} {ls : Array Slot} {rest : List Value} {ka : Nat → ClassId} {al : Nat → Nat} {f : Nat → Nat → Int32} {Z : va_W} {v : Int32} (C : fr_Cx p s m args meth c "FragileRules" cc nL ret hh fr_tbl fr_nw D vwCl (fr_ty ka) A) (hP : va_P D vwCl (fr_cw ka al f Z) H) (hD : va_D A (fr_cw ka al f Z)) (hS : va_S A s.heap H locs) (hdg : decode cc pc = .ok (.putfield 98, 3)) (kk : ∀ (H : Heap) (locs : List Loc), va_P D vwCl (fr_cw ka al (fr_up f 0 5 v) Z) H → va_D A (fr_cw ka al (fr_up f 0 5 v) Z) → va_S A s.heap H locs → W p l e R s m args below meth c H locs cells slots Q (F0 m (pc + 3) ls rest)) : W p l e R s m args below meth c H locs cells slots Q (F0 m pc ls (.int v :: .ref (al 5) :: rest)) := by
  refine va_put (D := D) (ci := 3) (v := .int v) (ty := .int) (C := "FragileRules$Text") (T := TXT) (N := 2) C.1 C.2.1 C.2.2.2.2.1 iXT tyXT tokXT nmXT C.2.2.2.1 C.2.2.2.2.2.1 hP hD hS 5 rfl rfl 1 (by decide) (C.2.2.2.2.1 _ fl_F_98) (fun _ h9 => h9) rfl (by decide +kernel) rfl rfl (Nat.le_of_ble_eq_true rfl) hdg (fun H1 locs1 hP1 hD1 hS1 => ?_)
  rw [sw_0_5] at hP1 hD1
  exact kk H1 locs1 hP1 hD1 hS1
set_option maxRecDepth 100000 in
theorem th_NSE {p : Program} {l : Launch} {e : Env} {R : Room} {s : State} {m : MethodId} {args : Array Value} {below : List Frame} {meth : Method} {c : Code} {H : Heap} {locs : List Loc} {cells slots : Nat} {Q : State → Prop} {D : va_G} {A : Nat → Prop} {cc : ByteArray} {nL pc : Nat} {ret : Option FieldType} {ls : Array Slot} {ka : Nat → ClassId} {is sa : Nat} {tx : String} {st : List Value} (C : fr_Cx p s m args meth c "FragileRules" cc nL ret [] fr_tbl fr_nw D vwCl (fr_ty ka) A) (hsz : ls.size = nL) (hls : l.stackTraces = false) (hS : va_S A s.heap H locs) (hR : vk_R "FragileRules" is tx sa s) (hf1 : 5 < R.frames) (hf2 : 1 + (st.map fun v => v.category).sum + 81 ≤ R.locals) (hf3 : cells + 1 ≤ R.cells) (hf4 : slots + 6 ≤ R.slots)
    (d0 : decode cc pc = .ok (.new 123, 3)) (d3 : decode cc (pc + 3) = .ok (.dup, 1)) (d4 : decode cc (pc + 4) = .ok (.ldc is, 2)) (d6 : decode cc (pc + 6) = .ok (.invokespecial 127, 3)) (d9 : decode cc (pc + 9) = .ok (.athrow, 1))
    (hQ : ∀ (t : State) (q : Addr) (ce : Cell), t.status = .running → Ended t below (.threw q) → t.heap[q]? = some ce → ce.vm = .none → s.vm.findClass "java/util/NoSuchElementException" = some ce.cls → s.WarmedH t.vm → s.sameButNew ({ t with vm := s.vm } : State) locs (cells + 1) (slots + 6) → (∀ (a : Addr) (cell : Cell), H[a]? = some cell → t.heap[a]? = some cell) → H.size ≤ t.heap.size → Q t) : W p l e R s m args below meth c H locs cells slots Q (F0 m pc ls st) :=
  fr_throwN (E := "java/util/NoSuchElementException") (Y := "java/lang/RuntimeException") (names := ["java/lang/Exception"]) (b0 := prog_16_method_4_code) (i0 := 13) (by decide +kernel) (by decide +kernel) (by decide +kernel) (by decide +kernel) (by decide +kernel) C hsz hls (by decide +kernel) (by decide +kernel) hS (C.2.2.2.2.1 _ cl0_F_123) (C.2.2.2.2.1 _ mins_NoSuchElementException) (C.2.2.2.2.1 _ mini_NoSuchElementException) ⟨rfl, rfl, rfl⟩ fr_tbl_good oa_NoSuchElementException hR hf1 hf2 hf3 hf4 d0 d3 d4 d6 d9 hQ
set_option maxRecDepth 100000 in
theorem th_ISE {p : Program} {l : Launch} {e : Env} {R : Room} {s : State} {m : MethodId} {args : Array Value} {below : List Frame} {meth : Method} {c : Code} {H : Heap} {locs : List Loc} {cells slots : Nat} {Q : State → Prop} {D : va_G} {A : Nat → Prop} {cc : ByteArray} {nL pc : Nat} {ret : Option FieldType} {ls : Array Slot} {ka : Nat → ClassId} {is sa : Nat} {tx : String} {st : List Value} (C : fr_Cx p s m args meth c "FragileRules" cc nL ret [] fr_tbl fr_nw D vwCl (fr_ty ka) A) (hsz : ls.size = nL) (hls : l.stackTraces = false) (hS : va_S A s.heap H locs) (hR : vk_R "FragileRules" is tx sa s) (hf1 : 5 < R.frames) (hf2 : 1 + (st.map fun v => v.category).sum + 81 ≤ R.locals) (hf3 : cells + 1 ≤ R.cells) (hf4 : slots + 6 ≤ R.slots)
    (d0 : decode cc pc = .ok (.new 130, 3)) (d3 : decode cc (pc + 3) = .ok (.dup, 1)) (d4 : decode cc (pc + 4) = .ok (.ldc is, 2)) (d6 : decode cc (pc + 6) = .ok (.invokespecial 134, 3)) (d9 : decode cc (pc + 9) = .ok (.athrow, 1))
    (hQ : ∀ (t : State) (q : Addr) (ce : Cell), t.status = .running → Ended t below (.threw q) → t.heap[q]? = some ce → ce.vm = .none → s.vm.findClass "java/lang/IllegalStateException" = some ce.cls → s.WarmedH t.vm → s.sameButNew ({ t with vm := s.vm } : State) locs (cells + 1) (slots + 6) → (∀ (a : Addr) (cell : Cell), H[a]? = some cell → t.heap[a]? = some cell) → H.size ≤ t.heap.size → Q t) : W p l e R s m args below meth c H locs cells slots Q (F0 m pc ls st) :=
  fr_throwS (E := "java/lang/IllegalStateException") (names := ["java/lang/RuntimeException", "java/lang/Exception"]) C hsz hls (by decide +kernel) (by decide +kernel) hS (C.2.2.2.2.1 _ cl0_F_130) (C.2.2.2.2.1 _ mins_IllegalStateException) (C.2.2.2.2.1 _ mini_IllegalStateException) ⟨rfl, rfl, rfl⟩ fr_tbl_good oa_IllegalStateException hR hf1 hf2 hf3 hf4 d0 d3 d4 d6 d9 hQ
theorem gf_F_75 {p : Program} {l : Launch} {e : Env} {R : Room} {s : State} {m : MethodId} {args : Array Value} {below : List Frame} {meth : Method} {c : Code} {H : Heap} {locs : List Loc} {cells slots : Nat} {Q : State → Prop} {D : va_G} {A : Nat → Prop} {cc : ByteArray} {nL pc : Nat} {ret : Option FieldType} {hh : List ExceptionTableEntry} {ls : Array Slot} {rest : List Value} {ka : Nat → ClassId} {al : Nat → Nat} {f : Nat → Nat → Int32} {Z : va_W} (C : fr_Cx p s m args meth c "FragileRules" cc nL ret hh fr_tbl fr_nw D vwCl (fr_ty ka) A) (hP : va_P D vwCl (fr_cw ka al f Z) H) {i : Nat} (hi : i < 10) (hdg : decode cc pc = .ok (.getfield 75, 3)) (kk : W p l e R s m args below meth c H locs cells slots Q (F0 m (pc + 3) ls (.int (f 3 i) :: rest))) : W p l e R s m args below meth c H locs cells slots Q (F0 m pc ls (.ref (al (7 + i)) :: rest)) :=
  va_get (D := D) (ci := 1) (v := .int (f 3 i)) (C := "FragileRules$Unit") (T := TXU) (N := 3) C.1 C.2.1 C.2.2.2.2.1 iXU C.2.2.2.1 C.2.2.2.2.2.1 hP (7 + i) (fr_cw_u hi) rfl 2 (by decide) (C.2.2.2.2.1 _ fl_F_75) (fun _ h9 => h9) rfl hdg kk
theorem sr_8 {ka : Nat → ClassId} {al : Nat → Nat} {f : Nat → Nat → Int32} {Z : va_W} {h : Nat → Int32} : (fr_cw ka al f Z).set 3 (al 3, .inl (ka 2, 12, .inl h)) = fr_cw ka al (fr_row f 8 h) Z := by
  have hu : fr_uc al (fr_row f 8 h) = fr_uc al f := by funext i; simp [fr_uc, fr_row]
  have hr : fr_rc al (fr_row f 8 h) = fr_rc al f := by funext i; simp [fr_rc, fr_row]
  simp only [fr_cw, hu, hr]
  simp [fr_oc, fr_tc, fr_ia, fr_row]
theorem cpy_F_8 {p : Program} {l : Launch} {e : Env} {R : Room} {s : State} {m : MethodId} {args : Array Value} {below : List Frame} {meth : Method} {c : Code} {H : Heap} {locs : List Loc} {cells slots : Nat} {Q : State → Prop} {D : va_G} {A : Nat → Prop} {cc : ByteArray} {nL pc : Nat} {ret : Option FieldType} {hh : List ExceptionTableEntry} {ls : Array Slot} {rest : List Value} {ka : Nat → ClassId} {al : Nat → Nat} {f : Nat → Nat → Int32} {Z : va_W} {sp dp n : Int32} (C : fr_Cx p s m args meth c "FragileRules" cc nL ret hh fr_tbl fr_nw D vwCl (fr_ty ka) A) (hP : va_P D vwCl (fr_cw ka al f Z) H) (hD : va_D A (fr_cw ka al f Z)) (hS : va_S A s.heap H locs) (hsz : ls.size = nL) (h1 : 0 ≤ sp.toInt ∧ 0 ≤ dp.toInt ∧ 0 ≤ n.toInt ∧ sp.toInt + n.toInt ≤ 12 ∧ dp.toInt + n.toInt ≤ 12) (hR : 1 ≤ R.frames) (hL : (rest.map fun v => v.category).sum + (nativeFrameWords "java/lang/System" "arraycopy" 5 + 11) ≤ R.locals) (hdg : decode cc pc = .ok (.invokestatic 165, 3)) (kk : ∀ (H : Heap) (locs : List Loc), va_P D vwCl (fr_cw ka al (fr_row f 8 (va_cpy (fun j => f 8 j) (fun j => f 8 j) sp.toNatClampNeg dp.toNatClampNeg n.toNatClampNeg)) Z) H → va_D A (fr_cw ka al (fr_row f 8 (va_cpy (fun j => f 8 j) (fun j => f 8 j) sp.toNatClampNeg dp.toNatClampNeg n.toNatClampNeg)) Z) → va_S A s.heap H locs → W p l e R s m args below meth c H locs cells slots Q (F0 m (pc + 3) ls rest)) : W p l e R s m args below meth c H locs cells slots Q (F0 m pc ls (.int n :: .int dp :: .ref (al 3) :: .int sp :: .ref (al 3) :: rest)) := by
  have k1 := fr_clamp h1.1
  have k2 := fr_clamp h1.2.1
  have k3 := fr_clamp h1.2.2.1
  have ng : ∀ x : Int32, 0 ≤ x.toInt → ¬ x < 0 := fun x h q => by have := fr_t1 q; have z : (0 : Int32).toInt = 0 := rfl; omega
  refine va_copyi (D := D) C.1 C.2.1 (C.2.2.1.trans hsz.symm) C.2.2.2.1 (C.2.2.2.2.1 _ ac_link_F_165) (C.2.2.2.2.1 _ ac_native) (C.2.2.2.2.1 _ ac_static) (C.2.2.2.2.1 _ mini_System) C.2.2.2.2.2.1 hP hD hS 3 3 2 2 (f := fun j => f 8 j) (g := fun j => f 8 j) (ty := .int) rfl rfl rfl rfl rfl (ng _ h1.1) (ng _ h1.2.1) (ng _ h1.2.2.1) (by omega) (by omega) (fun i hi => rfl) hR hL hdg (fun H1 locs1 hP1 hD1 hS1 => ?_)
  rw [sr_8] at hP1 hD1
  exact kk H1 locs1 hP1 hD1 hS1
theorem gf_F_171 {p : Program} {l : Launch} {e : Env} {R : Room} {s : State} {m : MethodId} {args : Array Value} {below : List Frame} {meth : Method} {c : Code} {H : Heap} {locs : List Loc} {cells slots : Nat} {Q : State → Prop} {D : va_G} {A : Nat → Prop} {cc : ByteArray} {nL pc : Nat} {ret : Option FieldType} {hh : List ExceptionTableEntry} {ls : Array Slot} {rest : List Value} {ka : Nat → ClassId} {al : Nat → Nat} {f : Nat → Nat → Int32} {Z : va_W} (C : fr_Cx p s m args meth c "FragileRules" cc nL ret hh fr_tbl fr_nw D vwCl (fr_ty ka) A) (hP : va_P D vwCl (fr_cw ka al f Z) H) {i : Nat} (hi : i < 12) (hdg : decode cc pc = .ok (.getfield 171, 3)) (kk : W p l e R s m args below meth c H locs cells slots Q (F0 m (pc + 3) ls (.int (f 4 i) :: rest))) : W p l e R s m args below meth c H locs cells slots Q (F0 m pc ls (.ref (al (17 + i)) :: rest)) :=
  va_get (D := D) (ci := 2) (v := .int (f 4 i)) (C := "FragileRules$Rule") (T := TXR) (N := 4) C.1 C.2.1 C.2.2.2.2.1 iXR C.2.2.2.1 C.2.2.2.2.2.1 hP (17 + i) (fr_cw_r hi) rfl 0 (by decide) (C.2.2.2.2.1 _ fl_F_171) (fun _ h9 => h9) rfl hdg kk
theorem gf_F_174 {p : Program} {l : Launch} {e : Env} {R : Room} {s : State} {m : MethodId} {args : Array Value} {below : List Frame} {meth : Method} {c : Code} {H : Heap} {locs : List Loc} {cells slots : Nat} {Q : State → Prop} {D : va_G} {A : Nat → Prop} {cc : ByteArray} {nL pc : Nat} {ret : Option FieldType} {hh : List ExceptionTableEntry} {ls : Array Slot} {rest : List Value} {ka : Nat → ClassId} {al : Nat → Nat} {f : Nat → Nat → Int32} {Z : va_W} (C : fr_Cx p s m args meth c "FragileRules" cc nL ret hh fr_tbl fr_nw D vwCl (fr_ty ka) A) (hP : va_P D vwCl (fr_cw ka al f Z) H) {i : Nat} (hi : i < 12) (hdg : decode cc pc = .ok (.getfield 174, 3)) (kk : W p l e R s m args below meth c H locs cells slots Q (F0 m (pc + 3) ls (.int (f 5 i) :: rest))) : W p l e R s m args below meth c H locs cells slots Q (F0 m pc ls (.ref (al (17 + i)) :: rest)) :=
  va_get (D := D) (ci := 2) (v := .int (f 5 i)) (C := "FragileRules$Rule") (T := TXR) (N := 4) C.1 C.2.1 C.2.2.2.2.1 iXR C.2.2.2.1 C.2.2.2.2.2.1 hP (17 + i) (fr_cw_r hi) rfl 1 (by decide) (C.2.2.2.2.1 _ fl_F_174) (fun _ h9 => h9) rfl hdg kk
theorem gf_F_177 {p : Program} {l : Launch} {e : Env} {R : Room} {s : State} {m : MethodId} {args : Array Value} {below : List Frame} {meth : Method} {c : Code} {H : Heap} {locs : List Loc} {cells slots : Nat} {Q : State → Prop} {D : va_G} {A : Nat → Prop} {cc : ByteArray} {nL pc : Nat} {ret : Option FieldType} {hh : List ExceptionTableEntry} {ls : Array Slot} {rest : List Value} {ka : Nat → ClassId} {al : Nat → Nat} {f : Nat → Nat → Int32} {Z : va_W} (C : fr_Cx p s m args meth c "FragileRules" cc nL ret hh fr_tbl fr_nw D vwCl (fr_ty ka) A) (hP : va_P D vwCl (fr_cw ka al f Z) H) {i : Nat} (hi : i < 12) (hdg : decode cc pc = .ok (.getfield 177, 3)) (kk : W p l e R s m args below meth c H locs cells slots Q (F0 m (pc + 3) ls (.int (f 6 i) :: rest))) : W p l e R s m args below meth c H locs cells slots Q (F0 m pc ls (.ref (al (17 + i)) :: rest)) :=
  va_get (D := D) (ci := 2) (v := .int (f 6 i)) (C := "FragileRules$Rule") (T := TXR) (N := 4) C.1 C.2.1 C.2.2.2.2.1 iXR C.2.2.2.1 C.2.2.2.2.2.1 hP (17 + i) (fr_cw_r hi) rfl 2 (by decide) (C.2.2.2.2.1 _ fl_F_177) (fun _ h9 => h9) rfl hdg kk
theorem gf_F_69 {p : Program} {l : Launch} {e : Env} {R : Room} {s : State} {m : MethodId} {args : Array Value} {below : List Frame} {meth : Method} {c : Code} {H : Heap} {locs : List Loc} {cells slots : Nat} {Q : State → Prop} {D : va_G} {A : Nat → Prop} {cc : ByteArray} {nL pc : Nat} {ret : Option FieldType} {hh : List ExceptionTableEntry} {ls : Array Slot} {rest : List Value} {ka : Nat → ClassId} {al : Nat → Nat} {f : Nat → Nat → Int32} {Z : va_W} (C : fr_Cx p s m args meth c "FragileRules" cc nL ret hh fr_tbl fr_nw D vwCl (fr_ty ka) A) (hP : va_P D vwCl (fr_cw ka al f Z) H) {i : Nat} (hi : i < 10) (hdg : decode cc pc = .ok (.getfield 69, 3)) (kk : W p l e R s m args below meth c H locs cells slots Q (F0 m (pc + 3) ls (.int (f 1 i) :: rest))) : W p l e R s m args below meth c H locs cells slots Q (F0 m pc ls (.ref (al (7 + i)) :: rest)) :=
  va_get (D := D) (ci := 1) (v := .int (f 1 i)) (C := "FragileRules$Unit") (T := TXU) (N := 3) C.1 C.2.1 C.2.2.2.2.1 iXU C.2.2.2.1 C.2.2.2.2.2.1 hP (7 + i) (fr_cw_u hi) rfl 0 (by decide) (C.2.2.2.2.1 _ fl_F_69) (fun _ h9 => h9) rfl hdg kk
theorem gf_F_72 {p : Program} {l : Launch} {e : Env} {R : Room} {s : State} {m : MethodId} {args : Array Value} {below : List Frame} {meth : Method} {c : Code} {H : Heap} {locs : List Loc} {cells slots : Nat} {Q : State → Prop} {D : va_G} {A : Nat → Prop} {cc : ByteArray} {nL pc : Nat} {ret : Option FieldType} {hh : List ExceptionTableEntry} {ls : Array Slot} {rest : List Value} {ka : Nat → ClassId} {al : Nat → Nat} {f : Nat → Nat → Int32} {Z : va_W} (C : fr_Cx p s m args meth c "FragileRules" cc nL ret hh fr_tbl fr_nw D vwCl (fr_ty ka) A) (hP : va_P D vwCl (fr_cw ka al f Z) H) {i : Nat} (hi : i < 10) (hdg : decode cc pc = .ok (.getfield 72, 3)) (kk : W p l e R s m args below meth c H locs cells slots Q (F0 m (pc + 3) ls (.int (f 2 i) :: rest))) : W p l e R s m args below meth c H locs cells slots Q (F0 m pc ls (.ref (al (7 + i)) :: rest)) :=
  va_get (D := D) (ci := 1) (v := .int (f 2 i)) (C := "FragileRules$Unit") (T := TXU) (N := 3) C.1 C.2.1 C.2.2.2.2.1 iXU C.2.2.2.1 C.2.2.2.2.2.1 hP (7 + i) (fr_cw_u hi) rfl 1 (by decide) (C.2.2.2.2.1 _ fl_F_72) (fun _ h9 => h9) rfl hdg kk
end
section
def dn_within (n : Int32) (b : Int32) : Int32 := if n < 0 then 0 else (if b < n then 0 else 1)
set_option maxHeartbeats 4000000 in
set_option maxRecDepth 100000 in
theorem c_within (l : Launch) (D : va_G) (ka : Nat → ClassId) (al : Nat → Nat) (Z : va_W) (f : Nat → Nat → Int32) (n : Int32) (b : Int32) : fr_Mi l y_within (.code y_within prog_1_method_16_code 2 (some .boolean) :: fr_tbl) { frames := 0, cells := 0, slots := 0, locals := 0 } D vwCl (fr_ty ka) fr_nw [.int n, .int b] (fr_cw ka al f Z) (dn_within n b) (fr_cw ka al f Z) 0 0 := by
  refine fr_Mi.of (by decide) (Nat.le_of_ble_eq_true rfl) ?_
  intro p e s m below meth c A H locs ls C hP hD hS hl
  obtain ⟨hx, hb, hml, hown, ht, hK, hlocks, hr, hA, hN, hZ, hEx⟩ := id C
  have hl : lv_has ls 2 [(0, .int n), (1, .int b)] := hl
  refine lv_iload_n hx hb dF_isWithin_0 rfl (lv_at hl 0 rfl) ?_
  refine lv_if_lt (tgt := 13) hx hb dF_isWithin_1 (by decide) (fun c_1 => ?_) (fun c_1 => ?_)
  · skip
    refine lv_iconst (v := 0) hx hb dF_isWithin_13 (by decide) ?_
    have hd_ : dn_within n b = 0 := by rw [dn_within, if_pos c_1]
    exact fr_zret C hP hD hS hd_.symm (Or.inl rfl) dF_isWithin_14
  · skip
    refine lv_iload_n hx hb dF_isWithin_4 rfl (lv_at hl 0 rfl) ?_
    refine lv_iload_n hx hb dF_isWithin_5 rfl (lv_at hl 1 rfl) ?_
    refine lv_icmp_gt (tgt := 13) hx hb dF_isWithin_6 (by decide) (fun c_6 => ?_) (fun c_6 => ?_)
    · skip
      refine lv_iconst (v := 0) hx hb dF_isWithin_13 (by decide) ?_
      have hd_ : dn_within n b = 0 := by rw [dn_within, if_neg c_1, if_pos c_6]
      exact fr_zret C hP hD hS hd_.symm (Or.inl rfl) dF_isWithin_14
    · skip
      refine lv_iconst (v := 1) hx hb dF_isWithin_9 (by decide) ?_
      refine lv_goto (tgt := 14) hx hb dF_isWithin_10 (by decide) ?_
      have hd_ : dn_within n b = 1 := by rw [dn_within, if_neg c_1, if_neg c_6]
      exact fr_zret C hP hD hS hd_.symm (Or.inr rfl) dF_isWithin_14
theorem bz_within {n : Int32} {b : Int32} : dn_within n b = 0 ∨ dn_within n b = 1 := by
  unfold dn_within
  repeat' split
  all_goals first | exact Or.inl rfl | exact Or.inr rfl | exact bz_has
theorem fr_wi {n b : Int32} (h : ¬ dn_within n b = 0) : 0 ≤ n.toInt ∧ n.toInt ≤ b.toInt := by
  unfold dn_within at h
  split at h
  · exact absurd rfl h
  · rename_i h1
    split at h
    · exact absurd rfl h
    · rename_i h2
      have q1 := fr_t2 h1
      have q2 := fr_t2 h2
      have z : (0 : Int32).toInt = 0 := rfl
      omega

def dn_has (f : Nat → Nat → Int32) (u : Nat) (k : Int32) : Int32 := if ((f 3 u) &&& k) = 0 then 0 else 1
set_option maxHeartbeats 4000000 in
set_option maxRecDepth 100000 in
theorem c_has (l : Launch) (D : va_G) (ka : Nat → ClassId) (al : Nat → Nat) (Z : va_W) (f : Nat → Nat → Int32) (u : Nat) (k : Int32) (hu : u < 10) : fr_Mi l y_has (.code y_has prog_4_method_2_code 2 (some .boolean) :: fr_tbl) { frames := 0, cells := 0, slots := 0, locals := 0 } D vwCl (fr_ty ka) fr_nw [.ref (al (7 + u)), .int k] (fr_cw ka al f Z) (dn_has f u k) (fr_cw ka al f Z) 0 0 := by
  refine fr_Mi.of (by decide) (Nat.le_of_ble_eq_true rfl) ?_
  intro p e s m below meth c A H locs ls C hP hD hS hl
  obtain ⟨hx, hb, hml, hown, ht, hK, hlocks, hr, hA, hN, hZ, hEx⟩ := id C
  have hl : lv_has ls 2 [(0, .ref (al (7 + u))), (1, .int k)] := hl
  refine lv_aload_n hx hb dU_has_0 rfl (lv_at hl 0 rfl) ?_
  refine gf_U_16 C hP hu dU_has_1 ?_
  refine lv_iload_n hx hb dU_has_4 rfl (lv_at hl 1 rfl) ?_
  refine lv_iand hx hb dU_has_5 ?_
  refine lv_if_eq (tgt := 13) hx hb dU_has_6 (by decide) (fun c_6 => ?_) (fun c_6 => ?_)
  · skip
    refine lv_iconst (v := 0) hx hb dU_has_13 (by decide) ?_
    have hd_ : dn_has f u k = 0 := by rw [dn_has, if_pos c_6]
    exact fr_zret C hP hD hS hd_.symm (Or.inl rfl) dU_has_14
  · skip
    refine lv_iconst (v := 1) hx hb dU_has_9 (by decide) ?_
    refine lv_goto (tgt := 14) hx hb dU_has_10 (by decide) ?_
    have hd_ : dn_has f u k = 1 := by rw [dn_has, if_neg c_6]
    exact fr_zret C hP hD hS hd_.symm (Or.inr rfl) dU_has_14
theorem bz_has {f : Nat → Nat → Int32} {u : Nat} {k : Int32} : dn_has f u k = 0 ∨ dn_has f u k = 1 := by
  unfold dn_has
  repeat' split
  all_goals first | exact Or.inl rfl | exact Or.inr rfl | exact bz_has

def dn_signAt (f : Nat → Nat → Int32) (x : Int32) : Int32 := if x < 0 then (-1) else (if (f 0 5) ≤ x then (-1) else (f 10 x.toNatClampNeg))
set_option maxHeartbeats 4000000 in
set_option maxRecDepth 100000 in
theorem c_signAt (l : Launch) (D : va_G) (ka : Nat → ClassId) (al : Nat → Nat) (Z : va_W) (f : Nat → Nat → Int32) (x : Int32) (gT : 0 ≤ (f 0 5).toInt ∧ (f 0 5).toInt ≤ 200) : fr_Mi l y_signAt (.code y_signAt prog_3_method_8_code 2 (some .int) :: fr_tbl) { frames := 0, cells := 0, slots := 0, locals := 0 } D vwCl (fr_ty ka) fr_nw [.ref (al 5), .int x] (fr_cw ka al f Z) (dn_signAt f x) (fr_cw ka al f Z) 0 0 := by
  refine fr_Mi.of (by decide) (Nat.le_of_ble_eq_true rfl) ?_
  intro p e s m below meth c A H locs ls C hP hD hS hl
  obtain ⟨hx, hb, hml, hown, ht, hK, hlocks, hr, hA, hN, hZ, hEx⟩ := id C
  have hl : lv_has ls 2 [(0, .ref (al 5)), (1, .int x)] := hl
  refine lv_iload_n hx hb dT_signAt_0 rfl (lv_at hl 1 rfl) ?_
  refine lv_if_lt (tgt := 21) hx hb dT_signAt_1 (by decide) (fun c_1 => ?_) (fun c_1 => ?_)
  · skip
    refine lv_iconst (v := (-1)) hx hb dT_signAt_21 (by decide) ?_
    have hd_ : dn_signAt f x = (-1) := by rw [dn_signAt, if_pos c_1]
    exact fr_iret C hP hD hS hd_.symm dT_signAt_22
  · skip
    refine lv_iload_n hx hb dT_signAt_4 rfl (lv_at hl 1 rfl) ?_
    refine lv_aload_n hx hb dT_signAt_5 rfl (lv_at hl 0 rfl) ?_
    refine gf_T_15 C hP dT_signAt_6 ?_
    refine lv_icmp_ge (tgt := 21) hx hb dT_signAt_9 (by decide) (fun c_9 => ?_) (fun c_9 => ?_)
    · skip
      refine lv_iconst (v := (-1)) hx hb dT_signAt_21 (by decide) ?_
      have hd_ : dn_signAt f x = (-1) := by rw [dn_signAt, if_neg c_1, if_pos c_9]
      exact fr_iret C hP hD hS hd_.symm dT_signAt_22
    · skip
      refine lv_aload_n hx hb dT_signAt_12 rfl (lv_at hl 0 rfl) ?_
      refine gf_T_9 C hP dT_signAt_13 ?_
      refine lv_iload_n hx hb dT_signAt_16 rfl (lv_at hl 1 rfl) ?_
      have hin_17 : vp_in x 200 := by have q0 := fr_t2 c_1; have q1 := fr_t4 c_9; have z0 : (0 : Int32).toInt = 0 := rfl; skip; rw [vp_in_iff]; omega
      refine ald_10 C hP hin_17 dT_signAt_17 ?_
      refine lv_goto (tgt := 22) hx hb dT_signAt_18 (by decide) ?_
      have hd_ : dn_signAt f x = f 10 x.toNatClampNeg := by rw [dn_signAt, if_neg c_1, if_neg c_9]
      exact fr_iret C hP hD hS hd_.symm dT_signAt_22

theorem cl_T_26 {p : Program} {l : Launch} {e : Env} {R : Room} {s : State} {m : MethodId} {args : Array Value} {below : List Frame} {meth : Method} {c : Code} {H : Heap} {locs : List Loc} {cells slots : Nat} {Q : State → Prop} {D : va_G} {A : Nat → Prop} {cc : ByteArray} {nL pc : Nat} {ret : Option FieldType} {hh : List ExceptionTableEntry} {ls : Array Slot} {rest : List Value} {ka : Nat → ClassId} {al : Nat → Nat} {f : Nat → Nat → Int32} {Z : va_W} {x : Int32} (C : fr_Cx p s m args meth c "FragileRules$Text" cc nL ret hh fr_tbl fr_nw D vwCl (fr_ty ka) A) (hP : va_P D vwCl (fr_cw ka al f Z) H) (hD : va_D A (fr_cw ka al f Z)) (hS : va_S A s.heap H locs) (hsz : ls.size = nL) (hR : 0 + 1 ≤ R.frames ∧ 8 + (2 + 11) + 0 ≤ R.locals) (hw : (rest.map fun v => v.category).sum ≤ 8) (hf : cells + 0 ≤ R.cells ∧ slots + 0 ≤ R.slots) (gT : 0 ≤ (f 0 5).toInt ∧ (f 0 5).toInt ≤ 200) (hdg : decode cc pc = .ok (.invokevirtual 26, 3)) (kk : ∀ (H : Heap) (locs : List Loc), va_P D vwCl (fr_cw ka al f Z) H → va_D A (fr_cw ka al f Z) → va_S A s.heap H locs → W p l e R s m args below meth c H locs (cells + 0) (slots + 0) Q (F0 m (pc + 3) ls (.int (dn_signAt f x) :: rest))) : W p l e R s m args below meth c H locs cells slots Q (F0 m pc ls (.int x :: .ref (al 5) :: rest)) :=
  fr_callVi (As := [.int x]) C hP hD hS (c_signAt l D ka al Z f x gT) (cwV 1 C.2.2.2.2.1 (fr_goodV ml_T_26 mi_signAt msel_signAt mini_T mc_signAt) rfl rfl rfl (by decide +kernel) hR) (va_recv C.2.2.2.2.2.1 hP (ci := 3) (q0 := 5) rfl rfl) rfl hsz hw hdg hf kk
def dn_digitAt (f : Nat → Nat → Int32) (x : Int32) : Int32 := if (dn_signAt f x) < 48 then (-1) else (if 57 < (dn_signAt f x) then (-1) else ((dn_signAt f x) - 48))
set_option maxHeartbeats 4000000 in
set_option maxRecDepth 100000 in
theorem c_digitAt (l : Launch) (D : va_G) (ka : Nat → ClassId) (al : Nat → Nat) (Z : va_W) (f : Nat → Nat → Int32) (x : Int32) (gT : 0 ≤ (f 0 5).toInt ∧ (f 0 5).toInt ≤ 200) : fr_Mi l y_digitAt (.code y_digitAt prog_3_method_7_code 3 (some .int) :: fr_tbl) { frames := 1, cells := 0, slots := 0, locals := 21 } D vwCl (fr_ty ka) fr_nw [.ref (al 5), .int x] (fr_cw ka al f Z) (dn_digitAt f x) (fr_cw ka al f Z) 0 0 := by
  refine fr_Mi.of (by decide) (Nat.le_of_ble_eq_true rfl) ?_
  intro p e s m below meth c A H locs ls C hP hD hS hl
  obtain ⟨hx, hb, hml, hown, ht, hK, hlocks, hr, hA, hN, hZ, hEx⟩ := id C
  have hl : lv_has ls 3 [(0, .ref (al 5)), (1, .int x)] := hl
  refine lv_aload_n hx hb dT_digitAt_0 rfl (lv_at hl 0 rfl) ?_
  refine lv_iload_n hx hb dT_digitAt_1 rfl (lv_at hl 1 rfl) ?_
  refine cl_T_26 C hP hD hS hl.1 ⟨Nat.le_of_ble_eq_true rfl, Nat.le_of_ble_eq_true rfl⟩ (Nat.le_of_ble_eq_true rfl) ⟨Nat.le_of_ble_eq_true rfl, Nat.le_of_ble_eq_true rfl⟩ gT dT_digitAt_2 (fun H locs hP hD hS => ?_)
  refine lv_istore_n (lv' := [(2, .int (dn_signAt f x)), (0, .ref (al 5)), (1, .int x)]) hx hb dT_digitAt_5 rfl hl (by decide) rfl (fun ls hl => ?_)
  refine lv_iload_n hx hb dT_digitAt_6 rfl (lv_at hl 0 rfl) ?_
  refine lv_bipush (v := 48) hx hb dT_digitAt_7 (by decide) ?_
  refine lv_icmp_lt (tgt := 25) hx hb dT_digitAt_9 (by decide) (fun c_9 => ?_) (fun c_9 => ?_)
  · skip
    refine lv_iconst (v := (-1)) hx hb dT_digitAt_25 (by decide) ?_
    have hd_ : dn_digitAt f x = (-1) := by rw [dn_digitAt, if_pos c_9]
    exact fr_iret C hP hD hS hd_.symm dT_digitAt_26
  · skip
    refine lv_iload_n hx hb dT_digitAt_12 rfl (lv_at hl 0 rfl) ?_
    refine lv_bipush (v := 57) hx hb dT_digitAt_13 (by decide) ?_
    refine lv_icmp_gt (tgt := 25) hx hb dT_digitAt_15 (by decide) (fun c_15 => ?_) (fun c_15 => ?_)
    · skip
      refine lv_iconst (v := (-1)) hx hb dT_digitAt_25 (by decide) ?_
      have hd_ : dn_digitAt f x = (-1) := by rw [dn_digitAt, if_neg c_9, if_pos c_15]
      exact fr_iret C hP hD hS hd_.symm dT_digitAt_26
    · skip
      refine lv_iload_n hx hb dT_digitAt_18 rfl (lv_at hl 0 rfl) ?_
      refine lv_bipush (v := 48) hx hb dT_digitAt_19 (by decide) ?_
      refine lv_isub hx hb dT_digitAt_21 ?_
      refine lv_goto (tgt := 26) hx hb dT_digitAt_22 (by decide) ?_
      have hd_ : dn_digitAt f x = (dn_signAt f x) - 48 := by rw [dn_digitAt, if_neg c_9, if_neg c_15]
      exact fr_iret C hP hD hS hd_.symm dT_digitAt_26

def dn_rowAt (f : Nat → Nat → Int32) (x : Int32) : Int32 := if (dn_signAt f x) = 65 then 1 else (if (dn_signAt f x) = 66 then 2 else (if (dn_signAt f x) = 76 then 3 else (if (dn_signAt f x) = 78 then 0 else (-1))))
set_option maxHeartbeats 4000000 in
set_option maxRecDepth 100000 in
theorem c_rowAt (l : Launch) (D : va_G) (ka : Nat → ClassId) (al : Nat → Nat) (Z : va_W) (f : Nat → Nat → Int32) (x : Int32) (gT : 0 ≤ (f 0 5).toInt ∧ (f 0 5).toInt ≤ 200) : fr_Mi l y_rowAt (.code y_rowAt prog_3_method_5_code 2 (some .int) :: fr_tbl) { frames := 1, cells := 0, slots := 0, locals := 21 } D vwCl (fr_ty ka) fr_nw [.ref (al 5), .int x] (fr_cw ka al f Z) (dn_rowAt f x) (fr_cw ka al f Z) 0 0 := by
  refine fr_Mi.of (by decide) (Nat.le_of_ble_eq_true rfl) ?_
  intro p e s m below meth c A H locs ls C hP hD hS hl
  obtain ⟨hx, hb, hml, hown, ht, hK, hlocks, hr, hA, hN, hZ, hEx⟩ := id C
  have hl : lv_has ls 2 [(0, .ref (al 5)), (1, .int x)] := hl
  refine lv_aload_n hx hb dT_rowAt_0 rfl (lv_at hl 0 rfl) ?_
  refine lv_iload_n hx hb dT_rowAt_1 rfl (lv_at hl 1 rfl) ?_
  refine cl_T_26 C hP hD hS hl.1 ⟨Nat.le_of_ble_eq_true rfl, Nat.le_of_ble_eq_true rfl⟩ (Nat.le_of_ble_eq_true rfl) ⟨Nat.le_of_ble_eq_true rfl, Nat.le_of_ble_eq_true rfl⟩ gT dT_rowAt_2 (fun H locs hP hD hS => ?_)
  by_cases c_5_65 : (dn_signAt f x) = 65
  · skip
    refine lv_lookup (tgt := 50) hx hb dT_rowAt_5 (by decide) (by rw [c_5_65] <;> rfl) (by decide) ?_
    refine lv_iconst (v := 1) hx hb dT_rowAt_50 (by decide) ?_
    have hd_ : dn_rowAt f x = 1 := by rw [dn_rowAt, if_pos c_5_65]
    exact fr_iret C hP hD hS hd_.symm dT_rowAt_51
  · skip
    by_cases c_5_66 : (dn_signAt f x) = 66
    · skip
      refine lv_lookup (tgt := 52) hx hb dT_rowAt_5 (by decide) (by rw [c_5_66] <;> rfl) (by decide) ?_
      refine lv_iconst (v := 2) hx hb dT_rowAt_52 (by decide) ?_
      have hd_ : dn_rowAt f x = 2 := by rw [dn_rowAt, if_neg c_5_65, if_pos c_5_66]
      exact fr_iret C hP hD hS hd_.symm dT_rowAt_53
    · skip
      by_cases c_5_76 : (dn_signAt f x) = 76
      · skip
        refine lv_lookup (tgt := 54) hx hb dT_rowAt_5 (by decide) (by rw [c_5_76] <;> rfl) (by decide) ?_
        refine lv_iconst (v := 3) hx hb dT_rowAt_54 (by decide) ?_
        have hd_ : dn_rowAt f x = 3 := by rw [dn_rowAt, if_neg c_5_65, if_neg c_5_66, if_pos c_5_76]
        exact fr_iret C hP hD hS hd_.symm dT_rowAt_55
      · skip
        by_cases c_5_78 : (dn_signAt f x) = 78
        · skip
          refine lv_lookup (tgt := 48) hx hb dT_rowAt_5 (by decide) (by rw [c_5_78] <;> rfl) (by decide) ?_
          refine lv_iconst (v := 0) hx hb dT_rowAt_48 (by decide) ?_
          have hd_ : dn_rowAt f x = 0 := by rw [dn_rowAt, if_neg c_5_65, if_neg c_5_66, if_neg c_5_76, if_pos c_5_78]
          exact fr_iret C hP hD hS hd_.symm dT_rowAt_49
        · skip
          refine lv_lookup (tgt := 56) (off := 51) hx hb dT_rowAt_5 (by decide) (by show Op.lookupswitch.offset [(65, 45), (66, 47), (76, 49), (78, 43)] 51 _ = _; rw [lv_osw (k := 65) (a := 65) c_5_65 rfl, lv_osw (k := 66) (a := 66) c_5_66 rfl, lv_osw (k := 76) (a := 76) c_5_76 rfl, lv_osw (k := 78) (a := 78) c_5_78 rfl] <;> rfl) (by decide) ?_
          refine lv_iconst (v := (-1)) hx hb dT_rowAt_56 (by decide) ?_
          have hd_ : dn_rowAt f x = (-1) := by rw [dn_rowAt, if_neg c_5_65, if_neg c_5_66, if_neg c_5_76, if_neg c_5_78]
          exact fr_iret C hP hD hS hd_.symm dT_rowAt_57

theorem cl_T_29 {p : Program} {l : Launch} {e : Env} {R : Room} {s : State} {m : MethodId} {args : Array Value} {below : List Frame} {meth : Method} {c : Code} {H : Heap} {locs : List Loc} {cells slots : Nat} {Q : State → Prop} {D : va_G} {A : Nat → Prop} {cc : ByteArray} {nL pc : Nat} {ret : Option FieldType} {hh : List ExceptionTableEntry} {ls : Array Slot} {rest : List Value} {ka : Nat → ClassId} {al : Nat → Nat} {f : Nat → Nat → Int32} {Z : va_W} {x : Int32} (C : fr_Cx p s m args meth c "FragileRules$Text" cc nL ret hh fr_tbl fr_nw D vwCl (fr_ty ka) A) (hP : va_P D vwCl (fr_cw ka al f Z) H) (hD : va_D A (fr_cw ka al f Z)) (hS : va_S A s.heap H locs) (hsz : ls.size = nL) (hR : 1 + 1 ≤ R.frames ∧ 8 + (3 + 11) + 21 ≤ R.locals) (hw : (rest.map fun v => v.category).sum ≤ 8) (hf : cells + 0 ≤ R.cells ∧ slots + 0 ≤ R.slots) (gT : 0 ≤ (f 0 5).toInt ∧ (f 0 5).toInt ≤ 200) (hdg : decode cc pc = .ok (.invokevirtual 29, 3)) (kk : ∀ (H : Heap) (locs : List Loc), va_P D vwCl (fr_cw ka al f Z) H → va_D A (fr_cw ka al f Z) → va_S A s.heap H locs → W p l e R s m args below meth c H locs (cells + 0) (slots + 0) Q (F0 m (pc + 3) ls (.int (dn_digitAt f x) :: rest))) : W p l e R s m args below meth c H locs cells slots Q (F0 m pc ls (.int x :: .ref (al 5) :: rest)) :=
  fr_callVi (As := [.int x]) C hP hD hS (c_digitAt l D ka al Z f x gT) (cwV 1 C.2.2.2.2.1 (fr_goodV ml_T_29 mi_digitAt msel_digitAt mini_T mc_digitAt) rfl rfl rfl (by decide +kernel) hR) (va_recv C.2.2.2.2.2.1 hP (ci := 3) (q0 := 5) rfl rfl) rfl hsz hw hdg hf kk
def dn_numberAt (f : Nat → Nat → Int32) (x : Int32) : Int32 := if (dn_digitAt f (x + 1)) = (-1) then (dn_digitAt f x) else ((10 * (dn_digitAt f x)) + (dn_digitAt f (x + 1)))
set_option maxHeartbeats 4000000 in
set_option maxRecDepth 100000 in
theorem c_numberAt (l : Launch) (D : va_G) (ka : Nat → ClassId) (al : Nat → Nat) (Z : va_W) (f : Nat → Nat → Int32) (x : Int32) (gT : 0 ≤ (f 0 5).toInt ∧ (f 0 5).toInt ≤ 200) : fr_Mi l y_numberAt (.code y_numberAt prog_3_method_6_code 4 (some .int) :: fr_tbl) { frames := 2, cells := 0, slots := 0, locals := 43 } D vwCl (fr_ty ka) fr_nw [.ref (al 5), .int x] (fr_cw ka al f Z) (dn_numberAt f x) (fr_cw ka al f Z) 0 0 := by
  refine fr_Mi.of (by decide) (Nat.le_of_ble_eq_true rfl) ?_
  intro p e s m below meth c A H locs ls C hP hD hS hl
  obtain ⟨hx, hb, hml, hown, ht, hK, hlocks, hr, hA, hN, hZ, hEx⟩ := id C
  have hl : lv_has ls 4 [(0, .ref (al 5)), (1, .int x)] := hl
  refine lv_aload_n hx hb dT_numberAt_0 rfl (lv_at hl 0 rfl) ?_
  refine lv_iload_n hx hb dT_numberAt_1 rfl (lv_at hl 1 rfl) ?_
  refine cl_T_29 C hP hD hS hl.1 ⟨Nat.le_of_ble_eq_true rfl, Nat.le_of_ble_eq_true rfl⟩ (Nat.le_of_ble_eq_true rfl) ⟨Nat.le_of_ble_eq_true rfl, Nat.le_of_ble_eq_true rfl⟩ gT dT_numberAt_2 (fun H locs hP hD hS => ?_)
  refine lv_istore_n (lv' := [(2, .int (dn_digitAt f x)), (0, .ref (al 5)), (1, .int x)]) hx hb dT_numberAt_5 rfl hl (by decide) rfl (fun ls hl => ?_)
  refine lv_aload_n hx hb dT_numberAt_6 rfl (lv_at hl 1 rfl) ?_
  refine lv_iload_n hx hb dT_numberAt_7 rfl (lv_at hl 2 rfl) ?_
  refine lv_iconst (v := 1) hx hb dT_numberAt_8 (by decide) ?_
  refine lv_iadd hx hb dT_numberAt_9 ?_
  refine cl_T_29 C hP hD hS hl.1 ⟨Nat.le_of_ble_eq_true rfl, Nat.le_of_ble_eq_true rfl⟩ (Nat.le_of_ble_eq_true rfl) ⟨Nat.le_of_ble_eq_true rfl, Nat.le_of_ble_eq_true rfl⟩ gT dT_numberAt_10 (fun H locs hP hD hS => ?_)
  refine lv_istore_n (lv' := [(3, .int (dn_digitAt f (x + 1))), (2, .int (dn_digitAt f x)), (0, .ref (al 5)), (1, .int x)]) hx hb dT_numberAt_13 rfl hl (by decide) rfl (fun ls hl => ?_)
  refine lv_iload_n hx hb dT_numberAt_14 rfl (lv_at hl 0 rfl) ?_
  refine lv_iconst (v := (-1)) hx hb dT_numberAt_15 (by decide) ?_
  refine lv_icmp_ne (tgt := 23) hx hb dT_numberAt_16 (by decide) (fun c_16 => ?_) (fun c_16 => ?_)
  · skip
    refine lv_bipush (v := 10) hx hb dT_numberAt_23 (by decide) ?_
    refine lv_iload_n hx hb dT_numberAt_25 rfl (lv_at hl 1 rfl) ?_
    refine lv_imul hx hb dT_numberAt_26 ?_
    refine lv_iload_n hx hb dT_numberAt_27 rfl (lv_at hl 0 rfl) ?_
    refine lv_iadd hx hb dT_numberAt_28 ?_
    have hd_ : dn_numberAt f x = (10 * (dn_digitAt f x)) + (dn_digitAt f (x + 1)) := by rw [dn_numberAt, if_neg c_16]
    exact fr_iret C hP hD hS hd_.symm dT_numberAt_29
  · skip
    refine lv_iload_n hx hb dT_numberAt_19 rfl (lv_at hl 1 rfl) ?_
    refine lv_goto (tgt := 29) hx hb dT_numberAt_20 (by decide) ?_
    have hd_ : dn_numberAt f x = dn_digitAt f x := by rw [dn_numberAt, if_pos c_16]
    exact fr_iret C hP hD hS hd_.symm dT_numberAt_29

theorem cl_T_23 {p : Program} {l : Launch} {e : Env} {R : Room} {s : State} {m : MethodId} {args : Array Value} {below : List Frame} {meth : Method} {c : Code} {H : Heap} {locs : List Loc} {cells slots : Nat} {Q : State → Prop} {D : va_G} {A : Nat → Prop} {cc : ByteArray} {nL pc : Nat} {ret : Option FieldType} {hh : List ExceptionTableEntry} {ls : Array Slot} {rest : List Value} {ka : Nat → ClassId} {al : Nat → Nat} {f : Nat → Nat → Int32} {Z : va_W} {x : Int32} (C : fr_Cx p s m args meth c "FragileRules$Text" cc nL ret hh fr_tbl fr_nw D vwCl (fr_ty ka) A) (hP : va_P D vwCl (fr_cw ka al f Z) H) (hD : va_D A (fr_cw ka al f Z)) (hS : va_S A s.heap H locs) (hsz : ls.size = nL) (hR : 1 + 1 ≤ R.frames ∧ 8 + (2 + 11) + 21 ≤ R.locals) (hw : (rest.map fun v => v.category).sum ≤ 8) (hf : cells + 0 ≤ R.cells ∧ slots + 0 ≤ R.slots) (gT : 0 ≤ (f 0 5).toInt ∧ (f 0 5).toInt ≤ 200) (hdg : decode cc pc = .ok (.invokevirtual 23, 3)) (kk : ∀ (H : Heap) (locs : List Loc), va_P D vwCl (fr_cw ka al f Z) H → va_D A (fr_cw ka al f Z) → va_S A s.heap H locs → W p l e R s m args below meth c H locs (cells + 0) (slots + 0) Q (F0 m (pc + 3) ls (.int (dn_rowAt f x) :: rest))) : W p l e R s m args below meth c H locs cells slots Q (F0 m pc ls (.int x :: .ref (al 5) :: rest)) :=
  fr_callVi (As := [.int x]) C hP hD hS (c_rowAt l D ka al Z f x gT) (cwV 1 C.2.2.2.2.1 (fr_goodV ml_T_23 mi_rowAt msel_rowAt mini_T mc_rowAt) rfl rfl rfl (by decide +kernel) hR) (va_recv C.2.2.2.2.2.1 hP (ci := 3) (q0 := 5) rfl rfl) rfl hsz hw hdg hf kk
theorem cl_T_32 {p : Program} {l : Launch} {e : Env} {R : Room} {s : State} {m : MethodId} {args : Array Value} {below : List Frame} {meth : Method} {c : Code} {H : Heap} {locs : List Loc} {cells slots : Nat} {Q : State → Prop} {D : va_G} {A : Nat → Prop} {cc : ByteArray} {nL pc : Nat} {ret : Option FieldType} {hh : List ExceptionTableEntry} {ls : Array Slot} {rest : List Value} {ka : Nat → ClassId} {al : Nat → Nat} {f : Nat → Nat → Int32} {Z : va_W} {n : Int32} {b : Int32} (C : fr_Cx p s m args meth c "FragileRules$Text" cc nL ret hh fr_tbl fr_nw D vwCl (fr_ty ka) A) (hP : va_P D vwCl (fr_cw ka al f Z) H) (hD : va_D A (fr_cw ka al f Z)) (hS : va_S A s.heap H locs) (hsz : ls.size = nL) (hR : 0 + 1 ≤ R.frames ∧ 8 + (2 + 11) + 0 ≤ R.locals) (hw : (rest.map fun v => v.category).sum ≤ 8) (hf : cells + 0 ≤ R.cells ∧ slots + 0 ≤ R.slots) (hdg : decode cc pc = .ok (.invokestatic 32, 3)) (kk : ∀ (H : Heap) (locs : List Loc), va_P D vwCl (fr_cw ka al f Z) H → va_D A (fr_cw ka al f Z) → va_S A s.heap H locs → W p l e R s m args below meth c H locs (cells + 0) (slots + 0) Q (F0 m (pc + 3) ls (.int (dn_within n b) :: rest))) : W p l e R s m args below meth c H locs cells slots Q (F0 m pc ls (.int b :: .int n :: rest)) :=
  fr_callSNi (As := [.int n, .int b]) C hP hD hS (c_within l D ka al Z f n b) ⟨va_cnB 2 C.2.2.2.2.1 (fr_good mc_within) rfl rfl rfl (C.2.2.2.2.2.2.2.2.2.1 _ nst_T_32).2 (C.2.2.2.2.1 _ mini_F) (by decide +kernel) hR, C.2.2.2.2.1 _ mst_within, trivial⟩ rfl hsz hw hdg hf kk
def dn_behind (f : Nat → Nat → Int32) (x : Int32) : Int32 := if (dn_rowAt f x) = (-1) then ((-1) - x) else (if (dn_signAt f (x + 1)) = 32 then (if (dn_within (dn_digitAt f (x + 2)) 7) = 0 then ((-3) - x) else (if (dn_signAt f (x + 3)) = 32 then (if (dn_rowAt f x) = 2 then (if (dn_within (dn_digitAt f (x + 4)) 9) = 0 then ((-5) - x) else (if (dn_digitAt f (x + 4)) = 0 then (if (dn_signAt f (x + 5)) = 10 then ((x + 5) + 1) else ((-1) - (x + 5))) else (if (dn_digitAt f (x + 5)) = (-1) then (if (dn_signAt f (x + 5)) = 10 then ((x + 5) + 1) else ((-1) - (x + 5))) else (if (dn_signAt f (x + 6)) = 10 then ((x + 6) + 1) else ((-1) - (x + 6)))))) else (if (dn_rowAt f x) = 3 then (if (dn_within (dn_digitAt f (x + 4)) 9) = 0 then ((-5) - x) else (if (dn_signAt f (x + 5)) = 10 then ((x + 5) + 1) else ((-1) - (x + 5)))) else (if (dn_within (dn_digitAt f (x + 4)) 7) = 0 then ((-5) - x) else (if (dn_signAt f (x + 5)) = 10 then ((x + 5) + 1) else ((-1) - (x + 5)))))) else ((-4) - x))) else ((-2) - x))
set_option maxHeartbeats 4000000 in
set_option maxRecDepth 100000 in
theorem c_behind (l : Launch) (D : va_G) (ka : Nat → ClassId) (al : Nat → Nat) (Z : va_W) (f : Nat → Nat → Int32) (x : Int32) (gT : 0 ≤ (f 0 5).toInt ∧ (f 0 5).toInt ≤ 200) : fr_Mi l y_behind (.code y_behind prog_3_method_4_code 6 (some .int) :: fr_tbl) { frames := 2, cells := 0, slots := 0, locals := 43 } D vwCl (fr_ty ka) fr_nw [.ref (al 5), .int x] (fr_cw ka al f Z) (dn_behind f x) (fr_cw ka al f Z) 0 0 := by
  refine fr_Mi.of (by decide) (Nat.le_of_ble_eq_true rfl) ?_
  intro p e s m below meth c A H locs ls C hP hD hS hl
  obtain ⟨hx, hb, hml, hown, ht, hK, hlocks, hr, hA, hN, hZ, hEx⟩ := id C
  have hl : lv_has ls 6 [(0, .ref (al 5)), (1, .int x)] := hl
  refine lv_aload_n hx hb dT_behindLine_0 rfl (lv_at hl 0 rfl) ?_
  refine lv_iload_n hx hb dT_behindLine_1 rfl (lv_at hl 1 rfl) ?_
  refine cl_T_23 C hP hD hS hl.1 ⟨Nat.le_of_ble_eq_true rfl, Nat.le_of_ble_eq_true rfl⟩ (Nat.le_of_ble_eq_true rfl) ⟨Nat.le_of_ble_eq_true rfl, Nat.le_of_ble_eq_true rfl⟩ gT dT_behindLine_2 (fun H locs hP hD hS => ?_)
  refine lv_istore_n (lv' := [(2, .int (dn_rowAt f x)), (0, .ref (al 5)), (1, .int x)]) hx hb dT_behindLine_5 rfl hl (by decide) rfl (fun ls hl => ?_)
  refine lv_iload_n hx hb dT_behindLine_6 rfl (lv_at hl 0 rfl) ?_
  refine lv_iconst (v := (-1)) hx hb dT_behindLine_7 (by decide) ?_
  refine lv_icmp_ne (tgt := 15) hx hb dT_behindLine_8 (by decide) (fun c_8 => ?_) (fun c_8 => ?_)
  · skip
    refine lv_aload_n hx hb dT_behindLine_15 rfl (lv_at hl 1 rfl) ?_
    refine lv_iload_n hx hb dT_behindLine_16 rfl (lv_at hl 2 rfl) ?_
    refine lv_iconst (v := 1) hx hb dT_behindLine_17 (by decide) ?_
    refine lv_iadd hx hb dT_behindLine_18 ?_
    refine cl_T_26 C hP hD hS hl.1 ⟨Nat.le_of_ble_eq_true rfl, Nat.le_of_ble_eq_true rfl⟩ (Nat.le_of_ble_eq_true rfl) ⟨Nat.le_of_ble_eq_true rfl, Nat.le_of_ble_eq_true rfl⟩ gT dT_behindLine_19 (fun H locs hP hD hS => ?_)
    refine lv_bipush (v := 32) hx hb dT_behindLine_22 (by decide) ?_
    refine lv_icmp_eq (tgt := 32) hx hb dT_behindLine_24 (by decide) (fun c_24 => ?_) (fun c_24 => ?_)
    · skip
      refine lv_aload_n hx hb dT_behindLine_32 rfl (lv_at hl 1 rfl) ?_
      refine lv_iload_n hx hb dT_behindLine_33 rfl (lv_at hl 2 rfl) ?_
      refine lv_iconst (v := 2) hx hb dT_behindLine_34 (by decide) ?_
      refine lv_iadd hx hb dT_behindLine_35 ?_
      refine cl_T_29 C hP hD hS hl.1 ⟨Nat.le_of_ble_eq_true rfl, Nat.le_of_ble_eq_true rfl⟩ (Nat.le_of_ble_eq_true rfl) ⟨Nat.le_of_ble_eq_true rfl, Nat.le_of_ble_eq_true rfl⟩ gT dT_behindLine_36 (fun H locs hP hD hS => ?_)
      refine lv_bipush (v := 7) hx hb dT_behindLine_39 (by decide) ?_
      refine cl_T_32 C hP hD hS hl.1 ⟨Nat.le_of_ble_eq_true rfl, Nat.le_of_ble_eq_true rfl⟩ (Nat.le_of_ble_eq_true rfl) ⟨Nat.le_of_ble_eq_true rfl, Nat.le_of_ble_eq_true rfl⟩ dT_behindLine_41 (fun H locs hP hD hS => ?_)
      refine lv_if_ne (tgt := 52) hx hb dT_behindLine_44 (by decide) (fun c_44 => ?_) (fun c_44 => ?_)
      · skip
        refine lv_aload_n hx hb dT_behindLine_52 rfl (lv_at hl 1 rfl) ?_
        refine lv_iload_n hx hb dT_behindLine_53 rfl (lv_at hl 2 rfl) ?_
        refine lv_iconst (v := 3) hx hb dT_behindLine_54 (by decide) ?_
        refine lv_iadd hx hb dT_behindLine_55 ?_
        refine cl_T_26 C hP hD hS hl.1 ⟨Nat.le_of_ble_eq_true rfl, Nat.le_of_ble_eq_true rfl⟩ (Nat.le_of_ble_eq_true rfl) ⟨Nat.le_of_ble_eq_true rfl, Nat.le_of_ble_eq_true rfl⟩ gT dT_behindLine_56 (fun H locs hP hD hS => ?_)
        refine lv_bipush (v := 32) hx hb dT_behindLine_59 (by decide) ?_
        refine lv_icmp_eq (tgt := 69) hx hb dT_behindLine_61 (by decide) (fun c_61 => ?_) (fun c_61 => ?_)
        · skip
          refine lv_aload_n hx hb dT_behindLine_69 rfl (lv_at hl 1 rfl) ?_
          refine lv_iload_n hx hb dT_behindLine_70 rfl (lv_at hl 2 rfl) ?_
          refine lv_iconst (v := 4) hx hb dT_behindLine_71 (by decide) ?_
          refine lv_iadd hx hb dT_behindLine_72 ?_
          refine cl_T_29 C hP hD hS hl.1 ⟨Nat.le_of_ble_eq_true rfl, Nat.le_of_ble_eq_true rfl⟩ (Nat.le_of_ble_eq_true rfl) ⟨Nat.le_of_ble_eq_true rfl, Nat.le_of_ble_eq_true rfl⟩ gT dT_behindLine_73 (fun H locs hP hD hS => ?_)
          refine lv_istore_n (lv' := [(3, .int (dn_digitAt f (x + 4))), (2, .int (dn_rowAt f x)), (0, .ref (al 5)), (1, .int x)]) hx hb dT_behindLine_76 rfl hl (by decide) rfl (fun ls hl => ?_)
          refine lv_iload_n hx hb dT_behindLine_77 rfl (lv_at hl 0 rfl) ?_
          refine lv_iload_n hx hb dT_behindLine_78 rfl (lv_at hl 1 rfl) ?_
          refine lv_iconst (v := 2) hx hb dT_behindLine_79 (by decide) ?_
          refine lv_icmp_eq (tgt := 88) hx hb dT_behindLine_80 (by decide) (fun c_80 => ?_) (fun c_80 => ?_)
          · skip
            refine lv_bipush (v := 9) hx hb dT_behindLine_88 (by decide) ?_
            refine lv_goto (tgt := 95) hx hb dT_behindLine_90 (by decide) ?_
            refine cl_T_32 C hP hD hS hl.1 ⟨Nat.le_of_ble_eq_true rfl, Nat.le_of_ble_eq_true rfl⟩ (Nat.le_of_ble_eq_true rfl) ⟨Nat.le_of_ble_eq_true rfl, Nat.le_of_ble_eq_true rfl⟩ dT_behindLine_95 (fun H locs hP hD hS => ?_)
            refine lv_if_ne (tgt := 106) hx hb dT_behindLine_98 (by decide) (fun c_98 => ?_) (fun c_98 => ?_)
            · skip
              refine lv_iload_n hx hb dT_behindLine_106 rfl (lv_at hl 1 rfl) ?_
              refine lv_iconst (v := 2) hx hb dT_behindLine_107 (by decide) ?_
              refine lv_icmp_ne (tgt := 130) hx hb dT_behindLine_108 (by decide) (fun c_108 => fr_no c_80 c_108) (fun c_108 => ?_)
              refine lv_iload_n hx hb dT_behindLine_111 rfl (lv_at hl 0 rfl) ?_
              refine lv_if_eq (tgt := 130) hx hb dT_behindLine_112 (by decide) (fun c_112 => ?_) (fun c_112 => ?_)
              · skip
                refine lv_iconst (v := 0) hx hb dT_behindLine_130 (by decide) ?_
                refine lv_istore (lv' := [(4, .int 0), (3, .int (dn_digitAt f (x + 4))), (2, .int (dn_rowAt f x)), (0, .ref (al 5)), (1, .int x)]) hx hb dT_behindLine_131 hl (by decide) rfl (fun ls hl => ?_)
                refine lv_iload_n hx hb dT_behindLine_133 rfl (lv_at hl 4 rfl) ?_
                refine lv_iload hx hb dT_behindLine_134 (lv_at hl 0 rfl) ?_
                refine lv_if_eq (tgt := 144) hx hb dT_behindLine_136 (by decide) (fun c_136 => ?_) (fun c_136 => absurd c_136 (by decide))
                refine lv_iconst (v := 5) hx hb dT_behindLine_144 (by decide) ?_
                refine lv_iadd hx hb dT_behindLine_145 ?_
                refine lv_istore (lv' := [(5, .int (x + 5)), (4, .int 0), (3, .int (dn_digitAt f (x + 4))), (2, .int (dn_rowAt f x)), (0, .ref (al 5)), (1, .int x)]) hx hb dT_behindLine_146 hl (by decide) rfl (fun ls hl => ?_)
                refine lv_aload_n hx hb dT_behindLine_148 rfl (lv_at hl 4 rfl) ?_
                refine lv_iload hx hb dT_behindLine_149 (lv_at hl 0 rfl) ?_
                refine cl_T_26 C hP hD hS hl.1 ⟨Nat.le_of_ble_eq_true rfl, Nat.le_of_ble_eq_true rfl⟩ (Nat.le_of_ble_eq_true rfl) ⟨Nat.le_of_ble_eq_true rfl, Nat.le_of_ble_eq_true rfl⟩ gT dT_behindLine_151 (fun H locs hP hD hS => ?_)
                refine lv_bipush (v := 10) hx hb dT_behindLine_154 (by decide) ?_
                refine lv_icmp_ne (tgt := 166) hx hb dT_behindLine_156 (by decide) (fun c_156 => ?_) (fun c_156 => ?_)
                · skip
                  refine lv_iconst (v := (-1)) hx hb dT_behindLine_166 (by decide) ?_
                  refine lv_iload hx hb dT_behindLine_167 (lv_at hl 0 rfl) ?_
                  refine lv_isub hx hb dT_behindLine_169 ?_
                  have hd_ : dn_behind f x = (-1) - (x + 5) := by rw [dn_behind, if_neg c_8, if_pos c_24, if_neg c_44, if_pos c_61, if_pos c_80, if_neg c_98, if_pos c_112, if_neg c_156]
                  exact fr_iret C hP hD hS hd_.symm dT_behindLine_170
                · skip
                  refine lv_iload hx hb dT_behindLine_159 (lv_at hl 0 rfl) ?_
                  refine lv_iconst (v := 1) hx hb dT_behindLine_161 (by decide) ?_
                  refine lv_iadd hx hb dT_behindLine_162 ?_
                  refine lv_goto (tgt := 170) hx hb dT_behindLine_163 (by decide) ?_
                  have hd_ : dn_behind f x = (x + 5) + 1 := by rw [dn_behind, if_neg c_8, if_pos c_24, if_neg c_44, if_pos c_61, if_pos c_80, if_neg c_98, if_pos c_112, if_pos c_156]
                  exact fr_iret C hP hD hS hd_.symm dT_behindLine_170
              · skip
                refine lv_aload_n hx hb dT_behindLine_115 rfl (lv_at hl 2 rfl) ?_
                refine lv_iload_n hx hb dT_behindLine_116 rfl (lv_at hl 3 rfl) ?_
                refine lv_iconst (v := 5) hx hb dT_behindLine_117 (by decide) ?_
                refine lv_iadd hx hb dT_behindLine_118 ?_
                refine cl_T_29 C hP hD hS hl.1 ⟨Nat.le_of_ble_eq_true rfl, Nat.le_of_ble_eq_true rfl⟩ (Nat.le_of_ble_eq_true rfl) ⟨Nat.le_of_ble_eq_true rfl, Nat.le_of_ble_eq_true rfl⟩ gT dT_behindLine_119 (fun H locs hP hD hS => ?_)
                refine lv_iconst (v := (-1)) hx hb dT_behindLine_122 (by decide) ?_
                refine lv_icmp_eq (tgt := 130) hx hb dT_behindLine_123 (by decide) (fun c_123 => ?_) (fun c_123 => ?_)
                · skip
                  refine lv_iconst (v := 0) hx hb dT_behindLine_130 (by decide) ?_
                  refine lv_istore (lv' := [(4, .int 0), (3, .int (dn_digitAt f (x + 4))), (2, .int (dn_rowAt f x)), (0, .ref (al 5)), (1, .int x)]) hx hb dT_behindLine_131 hl (by decide) rfl (fun ls hl => ?_)
                  refine lv_iload_n hx hb dT_behindLine_133 rfl (lv_at hl 4 rfl) ?_
                  refine lv_iload hx hb dT_behindLine_134 (lv_at hl 0 rfl) ?_
                  refine lv_if_eq (tgt := 144) hx hb dT_behindLine_136 (by decide) (fun c_136 => ?_) (fun c_136 => absurd c_136 (by decide))
                  refine lv_iconst (v := 5) hx hb dT_behindLine_144 (by decide) ?_
                  refine lv_iadd hx hb dT_behindLine_145 ?_
                  refine lv_istore (lv' := [(5, .int (x + 5)), (4, .int 0), (3, .int (dn_digitAt f (x + 4))), (2, .int (dn_rowAt f x)), (0, .ref (al 5)), (1, .int x)]) hx hb dT_behindLine_146 hl (by decide) rfl (fun ls hl => ?_)
                  refine lv_aload_n hx hb dT_behindLine_148 rfl (lv_at hl 4 rfl) ?_
                  refine lv_iload hx hb dT_behindLine_149 (lv_at hl 0 rfl) ?_
                  refine cl_T_26 C hP hD hS hl.1 ⟨Nat.le_of_ble_eq_true rfl, Nat.le_of_ble_eq_true rfl⟩ (Nat.le_of_ble_eq_true rfl) ⟨Nat.le_of_ble_eq_true rfl, Nat.le_of_ble_eq_true rfl⟩ gT dT_behindLine_151 (fun H locs hP hD hS => ?_)
                  refine lv_bipush (v := 10) hx hb dT_behindLine_154 (by decide) ?_
                  refine lv_icmp_ne (tgt := 166) hx hb dT_behindLine_156 (by decide) (fun c_156 => ?_) (fun c_156 => ?_)
                  · skip
                    refine lv_iconst (v := (-1)) hx hb dT_behindLine_166 (by decide) ?_
                    refine lv_iload hx hb dT_behindLine_167 (lv_at hl 0 rfl) ?_
                    refine lv_isub hx hb dT_behindLine_169 ?_
                    have hd_ : dn_behind f x = (-1) - (x + 5) := by rw [dn_behind, if_neg c_8, if_pos c_24, if_neg c_44, if_pos c_61, if_pos c_80, if_neg c_98, if_neg c_112, if_pos c_123, if_neg c_156]
                    exact fr_iret C hP hD hS hd_.symm dT_behindLine_170
                  · skip
                    refine lv_iload hx hb dT_behindLine_159 (lv_at hl 0 rfl) ?_
                    refine lv_iconst (v := 1) hx hb dT_behindLine_161 (by decide) ?_
                    refine lv_iadd hx hb dT_behindLine_162 ?_
                    refine lv_goto (tgt := 170) hx hb dT_behindLine_163 (by decide) ?_
                    have hd_ : dn_behind f x = (x + 5) + 1 := by rw [dn_behind, if_neg c_8, if_pos c_24, if_neg c_44, if_pos c_61, if_pos c_80, if_neg c_98, if_neg c_112, if_pos c_123, if_pos c_156]
                    exact fr_iret C hP hD hS hd_.symm dT_behindLine_170
                · skip
                  refine lv_iconst (v := 1) hx hb dT_behindLine_126 (by decide) ?_
                  refine lv_goto (tgt := 131) hx hb dT_behindLine_127 (by decide) ?_
                  refine lv_istore (lv' := [(4, .int 1), (3, .int (dn_digitAt f (x + 4))), (2, .int (dn_rowAt f x)), (0, .ref (al 5)), (1, .int x)]) hx hb dT_behindLine_131 hl (by decide) rfl (fun ls hl => ?_)
                  refine lv_iload_n hx hb dT_behindLine_133 rfl (lv_at hl 4 rfl) ?_
                  refine lv_iload hx hb dT_behindLine_134 (lv_at hl 0 rfl) ?_
                  refine lv_if_eq (tgt := 144) hx hb dT_behindLine_136 (by decide) (fun c_136 => absurd c_136 (by decide)) (fun c_136 => ?_)
                  refine lv_bipush (v := 6) hx hb dT_behindLine_139 (by decide) ?_
                  refine lv_goto (tgt := 145) hx hb dT_behindLine_141 (by decide) ?_
                  refine lv_iadd hx hb dT_behindLine_145 ?_
                  refine lv_istore (lv' := [(5, .int (x + 6)), (4, .int 1), (3, .int (dn_digitAt f (x + 4))), (2, .int (dn_rowAt f x)), (0, .ref (al 5)), (1, .int x)]) hx hb dT_behindLine_146 hl (by decide) rfl (fun ls hl => ?_)
                  refine lv_aload_n hx hb dT_behindLine_148 rfl (lv_at hl 4 rfl) ?_
                  refine lv_iload hx hb dT_behindLine_149 (lv_at hl 0 rfl) ?_
                  refine cl_T_26 C hP hD hS hl.1 ⟨Nat.le_of_ble_eq_true rfl, Nat.le_of_ble_eq_true rfl⟩ (Nat.le_of_ble_eq_true rfl) ⟨Nat.le_of_ble_eq_true rfl, Nat.le_of_ble_eq_true rfl⟩ gT dT_behindLine_151 (fun H locs hP hD hS => ?_)
                  refine lv_bipush (v := 10) hx hb dT_behindLine_154 (by decide) ?_
                  refine lv_icmp_ne (tgt := 166) hx hb dT_behindLine_156 (by decide) (fun c_156 => ?_) (fun c_156 => ?_)
                  · skip
                    refine lv_iconst (v := (-1)) hx hb dT_behindLine_166 (by decide) ?_
                    refine lv_iload hx hb dT_behindLine_167 (lv_at hl 0 rfl) ?_
                    refine lv_isub hx hb dT_behindLine_169 ?_
                    have hd_ : dn_behind f x = (-1) - (x + 6) := by rw [dn_behind, if_neg c_8, if_pos c_24, if_neg c_44, if_pos c_61, if_pos c_80, if_neg c_98, if_neg c_112, if_neg c_123, if_neg c_156]
                    exact fr_iret C hP hD hS hd_.symm dT_behindLine_170
                  · skip
                    refine lv_iload hx hb dT_behindLine_159 (lv_at hl 0 rfl) ?_
                    refine lv_iconst (v := 1) hx hb dT_behindLine_161 (by decide) ?_
                    refine lv_iadd hx hb dT_behindLine_162 ?_
                    refine lv_goto (tgt := 170) hx hb dT_behindLine_163 (by decide) ?_
                    have hd_ : dn_behind f x = (x + 6) + 1 := by rw [dn_behind, if_neg c_8, if_pos c_24, if_neg c_44, if_pos c_61, if_pos c_80, if_neg c_98, if_neg c_112, if_neg c_123, if_pos c_156]
                    exact fr_iret C hP hD hS hd_.symm dT_behindLine_170
            · skip
              refine lv_bipush (v := (-5)) hx hb dT_behindLine_101 (by decide) ?_
              refine lv_iload_n hx hb dT_behindLine_103 rfl (lv_at hl 3 rfl) ?_
              refine lv_isub hx hb dT_behindLine_104 ?_
              have hd_ : dn_behind f x = (-5) - x := by rw [dn_behind, if_neg c_8, if_pos c_24, if_neg c_44, if_pos c_61, if_pos c_80, if_pos c_98]
              exact fr_iret C hP hD hS hd_.symm dT_behindLine_105
          · skip
            refine lv_iload_n hx hb dT_behindLine_83 rfl (lv_at hl 1 rfl) ?_
            refine lv_iconst (v := 3) hx hb dT_behindLine_84 (by decide) ?_
            refine lv_icmp_ne (tgt := 93) hx hb dT_behindLine_85 (by decide) (fun c_85 => ?_) (fun c_85 => ?_)
            · skip
              refine lv_bipush (v := 7) hx hb dT_behindLine_93 (by decide) ?_
              refine cl_T_32 C hP hD hS hl.1 ⟨Nat.le_of_ble_eq_true rfl, Nat.le_of_ble_eq_true rfl⟩ (Nat.le_of_ble_eq_true rfl) ⟨Nat.le_of_ble_eq_true rfl, Nat.le_of_ble_eq_true rfl⟩ dT_behindLine_95 (fun H locs hP hD hS => ?_)
              refine lv_if_ne (tgt := 106) hx hb dT_behindLine_98 (by decide) (fun c_98 => ?_) (fun c_98 => ?_)
              · skip
                refine lv_iload_n hx hb dT_behindLine_106 rfl (lv_at hl 1 rfl) ?_
                refine lv_iconst (v := 2) hx hb dT_behindLine_107 (by decide) ?_
                refine lv_icmp_ne (tgt := 130) hx hb dT_behindLine_108 (by decide) (fun c_108 => ?_) (fun c_108 => fr_no c_108 c_80)
                refine lv_iconst (v := 0) hx hb dT_behindLine_130 (by decide) ?_
                refine lv_istore (lv' := [(4, .int 0), (3, .int (dn_digitAt f (x + 4))), (2, .int (dn_rowAt f x)), (0, .ref (al 5)), (1, .int x)]) hx hb dT_behindLine_131 hl (by decide) rfl (fun ls hl => ?_)
                refine lv_iload_n hx hb dT_behindLine_133 rfl (lv_at hl 4 rfl) ?_
                refine lv_iload hx hb dT_behindLine_134 (lv_at hl 0 rfl) ?_
                refine lv_if_eq (tgt := 144) hx hb dT_behindLine_136 (by decide) (fun c_136 => ?_) (fun c_136 => absurd c_136 (by decide))
                refine lv_iconst (v := 5) hx hb dT_behindLine_144 (by decide) ?_
                refine lv_iadd hx hb dT_behindLine_145 ?_
                refine lv_istore (lv' := [(5, .int (x + 5)), (4, .int 0), (3, .int (dn_digitAt f (x + 4))), (2, .int (dn_rowAt f x)), (0, .ref (al 5)), (1, .int x)]) hx hb dT_behindLine_146 hl (by decide) rfl (fun ls hl => ?_)
                refine lv_aload_n hx hb dT_behindLine_148 rfl (lv_at hl 4 rfl) ?_
                refine lv_iload hx hb dT_behindLine_149 (lv_at hl 0 rfl) ?_
                refine cl_T_26 C hP hD hS hl.1 ⟨Nat.le_of_ble_eq_true rfl, Nat.le_of_ble_eq_true rfl⟩ (Nat.le_of_ble_eq_true rfl) ⟨Nat.le_of_ble_eq_true rfl, Nat.le_of_ble_eq_true rfl⟩ gT dT_behindLine_151 (fun H locs hP hD hS => ?_)
                refine lv_bipush (v := 10) hx hb dT_behindLine_154 (by decide) ?_
                refine lv_icmp_ne (tgt := 166) hx hb dT_behindLine_156 (by decide) (fun c_156 => ?_) (fun c_156 => ?_)
                · skip
                  refine lv_iconst (v := (-1)) hx hb dT_behindLine_166 (by decide) ?_
                  refine lv_iload hx hb dT_behindLine_167 (lv_at hl 0 rfl) ?_
                  refine lv_isub hx hb dT_behindLine_169 ?_
                  have hd_ : dn_behind f x = (-1) - (x + 5) := by rw [dn_behind, if_neg c_8, if_pos c_24, if_neg c_44, if_pos c_61, if_neg c_80, if_neg c_85, if_neg c_98, if_neg c_156]
                  exact fr_iret C hP hD hS hd_.symm dT_behindLine_170
                · skip
                  refine lv_iload hx hb dT_behindLine_159 (lv_at hl 0 rfl) ?_
                  refine lv_iconst (v := 1) hx hb dT_behindLine_161 (by decide) ?_
                  refine lv_iadd hx hb dT_behindLine_162 ?_
                  refine lv_goto (tgt := 170) hx hb dT_behindLine_163 (by decide) ?_
                  have hd_ : dn_behind f x = (x + 5) + 1 := by rw [dn_behind, if_neg c_8, if_pos c_24, if_neg c_44, if_pos c_61, if_neg c_80, if_neg c_85, if_neg c_98, if_pos c_156]
                  exact fr_iret C hP hD hS hd_.symm dT_behindLine_170
              · skip
                refine lv_bipush (v := (-5)) hx hb dT_behindLine_101 (by decide) ?_
                refine lv_iload_n hx hb dT_behindLine_103 rfl (lv_at hl 3 rfl) ?_
                refine lv_isub hx hb dT_behindLine_104 ?_
                have hd_ : dn_behind f x = (-5) - x := by rw [dn_behind, if_neg c_8, if_pos c_24, if_neg c_44, if_pos c_61, if_neg c_80, if_neg c_85, if_pos c_98]
                exact fr_iret C hP hD hS hd_.symm dT_behindLine_105
            · skip
              refine lv_bipush (v := 9) hx hb dT_behindLine_88 (by decide) ?_
              refine lv_goto (tgt := 95) hx hb dT_behindLine_90 (by decide) ?_
              refine cl_T_32 C hP hD hS hl.1 ⟨Nat.le_of_ble_eq_true rfl, Nat.le_of_ble_eq_true rfl⟩ (Nat.le_of_ble_eq_true rfl) ⟨Nat.le_of_ble_eq_true rfl, Nat.le_of_ble_eq_true rfl⟩ dT_behindLine_95 (fun H locs hP hD hS => ?_)
              refine lv_if_ne (tgt := 106) hx hb dT_behindLine_98 (by decide) (fun c_98 => ?_) (fun c_98 => ?_)
              · skip
                refine lv_iload_n hx hb dT_behindLine_106 rfl (lv_at hl 1 rfl) ?_
                refine lv_iconst (v := 2) hx hb dT_behindLine_107 (by decide) ?_
                refine lv_icmp_ne (tgt := 130) hx hb dT_behindLine_108 (by decide) (fun c_108 => ?_) (fun c_108 => fr_no c_108 c_80)
                refine lv_iconst (v := 0) hx hb dT_behindLine_130 (by decide) ?_
                refine lv_istore (lv' := [(4, .int 0), (3, .int (dn_digitAt f (x + 4))), (2, .int (dn_rowAt f x)), (0, .ref (al 5)), (1, .int x)]) hx hb dT_behindLine_131 hl (by decide) rfl (fun ls hl => ?_)
                refine lv_iload_n hx hb dT_behindLine_133 rfl (lv_at hl 4 rfl) ?_
                refine lv_iload hx hb dT_behindLine_134 (lv_at hl 0 rfl) ?_
                refine lv_if_eq (tgt := 144) hx hb dT_behindLine_136 (by decide) (fun c_136 => ?_) (fun c_136 => absurd c_136 (by decide))
                refine lv_iconst (v := 5) hx hb dT_behindLine_144 (by decide) ?_
                refine lv_iadd hx hb dT_behindLine_145 ?_
                refine lv_istore (lv' := [(5, .int (x + 5)), (4, .int 0), (3, .int (dn_digitAt f (x + 4))), (2, .int (dn_rowAt f x)), (0, .ref (al 5)), (1, .int x)]) hx hb dT_behindLine_146 hl (by decide) rfl (fun ls hl => ?_)
                refine lv_aload_n hx hb dT_behindLine_148 rfl (lv_at hl 4 rfl) ?_
                refine lv_iload hx hb dT_behindLine_149 (lv_at hl 0 rfl) ?_
                refine cl_T_26 C hP hD hS hl.1 ⟨Nat.le_of_ble_eq_true rfl, Nat.le_of_ble_eq_true rfl⟩ (Nat.le_of_ble_eq_true rfl) ⟨Nat.le_of_ble_eq_true rfl, Nat.le_of_ble_eq_true rfl⟩ gT dT_behindLine_151 (fun H locs hP hD hS => ?_)
                refine lv_bipush (v := 10) hx hb dT_behindLine_154 (by decide) ?_
                refine lv_icmp_ne (tgt := 166) hx hb dT_behindLine_156 (by decide) (fun c_156 => ?_) (fun c_156 => ?_)
                · skip
                  refine lv_iconst (v := (-1)) hx hb dT_behindLine_166 (by decide) ?_
                  refine lv_iload hx hb dT_behindLine_167 (lv_at hl 0 rfl) ?_
                  refine lv_isub hx hb dT_behindLine_169 ?_
                  have hd_ : dn_behind f x = (-1) - (x + 5) := by rw [dn_behind, if_neg c_8, if_pos c_24, if_neg c_44, if_pos c_61, if_neg c_80, if_pos c_85, if_neg c_98, if_neg c_156]
                  exact fr_iret C hP hD hS hd_.symm dT_behindLine_170
                · skip
                  refine lv_iload hx hb dT_behindLine_159 (lv_at hl 0 rfl) ?_
                  refine lv_iconst (v := 1) hx hb dT_behindLine_161 (by decide) ?_
                  refine lv_iadd hx hb dT_behindLine_162 ?_
                  refine lv_goto (tgt := 170) hx hb dT_behindLine_163 (by decide) ?_
                  have hd_ : dn_behind f x = (x + 5) + 1 := by rw [dn_behind, if_neg c_8, if_pos c_24, if_neg c_44, if_pos c_61, if_neg c_80, if_pos c_85, if_neg c_98, if_pos c_156]
                  exact fr_iret C hP hD hS hd_.symm dT_behindLine_170
              · skip
                refine lv_bipush (v := (-5)) hx hb dT_behindLine_101 (by decide) ?_
                refine lv_iload_n hx hb dT_behindLine_103 rfl (lv_at hl 3 rfl) ?_
                refine lv_isub hx hb dT_behindLine_104 ?_
                have hd_ : dn_behind f x = (-5) - x := by rw [dn_behind, if_neg c_8, if_pos c_24, if_neg c_44, if_pos c_61, if_neg c_80, if_pos c_85, if_pos c_98]
                exact fr_iret C hP hD hS hd_.symm dT_behindLine_105
        · skip
          refine lv_bipush (v := (-4)) hx hb dT_behindLine_64 (by decide) ?_
          refine lv_iload_n hx hb dT_behindLine_66 rfl (lv_at hl 2 rfl) ?_
          refine lv_isub hx hb dT_behindLine_67 ?_
          have hd_ : dn_behind f x = (-4) - x := by rw [dn_behind, if_neg c_8, if_pos c_24, if_neg c_44, if_neg c_61]
          exact fr_iret C hP hD hS hd_.symm dT_behindLine_68
      · skip
        refine lv_bipush (v := (-3)) hx hb dT_behindLine_47 (by decide) ?_
        refine lv_iload_n hx hb dT_behindLine_49 rfl (lv_at hl 2 rfl) ?_
        refine lv_isub hx hb dT_behindLine_50 ?_
        have hd_ : dn_behind f x = (-3) - x := by rw [dn_behind, if_neg c_8, if_pos c_24, if_pos c_44]
        exact fr_iret C hP hD hS hd_.symm dT_behindLine_51
    · skip
      refine lv_bipush (v := (-2)) hx hb dT_behindLine_27 (by decide) ?_
      refine lv_iload_n hx hb dT_behindLine_29 rfl (lv_at hl 2 rfl) ?_
      refine lv_isub hx hb dT_behindLine_30 ?_
      have hd_ : dn_behind f x = (-2) - x := by rw [dn_behind, if_neg c_8, if_neg c_24]
      exact fr_iret C hP hD hS hd_.symm dT_behindLine_31
  · skip
    refine lv_iconst (v := (-1)) hx hb dT_behindLine_11 (by decide) ?_
    refine lv_iload_n hx hb dT_behindLine_12 rfl (lv_at hl 2 rfl) ?_
    refine lv_isub hx hb dT_behindLine_13 ?_
    have hd_ : dn_behind f x = (-1) - x := by rw [dn_behind, if_pos c_8]
    exact fr_iret C hP hD hS hd_.symm dT_behindLine_14

theorem cl_T_19 {p : Program} {l : Launch} {e : Env} {R : Room} {s : State} {m : MethodId} {args : Array Value} {below : List Frame} {meth : Method} {c : Code} {H : Heap} {locs : List Loc} {cells slots : Nat} {Q : State → Prop} {D : va_G} {A : Nat → Prop} {cc : ByteArray} {nL pc : Nat} {ret : Option FieldType} {hh : List ExceptionTableEntry} {ls : Array Slot} {rest : List Value} {ka : Nat → ClassId} {al : Nat → Nat} {f : Nat → Nat → Int32} {Z : va_W} {x : Int32} (C : fr_Cx p s m args meth c "FragileRules$Text" cc nL ret hh fr_tbl fr_nw D vwCl (fr_ty ka) A) (hP : va_P D vwCl (fr_cw ka al f Z) H) (hD : va_D A (fr_cw ka al f Z)) (hS : va_S A s.heap H locs) (hsz : ls.size = nL) (hR : 2 + 1 ≤ R.frames ∧ 8 + (6 + 11) + 43 ≤ R.locals) (hw : (rest.map fun v => v.category).sum ≤ 8) (hf : cells + 0 ≤ R.cells ∧ slots + 0 ≤ R.slots) (gT : 0 ≤ (f 0 5).toInt ∧ (f 0 5).toInt ≤ 200) (hdg : decode cc pc = .ok (.invokevirtual 19, 3)) (kk : ∀ (H : Heap) (locs : List Loc), va_P D vwCl (fr_cw ka al f Z) H → va_D A (fr_cw ka al f Z) → va_S A s.heap H locs → W p l e R s m args below meth c H locs (cells + 0) (slots + 0) Q (F0 m (pc + 3) ls (.int (dn_behind f x) :: rest))) : W p l e R s m args below meth c H locs cells slots Q (F0 m pc ls (.int x :: .ref (al 5) :: rest)) :=
  fr_callVi (As := [.int x]) C hP hD hS (c_behind l D ka al Z f x gT) (cwV 1 C.2.2.2.2.1 (fr_goodV ml_T_19 mi_behind msel_behind mini_T mc_behind) rfl rfl rfl (by decide +kernel) hR) (va_recv C.2.2.2.2.2.1 hP (ci := 3) (q0 := 5) rfl rfl) rfl hsz hw hdg hf kk
def dn_wrongPlace_4 : Nat → (Nat → Nat → Int32) → (Int32) → (Int32) → Int32
  | 0, _, _, _ => 0
  | n + 1, f, x1, x2 => if 200 ≤ x2 then (-1) else (if (f 0 5) ≤ x1 then (-1) else (if 0 ≤ (dn_behind f x1) then (dn_wrongPlace_4 n f (dn_behind f x1) (x2 + 1)) else ((-1) - (dn_behind f x1))))
set_option maxHeartbeats 4000000 in
set_option maxRecDepth 100000 in
theorem k_wrongPlace_4 {p : Program} {l : Launch} {e : Env} {s : State} {m : MethodId} {below : List Frame} {meth : Method} {c : Code} {D : va_G} {A : Nat → Prop} {ka : Nat → ClassId} {al : Nat → Nat} {Z : va_W} {f : Nat → Nat → Int32} (C : fr_Cx p s m ([.ref (al 5)] : List Value).toArray meth c "FragileRules$Text" prog_3_method_2_code 4 (some .int) [] fr_tbl fr_nw D vwCl (fr_ty ka) A) (gT : 0 ≤ (f 0 5).toInt ∧ (f 0 5).toInt ≤ 200) :
    ∀ (n : Nat) (x1 : Int32) (x2 : Int32) (H : Heap) (locs : List Loc) (ls : Array Slot), 0 ≤ x2.toInt ∧ x2.toInt ≤ 200 ∧ 200 < x2.toInt + n → va_P D vwCl (fr_cw ka al f Z) H → va_D A (fr_cw ka al f Z) → va_S A s.heap H locs → lv_has ls 4 [(0, .ref (al 5)), (1, .int x1), (2, .int x2)] → W p l e { frames := 3, cells := 0, slots := 0, locals := 68 } s m ([.ref (al 5)] : List Value).toArray below meth c H locs 0 0 (MQ below (fr_Qi D vwCl (fr_ty ka) (dn_wrongPlace_4 n f x1 x2) (fr_cw ka al f Z) A) ([.ref (al 5)] : List Value).toArray s 0 0 A) (F0 m 4 ls []) := by
  obtain ⟨hx, hb, hml, hown, ht, hK, hlocks, hr, hA, hN, hZ, hEx⟩ := id C
  intro n
  induction n with
  | zero =>
    intro x1 x2 H locs ls hm hP hD hS hl
    exact absurd hm (by omega)
  | succ n ih =>
    intro x1 x2 H locs ls hm hP hD hS hl
    refine lv_iload_n hx hb dT_wrongPlace_4 rfl (lv_at hl 2 rfl) ?_
    refine lv_sipush (v := 200) hx hb dT_wrongPlace_5 (by decide) ?_
    refine lv_icmp_ge (tgt := 41) hx hb dT_wrongPlace_8 (by decide) (fun c_8 => ?_) (fun c_8 => ?_)
    · skip
      refine lv_iconst (v := (-1)) hx hb dT_wrongPlace_41 (by decide) ?_
      have hd_ : dn_wrongPlace_4 (n + 1) f x1 x2 = (-1) := by rw [dn_wrongPlace_4, if_pos c_8]
      exact fr_iret C hP hD hS hd_.symm dT_wrongPlace_42
    · skip
      refine lv_iload_n hx hb dT_wrongPlace_11 rfl (lv_at hl 1 rfl) ?_
      refine lv_aload_n hx hb dT_wrongPlace_12 rfl (lv_at hl 0 rfl) ?_
      refine gf_T_15 C hP dT_wrongPlace_13 ?_
      refine lv_icmp_ge (tgt := 41) hx hb dT_wrongPlace_16 (by decide) (fun c_16 => ?_) (fun c_16 => ?_)
      · skip
        refine lv_iconst (v := (-1)) hx hb dT_wrongPlace_41 (by decide) ?_
        have hd_ : dn_wrongPlace_4 (n + 1) f x1 x2 = (-1) := by rw [dn_wrongPlace_4, if_neg c_8, if_pos c_16]
        exact fr_iret C hP hD hS hd_.symm dT_wrongPlace_42
      · skip
        refine lv_aload_n hx hb dT_wrongPlace_19 rfl (lv_at hl 0 rfl) ?_
        refine lv_iload_n hx hb dT_wrongPlace_20 rfl (lv_at hl 1 rfl) ?_
        refine cl_T_19 C hP hD hS hl.1 ⟨Nat.le_of_ble_eq_true rfl, Nat.le_of_ble_eq_true rfl⟩ (Nat.le_of_ble_eq_true rfl) ⟨Nat.le_of_ble_eq_true rfl, Nat.le_of_ble_eq_true rfl⟩ gT dT_wrongPlace_21 (fun H locs hP hD hS => ?_)
        refine lv_istore_n (lv' := [(3, .int (dn_behind f x1)), (0, .ref (al 5)), (1, .int x1), (2, .int x2)]) hx hb dT_wrongPlace_24 rfl hl (by decide) rfl (fun ls hl => ?_)
        refine lv_iload_n hx hb dT_wrongPlace_25 rfl (lv_at hl 0 rfl) ?_
        refine lv_if_ge (tgt := 33) hx hb dT_wrongPlace_26 (by decide) (fun c_26 => ?_) (fun c_26 => ?_)
        · skip
          refine lv_iload_n hx hb dT_wrongPlace_33 rfl (lv_at hl 0 rfl) ?_
          refine lv_istore_n (lv' := [(1, .int (dn_behind f x1)), (3, .int (dn_behind f x1)), (0, .ref (al 5)), (2, .int x2)]) hx hb dT_wrongPlace_34 rfl hl (by decide) rfl (fun ls hl => ?_)
          refine lv_iinc (v := x2 + 1) (lv' := [(2, .int (x2 + 1)), (1, .int (dn_behind f x1)), (3, .int (dn_behind f x1)), (0, .ref (al 5))]) hx hb dT_wrongPlace_35 hl (k := 3) rfl rfl (by decide) rfl (fun ls hl => ?_)
          refine lv_goto (tgt := 4) hx hb dT_wrongPlace_38 (by decide) ?_
          have hd_ : dn_wrongPlace_4 (n + 1) f x1 x2 = dn_wrongPlace_4 n f (dn_behind f x1) (x2 + 1) := by rw [dn_wrongPlace_4, if_neg c_8, if_neg c_16, if_pos c_26]
          rw [hd_]
          exact ih (dn_behind f x1) (x2 + 1) H locs ls (fr_step (B := 200) rfl c_8 hm) hP hD hS (lv_sub hl [3, 1, 0] rfl)
        · skip
          refine lv_iconst (v := (-1)) hx hb dT_wrongPlace_29 (by decide) ?_
          refine lv_iload_n hx hb dT_wrongPlace_30 rfl (lv_at hl 0 rfl) ?_
          refine lv_isub hx hb dT_wrongPlace_31 ?_
          have hd_ : dn_wrongPlace_4 (n + 1) f x1 x2 = (-1) - (dn_behind f x1) := by rw [dn_wrongPlace_4, if_neg c_8, if_neg c_16, if_neg c_26]
          exact fr_iret C hP hD hS hd_.symm dT_wrongPlace_32
def dn_wrongPlace (f : Nat → Nat → Int32)  : Int32 := dn_wrongPlace_4 201 f 0 0
set_option maxHeartbeats 4000000 in
set_option maxRecDepth 100000 in
theorem c_wrongPlace (l : Launch) (D : va_G) (ka : Nat → ClassId) (al : Nat → Nat) (Z : va_W) (f : Nat → Nat → Int32)  (gT : 0 ≤ (f 0 5).toInt ∧ (f 0 5).toInt ≤ 200) : fr_Mi l y_wrongPlace (.code y_wrongPlace prog_3_method_2_code 4 (some .int) :: fr_tbl) { frames := 3, cells := 0, slots := 0, locals := 68 } D vwCl (fr_ty ka) fr_nw [.ref (al 5)] (fr_cw ka al f Z) (dn_wrongPlace f) (fr_cw ka al f Z) 0 0 := by
  refine fr_Mi.of (by decide) (Nat.le_of_ble_eq_true rfl) ?_
  intro p e s m below meth c A H locs ls C hP hD hS hl
  obtain ⟨hx, hb, hml, hown, ht, hK, hlocks, hr, hA, hN, hZ, hEx⟩ := id C
  have hl : lv_has ls 4 [(0, .ref (al 5))] := hl
  refine lv_iconst (v := 0) hx hb dT_wrongPlace_0 (by decide) ?_
  refine lv_istore_n (lv' := [(1, .int 0), (0, .ref (al 5))]) hx hb dT_wrongPlace_1 rfl hl (by decide) rfl (fun ls hl => ?_)
  refine lv_iconst (v := 0) hx hb dT_wrongPlace_2 (by decide) ?_
  refine lv_istore_n (lv' := [(2, .int 0), (1, .int 0), (0, .ref (al 5))]) hx hb dT_wrongPlace_3 rfl hl (by decide) rfl (fun ls hl => ?_)
  have hd_ : dn_wrongPlace f = dn_wrongPlace_4 201 f 0 0 := by rw [dn_wrongPlace]
  rw [hd_]
  exact k_wrongPlace_4 C gT 201 0 0 H locs ls (⟨by decide, by decide, by decide⟩) hP hD hS (lv_sub hl [2, 1, 0] rfl)

def dn_lineCount_4 : Nat → (Nat → Nat → Int32) → (Int32) → (Int32) → Int32
  | 0, _, _, _ => 0
  | n + 1, f, x1, x2 => if (f 0 5) ≤ x2 then x1 else (if (f 10 x2.toNatClampNeg) = 10 then (dn_lineCount_4 n f (x1 + 1) (x2 + 1)) else (dn_lineCount_4 n f x1 (x2 + 1)))
set_option maxHeartbeats 4000000 in
set_option maxRecDepth 100000 in
theorem k_lineCount_4 {p : Program} {l : Launch} {e : Env} {s : State} {m : MethodId} {below : List Frame} {meth : Method} {c : Code} {D : va_G} {A : Nat → Prop} {ka : Nat → ClassId} {al : Nat → Nat} {Z : va_W} {f : Nat → Nat → Int32} (C : fr_Cx p s m ([.ref (al 5)] : List Value).toArray meth c "FragileRules$Text" prog_3_method_3_code 3 (some .int) [] fr_tbl fr_nw D vwCl (fr_ty ka) A) (gT : 0 ≤ (f 0 5).toInt ∧ (f 0 5).toInt ≤ 200) :
    ∀ (n : Nat) (x1 : Int32) (x2 : Int32) (H : Heap) (locs : List Loc) (ls : Array Slot), 0 ≤ x2.toInt ∧ x2.toInt ≤ (f 0 5).toInt ∧ (f 0 5).toInt < x2.toInt + n → va_P D vwCl (fr_cw ka al f Z) H → va_D A (fr_cw ka al f Z) → va_S A s.heap H locs → lv_has ls 3 [(0, .ref (al 5)), (1, .int x1), (2, .int x2)] → W p l e { frames := 0, cells := 0, slots := 0, locals := 0 } s m ([.ref (al 5)] : List Value).toArray below meth c H locs 0 0 (MQ below (fr_Qi D vwCl (fr_ty ka) (dn_lineCount_4 n f x1 x2) (fr_cw ka al f Z) A) ([.ref (al 5)] : List Value).toArray s 0 0 A) (F0 m 4 ls []) := by
  obtain ⟨hx, hb, hml, hown, ht, hK, hlocks, hr, hA, hN, hZ, hEx⟩ := id C
  intro n
  induction n with
  | zero =>
    intro x1 x2 H locs ls hm hP hD hS hl
    exact absurd hm (by omega)
  | succ n ih =>
    intro x1 x2 H locs ls hm hP hD hS hl
    refine lv_iload_n hx hb dT_lineCount_4 rfl (lv_at hl 2 rfl) ?_
    refine lv_aload_n hx hb dT_lineCount_5 rfl (lv_at hl 0 rfl) ?_
    refine gf_T_15 C hP dT_lineCount_6 ?_
    refine lv_icmp_ge (tgt := 32) hx hb dT_lineCount_9 (by decide) (fun c_9 => ?_) (fun c_9 => ?_)
    · skip
      refine lv_iload_n hx hb dT_lineCount_32 rfl (lv_at hl 1 rfl) ?_
      have hd_ : dn_lineCount_4 (n + 1) f x1 x2 = x1 := by rw [dn_lineCount_4, if_pos c_9]
      exact fr_iret C hP hD hS hd_.symm dT_lineCount_33
    · skip
      refine lv_aload_n hx hb dT_lineCount_12 rfl (lv_at hl 0 rfl) ?_
      refine gf_T_9 C hP dT_lineCount_13 ?_
      refine lv_iload_n hx hb dT_lineCount_16 rfl (lv_at hl 2 rfl) ?_
      have hin_17 : vp_in x2 200 := by have q0 := fr_t4 c_9; have e0 := hm; have e1 := gT; skip; rw [vp_in_iff]; omega
      refine ald_10 C hP hin_17 dT_lineCount_17 ?_
      refine lv_bipush (v := 10) hx hb dT_lineCount_18 (by decide) ?_
      refine lv_icmp_ne (tgt := 26) hx hb dT_lineCount_20 (by decide) (fun c_20 => ?_) (fun c_20 => ?_)
      · skip
        refine lv_iinc (v := x2 + 1) (lv' := [(2, .int (x2 + 1)), (0, .ref (al 5)), (1, .int x1)]) hx hb dT_lineCount_26 hl (k := 2) rfl rfl (by decide) rfl (fun ls hl => ?_)
        refine lv_goto (tgt := 4) hx hb dT_lineCount_29 (by decide) ?_
        have hd_ : dn_lineCount_4 (n + 1) f x1 x2 = dn_lineCount_4 n f x1 (x2 + 1) := by rw [dn_lineCount_4, if_neg c_9, if_neg c_20]
        rw [hd_]
        exact ih x1 (x2 + 1) H locs ls (fr_step rfl c_9 hm) hP hD hS (lv_sub hl [1, 2, 0] rfl)
      · skip
        refine lv_iinc (v := x1 + 1) (lv' := [(1, .int (x1 + 1)), (0, .ref (al 5)), (2, .int x2)]) hx hb dT_lineCount_23 hl (k := 1) rfl rfl (by decide) rfl (fun ls hl => ?_)
        refine lv_iinc (v := x2 + 1) (lv' := [(2, .int (x2 + 1)), (1, .int (x1 + 1)), (0, .ref (al 5))]) hx hb dT_lineCount_26 hl (k := 2) rfl rfl (by decide) rfl (fun ls hl => ?_)
        refine lv_goto (tgt := 4) hx hb dT_lineCount_29 (by decide) ?_
        have hd_ : dn_lineCount_4 (n + 1) f x1 x2 = dn_lineCount_4 n f (x1 + 1) (x2 + 1) := by rw [dn_lineCount_4, if_neg c_9, if_pos c_20]
        rw [hd_]
        exact ih (x1 + 1) (x2 + 1) H locs ls (fr_step rfl c_9 hm) hP hD hS (lv_sub hl [2, 1, 0] rfl)
def dn_lineCount (f : Nat → Nat → Int32)  : Int32 := dn_lineCount_4 201 f 0 0
set_option maxHeartbeats 4000000 in
set_option maxRecDepth 100000 in
theorem c_lineCount (l : Launch) (D : va_G) (ka : Nat → ClassId) (al : Nat → Nat) (Z : va_W) (f : Nat → Nat → Int32)  (gT : 0 ≤ (f 0 5).toInt ∧ (f 0 5).toInt ≤ 200) : fr_Mi l y_lineCount (.code y_lineCount prog_3_method_3_code 3 (some .int) :: fr_tbl) { frames := 0, cells := 0, slots := 0, locals := 0 } D vwCl (fr_ty ka) fr_nw [.ref (al 5)] (fr_cw ka al f Z) (dn_lineCount f) (fr_cw ka al f Z) 0 0 := by
  refine fr_Mi.of (by decide) (Nat.le_of_ble_eq_true rfl) ?_
  intro p e s m below meth c A H locs ls C hP hD hS hl
  obtain ⟨hx, hb, hml, hown, ht, hK, hlocks, hr, hA, hN, hZ, hEx⟩ := id C
  have hl : lv_has ls 3 [(0, .ref (al 5))] := hl
  refine lv_iconst (v := 0) hx hb dT_lineCount_0 (by decide) ?_
  refine lv_istore_n (lv' := [(1, .int 0), (0, .ref (al 5))]) hx hb dT_lineCount_1 rfl hl (by decide) rfl (fun ls hl => ?_)
  refine lv_iconst (v := 0) hx hb dT_lineCount_2 (by decide) ?_
  refine lv_istore_n (lv' := [(2, .int 0), (1, .int 0), (0, .ref (al 5))]) hx hb dT_lineCount_3 rfl hl (by decide) rfl (fun ls hl => ?_)
  have hd_ : dn_lineCount f = dn_lineCount_4 201 f 0 0 := by rw [dn_lineCount]
  rw [hd_]
  exact k_lineCount_4 C gT 201 0 0 H locs ls (fr_start gT (by decide)) hP hD hS (lv_sub hl [2, 1, 0] rfl)
theorem fr_lc {f : Nat → Nat → Int32} : ∀ (n : Nat) (x1 x2 : Int32), 0 ≤ x1.toInt → x1.toInt ≤ x2.toInt → (f 0 5).toInt ≤ 200 → 0 ≤ (dn_lineCount_4 n f x1 x2).toInt := by
  intro n
  induction n with
  | zero => intro x1 x2 h1 h2 h3; exact Int.le_refl _
  | succ n ih =>
    intro x1 x2 h1 h2 h3
    rw [dn_lineCount_4]
    split
    · exact h1
    · rename_i c1
      have q1 := fr_t4 c1
      have q2 := fr_add1 (x := x2) (by omega) (by omega)
      have q3 := fr_add1 (x := x1) h1 (by omega)
      split
      · exact ih _ _ (by omega) (by omega) h3
      · exact ih _ _ h1 (by omega) h3
theorem fr_rd {f : Nat → Nat → Int32} (gT : 0 ≤ (f 0 5).toInt ∧ (f 0 5).toInt ≤ 200) (gR : 0 ≤ (f 0 1).toInt ∧ (f 0 1).toInt ≤ 12) (c : ¬ 12 - f 0 1 < dn_lineCount f) : 0 ≤ (f 0 1).toInt ∧ (f 0 1).toInt + (dn_lineCount f).toInt ≤ 12 ∧ 0 ≤ (dn_lineCount f).toInt := by
  have h1 : 0 ≤ (dn_lineCount f).toInt := fr_lc 201 0 0 (Int.le_refl _) (Int.le_refl _) gT.2
  have h2 := fr_t2 c
  have h3 : (12 - f 0 1).toInt = 12 - (f 0 1).toInt := by
    rw [Int32.toInt_sub, show (12 : Int32).toInt = 12 from rfl, Int.bmod_def]
    split <;> omega
  omega
end
section
def dn_isUnit (f : Nat → Nat → Int32) (x : Int32) : Int32 := if x < 0 then 0 else (if (f 0 0) ≤ x then 0 else 1)
set_option maxHeartbeats 4000000 in
set_option maxRecDepth 100000 in
theorem c_isUnit (l : Launch) (D : va_G) (ka : Nat → ClassId) (al : Nat → Nat) (Z : va_W) (f : Nat → Nat → Int32) (x : Int32) : fr_Mi l y_isUnit (.code y_isUnit prog_1_method_19_code 2 (some .boolean) :: fr_tbl) { frames := 0, cells := 0, slots := 0, locals := 0 } D vwCl (fr_ty ka) fr_nw [.ref (al 0), .int x] (fr_cw ka al f Z) (dn_isUnit f x) (fr_cw ka al f Z) 0 0 := by
  refine fr_Mi.of (by decide) (Nat.le_of_ble_eq_true rfl) ?_
  intro p e s m below meth c A H locs ls C hP hD hS hl
  obtain ⟨hx, hb, hml, hown, ht, hK, hlocks, hr, hA, hN, hZ, hEx⟩ := id C
  have hl : lv_has ls 2 [(0, .ref (al 0)), (1, .int x)] := hl
  refine lv_iload_n hx hb dF_isUnit_0 rfl (lv_at hl 1 rfl) ?_
  refine lv_if_lt (tgt := 16) hx hb dF_isUnit_1 (by decide) (fun c_1 => ?_) (fun c_1 => ?_)
  · skip
    refine lv_iconst (v := 0) hx hb dF_isUnit_16 (by decide) ?_
    have hd_ : dn_isUnit f x = 0 := by rw [dn_isUnit, if_pos c_1]
    exact fr_zret C hP hD hS hd_.symm (Or.inl rfl) dF_isUnit_17
  · skip
    refine lv_iload_n hx hb dF_isUnit_4 rfl (lv_at hl 1 rfl) ?_
    refine lv_aload_n hx hb dF_isUnit_5 rfl (lv_at hl 0 rfl) ?_
    refine gf_F_15 C hP dF_isUnit_6 ?_
    refine lv_icmp_ge (tgt := 16) hx hb dF_isUnit_9 (by decide) (fun c_9 => ?_) (fun c_9 => ?_)
    · skip
      refine lv_iconst (v := 0) hx hb dF_isUnit_16 (by decide) ?_
      have hd_ : dn_isUnit f x = 0 := by rw [dn_isUnit, if_neg c_1, if_pos c_9]
      exact fr_zret C hP hD hS hd_.symm (Or.inl rfl) dF_isUnit_17
    · skip
      refine lv_iconst (v := 1) hx hb dF_isUnit_12 (by decide) ?_
      refine lv_goto (tgt := 17) hx hb dF_isUnit_13 (by decide) ?_
      have hd_ : dn_isUnit f x = 1 := by rw [dn_isUnit, if_neg c_1, if_neg c_9]
      exact fr_zret C hP hD hS hd_.symm (Or.inr rfl) dF_isUnit_17
theorem bz_isUnit {f : Nat → Nat → Int32} {x : Int32} : dn_isUnit f x = 0 ∨ dn_isUnit f x = 1 := by
  unfold dn_isUnit
  repeat' split
  all_goals first | exact Or.inl rfl | exact Or.inr rfl | exact bz_has
theorem fr_isU {f : Nat → Nat → Int32} {x : Int32} (h : ¬ dn_isUnit f x = 0) : 0 ≤ x.toInt ∧ x.toInt < (f 0 0).toInt := by
  unfold dn_isUnit at h
  split at h
  · exact absurd rfl h
  · rename_i h1
    split at h
    · exact absurd rfl h
    · rename_i h2
      have q1 := fr_t2 h1
      have q2 := fr_t4 h2
      have z : (0 : Int32).toInt = 0 := rfl
      omega

def dn_isRuleNumber (f : Nat → Nat → Int32) (x : Int32) : Int32 := if x < 1 then 0 else (if (f 0 1) < x then 0 else 1)
set_option maxHeartbeats 4000000 in
set_option maxRecDepth 100000 in
theorem c_isRuleNumber (l : Launch) (D : va_G) (ka : Nat → ClassId) (al : Nat → Nat) (Z : va_W) (f : Nat → Nat → Int32) (x : Int32) : fr_Mi l y_isRuleNumber (.code y_isRuleNumber prog_1_method_20_code 2 (some .boolean) :: fr_tbl) { frames := 0, cells := 0, slots := 0, locals := 0 } D vwCl (fr_ty ka) fr_nw [.ref (al 0), .int x] (fr_cw ka al f Z) (dn_isRuleNumber f x) (fr_cw ka al f Z) 0 0 := by
  refine fr_Mi.of (by decide) (Nat.le_of_ble_eq_true rfl) ?_
  intro p e s m below meth c A H locs ls C hP hD hS hl
  obtain ⟨hx, hb, hml, hown, ht, hK, hlocks, hr, hA, hN, hZ, hEx⟩ := id C
  have hl : lv_has ls 2 [(0, .ref (al 0)), (1, .int x)] := hl
  refine lv_iload_n hx hb dF_isRuleNumber_0 rfl (lv_at hl 1 rfl) ?_
  refine lv_iconst (v := 1) hx hb dF_isRuleNumber_1 (by decide) ?_
  refine lv_icmp_lt (tgt := 17) hx hb dF_isRuleNumber_2 (by decide) (fun c_2 => ?_) (fun c_2 => ?_)
  · skip
    refine lv_iconst (v := 0) hx hb dF_isRuleNumber_17 (by decide) ?_
    have hd_ : dn_isRuleNumber f x = 0 := by rw [dn_isRuleNumber, if_pos c_2]
    exact fr_zret C hP hD hS hd_.symm (Or.inl rfl) dF_isRuleNumber_18
  · skip
    refine lv_iload_n hx hb dF_isRuleNumber_5 rfl (lv_at hl 1 rfl) ?_
    refine lv_aload_n hx hb dF_isRuleNumber_6 rfl (lv_at hl 0 rfl) ?_
    refine gf_F_25 C hP dF_isRuleNumber_7 ?_
    refine lv_icmp_gt (tgt := 17) hx hb dF_isRuleNumber_10 (by decide) (fun c_10 => ?_) (fun c_10 => ?_)
    · skip
      refine lv_iconst (v := 0) hx hb dF_isRuleNumber_17 (by decide) ?_
      have hd_ : dn_isRuleNumber f x = 0 := by rw [dn_isRuleNumber, if_neg c_2, if_pos c_10]
      exact fr_zret C hP hD hS hd_.symm (Or.inl rfl) dF_isRuleNumber_18
    · skip
      refine lv_iconst (v := 1) hx hb dF_isRuleNumber_13 (by decide) ?_
      refine lv_goto (tgt := 18) hx hb dF_isRuleNumber_14 (by decide) ?_
      have hd_ : dn_isRuleNumber f x = 1 := by rw [dn_isRuleNumber, if_neg c_2, if_neg c_10]
      exact fr_zret C hP hD hS hd_.symm (Or.inr rfl) dF_isRuleNumber_18
theorem bz_isRuleNumber {f : Nat → Nat → Int32} {x : Int32} : dn_isRuleNumber f x = 0 ∨ dn_isRuleNumber f x = 1 := by
  unfold dn_isRuleNumber
  repeat' split
  all_goals first | exact Or.inl rfl | exact Or.inr rfl | exact bz_has
theorem fr_isR {f : Nat → Nat → Int32} {x : Int32} (h : ¬ dn_isRuleNumber f x = 0) : 1 ≤ x.toInt ∧ x.toInt ≤ (f 0 1).toInt := by
  unfold dn_isRuleNumber at h
  split at h
  · exact absurd rfl h
  · rename_i h1
    split at h
    · exact absurd rfl h
    · rename_i h2
      have q1 := fr_t2 h1
      have q2 := fr_t2 h2
      have z : (1 : Int32).toInt = 1 := rfl
      omega
theorem fr_or1 {f : Nat → Nat → Int32} {x : Int32} (gR : 0 ≤ (f 0 1).toInt ∧ (f 0 1).toInt ≤ 12) (h : ¬ dn_isRuleNumber f x = 0) : 1 ≤ (f 0 1).toInt ∧ (f 0 1).toInt ≤ 12 := by
  have := fr_isR h
  omega

def dn_asking (f : Nat → Nat → Int32) (q : Nat) : Int32 := if (f 4 q) = 1 then 1 else (if (f 4 q) = 4 then 2 else (if (f 4 q) = 5 then (if (f 5 q) = 2 then 1 else 0) else 0))
set_option maxHeartbeats 4000000 in
set_option maxRecDepth 100000 in
theorem c_asking (l : Launch) (D : va_G) (ka : Nat → ClassId) (al : Nat → Nat) (Z : va_W) (f : Nat → Nat → Int32) (q : Nat) (hq : q < 12) : fr_Mi l y_asking (.code y_asking prog_2_method_2_code 1 (some .int) :: fr_tbl) { frames := 0, cells := 0, slots := 0, locals := 0 } D vwCl (fr_ty ka) fr_nw [.ref (al (17 + q))] (fr_cw ka al f Z) (dn_asking f q) (fr_cw ka al f Z) 0 0 := by
  refine fr_Mi.of (by decide) (Nat.le_of_ble_eq_true rfl) ?_
  intro p e s m below meth c A H locs ls C hP hD hS hl
  obtain ⟨hx, hb, hml, hown, ht, hK, hlocks, hr, hA, hN, hZ, hEx⟩ := id C
  have hl : lv_has ls 1 [(0, .ref (al (17 + q)))] := hl
  refine lv_aload_n hx hb dR_asking_0 rfl (lv_at hl 0 rfl) ?_
  refine gf_R_9 C hP hq dR_asking_1 ?_
  by_cases c_4_1 : (f 4 q) = 1
  · skip
    refine lv_tableIn (tgt := 40) hx hb dR_asking_4 (by rw [c_4_1]; decide) (by rw [c_4_1]; decide) (by rw [c_4_1] <;> rfl) (by decide) ?_
    refine lv_iconst (v := 1) hx hb dR_asking_40 (by decide) ?_
    have hd_ : dn_asking f q = 1 := by rw [dn_asking, if_pos c_4_1]
    exact fr_iret C hP hD hS hd_.symm dR_asking_41
  · skip
    by_cases c_4_4 : (f 4 q) = 4
    · skip
      refine lv_tableIn (tgt := 42) hx hb dR_asking_4 (by rw [c_4_4]; decide) (by rw [c_4_4]; decide) (by rw [c_4_4] <;> rfl) (by decide) ?_
      refine lv_iconst (v := 2) hx hb dR_asking_42 (by decide) ?_
      have hd_ : dn_asking f q = 2 := by rw [dn_asking, if_neg c_4_1, if_pos c_4_4]
      exact fr_iret C hP hD hS hd_.symm dR_asking_43
    · skip
      by_cases c_4_5 : (f 4 q) = 5
      · skip
        refine lv_tableIn (tgt := 44) hx hb dR_asking_4 (by rw [c_4_5]; decide) (by rw [c_4_5]; decide) (by rw [c_4_5] <;> rfl) (by decide) ?_
        refine lv_aload_n hx hb dR_asking_44 rfl (lv_at hl 0 rfl) ?_
        refine gf_R_15 C hP hq dR_asking_45 ?_
        refine lv_iconst (v := 2) hx hb dR_asking_48 (by decide) ?_
        refine lv_icmp_ne (tgt := 56) hx hb dR_asking_49 (by decide) (fun c_49 => ?_) (fun c_49 => ?_)
        · skip
          refine lv_iconst (v := 0) hx hb dR_asking_56 (by decide) ?_
          have hd_ : dn_asking f q = 0 := by rw [dn_asking, if_neg c_4_1, if_neg c_4_4, if_pos c_4_5, if_neg c_49]
          exact fr_iret C hP hD hS hd_.symm dR_asking_57
        · skip
          refine lv_iconst (v := 1) hx hb dR_asking_52 (by decide) ?_
          refine lv_goto (tgt := 57) hx hb dR_asking_53 (by decide) ?_
          have hd_ : dn_asking f q = 1 := by rw [dn_asking, if_neg c_4_1, if_neg c_4_4, if_pos c_4_5, if_pos c_49]
          exact fr_iret C hP hD hS hd_.symm dR_asking_57
      · skip
        have hdef : W p l e { frames := 0, cells := 0, slots := 0, locals := 0 } s m ([.ref (al (17 + q))] : List Value).toArray below meth c H locs 0 0 (MQ below (fr_Qi D vwCl (fr_ty ka) (dn_asking f q) (fr_cw ka al f Z) A) ([.ref (al (17 + q))] : List Value).toArray s 0 0 A) (F0 m 58 ls []) := by
          refine lv_iconst (v := 0) hx hb dR_asking_58 (by decide) ?_
          have hd_ : dn_asking f q = 0 := by rw [dn_asking, if_neg c_4_1, if_neg c_4_4, if_neg c_4_5]
          exact fr_iret C hP hD hS hd_.symm dR_asking_59
        by_cases c_4_g2 : (f 4 q) = 2
        · exact lv_tableIn (tgt := 58) hx hb dR_asking_4 (by rw [c_4_g2]; decide) (by rw [c_4_g2]; decide) (by rw [c_4_g2] <;> rfl) (by decide) hdef
        by_cases c_4_g3 : (f 4 q) = 3
        · exact lv_tableIn (tgt := 58) hx hb dR_asking_4 (by rw [c_4_g3]; decide) (by rw [c_4_g3]; decide) (by rw [c_4_g3] <;> rfl) (by decide) hdef
        exact lv_tableOut (tgt := 58) hx hb dR_asking_4 (by have h0 := fr_ne (k := 1) (a := 1) rfl c_4_1; have h1 := fr_ne (k := 4) (a := 4) rfl c_4_4; have h2 := fr_ne (k := 5) (a := 5) rfl c_4_5; have h3 := fr_ne (k := 2) (a := 2) rfl c_4_g2; have h4 := fr_ne (k := 3) (a := 3) rfl c_4_g3; omega) (by decide) hdef

theorem cl_R_32 {p : Program} {l : Launch} {e : Env} {R : Room} {s : State} {m : MethodId} {args : Array Value} {below : List Frame} {meth : Method} {c : Code} {H : Heap} {locs : List Loc} {cells slots : Nat} {Q : State → Prop} {D : va_G} {A : Nat → Prop} {cc : ByteArray} {nL pc : Nat} {ret : Option FieldType} {hh : List ExceptionTableEntry} {ls : Array Slot} {rest : List Value} {ka : Nat → ClassId} {al : Nat → Nat} {f : Nat → Nat → Int32} {Z : va_W} {u : Nat} {k : Int32} (C : fr_Cx p s m args meth c "FragileRules$Rule" cc nL ret hh fr_tbl fr_nw D vwCl (fr_ty ka) A) (hP : va_P D vwCl (fr_cw ka al f Z) H) (hD : va_D A (fr_cw ka al f Z)) (hS : va_S A s.heap H locs) (hsz : ls.size = nL) (hR : 0 + 1 ≤ R.frames ∧ 8 + (2 + 11) + 0 ≤ R.locals) (hw : (rest.map fun v => v.category).sum ≤ 8) (hf : cells + 0 ≤ R.cells ∧ slots + 0 ≤ R.slots) (hu : u < 10) (hdg : decode cc pc = .ok (.invokevirtual 32, 3)) (kk : ∀ (H : Heap) (locs : List Loc), va_P D vwCl (fr_cw ka al f Z) H → va_D A (fr_cw ka al f Z) → va_S A s.heap H locs → W p l e R s m args below meth c H locs (cells + 0) (slots + 0) Q (F0 m (pc + 3) ls (.int (dn_has f u k) :: rest))) : W p l e R s m args below meth c H locs cells slots Q (F0 m pc ls (.int k :: .ref (al (7 + u)) :: rest)) :=
  fr_callVi (As := [.int k]) C hP hD hS (c_has l D ka al Z f u k hu) (cwV 1 C.2.2.2.2.1 (fr_goodV ml_R_32 mi_has msel_has mini_U mc_has) rfl rfl rfl (by decide +kernel) hR) (va_recv C.2.2.2.2.2.1 hP (ci := 1) (q0 := (7 + u)) rfl (fr_cw_u hu)) rfl hsz hw hdg hf kk
def dn_doing (f : Nat → Nat → Int32) (q : Nat) (u : Nat) (v : Nat) (x : Int32) : Int32 := if (f 5 q) = 0 then (dn_has f u 1) else (if (f 5 q) = 1 then (if (dn_has f v 2) = 0 then 0 else (if x = 0 then 0 else 1)) else (if (f 5 q) = 2 then (if (dn_has f u 8) = 0 then (if (dn_has f v 8) = 0 then 0 else (if (f 1 u) = (f 1 v) then 0 else 1)) else (if (f 1 u) = (f 1 v) then 0 else 1)) else (if (dn_has f u 4) = 0 then 0 else (if (f 1 u) = (f 1 v) then 0 else 1))))
set_option maxHeartbeats 4000000 in
set_option maxRecDepth 100000 in
theorem c_doing (l : Launch) (D : va_G) (ka : Nat → ClassId) (al : Nat → Nat) (Z : va_W) (f : Nat → Nat → Int32) (q : Nat) (u : Nat) (v : Nat) (x : Int32) (hq : q < 12) (hu : u < 10) (hv : v < 10) : fr_Mi l y_doing (.code y_doing prog_2_method_4_code 4 (some .boolean) :: fr_tbl) { frames := 1, cells := 0, slots := 0, locals := 21 } D vwCl (fr_ty ka) fr_nw [.ref (al (17 + q)), .ref (al (7 + u)), .ref (al (7 + v)), .int x] (fr_cw ka al f Z) (dn_doing f q u v x) (fr_cw ka al f Z) 0 0 := by
  refine fr_Mi.of (by decide) (Nat.le_of_ble_eq_true rfl) ?_
  intro p e s m below meth c A H locs ls C hP hD hS hl
  obtain ⟨hx, hb, hml, hown, ht, hK, hlocks, hr, hA, hN, hZ, hEx⟩ := id C
  have hl : lv_has ls 4 [(0, .ref (al (17 + q))), (1, .ref (al (7 + u))), (2, .ref (al (7 + v))), (3, .int x)] := hl
  refine lv_aload_n hx hb dR_refusesByItsDoing_0 rfl (lv_at hl 0 rfl) ?_
  refine gf_R_15 C hP hq dR_refusesByItsDoing_1 ?_
  by_cases c_4_0 : (f 5 q) = 0
  · skip
    refine lv_tableIn (tgt := 32) hx hb dR_refusesByItsDoing_4 (by rw [c_4_0]; decide) (by rw [c_4_0]; decide) (by rw [c_4_0] <;> rfl) (by decide) ?_
    refine lv_aload_n hx hb dR_refusesByItsDoing_32 rfl (lv_at hl 1 rfl) ?_
    refine lv_iconst (v := 1) hx hb dR_refusesByItsDoing_33 (by decide) ?_
    refine cl_R_32 C hP hD hS hl.1 ⟨Nat.le_of_ble_eq_true rfl, Nat.le_of_ble_eq_true rfl⟩ (Nat.le_of_ble_eq_true rfl) ⟨Nat.le_of_ble_eq_true rfl, Nat.le_of_ble_eq_true rfl⟩ hu dR_refusesByItsDoing_34 (fun H locs hP hD hS => ?_)
    have hd_ : dn_doing f q u v x = dn_has f u 1 := by rw [dn_doing, if_pos c_4_0]
    exact fr_zret C hP hD hS hd_.symm (bz_has ..) dR_refusesByItsDoing_37
  · skip
    by_cases c_4_1 : (f 5 q) = 1
    · skip
      refine lv_tableIn (tgt := 38) hx hb dR_refusesByItsDoing_4 (by rw [c_4_1]; decide) (by rw [c_4_1]; decide) (by rw [c_4_1] <;> rfl) (by decide) ?_
      refine lv_aload_n hx hb dR_refusesByItsDoing_38 rfl (lv_at hl 2 rfl) ?_
      refine lv_iconst (v := 2) hx hb dR_refusesByItsDoing_39 (by decide) ?_
      refine cl_R_32 C hP hD hS hl.1 ⟨Nat.le_of_ble_eq_true rfl, Nat.le_of_ble_eq_true rfl⟩ (Nat.le_of_ble_eq_true rfl) ⟨Nat.le_of_ble_eq_true rfl, Nat.le_of_ble_eq_true rfl⟩ hv dR_refusesByItsDoing_40 (fun H locs hP hD hS => ?_)
      refine lv_if_eq (tgt := 54) hx hb dR_refusesByItsDoing_43 (by decide) (fun c_43 => ?_) (fun c_43 => ?_)
      · skip
        refine lv_iconst (v := 0) hx hb dR_refusesByItsDoing_54 (by decide) ?_
        have hd_ : dn_doing f q u v x = 0 := by rw [dn_doing, if_neg c_4_0, if_pos c_4_1, if_pos c_43]
        exact fr_zret C hP hD hS hd_.symm (Or.inl rfl) dR_refusesByItsDoing_55
      · skip
        refine lv_iload_n hx hb dR_refusesByItsDoing_46 rfl (lv_at hl 3 rfl) ?_
        refine lv_if_eq (tgt := 54) hx hb dR_refusesByItsDoing_47 (by decide) (fun c_47 => ?_) (fun c_47 => ?_)
        · skip
          refine lv_iconst (v := 0) hx hb dR_refusesByItsDoing_54 (by decide) ?_
          have hd_ : dn_doing f q u v x = 0 := by rw [dn_doing, if_neg c_4_0, if_pos c_4_1, if_neg c_43, if_pos c_47]
          exact fr_zret C hP hD hS hd_.symm (Or.inl rfl) dR_refusesByItsDoing_55
        · skip
          refine lv_iconst (v := 1) hx hb dR_refusesByItsDoing_50 (by decide) ?_
          refine lv_goto (tgt := 55) hx hb dR_refusesByItsDoing_51 (by decide) ?_
          have hd_ : dn_doing f q u v x = 1 := by rw [dn_doing, if_neg c_4_0, if_pos c_4_1, if_neg c_43, if_neg c_47]
          exact fr_zret C hP hD hS hd_.symm (Or.inr rfl) dR_refusesByItsDoing_55
    · skip
      by_cases c_4_2 : (f 5 q) = 2
      · skip
        refine lv_tableIn (tgt := 56) hx hb dR_refusesByItsDoing_4 (by rw [c_4_2]; decide) (by rw [c_4_2]; decide) (by rw [c_4_2] <;> rfl) (by decide) ?_
        refine lv_aload_n hx hb dR_refusesByItsDoing_56 rfl (lv_at hl 1 rfl) ?_
        refine lv_bipush (v := 8) hx hb dR_refusesByItsDoing_57 (by decide) ?_
        refine cl_R_32 C hP hD hS hl.1 ⟨Nat.le_of_ble_eq_true rfl, Nat.le_of_ble_eq_true rfl⟩ (Nat.le_of_ble_eq_true rfl) ⟨Nat.le_of_ble_eq_true rfl, Nat.le_of_ble_eq_true rfl⟩ hu dR_refusesByItsDoing_59 (fun H locs hP hD hS => ?_)
        refine lv_if_ne (tgt := 74) hx hb dR_refusesByItsDoing_62 (by decide) (fun c_62 => ?_) (fun c_62 => ?_)
        · skip
          refine lv_aload_n hx hb dR_refusesByItsDoing_74 rfl (lv_at hl 1 rfl) ?_
          refine gf_R_24 C hP hu dR_refusesByItsDoing_75 ?_
          refine lv_aload_n hx hb dR_refusesByItsDoing_78 rfl (lv_at hl 2 rfl) ?_
          refine gf_R_24 C hP hv dR_refusesByItsDoing_79 ?_
          refine lv_icmp_eq (tgt := 89) hx hb dR_refusesByItsDoing_82 (by decide) (fun c_82 => ?_) (fun c_82 => ?_)
          · skip
            refine lv_iconst (v := 0) hx hb dR_refusesByItsDoing_89 (by decide) ?_
            have hd_ : dn_doing f q u v x = 0 := by rw [dn_doing, if_neg c_4_0, if_neg c_4_1, if_pos c_4_2, if_neg c_62, if_pos c_82]
            exact fr_zret C hP hD hS hd_.symm (Or.inl rfl) dR_refusesByItsDoing_90
          · skip
            refine lv_iconst (v := 1) hx hb dR_refusesByItsDoing_85 (by decide) ?_
            refine lv_goto (tgt := 90) hx hb dR_refusesByItsDoing_86 (by decide) ?_
            have hd_ : dn_doing f q u v x = 1 := by rw [dn_doing, if_neg c_4_0, if_neg c_4_1, if_pos c_4_2, if_neg c_62, if_neg c_82]
            exact fr_zret C hP hD hS hd_.symm (Or.inr rfl) dR_refusesByItsDoing_90
        · skip
          refine lv_aload_n hx hb dR_refusesByItsDoing_65 rfl (lv_at hl 2 rfl) ?_
          refine lv_bipush (v := 8) hx hb dR_refusesByItsDoing_66 (by decide) ?_
          refine cl_R_32 C hP hD hS hl.1 ⟨Nat.le_of_ble_eq_true rfl, Nat.le_of_ble_eq_true rfl⟩ (Nat.le_of_ble_eq_true rfl) ⟨Nat.le_of_ble_eq_true rfl, Nat.le_of_ble_eq_true rfl⟩ hv dR_refusesByItsDoing_68 (fun H locs hP hD hS => ?_)
          refine lv_if_eq (tgt := 89) hx hb dR_refusesByItsDoing_71 (by decide) (fun c_71 => ?_) (fun c_71 => ?_)
          · skip
            refine lv_iconst (v := 0) hx hb dR_refusesByItsDoing_89 (by decide) ?_
            have hd_ : dn_doing f q u v x = 0 := by rw [dn_doing, if_neg c_4_0, if_neg c_4_1, if_pos c_4_2, if_pos c_62, if_pos c_71]
            exact fr_zret C hP hD hS hd_.symm (Or.inl rfl) dR_refusesByItsDoing_90
          · skip
            refine lv_aload_n hx hb dR_refusesByItsDoing_74 rfl (lv_at hl 1 rfl) ?_
            refine gf_R_24 C hP hu dR_refusesByItsDoing_75 ?_
            refine lv_aload_n hx hb dR_refusesByItsDoing_78 rfl (lv_at hl 2 rfl) ?_
            refine gf_R_24 C hP hv dR_refusesByItsDoing_79 ?_
            refine lv_icmp_eq (tgt := 89) hx hb dR_refusesByItsDoing_82 (by decide) (fun c_82 => ?_) (fun c_82 => ?_)
            · skip
              refine lv_iconst (v := 0) hx hb dR_refusesByItsDoing_89 (by decide) ?_
              have hd_ : dn_doing f q u v x = 0 := by rw [dn_doing, if_neg c_4_0, if_neg c_4_1, if_pos c_4_2, if_pos c_62, if_neg c_71, if_pos c_82]
              exact fr_zret C hP hD hS hd_.symm (Or.inl rfl) dR_refusesByItsDoing_90
            · skip
              refine lv_iconst (v := 1) hx hb dR_refusesByItsDoing_85 (by decide) ?_
              refine lv_goto (tgt := 90) hx hb dR_refusesByItsDoing_86 (by decide) ?_
              have hd_ : dn_doing f q u v x = 1 := by rw [dn_doing, if_neg c_4_0, if_neg c_4_1, if_pos c_4_2, if_pos c_62, if_neg c_71, if_neg c_82]
              exact fr_zret C hP hD hS hd_.symm (Or.inr rfl) dR_refusesByItsDoing_90
      · skip
        refine lv_tableOut (tgt := 91) hx hb dR_refusesByItsDoing_4 (by have h0 := fr_ne (k := 0) (a := 0) rfl c_4_0; have h1 := fr_ne (k := 1) (a := 1) rfl c_4_1; have h2 := fr_ne (k := 2) (a := 2) rfl c_4_2; omega) (by decide) ?_
        refine lv_aload_n hx hb dR_refusesByItsDoing_91 rfl (lv_at hl 1 rfl) ?_
        refine lv_iconst (v := 4) hx hb dR_refusesByItsDoing_92 (by decide) ?_
        refine cl_R_32 C hP hD hS hl.1 ⟨Nat.le_of_ble_eq_true rfl, Nat.le_of_ble_eq_true rfl⟩ (Nat.le_of_ble_eq_true rfl) ⟨Nat.le_of_ble_eq_true rfl, Nat.le_of_ble_eq_true rfl⟩ hu dR_refusesByItsDoing_93 (fun H locs hP hD hS => ?_)
        refine lv_if_eq (tgt := 114) hx hb dR_refusesByItsDoing_96 (by decide) (fun c_96 => ?_) (fun c_96 => ?_)
        · skip
          refine lv_iconst (v := 0) hx hb dR_refusesByItsDoing_114 (by decide) ?_
          have hd_ : dn_doing f q u v x = 0 := by rw [dn_doing, if_neg c_4_0, if_neg c_4_1, if_neg c_4_2, if_pos c_96]
          exact fr_zret C hP hD hS hd_.symm (Or.inl rfl) dR_refusesByItsDoing_115
        · skip
          refine lv_aload_n hx hb dR_refusesByItsDoing_99 rfl (lv_at hl 1 rfl) ?_
          refine gf_R_24 C hP hu dR_refusesByItsDoing_100 ?_
          refine lv_aload_n hx hb dR_refusesByItsDoing_103 rfl (lv_at hl 2 rfl) ?_
          refine gf_R_24 C hP hv dR_refusesByItsDoing_104 ?_
          refine lv_icmp_eq (tgt := 114) hx hb dR_refusesByItsDoing_107 (by decide) (fun c_107 => ?_) (fun c_107 => ?_)
          · skip
            refine lv_iconst (v := 0) hx hb dR_refusesByItsDoing_114 (by decide) ?_
            have hd_ : dn_doing f q u v x = 0 := by rw [dn_doing, if_neg c_4_0, if_neg c_4_1, if_neg c_4_2, if_neg c_96, if_pos c_107]
            exact fr_zret C hP hD hS hd_.symm (Or.inl rfl) dR_refusesByItsDoing_115
          · skip
            refine lv_iconst (v := 1) hx hb dR_refusesByItsDoing_110 (by decide) ?_
            refine lv_goto (tgt := 115) hx hb dR_refusesByItsDoing_111 (by decide) ?_
            have hd_ : dn_doing f q u v x = 1 := by rw [dn_doing, if_neg c_4_0, if_neg c_4_1, if_neg c_4_2, if_neg c_96, if_neg c_107]
            exact fr_zret C hP hD hS hd_.symm (Or.inr rfl) dR_refusesByItsDoing_115
theorem bz_doing {f : Nat → Nat → Int32} {q : Nat} {u : Nat} {v : Nat} {x : Int32} : dn_doing f q u v x = 0 ∨ dn_doing f q u v x = 1 := by
  unfold dn_doing
  repeat' split
  all_goals first | exact Or.inl rfl | exact Or.inr rfl | exact bz_has

theorem cl_R_36 {p : Program} {l : Launch} {e : Env} {R : Room} {s : State} {m : MethodId} {args : Array Value} {below : List Frame} {meth : Method} {c : Code} {H : Heap} {locs : List Loc} {cells slots : Nat} {Q : State → Prop} {D : va_G} {A : Nat → Prop} {cc : ByteArray} {nL pc : Nat} {ret : Option FieldType} {hh : List ExceptionTableEntry} {ls : Array Slot} {rest : List Value} {ka : Nat → ClassId} {al : Nat → Nat} {f : Nat → Nat → Int32} {Z : va_W} {q : Nat} {u : Nat} {v : Nat} {x : Int32} (C : fr_Cx p s m args meth c "FragileRules$Rule" cc nL ret hh fr_tbl fr_nw D vwCl (fr_ty ka) A) (hP : va_P D vwCl (fr_cw ka al f Z) H) (hD : va_D A (fr_cw ka al f Z)) (hS : va_S A s.heap H locs) (hsz : ls.size = nL) (hR : 1 + 1 ≤ R.frames ∧ 8 + (4 + 11) + 21 ≤ R.locals) (hw : (rest.map fun v => v.category).sum ≤ 8) (hf : cells + 0 ≤ R.cells ∧ slots + 0 ≤ R.slots) (hq : q < 12) (hu : u < 10) (hv : v < 10) (hdg : decode cc pc = .ok (.invokevirtual 36, 3)) (kk : ∀ (H : Heap) (locs : List Loc), va_P D vwCl (fr_cw ka al f Z) H → va_D A (fr_cw ka al f Z) → va_S A s.heap H locs → W p l e R s m args below meth c H locs (cells + 0) (slots + 0) Q (F0 m (pc + 3) ls (.int (dn_doing f q u v x) :: rest))) : W p l e R s m args below meth c H locs cells slots Q (F0 m pc ls (.int x :: .ref (al (7 + v)) :: .ref (al (7 + u)) :: .ref (al (17 + q)) :: rest)) :=
  fr_callVi (As := [.ref (al (7 + u)), .ref (al (7 + v)), .int x]) C hP hD hS (c_doing l D ka al Z f q u v x hq hu hv) (cwV 3 C.2.2.2.2.1 (fr_goodV ml_R_36 mi_doing msel_doing mini_R mc_doing) rfl rfl rfl (by decide +kernel) hR) (va_recv C.2.2.2.2.2.1 hP (ci := 2) (q0 := (17 + q)) rfl (fr_cw_r hq)) rfl hsz hw hdg hf kk
def dn_refuses (f : Nat → Nat → Int32) (q : Nat) (u : Nat) (v : Nat) (x : Int32) : Int32 := if (f 4 q) = 0 then (if (f 1 v) = (f 5 q) then (if (f 1 u) = (f 6 q) then 1 else 0) else 0) else (if (f 4 q) = 1 then (if (f 1 u) = (f 5 q) then (if (f 1 v) = (f 6 q) then 1 else (if (f 1 u) = (f 6 q) then (if (f 1 v) = (f 5 q) then 1 else 0) else 0)) else (if (f 1 u) = (f 6 q) then (if (f 1 v) = (f 5 q) then 1 else 0) else 0)) else (if (f 4 q) = 2 then (if (f 1 u) = (f 5 q) then (if (f 2 v) ≤ (10 * (f 6 q)) then 0 else 1) else 0) else (if (f 4 q) = 3 then (if (f 1 v) = (f 5 q) then (if x < (f 6 q) then 0 else 1) else 0) else (if (f 4 q) = 4 then (if x = (f 5 q) then (if (dn_has f u (f 6 q)) = 0 then 1 else 0) else 0) else (if (f 6 q) = 1 then 1 else (if (dn_doing f q u v x) = 0 then 0 else 1))))))
set_option maxHeartbeats 4000000 in
set_option maxRecDepth 100000 in
theorem c_refuses (l : Launch) (D : va_G) (ka : Nat → ClassId) (al : Nat → Nat) (Z : va_W) (f : Nat → Nat → Int32) (q : Nat) (u : Nat) (v : Nat) (x : Int32) (hq : q < 12) (hu : u < 10) (hv : v < 10) : fr_Mi l y_refuses (.code y_refuses prog_2_method_3_code 4 (some .boolean) :: fr_tbl) { frames := 2, cells := 0, slots := 0, locals := 44 } D vwCl (fr_ty ka) fr_nw [.ref (al (17 + q)), .ref (al (7 + u)), .ref (al (7 + v)), .int x] (fr_cw ka al f Z) (dn_refuses f q u v x) (fr_cw ka al f Z) 0 0 := by
  refine fr_Mi.of (by decide) (Nat.le_of_ble_eq_true rfl) ?_
  intro p e s m below meth c A H locs ls C hP hD hS hl
  obtain ⟨hx, hb, hml, hown, ht, hK, hlocks, hr, hA, hN, hZ, hEx⟩ := id C
  have hl : lv_has ls 4 [(0, .ref (al (17 + q))), (1, .ref (al (7 + u))), (2, .ref (al (7 + v))), (3, .int x)] := hl
  refine lv_aload_n hx hb dR_refuses_0 rfl (lv_at hl 0 rfl) ?_
  refine gf_R_9 C hP hq dR_refuses_1 ?_
  by_cases c_4_0 : (f 4 q) = 0
  · skip
    refine lv_tableIn (tgt := 40) hx hb dR_refuses_4 (by rw [c_4_0]; decide) (by rw [c_4_0]; decide) (by rw [c_4_0] <;> rfl) (by decide) ?_
    refine lv_aload_n hx hb dR_refuses_40 rfl (lv_at hl 2 rfl) ?_
    refine gf_R_24 C hP hv dR_refuses_41 ?_
    refine lv_aload_n hx hb dR_refuses_44 rfl (lv_at hl 0 rfl) ?_
    refine gf_R_15 C hP hq dR_refuses_45 ?_
    refine lv_icmp_ne (tgt := 66) hx hb dR_refuses_48 (by decide) (fun c_48 => ?_) (fun c_48 => ?_)
    · skip
      refine lv_iconst (v := 0) hx hb dR_refuses_66 (by decide) ?_
      have hd_ : dn_refuses f q u v x = 0 := by rw [dn_refuses, if_pos c_4_0, if_neg c_48]
      exact fr_zret C hP hD hS hd_.symm (Or.inl rfl) dR_refuses_67
    · skip
      refine lv_aload_n hx hb dR_refuses_51 rfl (lv_at hl 1 rfl) ?_
      refine gf_R_24 C hP hu dR_refuses_52 ?_
      refine lv_aload_n hx hb dR_refuses_55 rfl (lv_at hl 0 rfl) ?_
      refine gf_R_18 C hP hq dR_refuses_56 ?_
      refine lv_icmp_ne (tgt := 66) hx hb dR_refuses_59 (by decide) (fun c_59 => ?_) (fun c_59 => ?_)
      · skip
        refine lv_iconst (v := 0) hx hb dR_refuses_66 (by decide) ?_
        have hd_ : dn_refuses f q u v x = 0 := by rw [dn_refuses, if_pos c_4_0, if_pos c_48, if_neg c_59]
        exact fr_zret C hP hD hS hd_.symm (Or.inl rfl) dR_refuses_67
      · skip
        refine lv_iconst (v := 1) hx hb dR_refuses_62 (by decide) ?_
        refine lv_goto (tgt := 67) hx hb dR_refuses_63 (by decide) ?_
        have hd_ : dn_refuses f q u v x = 1 := by rw [dn_refuses, if_pos c_4_0, if_pos c_48, if_pos c_59]
        exact fr_zret C hP hD hS hd_.symm (Or.inr rfl) dR_refuses_67
  · skip
    by_cases c_4_1 : (f 4 q) = 1
    · skip
      refine lv_tableIn (tgt := 68) hx hb dR_refuses_4 (by rw [c_4_1]; decide) (by rw [c_4_1]; decide) (by rw [c_4_1] <;> rfl) (by decide) ?_
      refine lv_aload_n hx hb dR_refuses_68 rfl (lv_at hl 1 rfl) ?_
      refine gf_R_24 C hP hu dR_refuses_69 ?_
      refine lv_aload_n hx hb dR_refuses_72 rfl (lv_at hl 0 rfl) ?_
      refine gf_R_15 C hP hq dR_refuses_73 ?_
      refine lv_icmp_ne (tgt := 90) hx hb dR_refuses_76 (by decide) (fun c_76 => ?_) (fun c_76 => ?_)
      · skip
        refine lv_aload_n hx hb dR_refuses_90 rfl (lv_at hl 1 rfl) ?_
        refine gf_R_24 C hP hu dR_refuses_91 ?_
        refine lv_aload_n hx hb dR_refuses_94 rfl (lv_at hl 0 rfl) ?_
        refine gf_R_18 C hP hq dR_refuses_95 ?_
        refine lv_icmp_ne (tgt := 116) hx hb dR_refuses_98 (by decide) (fun c_98 => ?_) (fun c_98 => ?_)
        · skip
          refine lv_iconst (v := 0) hx hb dR_refuses_116 (by decide) ?_
          have hd_ : dn_refuses f q u v x = 0 := by rw [dn_refuses, if_neg c_4_0, if_pos c_4_1, if_neg c_76, if_neg c_98]
          exact fr_zret C hP hD hS hd_.symm (Or.inl rfl) dR_refuses_117
        · skip
          refine lv_aload_n hx hb dR_refuses_101 rfl (lv_at hl 2 rfl) ?_
          refine gf_R_24 C hP hv dR_refuses_102 ?_
          refine lv_aload_n hx hb dR_refuses_105 rfl (lv_at hl 0 rfl) ?_
          refine gf_R_15 C hP hq dR_refuses_106 ?_
          refine lv_icmp_ne (tgt := 116) hx hb dR_refuses_109 (by decide) (fun c_109 => ?_) (fun c_109 => ?_)
          · skip
            refine lv_iconst (v := 0) hx hb dR_refuses_116 (by decide) ?_
            have hd_ : dn_refuses f q u v x = 0 := by rw [dn_refuses, if_neg c_4_0, if_pos c_4_1, if_neg c_76, if_pos c_98, if_neg c_109]
            exact fr_zret C hP hD hS hd_.symm (Or.inl rfl) dR_refuses_117
          · skip
            refine lv_iconst (v := 1) hx hb dR_refuses_112 (by decide) ?_
            refine lv_goto (tgt := 117) hx hb dR_refuses_113 (by decide) ?_
            have hd_ : dn_refuses f q u v x = 1 := by rw [dn_refuses, if_neg c_4_0, if_pos c_4_1, if_neg c_76, if_pos c_98, if_pos c_109]
            exact fr_zret C hP hD hS hd_.symm (Or.inr rfl) dR_refuses_117
      · skip
        refine lv_aload_n hx hb dR_refuses_79 rfl (lv_at hl 2 rfl) ?_
        refine gf_R_24 C hP hv dR_refuses_80 ?_
        refine lv_aload_n hx hb dR_refuses_83 rfl (lv_at hl 0 rfl) ?_
        refine gf_R_18 C hP hq dR_refuses_84 ?_
        refine lv_icmp_eq (tgt := 112) hx hb dR_refuses_87 (by decide) (fun c_87 => ?_) (fun c_87 => ?_)
        · skip
          refine lv_iconst (v := 1) hx hb dR_refuses_112 (by decide) ?_
          refine lv_goto (tgt := 117) hx hb dR_refuses_113 (by decide) ?_
          have hd_ : dn_refuses f q u v x = 1 := by rw [dn_refuses, if_neg c_4_0, if_pos c_4_1, if_pos c_76, if_pos c_87]
          exact fr_zret C hP hD hS hd_.symm (Or.inr rfl) dR_refuses_117
        · skip
          refine lv_aload_n hx hb dR_refuses_90 rfl (lv_at hl 1 rfl) ?_
          refine gf_R_24 C hP hu dR_refuses_91 ?_
          refine lv_aload_n hx hb dR_refuses_94 rfl (lv_at hl 0 rfl) ?_
          refine gf_R_18 C hP hq dR_refuses_95 ?_
          refine lv_icmp_ne (tgt := 116) hx hb dR_refuses_98 (by decide) (fun c_98 => ?_) (fun c_98 => ?_)
          · skip
            refine lv_iconst (v := 0) hx hb dR_refuses_116 (by decide) ?_
            have hd_ : dn_refuses f q u v x = 0 := by rw [dn_refuses, if_neg c_4_0, if_pos c_4_1, if_pos c_76, if_neg c_87, if_neg c_98]
            exact fr_zret C hP hD hS hd_.symm (Or.inl rfl) dR_refuses_117
          · skip
            refine lv_aload_n hx hb dR_refuses_101 rfl (lv_at hl 2 rfl) ?_
            refine gf_R_24 C hP hv dR_refuses_102 ?_
            refine lv_aload_n hx hb dR_refuses_105 rfl (lv_at hl 0 rfl) ?_
            refine gf_R_15 C hP hq dR_refuses_106 ?_
            refine lv_icmp_ne (tgt := 116) hx hb dR_refuses_109 (by decide) (fun c_109 => ?_) (fun c_109 => ?_)
            · skip
              refine lv_iconst (v := 0) hx hb dR_refuses_116 (by decide) ?_
              have hd_ : dn_refuses f q u v x = 0 := by rw [dn_refuses, if_neg c_4_0, if_pos c_4_1, if_pos c_76, if_neg c_87, if_pos c_98, if_neg c_109]
              exact fr_zret C hP hD hS hd_.symm (Or.inl rfl) dR_refuses_117
            · skip
              refine lv_iconst (v := 1) hx hb dR_refuses_112 (by decide) ?_
              refine lv_goto (tgt := 117) hx hb dR_refuses_113 (by decide) ?_
              have hd_ : dn_refuses f q u v x = 1 := by rw [dn_refuses, if_neg c_4_0, if_pos c_4_1, if_pos c_76, if_neg c_87, if_pos c_98, if_pos c_109]
              exact fr_zret C hP hD hS hd_.symm (Or.inr rfl) dR_refuses_117
    · skip
      by_cases c_4_2 : (f 4 q) = 2
      · skip
        refine lv_tableIn (tgt := 118) hx hb dR_refuses_4 (by rw [c_4_2]; decide) (by rw [c_4_2]; decide) (by rw [c_4_2] <;> rfl) (by decide) ?_
        refine lv_aload_n hx hb dR_refuses_118 rfl (lv_at hl 1 rfl) ?_
        refine gf_R_24 C hP hu dR_refuses_119 ?_
        refine lv_aload_n hx hb dR_refuses_122 rfl (lv_at hl 0 rfl) ?_
        refine gf_R_15 C hP hq dR_refuses_123 ?_
        refine lv_icmp_ne (tgt := 147) hx hb dR_refuses_126 (by decide) (fun c_126 => ?_) (fun c_126 => ?_)
        · skip
          refine lv_iconst (v := 0) hx hb dR_refuses_147 (by decide) ?_
          have hd_ : dn_refuses f q u v x = 0 := by rw [dn_refuses, if_neg c_4_0, if_neg c_4_1, if_pos c_4_2, if_neg c_126]
          exact fr_zret C hP hD hS hd_.symm (Or.inl rfl) dR_refuses_148
        · skip
          refine lv_aload_n hx hb dR_refuses_129 rfl (lv_at hl 2 rfl) ?_
          refine gf_R_29 C hP hv dR_refuses_130 ?_
          refine lv_bipush (v := 10) hx hb dR_refuses_133 (by decide) ?_
          refine lv_aload_n hx hb dR_refuses_135 rfl (lv_at hl 0 rfl) ?_
          refine gf_R_18 C hP hq dR_refuses_136 ?_
          refine lv_imul hx hb dR_refuses_139 ?_
          refine lv_icmp_le (tgt := 147) hx hb dR_refuses_140 (by decide) (fun c_140 => ?_) (fun c_140 => ?_)
          · skip
            refine lv_iconst (v := 0) hx hb dR_refuses_147 (by decide) ?_
            have hd_ : dn_refuses f q u v x = 0 := by rw [dn_refuses, if_neg c_4_0, if_neg c_4_1, if_pos c_4_2, if_pos c_126, if_pos c_140]
            exact fr_zret C hP hD hS hd_.symm (Or.inl rfl) dR_refuses_148
          · skip
            refine lv_iconst (v := 1) hx hb dR_refuses_143 (by decide) ?_
            refine lv_goto (tgt := 148) hx hb dR_refuses_144 (by decide) ?_
            have hd_ : dn_refuses f q u v x = 1 := by rw [dn_refuses, if_neg c_4_0, if_neg c_4_1, if_pos c_4_2, if_pos c_126, if_neg c_140]
            exact fr_zret C hP hD hS hd_.symm (Or.inr rfl) dR_refuses_148
      · skip
        by_cases c_4_3 : (f 4 q) = 3
        · skip
          refine lv_tableIn (tgt := 149) hx hb dR_refuses_4 (by rw [c_4_3]; decide) (by rw [c_4_3]; decide) (by rw [c_4_3] <;> rfl) (by decide) ?_
          refine lv_aload_n hx hb dR_refuses_149 rfl (lv_at hl 2 rfl) ?_
          refine gf_R_24 C hP hv dR_refuses_150 ?_
          refine lv_aload_n hx hb dR_refuses_153 rfl (lv_at hl 0 rfl) ?_
          refine gf_R_15 C hP hq dR_refuses_154 ?_
          refine lv_icmp_ne (tgt := 172) hx hb dR_refuses_157 (by decide) (fun c_157 => ?_) (fun c_157 => ?_)
          · skip
            refine lv_iconst (v := 0) hx hb dR_refuses_172 (by decide) ?_
            have hd_ : dn_refuses f q u v x = 0 := by rw [dn_refuses, if_neg c_4_0, if_neg c_4_1, if_neg c_4_2, if_pos c_4_3, if_neg c_157]
            exact fr_zret C hP hD hS hd_.symm (Or.inl rfl) dR_refuses_173
          · skip
            refine lv_iload_n hx hb dR_refuses_160 rfl (lv_at hl 3 rfl) ?_
            refine lv_aload_n hx hb dR_refuses_161 rfl (lv_at hl 0 rfl) ?_
            refine gf_R_18 C hP hq dR_refuses_162 ?_
            refine lv_icmp_lt (tgt := 172) hx hb dR_refuses_165 (by decide) (fun c_165 => ?_) (fun c_165 => ?_)
            · skip
              refine lv_iconst (v := 0) hx hb dR_refuses_172 (by decide) ?_
              have hd_ : dn_refuses f q u v x = 0 := by rw [dn_refuses, if_neg c_4_0, if_neg c_4_1, if_neg c_4_2, if_pos c_4_3, if_pos c_157, if_pos c_165]
              exact fr_zret C hP hD hS hd_.symm (Or.inl rfl) dR_refuses_173
            · skip
              refine lv_iconst (v := 1) hx hb dR_refuses_168 (by decide) ?_
              refine lv_goto (tgt := 173) hx hb dR_refuses_169 (by decide) ?_
              have hd_ : dn_refuses f q u v x = 1 := by rw [dn_refuses, if_neg c_4_0, if_neg c_4_1, if_neg c_4_2, if_pos c_4_3, if_pos c_157, if_neg c_165]
              exact fr_zret C hP hD hS hd_.symm (Or.inr rfl) dR_refuses_173
        · skip
          by_cases c_4_4 : (f 4 q) = 4
          · skip
            refine lv_tableIn (tgt := 174) hx hb dR_refuses_4 (by rw [c_4_4]; decide) (by rw [c_4_4]; decide) (by rw [c_4_4] <;> rfl) (by decide) ?_
            refine lv_iload_n hx hb dR_refuses_174 rfl (lv_at hl 3 rfl) ?_
            refine lv_aload_n hx hb dR_refuses_175 rfl (lv_at hl 0 rfl) ?_
            refine gf_R_15 C hP hq dR_refuses_176 ?_
            refine lv_icmp_ne (tgt := 197) hx hb dR_refuses_179 (by decide) (fun c_179 => ?_) (fun c_179 => ?_)
            · skip
              refine lv_iconst (v := 0) hx hb dR_refuses_197 (by decide) ?_
              have hd_ : dn_refuses f q u v x = 0 := by rw [dn_refuses, if_neg c_4_0, if_neg c_4_1, if_neg c_4_2, if_neg c_4_3, if_pos c_4_4, if_neg c_179]
              exact fr_zret C hP hD hS hd_.symm (Or.inl rfl) dR_refuses_198
            · skip
              refine lv_aload_n hx hb dR_refuses_182 rfl (lv_at hl 1 rfl) ?_
              refine lv_aload_n hx hb dR_refuses_183 rfl (lv_at hl 0 rfl) ?_
              refine gf_R_18 C hP hq dR_refuses_184 ?_
              refine cl_R_32 C hP hD hS hl.1 ⟨Nat.le_of_ble_eq_true rfl, Nat.le_of_ble_eq_true rfl⟩ (Nat.le_of_ble_eq_true rfl) ⟨Nat.le_of_ble_eq_true rfl, Nat.le_of_ble_eq_true rfl⟩ hu dR_refuses_187 (fun H locs hP hD hS => ?_)
              refine lv_if_ne (tgt := 197) hx hb dR_refuses_190 (by decide) (fun c_190 => ?_) (fun c_190 => ?_)
              · skip
                refine lv_iconst (v := 0) hx hb dR_refuses_197 (by decide) ?_
                have hd_ : dn_refuses f q u v x = 0 := by rw [dn_refuses, if_neg c_4_0, if_neg c_4_1, if_neg c_4_2, if_neg c_4_3, if_pos c_4_4, if_pos c_179, if_neg c_190]
                exact fr_zret C hP hD hS hd_.symm (Or.inl rfl) dR_refuses_198
              · skip
                refine lv_iconst (v := 1) hx hb dR_refuses_193 (by decide) ?_
                refine lv_goto (tgt := 198) hx hb dR_refuses_194 (by decide) ?_
                have hd_ : dn_refuses f q u v x = 1 := by rw [dn_refuses, if_neg c_4_0, if_neg c_4_1, if_neg c_4_2, if_neg c_4_3, if_pos c_4_4, if_pos c_179, if_pos c_190]
                exact fr_zret C hP hD hS hd_.symm (Or.inr rfl) dR_refuses_198
          · skip
            refine lv_tableOut (tgt := 199) hx hb dR_refuses_4 (by have h0 := fr_ne (k := 0) (a := 0) rfl c_4_0; have h1 := fr_ne (k := 1) (a := 1) rfl c_4_1; have h2 := fr_ne (k := 2) (a := 2) rfl c_4_2; have h3 := fr_ne (k := 3) (a := 3) rfl c_4_3; have h4 := fr_ne (k := 4) (a := 4) rfl c_4_4; omega) (by decide) ?_
            refine lv_aload_n hx hb dR_refuses_199 rfl (lv_at hl 0 rfl) ?_
            refine gf_R_18 C hP hq dR_refuses_200 ?_
            refine lv_iconst (v := 1) hx hb dR_refuses_203 (by decide) ?_
            refine lv_icmp_eq (tgt := 217) hx hb dR_refuses_204 (by decide) (fun c_204 => ?_) (fun c_204 => ?_)
            · skip
              refine lv_iconst (v := 1) hx hb dR_refuses_217 (by decide) ?_
              refine lv_goto (tgt := 222) hx hb dR_refuses_218 (by decide) ?_
              have hd_ : dn_refuses f q u v x = 1 := by rw [dn_refuses, if_neg c_4_0, if_neg c_4_1, if_neg c_4_2, if_neg c_4_3, if_neg c_4_4, if_pos c_204]
              exact fr_zret C hP hD hS hd_.symm (Or.inr rfl) dR_refuses_222
            · skip
              refine lv_aload_n hx hb dR_refuses_207 rfl (lv_at hl 0 rfl) ?_
              refine lv_aload_n hx hb dR_refuses_208 rfl (lv_at hl 1 rfl) ?_
              refine lv_aload_n hx hb dR_refuses_209 rfl (lv_at hl 2 rfl) ?_
              refine lv_iload_n hx hb dR_refuses_210 rfl (lv_at hl 3 rfl) ?_
              refine cl_R_36 C hP hD hS hl.1 ⟨Nat.le_of_ble_eq_true rfl, Nat.le_of_ble_eq_true rfl⟩ (Nat.le_of_ble_eq_true rfl) ⟨Nat.le_of_ble_eq_true rfl, Nat.le_of_ble_eq_true rfl⟩ hq hu hv dR_refuses_211 (fun H locs hP hD hS => ?_)
              refine lv_if_eq (tgt := 221) hx hb dR_refuses_214 (by decide) (fun c_214 => ?_) (fun c_214 => ?_)
              · skip
                refine lv_iconst (v := 0) hx hb dR_refuses_221 (by decide) ?_
                have hd_ : dn_refuses f q u v x = 0 := by rw [dn_refuses, if_neg c_4_0, if_neg c_4_1, if_neg c_4_2, if_neg c_4_3, if_neg c_4_4, if_neg c_204, if_pos c_214]
                exact fr_zret C hP hD hS hd_.symm (Or.inl rfl) dR_refuses_222
              · skip
                refine lv_iconst (v := 1) hx hb dR_refuses_217 (by decide) ?_
                refine lv_goto (tgt := 222) hx hb dR_refuses_218 (by decide) ?_
                have hd_ : dn_refuses f q u v x = 1 := by rw [dn_refuses, if_neg c_4_0, if_neg c_4_1, if_neg c_4_2, if_neg c_4_3, if_neg c_4_4, if_neg c_204, if_neg c_214]
                exact fr_zret C hP hD hS hd_.symm (Or.inr rfl) dR_refuses_222
theorem bz_refuses {f : Nat → Nat → Int32} {q : Nat} {u : Nat} {v : Nat} {x : Int32} : dn_refuses f q u v x = 0 ∨ dn_refuses f q u v x = 1 := by
  unfold dn_refuses
  repeat' split
  all_goals first | exact Or.inl rfl | exact Or.inr rfl | exact bz_has

def dn_count (f : Nat → Nat → Int32) (x : Int32) : Int32 := if x = 0 then (f 0 0) else (if x = 1 then (f 0 1) else (if x = 2 then (f 0 5) else (if x = 3 then (f 0 3) else (if x = 4 then (f 0 4) else (-1)))))
set_option maxHeartbeats 4000000 in
set_option maxRecDepth 100000 in
theorem c_count (l : Launch) (D : va_G) (ka : Nat → ClassId) (al : Nat → Nat) (Z : va_W) (f : Nat → Nat → Int32) (x : Int32) : fr_Mi l y_count (.code y_count prog_1_method_15_code 2 (some .int) :: fr_tbl) { frames := 0, cells := 0, slots := 0, locals := 0 } D vwCl (fr_ty ka) fr_nw [.ref (al 0), .int x] (fr_cw ka al f Z) (dn_count f x) (fr_cw ka al f Z) 0 0 := by
  refine fr_Mi.of (by decide) (Nat.le_of_ble_eq_true rfl) ?_
  intro p e s m below meth c A H locs ls C hP hD hS hl
  obtain ⟨hx, hb, hml, hown, ht, hK, hlocks, hr, hA, hN, hZ, hEx⟩ := id C
  have hl : lv_has ls 2 [(0, .ref (al 0)), (1, .int x)] := hl
  refine lv_iload_n hx hb dF_count_0 rfl (lv_at hl 1 rfl) ?_
  by_cases c_1_0 : x = 0
  · skip
    refine lv_tableIn (tgt := 36) hx hb dF_count_1 (by rw [c_1_0]; decide) (by rw [c_1_0]; decide) (by rw [c_1_0] <;> rfl) (by decide) ?_
    refine lv_aload_n hx hb dF_count_36 rfl (lv_at hl 0 rfl) ?_
    refine gf_F_15 C hP dF_count_37 ?_
    have hd_ : dn_count f x = f 0 0 := by rw [dn_count, if_pos c_1_0]
    exact fr_iret C hP hD hS hd_.symm dF_count_40
  · skip
    by_cases c_1_1 : x = 1
    · skip
      refine lv_tableIn (tgt := 41) hx hb dF_count_1 (by rw [c_1_1]; decide) (by rw [c_1_1]; decide) (by rw [c_1_1] <;> rfl) (by decide) ?_
      refine lv_aload_n hx hb dF_count_41 rfl (lv_at hl 0 rfl) ?_
      refine gf_F_25 C hP dF_count_42 ?_
      have hd_ : dn_count f x = f 0 1 := by rw [dn_count, if_neg c_1_0, if_pos c_1_1]
      exact fr_iret C hP hD hS hd_.symm dF_count_45
    · skip
      by_cases c_1_2 : x = 2
      · skip
        refine lv_tableIn (tgt := 46) hx hb dF_count_1 (by rw [c_1_2]; decide) (by rw [c_1_2]; decide) (by rw [c_1_2] <;> rfl) (by decide) ?_
        refine lv_aload_n hx hb dF_count_46 rfl (lv_at hl 0 rfl) ?_
        refine gf_F_41 C hP dF_count_47 ?_
        refine gf_F_98 C hP dF_count_50 ?_
        have hd_ : dn_count f x = f 0 5 := by rw [dn_count, if_neg c_1_0, if_neg c_1_1, if_pos c_1_2]
        exact fr_iret C hP hD hS hd_.symm dF_count_53
      · skip
        by_cases c_1_3 : x = 3
        · skip
          refine lv_tableIn (tgt := 54) hx hb dF_count_1 (by rw [c_1_3]; decide) (by rw [c_1_3]; decide) (by rw [c_1_3] <;> rfl) (by decide) ?_
          refine lv_aload_n hx hb dF_count_54 rfl (lv_at hl 0 rfl) ?_
          refine gf_F_45 C hP dF_count_55 ?_
          have hd_ : dn_count f x = f 0 3 := by rw [dn_count, if_neg c_1_0, if_neg c_1_1, if_neg c_1_2, if_pos c_1_3]
          exact fr_iret C hP hD hS hd_.symm dF_count_58
        · skip
          by_cases c_1_4 : x = 4
          · skip
            refine lv_tableIn (tgt := 59) hx hb dF_count_1 (by rw [c_1_4]; decide) (by rw [c_1_4]; decide) (by rw [c_1_4] <;> rfl) (by decide) ?_
            refine lv_aload_n hx hb dF_count_59 rfl (lv_at hl 0 rfl) ?_
            refine gf_F_48 C hP dF_count_60 ?_
            have hd_ : dn_count f x = f 0 4 := by rw [dn_count, if_neg c_1_0, if_neg c_1_1, if_neg c_1_2, if_neg c_1_3, if_pos c_1_4]
            exact fr_iret C hP hD hS hd_.symm dF_count_63
          · skip
            refine lv_tableOut (tgt := 64) hx hb dF_count_1 (by have h0 := fr_ne (k := 0) (a := 0) rfl c_1_0; have h1 := fr_ne (k := 1) (a := 1) rfl c_1_1; have h2 := fr_ne (k := 2) (a := 2) rfl c_1_2; have h3 := fr_ne (k := 3) (a := 3) rfl c_1_3; have h4 := fr_ne (k := 4) (a := 4) rfl c_1_4; omega) (by decide) ?_
            refine lv_iconst (v := (-1)) hx hb dF_count_64 (by decide) ?_
            have hd_ : dn_count f x = (-1) := by rw [dn_count, if_neg c_1_0, if_neg c_1_1, if_neg c_1_2, if_neg c_1_3, if_neg c_1_4]
            exact fr_iret C hP hD hS hd_.symm dF_count_65

def dn_asked (f : Nat → Nat → Int32) (x : Int32) : Int32 := if x < 0 then (-1) else (if (f 0 2) ≤ x then (-1) else (f 9 x.toNatClampNeg))
set_option maxHeartbeats 4000000 in
set_option maxRecDepth 100000 in
theorem c_asked (l : Launch) (D : va_G) (ka : Nat → ClassId) (al : Nat → Nat) (Z : va_W) (f : Nat → Nat → Int32) (x : Int32) (gA : 0 ≤ (f 0 2).toInt ∧ (f 0 2).toInt ≤ 12) : fr_Mi l y_asked (.code y_asked prog_1_method_10_code 2 (some .int) :: fr_tbl) { frames := 0, cells := 0, slots := 0, locals := 0 } D vwCl (fr_ty ka) fr_nw [.ref (al 0), .int x] (fr_cw ka al f Z) (dn_asked f x) (fr_cw ka al f Z) 0 0 := by
  refine fr_Mi.of (by decide) (Nat.le_of_ble_eq_true rfl) ?_
  intro p e s m below meth c A H locs ls C hP hD hS hl
  obtain ⟨hx, hb, hml, hown, ht, hK, hlocks, hr, hA, hN, hZ, hEx⟩ := id C
  have hl : lv_has ls 2 [(0, .ref (al 0)), (1, .int x)] := hl
  refine lv_iload_n hx hb dF_asked_0 rfl (lv_at hl 1 rfl) ?_
  refine lv_if_lt (tgt := 21) hx hb dF_asked_1 (by decide) (fun c_1 => ?_) (fun c_1 => ?_)
  · skip
    refine lv_iconst (v := (-1)) hx hb dF_asked_21 (by decide) ?_
    have hd_ : dn_asked f x = (-1) := by rw [dn_asked, if_pos c_1]
    exact fr_iret C hP hD hS hd_.symm dF_asked_22
  · skip
    refine lv_iload_n hx hb dF_asked_4 rfl (lv_at hl 1 rfl) ?_
    refine lv_aload_n hx hb dF_asked_5 rfl (lv_at hl 0 rfl) ?_
    refine gf_F_35 C hP dF_asked_6 ?_
    refine lv_icmp_ge (tgt := 21) hx hb dF_asked_9 (by decide) (fun c_9 => ?_) (fun c_9 => ?_)
    · skip
      refine lv_iconst (v := (-1)) hx hb dF_asked_21 (by decide) ?_
      have hd_ : dn_asked f x = (-1) := by rw [dn_asked, if_neg c_1, if_pos c_9]
      exact fr_iret C hP hD hS hd_.symm dF_asked_22
    · skip
      refine lv_aload_n hx hb dF_asked_12 rfl (lv_at hl 0 rfl) ?_
      refine gf_F_32 C hP dF_asked_13 ?_
      refine lv_iload_n hx hb dF_asked_16 rfl (lv_at hl 1 rfl) ?_
      have hin_17 : vp_in x 12 := by have q0 := fr_t2 c_1; have q1 := fr_t4 c_9; have z0 : (0 : Int32).toInt = 0 := rfl; skip; rw [vp_in_iff]; omega
      refine ald_9 C hP hin_17 dF_asked_17 ?_
      refine lv_goto (tgt := 22) hx hb dF_asked_18 (by decide) ?_
      have hd_ : dn_asked f x = f 9 x.toNatClampNeg := by rw [dn_asked, if_neg c_1, if_neg c_9]
      exact fr_iret C hP hD hS hd_.symm dF_asked_22

def dn_placeIn_2 : Nat → (Nat → Nat → Int32) → (Int32) → (Int32) → Int32
  | 0, _, _, _ => 0
  | n + 1, f, x, x2 => if ((f 0 1) - 1) ≤ x2 then x2 else (if (f 8 x2.toNatClampNeg) = x then x2 else (dn_placeIn_2 n f x (x2 + 1)))
set_option maxHeartbeats 4000000 in
set_option maxRecDepth 100000 in
theorem k_placeIn_2 {p : Program} {l : Launch} {e : Env} {s : State} {m : MethodId} {below : List Frame} {meth : Method} {c : Code} {D : va_G} {A : Nat → Prop} {ka : Nat → ClassId} {al : Nat → Nat} {Z : va_W} {f : Nat → Nat → Int32} {x : Int32} (C : fr_Cx p s m ([.ref (al 0), .int x] : List Value).toArray meth c "FragileRules" prog_1_method_23_code 3 (some .int) [] fr_tbl fr_nw D vwCl (fr_ty ka) A) (gR : 1 ≤ (f 0 1).toInt ∧ (f 0 1).toInt ≤ 12) :
    ∀ (n : Nat) (x2 : Int32) (H : Heap) (locs : List Loc) (ls : Array Slot), 0 ≤ x2.toInt ∧ x2.toInt ≤ (f 0 1 - 1).toInt ∧ (f 0 1 - 1).toInt < x2.toInt + n → va_P D vwCl (fr_cw ka al f Z) H → va_D A (fr_cw ka al f Z) → va_S A s.heap H locs → lv_has ls 3 [(0, .ref (al 0)), (1, .int x), (2, .int x2)] → W p l e { frames := 0, cells := 0, slots := 0, locals := 0 } s m ([.ref (al 0), .int x] : List Value).toArray below meth c H locs 0 0 (MQ below (fr_Qi D vwCl (fr_ty ka) (dn_placeIn_2 n f x x2) (fr_cw ka al f Z) A) ([.ref (al 0), .int x] : List Value).toArray s 0 0 A) (F0 m 2 ls []) := by
  obtain ⟨hx, hb, hml, hown, ht, hK, hlocks, hr, hA, hN, hZ, hEx⟩ := id C
  intro n
  induction n with
  | zero =>
    intro x2 H locs ls hm hP hD hS hl
    exact absurd hm (by omega)
  | succ n ih =>
    intro x2 H locs ls hm hP hD hS hl
    refine lv_iload_n hx hb dF_placeInOrder_2 rfl (lv_at hl 2 rfl) ?_
    refine lv_aload_n hx hb dF_placeInOrder_3 rfl (lv_at hl 0 rfl) ?_
    refine gf_F_25 C hP dF_placeInOrder_4 ?_
    refine lv_iconst (v := 1) hx hb dF_placeInOrder_7 (by decide) ?_
    refine lv_isub hx hb dF_placeInOrder_8 ?_
    refine lv_icmp_ge (tgt := 28) hx hb dF_placeInOrder_9 (by decide) (fun c_9 => ?_) (fun c_9 => ?_)
    · skip
      refine lv_iload_n hx hb dF_placeInOrder_28 rfl (lv_at hl 2 rfl) ?_
      have hd_ : dn_placeIn_2 (n + 1) f x x2 = x2 := by rw [dn_placeIn_2, if_pos c_9]
      exact fr_iret C hP hD hS hd_.symm dF_placeInOrder_29
    · skip
      refine lv_aload_n hx hb dF_placeInOrder_12 rfl (lv_at hl 0 rfl) ?_
      refine gf_F_28 C hP dF_placeInOrder_13 ?_
      refine lv_iload_n hx hb dF_placeInOrder_16 rfl (lv_at hl 2 rfl) ?_
      have hin_17 : vp_in x2 12 := by have q0 := fr_t4 c_9; have e0 := hm; have e1 := fr_sub1 gR.1; skip; rw [vp_in_iff]; omega
      refine ald_8 C hP hin_17 dF_placeInOrder_17 ?_
      refine lv_iload_n hx hb dF_placeInOrder_18 rfl (lv_at hl 1 rfl) ?_
      refine lv_icmp_eq (tgt := 28) hx hb dF_placeInOrder_19 (by decide) (fun c_19 => ?_) (fun c_19 => ?_)
      · skip
        refine lv_iload_n hx hb dF_placeInOrder_28 rfl (lv_at hl 2 rfl) ?_
        have hd_ : dn_placeIn_2 (n + 1) f x x2 = x2 := by rw [dn_placeIn_2, if_neg c_9, if_pos c_19]
        exact fr_iret C hP hD hS hd_.symm dF_placeInOrder_29
      · skip
        refine lv_iinc (v := x2 + 1) (lv' := [(2, .int (x2 + 1)), (0, .ref (al 0)), (1, .int x)]) hx hb dF_placeInOrder_22 hl (k := 2) rfl rfl (by decide) rfl (fun ls hl => ?_)
        refine lv_goto (tgt := 2) hx hb dF_placeInOrder_25 (by decide) ?_
        have hd_ : dn_placeIn_2 (n + 1) f x x2 = dn_placeIn_2 n f x (x2 + 1) := by rw [dn_placeIn_2, if_neg c_9, if_neg c_19]
        rw [hd_]
        exact ih (x2 + 1) H locs ls (fr_step rfl c_9 hm) hP hD hS (lv_sub hl [1, 2, 0] rfl)
def dn_placeIn (f : Nat → Nat → Int32) (x : Int32) : Int32 := dn_placeIn_2 12 f x 0
set_option maxHeartbeats 4000000 in
set_option maxRecDepth 100000 in
theorem c_placeIn (l : Launch) (D : va_G) (ka : Nat → ClassId) (al : Nat → Nat) (Z : va_W) (f : Nat → Nat → Int32) (x : Int32) (gR : 1 ≤ (f 0 1).toInt ∧ (f 0 1).toInt ≤ 12) : fr_Mi l y_placeIn (.code y_placeIn prog_1_method_23_code 3 (some .int) :: fr_tbl) { frames := 0, cells := 0, slots := 0, locals := 0 } D vwCl (fr_ty ka) fr_nw [.ref (al 0), .int x] (fr_cw ka al f Z) (dn_placeIn f x) (fr_cw ka al f Z) 0 0 := by
  refine fr_Mi.of (by decide) (Nat.le_of_ble_eq_true rfl) ?_
  intro p e s m below meth c A H locs ls C hP hD hS hl
  obtain ⟨hx, hb, hml, hown, ht, hK, hlocks, hr, hA, hN, hZ, hEx⟩ := id C
  have hl : lv_has ls 3 [(0, .ref (al 0)), (1, .int x)] := hl
  refine lv_iconst (v := 0) hx hb dF_placeInOrder_0 (by decide) ?_
  refine lv_istore_n (lv' := [(2, .int 0), (0, .ref (al 0)), (1, .int x)]) hx hb dF_placeInOrder_1 rfl hl (by decide) rfl (fun ls hl => ?_)
  have hd_ : dn_placeIn f x = dn_placeIn_2 12 f x 0 := by rw [dn_placeIn]
  rw [hd_]
  exact k_placeIn_2 C gR 12 0 H locs ls (by have h := fr_sub1 gR.1; have z : (0 : Int32).toInt = 0 := rfl; omega) hP hD hS (lv_sub hl [1, 2, 0] rfl)
theorem fr_pl2 {f : Nat → Nat → Int32} {x : Int32} : ∀ (n : Nat) (x2 : Int32), (0 ≤ x2.toInt ∧ x2.toInt ≤ (f 0 1 - 1).toInt ∧ (f 0 1 - 1).toInt < x2.toInt + n) → 0 ≤ (dn_placeIn_2 n f x x2).toInt ∧ (dn_placeIn_2 n f x x2).toInt ≤ (f 0 1 - 1).toInt := by
  intro n
  induction n with
  | zero => intro x2 hm; exact absurd hm (by omega)
  | succ n ih =>
    intro x2 hm
    rw [dn_placeIn_2]
    split
    · omega
    · rename_i c1
      split
      · omega
      · exact ih _ (fr_step rfl c1 hm)
theorem fr_pl {f : Nat → Nat → Int32} {x : Int32} (gR : 1 ≤ (f 0 1).toInt ∧ (f 0 1).toInt ≤ 12) : 0 ≤ (dn_placeIn f x).toInt ∧ (dn_placeIn f x).toInt < (f 0 1).toInt := by
  have h := fr_sub1 gR.1
  have h2 := fr_pl2 (f := f) (x := x) 12 0 (by have z : (0 : Int32).toInt = 0 := rfl; omega)
  have e : dn_placeIn f x = dn_placeIn_2 12 f x 0 := by rw [dn_placeIn]
  rw [e]
  omega
theorem fr_sub {a b : Int32} (h : b.toInt ≤ a.toInt) (h0 : 0 ≤ b.toInt) : (a - b).toInt = a.toInt - b.toInt := by
  have h1 := a.toInt_lt
  rw [Int32.toInt_sub, Int.bmod_def]
  split <;> omega
theorem fr_or {f : Nat → Nat → Int32} {x y : Int32} (gR : 0 ≤ (f 0 1).toInt ∧ (f 0 1).toInt ≤ 12) (h : ¬ dn_isRuleNumber f x = 0) (hy : ¬ dn_within y (f 0 1 - 1) = 0) : (0 ≤ (dn_placeIn f x).toInt ∧ (dn_placeIn f x).toInt < (f 0 1).toInt ∧ (f 0 1).toInt ≤ 12) ∧ 0 ≤ y.toInt ∧ y.toInt < (f 0 1).toInt := by
  have g1 := fr_or1 gR h
  have h1 := fr_pl (x := x) g1
  have h2 := fr_wi hy
  have h3 := fr_sub1 g1.1
  omega
theorem fr_or2 {f : Nat → Nat → Int32} {x y : Int32} (gR : 0 ≤ (f 0 1).toInt ∧ (f 0 1).toInt ≤ 12) (h : ¬ dn_isRuleNumber f x = 0) (hy : ¬ dn_within y (f 0 1 - 1) = 0) (c : ¬ y ≤ dn_placeIn f x) : 0 ≤ (dn_placeIn f x + 1).toInt ∧ 0 ≤ (dn_placeIn f x).toInt ∧ 0 ≤ (y - dn_placeIn f x).toInt ∧ (dn_placeIn f x + 1).toInt + (y - dn_placeIn f x).toInt ≤ 12 ∧ (dn_placeIn f x).toInt + (y - dn_placeIn f x).toInt ≤ 12 := by
  have h1 := fr_or gR h hy
  have h2 := fr_t4 c
  have h3 := fr_add1 (x := dn_placeIn f x) h1.1.1 (by omega)
  have h4 := fr_sub (a := y) (b := dn_placeIn f x) (by omega) h1.1.1
  omega
theorem fr_or3 {f : Nat → Nat → Int32} {x y : Int32} (gR : 0 ≤ (f 0 1).toInt ∧ (f 0 1).toInt ≤ 12) (h : ¬ dn_isRuleNumber f x = 0) (hy : ¬ dn_within y (f 0 1 - 1) = 0) (c : y ≤ dn_placeIn f x) : 0 ≤ y.toInt ∧ 0 ≤ (y + 1).toInt ∧ 0 ≤ (dn_placeIn f x - y).toInt ∧ y.toInt + (dn_placeIn f x - y).toInt ≤ 12 ∧ (y + 1).toInt + (dn_placeIn f x - y).toInt ≤ 12 := by
  have h1 := fr_or gR h hy
  have h2 := fr_t3 c
  have h3 := fr_add1 (x := y) h1.2.1 (by omega)
  have h4 := fr_sub (a := dn_placeIn f x) (b := y) (by omega) h1.2.1
  omega

def dn_addRule (f : Nat → Nat → Int32) (x : Int32) (y : Int32) (k : Int32) : Int32 × (Nat → Nat → Int32) := ((f 0 1) + 1, fr_up (fr_up (fr_up (fr_up (fr_up f 4 ((f 0 1).toNatClampNeg) x) 5 ((f 0 1).toNatClampNeg) y) 6 ((f 0 1).toNatClampNeg) k) 8 ((f 0 1).toNatClampNeg) ((f 0 1) + 1)) 0 1 ((f 0 1) + 1))
set_option maxHeartbeats 4000000 in
set_option maxRecDepth 100000 in
theorem c_addRule (l : Launch) (D : va_G) (ka : Nat → ClassId) (al : Nat → Nat) (Z : va_W) (f : Nat → Nat → Int32) (x : Int32) (y : Int32) (k : Int32) (gR : 0 ≤ (f 0 1).toInt ∧ (f 0 1).toInt < 12) : fr_Mi l y_addRule (.code y_addRule prog_1_method_21_code 5 (some .int) :: fr_tbl) { frames := 0, cells := 0, slots := 0, locals := 0 } D vwCl (fr_ty ka) fr_nw [.ref (al 0), .int x, .int y, .int k] (fr_cw ka al f Z) ((dn_addRule f x y k).1) (fr_cw ka al ((dn_addRule f x y k).2) Z) 0 0 := by
  refine fr_Mi.of (by decide) (Nat.le_of_ble_eq_true rfl) ?_
  intro p e s m below meth c A H locs ls C hP hD hS hl
  obtain ⟨hx, hb, hml, hown, ht, hK, hlocks, hr, hA, hN, hZ, hEx⟩ := id C
  have hl : lv_has ls 5 [(0, .ref (al 0)), (1, .int x), (2, .int y), (3, .int k)] := hl
  refine lv_aload_n hx hb dF_addRule_0 rfl (lv_at hl 0 rfl) ?_
  refine gf_F_21 C hP dF_addRule_1 ?_
  refine lv_aload_n hx hb dF_addRule_4 rfl (lv_at hl 0 rfl) ?_
  refine gf_F_25 C hP dF_addRule_5 ?_
  have hin_8 : vp_in (f 0 1) 12 := by skip; rw [vp_in_iff]; omega
  refine ald_aR C hP hin_8 dF_addRule_8 ?_
  refine lv_astore (lv' := [(4, .ref (al (17 + ((f 0 1).toNatClampNeg)))), (0, .ref (al 0)), (1, .int x), (2, .int y), (3, .int k)]) hx hb dF_addRule_9 hl (by decide) rfl (fun ls hl => ?_)
  refine lv_aload hx hb dF_addRule_11 (lv_at hl 0 rfl) ?_
  refine lv_iload_n hx hb dF_addRule_13 rfl (lv_at hl 2 rfl) ?_
  refine pf_F_171 C hP hD hS (fr_lt hin_8) dF_addRule_14 (fun H locs hP hD hS => ?_)
  refine lv_aload hx hb dF_addRule_17 (lv_at hl 0 rfl) ?_
  refine lv_iload_n hx hb dF_addRule_19 rfl (lv_at hl 3 rfl) ?_
  refine pf_F_174 C hP hD hS (fr_lt hin_8) dF_addRule_20 (fun H locs hP hD hS => ?_)
  refine lv_aload hx hb dF_addRule_23 (lv_at hl 0 rfl) ?_
  refine lv_iload_n hx hb dF_addRule_25 rfl (lv_at hl 4 rfl) ?_
  refine pf_F_177 C hP hD hS (fr_lt hin_8) dF_addRule_26 (fun H locs hP hD hS => ?_)
  refine lv_aload_n hx hb dF_addRule_29 rfl (lv_at hl 1 rfl) ?_
  refine gf_F_28 C hP dF_addRule_30 ?_
  refine lv_aload_n hx hb dF_addRule_33 rfl (lv_at hl 1 rfl) ?_
  refine gf_F_25 C hP dF_addRule_34 ?_
  refine W.eq (g2 := F0 m 37 ls [.int (f 0 1), .ref (al 3)]) (by first | rfl | simp [fr_up, fr_row]) ?_
  refine lv_aload_n hx hb dF_addRule_37 rfl (lv_at hl 1 rfl) ?_
  refine gf_F_25 C hP dF_addRule_38 ?_
  refine W.eq (g2 := F0 m 41 ls [.int (f 0 1), .int (f 0 1), .ref (al 3)]) (by first | rfl | simp [fr_up, fr_row]) ?_
  refine lv_iconst (v := 1) hx hb dF_addRule_41 (by decide) ?_
  refine lv_iadd hx hb dF_addRule_42 ?_
  have hin_43 : vp_in (f 0 1) 12 := by skip; rw [vp_in_iff]; omega
  refine ast_8 C hP hD hS hin_43 dF_addRule_43 (fun H locs hP hD hS => ?_)
  refine lv_aload_n hx hb dF_addRule_44 rfl (lv_at hl 1 rfl) ?_
  refine lv_dup hx hb dF_addRule_45 rfl ?_
  refine gf_F_25 C hP dF_addRule_46 ?_
  refine W.eq (g2 := F0 m 49 ls [.int (f 0 1), .ref (al 0)]) (by first | rfl | simp [fr_up, fr_row]) ?_
  refine lv_iconst (v := 1) hx hb dF_addRule_49 (by decide) ?_
  refine lv_iadd hx hb dF_addRule_50 ?_
  refine pf_F_25 C hP hD hS dF_addRule_51 (fun H locs hP hD hS => ?_)
  refine lv_aload_n hx hb dF_addRule_54 rfl (lv_at hl 1 rfl) ?_
  refine gf_F_25 C hP dF_addRule_55 ?_
  refine W.eq (g2 := F0 m 58 ls [.int ((f 0 1) + 1)]) (by first | rfl | simp [fr_up, fr_row]) ?_
  have hd_ : dn_addRule f x y k = ((f 0 1) + 1, fr_up (fr_up (fr_up (fr_up (fr_up f 4 ((f 0 1).toNatClampNeg) x) 5 ((f 0 1).toNatClampNeg) y) 6 ((f 0 1).toNatClampNeg) k) 8 ((f 0 1).toNatClampNeg) ((f 0 1) + 1)) 0 1 ((f 0 1) + 1)) := by rw [dn_addRule]
  rw [hd_]
  exact fr_iret C hP hD hS rfl dF_addRule_58
theorem fr_al_b {g : Nat → Nat → Int32} {x y a b c : Int32} {n : Nat} (h : fr_al g x y (n + 1)) (hc : ¬ x ≤ y) : fr_al (dn_addRule g a b c).2 x (y + 1) n := by
  obtain ⟨h1, h2, h3, h4, h5, h6⟩ := h
  have q1 := fr_t4 hc
  have q0 := x.toInt_lt
  have q2 := fr_add1 (x := y) h4 (by omega)
  have q3 := fr_add1 (x := g 0 1) h2 (by omega)
  have e1 : (dn_addRule g a b c).2 0 1 = g 0 1 + 1 := rfl
  have e2 : (dn_addRule g a b c).2 0 5 = g 0 5 := rfl
  refine ⟨by rw [e2]; exact h1, by rw [e1]; omega, by rw [e1]; omega, by omega, by omega, by omega⟩

theorem cl_F_204 {p : Program} {l : Launch} {e : Env} {R : Room} {s : State} {m : MethodId} {args : Array Value} {below : List Frame} {meth : Method} {c : Code} {H : Heap} {locs : List Loc} {cells slots : Nat} {Q : State → Prop} {D : va_G} {A : Nat → Prop} {cc : ByteArray} {nL pc : Nat} {ret : Option FieldType} {hh : List ExceptionTableEntry} {ls : Array Slot} {rest : List Value} {ka : Nat → ClassId} {al : Nat → Nat} {f : Nat → Nat → Int32} {Z : va_W} {q : Nat} (C : fr_Cx p s m args meth c "FragileRules" cc nL ret hh fr_tbl fr_nw D vwCl (fr_ty ka) A) (hP : va_P D vwCl (fr_cw ka al f Z) H) (hD : va_D A (fr_cw ka al f Z)) (hS : va_S A s.heap H locs) (hsz : ls.size = nL) (hR : 0 + 1 ≤ R.frames ∧ 8 + (1 + 11) + 0 ≤ R.locals) (hw : (rest.map fun v => v.category).sum ≤ 8) (hf : cells + 0 ≤ R.cells ∧ slots + 0 ≤ R.slots) (hq : q < 12) (hdg : decode cc pc = .ok (.invokevirtual 204, 3)) (kk : ∀ (H : Heap) (locs : List Loc), va_P D vwCl (fr_cw ka al f Z) H → va_D A (fr_cw ka al f Z) → va_S A s.heap H locs → W p l e R s m args below meth c H locs (cells + 0) (slots + 0) Q (F0 m (pc + 3) ls (.int (dn_asking f q) :: rest))) : W p l e R s m args below meth c H locs cells slots Q (F0 m pc ls (.ref (al (17 + q)) :: rest)) :=
  fr_callVi (As := []) C hP hD hS (c_asking l D ka al Z f q hq) (cwV 0 C.2.2.2.2.1 (fr_goodV ml_F_204 mi_asking msel_asking mini_R mc_asking) rfl rfl rfl (by decide +kernel) hR) (va_recv C.2.2.2.2.2.1 hP (ci := 2) (q0 := (17 + q)) rfl (fr_cw_r hq)) rfl hsz hw hdg hf kk
theorem cl_F_207 {p : Program} {l : Launch} {e : Env} {R : Room} {s : State} {m : MethodId} {args : Array Value} {below : List Frame} {meth : Method} {c : Code} {H : Heap} {locs : List Loc} {cells slots : Nat} {Q : State → Prop} {D : va_G} {A : Nat → Prop} {cc : ByteArray} {nL pc : Nat} {ret : Option FieldType} {hh : List ExceptionTableEntry} {ls : Array Slot} {rest : List Value} {ka : Nat → ClassId} {al : Nat → Nat} {f : Nat → Nat → Int32} {Z : va_W} {q : Nat} {u : Nat} {v : Nat} {x : Int32} (C : fr_Cx p s m args meth c "FragileRules" cc nL ret hh fr_tbl fr_nw D vwCl (fr_ty ka) A) (hP : va_P D vwCl (fr_cw ka al f Z) H) (hD : va_D A (fr_cw ka al f Z)) (hS : va_S A s.heap H locs) (hsz : ls.size = nL) (hR : 2 + 1 ≤ R.frames ∧ 8 + (4 + 11) + 44 ≤ R.locals) (hw : (rest.map fun v => v.category).sum ≤ 8) (hf : cells + 0 ≤ R.cells ∧ slots + 0 ≤ R.slots) (hq : q < 12) (hu : u < 10) (hv : v < 10) (hdg : decode cc pc = .ok (.invokevirtual 207, 3)) (kk : ∀ (H : Heap) (locs : List Loc), va_P D vwCl (fr_cw ka al f Z) H → va_D A (fr_cw ka al f Z) → va_S A s.heap H locs → W p l e R s m args below meth c H locs (cells + 0) (slots + 0) Q (F0 m (pc + 3) ls (.int (dn_refuses f q u v x) :: rest))) : W p l e R s m args below meth c H locs cells slots Q (F0 m pc ls (.int x :: .ref (al (7 + v)) :: .ref (al (7 + u)) :: .ref (al (17 + q)) :: rest)) :=
  fr_callVi (As := [.ref (al (7 + u)), .ref (al (7 + v)), .int x]) C hP hD hS (c_refuses l D ka al Z f q u v x hq hu hv) (cwV 3 C.2.2.2.2.1 (fr_goodV ml_F_207 mi_refuses msel_refuses mini_R mc_refuses) rfl rfl rfl (by decide +kernel) hR) (va_recv C.2.2.2.2.2.1 hP (ci := 2) (q0 := (17 + q)) rfl (fr_cw_r hq)) rfl hsz hw hdg hf kk
def dn_firstRefusing_8 : Nat → (Int32) → (Nat) → (Nat) → (Int32) → (Nat → Nat → Int32) → (Int32) → Int32 × (Nat → Nat → Int32)
  | 0, _, _, _, _, _, _ => (0, fun _ _ => 0)
  | n + 1, y, u, v, x, g, x5 => if (g 0 1) ≤ x5 then (0, g) else (if (dn_asking g (((g 8 x5.toNatClampNeg) - 1).toNatClampNeg)) = y then (if (dn_refuses (fr_up (fr_up g 9 ((g 0 2).toNatClampNeg) (g 8 x5.toNatClampNeg)) 0 2 ((g 0 2) + 1)) (((g 8 x5.toNatClampNeg) - 1).toNatClampNeg) u v x) = 0 then (dn_firstRefusing_8 n y u v x (fr_up (fr_up g 9 ((g 0 2).toNatClampNeg) (g 8 x5.toNatClampNeg)) 0 2 ((g 0 2) + 1)) (x5 + 1)) else (g 8 x5.toNatClampNeg, fr_up (fr_up (fr_up g 9 ((g 0 2).toNatClampNeg) (g 8 x5.toNatClampNeg)) 0 2 ((g 0 2) + 1)) 7 (((g 8 x5.toNatClampNeg) - 1).toNatClampNeg) ((g 7 (((g 8 x5.toNatClampNeg) - 1).toNatClampNeg)) + 1))) else (dn_firstRefusing_8 n y u v x g (x5 + 1)))
set_option maxHeartbeats 4000000 in
set_option maxRecDepth 100000 in
theorem k_firstRefusing_8 {p : Program} {l : Launch} {e : Env} {s : State} {m : MethodId} {below : List Frame} {meth : Method} {c : Code} {D : va_G} {A : Nat → Prop} {ka : Nat → ClassId} {al : Nat → Nat} {Z : va_W} {f : Nat → Nat → Int32} {y : Int32} {u : Nat} {v : Nat} {x : Int32} (C : fr_Cx p s m ([.ref (al 0), .int y, .ref (al (7 + u)), .ref (al (7 + v)), .int x] : List Value).toArray meth c "FragileRules" prog_1_method_26_code 8 (some .int) [] fr_tbl fr_nw D vwCl (fr_ty ka) A) (hu : u < 10) (hv : v < 10) (gR : 0 ≤ (f 0 1).toInt ∧ (f 0 1).toInt ≤ 12) (gO : fr_ord f) :
    ∀ (n : Nat) (g : Nat → Nat → Int32) (x5 : Int32) (H : Heap) (locs : List Loc) (ls : Array Slot), fr_lp g x5 n → va_P D vwCl (fr_cw ka al g Z) H → va_D A (fr_cw ka al g Z) → va_S A s.heap H locs → lv_has ls 8 [(0, .ref (al 0)), (1, .int y), (2, .ref (al (7 + u))), (3, .ref (al (7 + v))), (4, .int x), (5, .int x5)] → W p l e { frames := 3, cells := 0, slots := 0, locals := 67 } s m ([.ref (al 0), .int y, .ref (al (7 + u)), .ref (al (7 + v)), .int x] : List Value).toArray below meth c H locs 0 0 (MQ below (fr_Qi D vwCl (fr_ty ka) (dn_firstRefusing_8 n y u v x g x5).1 (fr_cw ka al ((dn_firstRefusing_8 n y u v x g x5).2) Z) A) ([.ref (al 0), .int y, .ref (al (7 + u)), .ref (al (7 + v)), .int x] : List Value).toArray s 0 0 A) (F0 m 8 ls []) := by
  obtain ⟨hx, hb, hml, hown, ht, hK, hlocks, hr, hA, hN, hZ, hEx⟩ := id C
  intro n
  induction n with
  | zero =>
    intro g x5 H locs ls hm hP hD hS hl
    exact fr_lp_0 hm
  | succ n ih =>
    intro g x5 H locs ls hm hP hD hS hl
    refine lv_iload hx hb dF_firstRefusing_8 (lv_at hl 5 rfl) ?_
    refine lv_aload_n hx hb dF_firstRefusing_10 rfl (lv_at hl 0 rfl) ?_
    refine gf_F_25 C hP dF_firstRefusing_11 ?_
    refine lv_icmp_ge (tgt := 99) hx hb dF_firstRefusing_14 (by decide) (fun c_14 => ?_) (fun c_14 => ?_)
    · skip
      refine lv_iconst (v := 0) hx hb dF_firstRefusing_99 (by decide) ?_
      have hd_ : dn_firstRefusing_8 (n + 1) y u v x g x5 = (0, g) := by rw [dn_firstRefusing_8, if_pos c_14]
      rw [hd_]
      exact fr_iret C hP hD hS rfl dF_firstRefusing_100
    · skip
      refine lv_aload_n hx hb dF_firstRefusing_17 rfl (lv_at hl 0 rfl) ?_
      refine gf_F_28 C hP dF_firstRefusing_18 ?_
      refine lv_iload hx hb dF_firstRefusing_21 (lv_at hl 5 rfl) ?_
      have hin_23 : vp_in x5 12 := by have q0 := fr_t4 c_14; have e0 := hm.1; have e1 := hm.2.2.2.2; skip; rw [vp_in_iff]; omega
      refine ald_8 C hP hin_23 dF_firstRefusing_23 ?_
      refine lv_istore (lv' := [(6, .int (g 8 x5.toNatClampNeg)), (0, .ref (al 0)), (1, .int y), (2, .ref (al (7 + u))), (3, .ref (al (7 + v))), (4, .int x), (5, .int x5)]) hx hb dF_firstRefusing_24 hl (by decide) rfl (fun ls hl => ?_)
      refine lv_aload_n hx hb dF_firstRefusing_26 rfl (lv_at hl 1 rfl) ?_
      refine gf_F_21 C hP dF_firstRefusing_27 ?_
      refine lv_iload hx hb dF_firstRefusing_30 (lv_at hl 0 rfl) ?_
      refine lv_iconst (v := 1) hx hb dF_firstRefusing_32 (by decide) ?_
      refine lv_isub hx hb dF_firstRefusing_33 ?_
      have hin_34 : vp_in ((g 8 x5.toNatClampNeg) - 1) 12 := by have q0 := fr_t4 c_14; have e0 := fr_lp_ord hm c_14; have e1 := fr_sub1 (fr_lp_ord hm c_14).1; have e2 := hm.1; skip; rw [vp_in_iff]; omega
      refine ald_aR C hP hin_34 dF_firstRefusing_34 ?_
      refine lv_astore (lv' := [(7, .ref (al (17 + (((g 8 x5.toNatClampNeg) - 1).toNatClampNeg)))), (6, .int (g 8 x5.toNatClampNeg)), (0, .ref (al 0)), (1, .int y), (2, .ref (al (7 + u))), (3, .ref (al (7 + v))), (4, .int x), (5, .int x5)]) hx hb dF_firstRefusing_35 hl (by decide) rfl (fun ls hl => ?_)
      refine lv_aload hx hb dF_firstRefusing_37 (lv_at hl 0 rfl) ?_
      refine cl_F_204 C hP hD hS hl.1 ⟨Nat.le_of_ble_eq_true rfl, Nat.le_of_ble_eq_true rfl⟩ (Nat.le_of_ble_eq_true rfl) ⟨Nat.le_of_ble_eq_true rfl, Nat.le_of_ble_eq_true rfl⟩ (fr_lt hin_34) dF_firstRefusing_39 (fun H locs hP hD hS => ?_)
      refine lv_iload_n hx hb dF_firstRefusing_42 rfl (lv_at hl 3 rfl) ?_
      refine lv_icmp_ne (tgt := 93) hx hb dF_firstRefusing_43 (by decide) (fun c_43 => ?_) (fun c_43 => ?_)
      · skip
        refine lv_iinc (v := x5 + 1) (lv' := [(5, .int (x5 + 1)), (7, .ref (al (17 + (((g 8 x5.toNatClampNeg) - 1).toNatClampNeg)))), (6, .int (g 8 x5.toNatClampNeg)), (0, .ref (al 0)), (1, .int y), (2, .ref (al (7 + u))), (3, .ref (al (7 + v))), (4, .int x)]) hx hb dF_firstRefusing_93 hl (k := 7) rfl rfl (by decide) rfl (fun ls hl => ?_)
        refine lv_goto (tgt := 8) hx hb dF_firstRefusing_96 (by decide) ?_
        have hd_ : dn_firstRefusing_8 (n + 1) y u v x g x5 = dn_firstRefusing_8 n y u v x g (x5 + 1) := by rw [dn_firstRefusing_8, if_neg c_14, if_neg c_43]
        rw [hd_]
        exact ih g (x5 + 1) H locs ls (fr_lp_a hm c_14) hP hD hS (lv_sub hl [3, 4, 5, 6, 7, 0] rfl)
      · skip
        refine lv_aload_n hx hb dF_firstRefusing_46 rfl (lv_at hl 2 rfl) ?_
        refine gf_F_32 C hP dF_firstRefusing_47 ?_
        refine lv_aload_n hx hb dF_firstRefusing_50 rfl (lv_at hl 2 rfl) ?_
        refine gf_F_35 C hP dF_firstRefusing_51 ?_
        refine lv_iload hx hb dF_firstRefusing_54 (lv_at hl 1 rfl) ?_
        have hin_56 : vp_in (g 0 2) 12 := by have q0 := fr_t4 c_14; have q1 := fr_t5 c_43; have e0 := hm.1; have e1 := hm.2.2; skip; rw [vp_in_iff]; omega
        refine ast_9 C hP hD hS hin_56 dF_firstRefusing_56 (fun H locs hP hD hS => ?_)
        refine lv_aload_n hx hb dF_firstRefusing_57 rfl (lv_at hl 2 rfl) ?_
        refine lv_dup hx hb dF_firstRefusing_58 rfl ?_
        refine gf_F_35 C hP dF_firstRefusing_59 ?_
        refine W.eq (g2 := F0 m 62 ls [.int (g 0 2), .ref (al 0)]) (by first | rfl | simp [fr_up, fr_row]) ?_
        refine lv_iconst (v := 1) hx hb dF_firstRefusing_62 (by decide) ?_
        refine lv_iadd hx hb dF_firstRefusing_63 ?_
        refine pf_F_35 C hP hD hS dF_firstRefusing_64 (fun H locs hP hD hS => ?_)
        refine lv_aload hx hb dF_firstRefusing_67 (lv_at hl 0 rfl) ?_
        refine lv_aload_n hx hb dF_firstRefusing_69 rfl (lv_at hl 4 rfl) ?_
        refine lv_aload_n hx hb dF_firstRefusing_70 rfl (lv_at hl 5 rfl) ?_
        refine lv_iload hx hb dF_firstRefusing_71 (lv_at hl 6 rfl) ?_
        refine cl_F_207 C hP hD hS hl.1 ⟨Nat.le_of_ble_eq_true rfl, Nat.le_of_ble_eq_true rfl⟩ (Nat.le_of_ble_eq_true rfl) ⟨Nat.le_of_ble_eq_true rfl, Nat.le_of_ble_eq_true rfl⟩ (fr_lt hin_34) hu hv dF_firstRefusing_73 (fun H locs hP hD hS => ?_)
        refine lv_if_eq (tgt := 93) hx hb dF_firstRefusing_76 (by decide) (fun c_76 => ?_) (fun c_76 => ?_)
        · skip
          refine lv_iinc (v := x5 + 1) (lv' := [(5, .int (x5 + 1)), (7, .ref (al (17 + (((g 8 x5.toNatClampNeg) - 1).toNatClampNeg)))), (6, .int (g 8 x5.toNatClampNeg)), (0, .ref (al 0)), (1, .int y), (2, .ref (al (7 + u))), (3, .ref (al (7 + v))), (4, .int x)]) hx hb dF_firstRefusing_93 hl (k := 7) rfl rfl (by decide) rfl (fun ls hl => ?_)
          refine lv_goto (tgt := 8) hx hb dF_firstRefusing_96 (by decide) ?_
          have hd_ : dn_firstRefusing_8 (n + 1) y u v x g x5 = dn_firstRefusing_8 n y u v x (fr_up (fr_up g 9 ((g 0 2).toNatClampNeg) (g 8 x5.toNatClampNeg)) 0 2 ((g 0 2) + 1)) (x5 + 1) := by rw [dn_firstRefusing_8, if_neg c_14, if_pos c_43, if_pos c_76]
          rw [hd_]
          exact ih (fr_up (fr_up g 9 ((g 0 2).toNatClampNeg) (g 8 x5.toNatClampNeg)) 0 2 ((g 0 2) + 1)) (x5 + 1) H locs ls (fr_lp_b hm c_14) hP hD hS (lv_sub hl [3, 4, 5, 6, 7, 0] rfl)
        · skip
          refine lv_aload hx hb dF_firstRefusing_79 (lv_at hl 0 rfl) ?_
          refine lv_dup hx hb dF_firstRefusing_81 rfl ?_
          refine gf_F_151 C hP (fr_lt hin_34) dF_firstRefusing_82 ?_
          refine W.eq (g2 := F0 m 85 ls [.int (g 7 (((g 8 x5.toNatClampNeg) - 1).toNatClampNeg)), .ref (al (17 + (((g 8 x5.toNatClampNeg) - 1).toNatClampNeg)))]) (by first | rfl | simp [fr_up, fr_row]) ?_
          refine lv_iconst (v := 1) hx hb dF_firstRefusing_85 (by decide) ?_
          refine lv_iadd hx hb dF_firstRefusing_86 ?_
          refine pf_F_151 C hP hD hS (fr_lt hin_34) dF_firstRefusing_87 (fun H locs hP hD hS => ?_)
          refine lv_iload hx hb dF_firstRefusing_90 (lv_at hl 1 rfl) ?_
          have hd_ : dn_firstRefusing_8 (n + 1) y u v x g x5 = (g 8 x5.toNatClampNeg, fr_up (fr_up (fr_up g 9 ((g 0 2).toNatClampNeg) (g 8 x5.toNatClampNeg)) 0 2 ((g 0 2) + 1)) 7 (((g 8 x5.toNatClampNeg) - 1).toNatClampNeg) ((g 7 (((g 8 x5.toNatClampNeg) - 1).toNatClampNeg)) + 1)) := by rw [dn_firstRefusing_8, if_neg c_14, if_pos c_43, if_neg c_76]
          rw [hd_]
          exact fr_iret C hP hD hS rfl dF_firstRefusing_92
def dn_firstRefusing (f : Nat → Nat → Int32) (y : Int32) (u : Nat) (v : Nat) (x : Int32) : Int32 × (Nat → Nat → Int32) := dn_firstRefusing_8 13 y u v x (fr_up f 0 2 0) 0
set_option maxHeartbeats 4000000 in
set_option maxRecDepth 100000 in
theorem c_firstRefusing (l : Launch) (D : va_G) (ka : Nat → ClassId) (al : Nat → Nat) (Z : va_W) (f : Nat → Nat → Int32) (y : Int32) (u : Nat) (v : Nat) (x : Int32) (hu : u < 10) (hv : v < 10) (gR : 0 ≤ (f 0 1).toInt ∧ (f 0 1).toInt ≤ 12) (gO : fr_ord f) : fr_Mi l y_firstRefusing (.code y_firstRefusing prog_1_method_26_code 8 (some .int) :: fr_tbl) { frames := 3, cells := 0, slots := 0, locals := 67 } D vwCl (fr_ty ka) fr_nw [.ref (al 0), .int y, .ref (al (7 + u)), .ref (al (7 + v)), .int x] (fr_cw ka al f Z) ((dn_firstRefusing f y u v x).1) (fr_cw ka al ((dn_firstRefusing f y u v x).2) Z) 0 0 := by
  refine fr_Mi.of (by decide) (Nat.le_of_ble_eq_true rfl) ?_
  intro p e s m below meth c A H locs ls C hP hD hS hl
  obtain ⟨hx, hb, hml, hown, ht, hK, hlocks, hr, hA, hN, hZ, hEx⟩ := id C
  have hl : lv_has ls 8 [(0, .ref (al 0)), (1, .int y), (2, .ref (al (7 + u))), (3, .ref (al (7 + v))), (4, .int x)] := hl
  refine lv_aload_n hx hb dF_firstRefusing_0 rfl (lv_at hl 0 rfl) ?_
  refine lv_iconst (v := 0) hx hb dF_firstRefusing_1 (by decide) ?_
  refine pf_F_35 C hP hD hS dF_firstRefusing_2 (fun H locs hP hD hS => ?_)
  refine lv_iconst (v := 0) hx hb dF_firstRefusing_5 (by decide) ?_
  refine lv_istore (lv' := [(5, .int 0), (0, .ref (al 0)), (1, .int y), (2, .ref (al (7 + u))), (3, .ref (al (7 + v))), (4, .int x)]) hx hb dF_firstRefusing_6 hl (by decide) rfl (fun ls hl => ?_)
  have hd_ : dn_firstRefusing f y u v x = dn_firstRefusing_8 13 y u v x (fr_up f 0 2 0) 0 := by rw [dn_firstRefusing]
  rw [hd_]
  exact k_firstRefusing_8 C hu hv gR gO 13 (fr_up f 0 2 0) 0 H locs ls (fr_lp_in gR gO) hP hD hS (lv_sub hl [1, 2, 3, 4, 5, 0] rfl)
theorem fr_fr8_keep {y x : Int32} {u v : Nat} {r k : Nat} (h7 : r ≠ 7) (h9 : r ≠ 9) (h2 : ¬ (r = 0 ∧ k = 2)) : ∀ (n : Nat) (g : Nat → Nat → Int32) (x5 : Int32), (g 0 1).toInt < x5.toInt + n → 0 ≤ x5.toInt → (dn_firstRefusing_8 n y u v x g x5).2 r k = g r k ∨ n = 0 := by
  intro n
  induction n with
  | zero => intro g x5 _ _; exact Or.inr rfl
  | succ n ih =>
    intro g x5 hm h0
    left
    rw [dn_firstRefusing_8]
    have key : ∀ g' : Nat → Nat → Int32, g' 0 1 = g 0 1 → g' r k = g r k → ¬ g 0 1 ≤ x5 → (dn_firstRefusing_8 n y u v x g' (x5 + 1)).2 r k = g r k := by
      intro g' e1 e2 c
      have q1 := fr_t4 c
      have q4 := (g 0 1).toInt_lt
      have q2 := fr_add1 (x := x5) h0 (by omega)
      rcases ih g' (x5 + 1) (by rw [e1]; omega) (by omega) with h | h
      · rw [h, e2]
      · subst h; omega
    repeat' split
    all_goals first
      | rfl
      | (apply key <;> first | rfl | assumption)
      | (simp [fr_up, h7, h9, h2]; done)
      | (apply key <;> first | rfl | assumption | (simp [fr_up, h7, h9, h2]; done))
theorem fr_fr_keep {f : Nat → Nat → Int32} {y x : Int32} {u v r k : Nat} (gR : 0 ≤ (f 0 1).toInt ∧ (f 0 1).toInt ≤ 12) (h7 : r ≠ 7) (h9 : r ≠ 9) (h2 : ¬ (r = 0 ∧ k = 2)) : (dn_firstRefusing f y u v x).2 r k = f r k := by
  rw [dn_firstRefusing]
  have z : (0 : Int32).toInt = 0 := rfl
  rcases fr_fr8_keep (y := y) (x := x) (u := u) (v := v) h7 h9 h2 13 (fr_up f 0 2 0) 0 (by show (f 0 1).toInt < _; omega) (Int.le_refl _) with h | h
  · rw [h]; simp [fr_up, h2]
  · cases h
theorem fr_ro_fr {g : Nat → Nat → Int32} {y x : Int32} {u v : Nat} (h : fr_ro g) : fr_ro (dn_firstRefusing g y u v x).2 := by
  obtain ⟨h1, h2⟩ := h
  have e1 : (dn_firstRefusing g y u v x).2 0 1 = g 0 1 := fr_fr_keep h1 (by decide) (by decide) (by decide)
  refine ⟨by rw [e1]; exact h1, fun k hk => ?_⟩
  rw [e1] at hk ⊢
  rw [fr_fr_keep h1 (by decide) (by decide) (by omega)]
  exact h2 k hk
end
section
theorem cl_F_201 {p : Program} {l : Launch} {e : Env} {R : Room} {s : State} {m : MethodId} {args : Array Value} {below : List Frame} {meth : Method} {c : Code} {H : Heap} {locs : List Loc} {cells slots : Nat} {Q : State → Prop} {D : va_G} {A : Nat → Prop} {cc : ByteArray} {nL pc : Nat} {ret : Option FieldType} {hh : List ExceptionTableEntry} {ls : Array Slot} {rest : List Value} {ka : Nat → ClassId} {al : Nat → Nat} {f : Nat → Nat → Int32} {Z : va_W} {y : Int32} {u : Nat} {v : Nat} {x : Int32} (C : fr_Cx p s m args meth c "FragileRules" cc nL ret hh fr_tbl fr_nw D vwCl (fr_ty ka) A) (hP : va_P D vwCl (fr_cw ka al f Z) H) (hD : va_D A (fr_cw ka al f Z)) (hS : va_S A s.heap H locs) (hsz : ls.size = nL) (hR : 3 + 1 ≤ R.frames ∧ 8 + (8 + 11) + 67 ≤ R.locals) (hw : (rest.map fun v => v.category).sum ≤ 8) (hf : cells + 0 ≤ R.cells ∧ slots + 0 ≤ R.slots) (hu : u < 10) (hv : v < 10) (gR : 0 ≤ (f 0 1).toInt ∧ (f 0 1).toInt ≤ 12) (gO : fr_ord f) (hdg : decode cc pc = .ok (.invokevirtual 201, 3)) (kk : ∀ (H : Heap) (locs : List Loc), va_P D vwCl (fr_cw ka al ((dn_firstRefusing f y u v x).2) Z) H → va_D A (fr_cw ka al ((dn_firstRefusing f y u v x).2) Z) → va_S A s.heap H locs → W p l e R s m args below meth c H locs (cells + 0) (slots + 0) Q (F0 m (pc + 3) ls (.int ((dn_firstRefusing f y u v x).1) :: rest))) : W p l e R s m args below meth c H locs cells slots Q (F0 m pc ls (.int x :: .ref (al (7 + v)) :: .ref (al (7 + u)) :: .int y :: .ref (al 0) :: rest)) :=
  fr_callVi (As := [.int y, .ref (al (7 + u)), .ref (al (7 + v)), .int x]) C hP hD hS (c_firstRefusing l D ka al Z f y u v x hu hv gR gO) (cwV 4 C.2.2.2.2.1 (fr_goodV ml_F_201 mi_firstRefusing msel_firstRefusing mini_F mc_firstRefusing) rfl rfl rfl (by decide +kernel) hR) (va_recv C.2.2.2.2.2.1 hP (ci := 0) (q0 := 0) rfl rfl) rfl hsz hw hdg hf kk
def dn_verdict (f : Nat → Nat → Int32) (y : Int32) (u : Nat) (v : Nat) (x : Int32) : Int32 × (Nat → Nat → Int32) := if ((dn_firstRefusing f y u v x).1) = 0 then ((dn_firstRefusing f y u v x).1, fr_up ((dn_firstRefusing f y u v x).2) 0 3 ((((dn_firstRefusing f y u v x).2) 0 3) + 1)) else ((dn_firstRefusing f y u v x).1, fr_up (fr_up ((dn_firstRefusing f y u v x).2) 0 3 ((((dn_firstRefusing f y u v x).2) 0 3) + 1)) 0 4 ((((dn_firstRefusing f y u v x).2) 0 4) + 1))
set_option maxHeartbeats 4000000 in
set_option maxRecDepth 100000 in
theorem c_verdict (l : Launch) (D : va_G) (ka : Nat → ClassId) (al : Nat → Nat) (Z : va_W) (f : Nat → Nat → Int32) (y : Int32) (u : Nat) (v : Nat) (x : Int32) (hu : u < 10) (hv : v < 10) (gR : 0 ≤ (f 0 1).toInt ∧ (f 0 1).toInt ≤ 12) (gO : fr_ord f) : fr_Mi l y_verdict (.code y_verdict prog_1_method_24_code 6 (some .int) :: fr_tbl) { frames := 4, cells := 0, slots := 0, locals := 94 } D vwCl (fr_ty ka) fr_nw [.ref (al 0), .int y, .ref (al (7 + u)), .ref (al (7 + v)), .int x] (fr_cw ka al f Z) ((dn_verdict f y u v x).1) (fr_cw ka al ((dn_verdict f y u v x).2) Z) 0 0 := by
  refine fr_Mi.of (by decide) (Nat.le_of_ble_eq_true rfl) ?_
  intro p e s m below meth c A H locs ls C hP hD hS hl
  obtain ⟨hx, hb, hml, hown, ht, hK, hlocks, hr, hA, hN, hZ, hEx⟩ := id C
  have hl : lv_has ls 6 [(0, .ref (al 0)), (1, .int y), (2, .ref (al (7 + u))), (3, .ref (al (7 + v))), (4, .int x)] := hl
  refine lv_aload_n hx hb dF_verdict_0 rfl (lv_at hl 0 rfl) ?_
  refine lv_iload_n hx hb dF_verdict_1 rfl (lv_at hl 1 rfl) ?_
  refine lv_aload_n hx hb dF_verdict_2 rfl (lv_at hl 2 rfl) ?_
  refine lv_aload_n hx hb dF_verdict_3 rfl (lv_at hl 3 rfl) ?_
  refine lv_iload hx hb dF_verdict_4 (lv_at hl 4 rfl) ?_
  refine cl_F_201 C hP hD hS hl.1 ⟨Nat.le_of_ble_eq_true rfl, Nat.le_of_ble_eq_true rfl⟩ (Nat.le_of_ble_eq_true rfl) ⟨Nat.le_of_ble_eq_true rfl, Nat.le_of_ble_eq_true rfl⟩ hu hv gR gO dF_verdict_6 (fun H locs hP hD hS => ?_)
  refine lv_istore (lv' := [(5, .int ((dn_firstRefusing f y u v x).1)), (0, .ref (al 0)), (1, .int y), (2, .ref (al (7 + u))), (3, .ref (al (7 + v))), (4, .int x)]) hx hb dF_verdict_9 hl (by decide) rfl (fun ls hl => ?_)
  refine lv_aload_n hx hb dF_verdict_11 rfl (lv_at hl 1 rfl) ?_
  refine lv_dup hx hb dF_verdict_12 rfl ?_
  refine gf_F_45 C hP dF_verdict_13 ?_
  refine lv_iconst (v := 1) hx hb dF_verdict_16 (by decide) ?_
  refine lv_iadd hx hb dF_verdict_17 ?_
  refine pf_F_45 C hP hD hS dF_verdict_18 (fun H locs hP hD hS => ?_)
  refine lv_iload hx hb dF_verdict_21 (lv_at hl 0 rfl) ?_
  refine lv_if_eq (tgt := 36) hx hb dF_verdict_23 (by decide) (fun c_23 => ?_) (fun c_23 => ?_)
  · skip
    refine lv_iload hx hb dF_verdict_36 (lv_at hl 0 rfl) ?_
    have hd_ : dn_verdict f y u v x = ((dn_firstRefusing f y u v x).1, fr_up ((dn_firstRefusing f y u v x).2) 0 3 ((((dn_firstRefusing f y u v x).2) 0 3) + 1)) := by rw [dn_verdict, if_pos c_23]
    rw [hd_]
    exact fr_iret C hP hD hS rfl dF_verdict_38
  · skip
    refine lv_aload_n hx hb dF_verdict_26 rfl (lv_at hl 1 rfl) ?_
    refine lv_dup hx hb dF_verdict_27 rfl ?_
    refine gf_F_48 C hP dF_verdict_28 ?_
    refine W.eq (g2 := F0 m 31 ls [.int (((dn_firstRefusing f y u v x).2) 0 4), .ref (al 0)]) (by first | rfl | simp [fr_up, fr_row]) ?_
    refine lv_iconst (v := 1) hx hb dF_verdict_31 (by decide) ?_
    refine lv_iadd hx hb dF_verdict_32 ?_
    refine pf_F_48 C hP hD hS dF_verdict_33 (fun H locs hP hD hS => ?_)
    refine lv_iload hx hb dF_verdict_36 (lv_at hl 0 rfl) ?_
    have hd_ : dn_verdict f y u v x = ((dn_firstRefusing f y u v x).1, fr_up (fr_up ((dn_firstRefusing f y u v x).2) 0 3 ((((dn_firstRefusing f y u v x).2) 0 3) + 1)) 0 4 ((((dn_firstRefusing f y u v x).2) 0 4) + 1)) := by rw [dn_verdict, if_neg c_23]
    rw [hd_]
    exact fr_iret C hP hD hS rfl dF_verdict_38

def dn_bitCount (x : Int32) : Int32 := (((((((x - (((x.toUInt32 >>> ((1 : Int32).toUInt32 &&& Int32.toUInt32 31)).toInt32) &&& 1431655765)) &&& 858993459) + ((((x - (((x.toUInt32 >>> ((1 : Int32).toUInt32 &&& Int32.toUInt32 31)).toInt32) &&& 1431655765)).toUInt32 >>> ((2 : Int32).toUInt32 &&& Int32.toUInt32 31)).toInt32) &&& 858993459)) + (((((x - (((x.toUInt32 >>> ((1 : Int32).toUInt32 &&& Int32.toUInt32 31)).toInt32) &&& 1431655765)) &&& 858993459) + ((((x - (((x.toUInt32 >>> ((1 : Int32).toUInt32 &&& Int32.toUInt32 31)).toInt32) &&& 1431655765)).toUInt32 >>> ((2 : Int32).toUInt32 &&& Int32.toUInt32 31)).toInt32) &&& 858993459)).toUInt32 >>> ((4 : Int32).toUInt32 &&& Int32.toUInt32 31)).toInt32)) &&& 252645135) + (((((((x - (((x.toUInt32 >>> ((1 : Int32).toUInt32 &&& Int32.toUInt32 31)).toInt32) &&& 1431655765)) &&& 858993459) + ((((x - (((x.toUInt32 >>> ((1 : Int32).toUInt32 &&& Int32.toUInt32 31)).toInt32) &&& 1431655765)).toUInt32 >>> ((2 : Int32).toUInt32 &&& Int32.toUInt32 31)).toInt32) &&& 858993459)) + (((((x - (((x.toUInt32 >>> ((1 : Int32).toUInt32 &&& Int32.toUInt32 31)).toInt32) &&& 1431655765)) &&& 858993459) + ((((x - (((x.toUInt32 >>> ((1 : Int32).toUInt32 &&& Int32.toUInt32 31)).toInt32) &&& 1431655765)).toUInt32 >>> ((2 : Int32).toUInt32 &&& Int32.toUInt32 31)).toInt32) &&& 858993459)).toUInt32 >>> ((4 : Int32).toUInt32 &&& Int32.toUInt32 31)).toInt32)) &&& 252645135).toUInt32 >>> ((8 : Int32).toUInt32 &&& Int32.toUInt32 31)).toInt32)) + ((((((((x - (((x.toUInt32 >>> ((1 : Int32).toUInt32 &&& Int32.toUInt32 31)).toInt32) &&& 1431655765)) &&& 858993459) + ((((x - (((x.toUInt32 >>> ((1 : Int32).toUInt32 &&& Int32.toUInt32 31)).toInt32) &&& 1431655765)).toUInt32 >>> ((2 : Int32).toUInt32 &&& Int32.toUInt32 31)).toInt32) &&& 858993459)) + (((((x - (((x.toUInt32 >>> ((1 : Int32).toUInt32 &&& Int32.toUInt32 31)).toInt32) &&& 1431655765)) &&& 858993459) + ((((x - (((x.toUInt32 >>> ((1 : Int32).toUInt32 &&& Int32.toUInt32 31)).toInt32) &&& 1431655765)).toUInt32 >>> ((2 : Int32).toUInt32 &&& Int32.toUInt32 31)).toInt32) &&& 858993459)).toUInt32 >>> ((4 : Int32).toUInt32 &&& Int32.toUInt32 31)).toInt32)) &&& 252645135) + (((((((x - (((x.toUInt32 >>> ((1 : Int32).toUInt32 &&& Int32.toUInt32 31)).toInt32) &&& 1431655765)) &&& 858993459) + ((((x - (((x.toUInt32 >>> ((1 : Int32).toUInt32 &&& Int32.toUInt32 31)).toInt32) &&& 1431655765)).toUInt32 >>> ((2 : Int32).toUInt32 &&& Int32.toUInt32 31)).toInt32) &&& 858993459)) + (((((x - (((x.toUInt32 >>> ((1 : Int32).toUInt32 &&& Int32.toUInt32 31)).toInt32) &&& 1431655765)) &&& 858993459) + ((((x - (((x.toUInt32 >>> ((1 : Int32).toUInt32 &&& Int32.toUInt32 31)).toInt32) &&& 1431655765)).toUInt32 >>> ((2 : Int32).toUInt32 &&& Int32.toUInt32 31)).toInt32) &&& 858993459)).toUInt32 >>> ((4 : Int32).toUInt32 &&& Int32.toUInt32 31)).toInt32)) &&& 252645135).toUInt32 >>> ((8 : Int32).toUInt32 &&& Int32.toUInt32 31)).toInt32)).toUInt32 >>> ((16 : Int32).toUInt32 &&& Int32.toUInt32 31)).toInt32)) &&& 63
set_option maxHeartbeats 4000000 in
set_option maxRecDepth 100000 in
theorem c_bitCount (l : Launch) (D : va_G) (ka : Nat → ClassId) (al : Nat → Nat) (Z : va_W) (f : Nat → Nat → Int32) (x : Int32) : fr_Mi l y_bitCount (.code y_bitCount prog_10_method_49_code 1 (some .int) :: fr_tbl) { frames := 0, cells := 0, slots := 0, locals := 0 } D vwCl (fr_ty ka) fr_nw [.int x] (fr_cw ka al f Z) (dn_bitCount x) (fr_cw ka al f Z) 0 0 := by
  refine fr_Mi.of (by decide) (Nat.le_of_ble_eq_true rfl) ?_
  intro p e s m below meth c A H locs ls C hP hD hS hl
  obtain ⟨hx, hb, hml, hown, ht, hK, hlocks, hr, hA, hN, hZ, hEx⟩ := id C
  have hl : lv_has ls 1 [(0, .int x)] := hl
  refine lv_iload_n hx hb dI_bitCount_0 rfl (lv_at hl 0 rfl) ?_
  refine lv_iload_n hx hb dI_bitCount_1 rfl (lv_at hl 0 rfl) ?_
  refine lv_iconst (v := 1) hx hb dI_bitCount_2 (by decide) ?_
  refine lv_iushr hx hb dI_bitCount_3 rfl ?_
  refine lv_ldcw (v := 1431655765) hx hb hown (ht _ cst_I_265) dI_bitCount_4 ?_
  refine lv_iand hx hb dI_bitCount_7 ?_
  refine lv_isub hx hb dI_bitCount_8 ?_
  refine lv_istore_n (lv' := [(0, .int (x - (((x.toUInt32 >>> ((1 : Int32).toUInt32 &&& Int32.toUInt32 31)).toInt32) &&& 1431655765)))]) hx hb dI_bitCount_9 rfl hl (by decide) rfl (fun ls hl => ?_)
  refine lv_iload_n hx hb dI_bitCount_10 rfl (lv_at hl 0 rfl) ?_
  refine lv_ldcw (v := 858993459) hx hb hown (ht _ cst_I_266) dI_bitCount_11 ?_
  refine lv_iand hx hb dI_bitCount_14 ?_
  refine lv_iload_n hx hb dI_bitCount_15 rfl (lv_at hl 0 rfl) ?_
  refine lv_iconst (v := 2) hx hb dI_bitCount_16 (by decide) ?_
  refine lv_iushr hx hb dI_bitCount_17 rfl ?_
  refine lv_ldcw (v := 858993459) hx hb hown (ht _ cst_I_266) dI_bitCount_18 ?_
  refine lv_iand hx hb dI_bitCount_21 ?_
  refine lv_iadd hx hb dI_bitCount_22 ?_
  refine lv_istore_n (lv' := [(0, .int (((x - (((x.toUInt32 >>> ((1 : Int32).toUInt32 &&& Int32.toUInt32 31)).toInt32) &&& 1431655765)) &&& 858993459) + ((((x - (((x.toUInt32 >>> ((1 : Int32).toUInt32 &&& Int32.toUInt32 31)).toInt32) &&& 1431655765)).toUInt32 >>> ((2 : Int32).toUInt32 &&& Int32.toUInt32 31)).toInt32) &&& 858993459)))]) hx hb dI_bitCount_23 rfl hl (by decide) rfl (fun ls hl => ?_)
  refine lv_iload_n hx hb dI_bitCount_24 rfl (lv_at hl 0 rfl) ?_
  refine lv_iload_n hx hb dI_bitCount_25 rfl (lv_at hl 0 rfl) ?_
  refine lv_iconst (v := 4) hx hb dI_bitCount_26 (by decide) ?_
  refine lv_iushr hx hb dI_bitCount_27 rfl ?_
  refine lv_iadd hx hb dI_bitCount_28 ?_
  refine lv_ldcw (v := 252645135) hx hb hown (ht _ cst_I_267) dI_bitCount_29 ?_
  refine lv_iand hx hb dI_bitCount_32 ?_
  refine lv_istore_n (lv' := [(0, .int (((((x - (((x.toUInt32 >>> ((1 : Int32).toUInt32 &&& Int32.toUInt32 31)).toInt32) &&& 1431655765)) &&& 858993459) + ((((x - (((x.toUInt32 >>> ((1 : Int32).toUInt32 &&& Int32.toUInt32 31)).toInt32) &&& 1431655765)).toUInt32 >>> ((2 : Int32).toUInt32 &&& Int32.toUInt32 31)).toInt32) &&& 858993459)) + (((((x - (((x.toUInt32 >>> ((1 : Int32).toUInt32 &&& Int32.toUInt32 31)).toInt32) &&& 1431655765)) &&& 858993459) + ((((x - (((x.toUInt32 >>> ((1 : Int32).toUInt32 &&& Int32.toUInt32 31)).toInt32) &&& 1431655765)).toUInt32 >>> ((2 : Int32).toUInt32 &&& Int32.toUInt32 31)).toInt32) &&& 858993459)).toUInt32 >>> ((4 : Int32).toUInt32 &&& Int32.toUInt32 31)).toInt32)) &&& 252645135))]) hx hb dI_bitCount_33 rfl hl (by decide) rfl (fun ls hl => ?_)
  refine lv_iload_n hx hb dI_bitCount_34 rfl (lv_at hl 0 rfl) ?_
  refine lv_iload_n hx hb dI_bitCount_35 rfl (lv_at hl 0 rfl) ?_
  refine lv_bipush (v := 8) hx hb dI_bitCount_36 (by decide) ?_
  refine lv_iushr hx hb dI_bitCount_38 rfl ?_
  refine lv_iadd hx hb dI_bitCount_39 ?_
  refine lv_istore_n (lv' := [(0, .int ((((((x - (((x.toUInt32 >>> ((1 : Int32).toUInt32 &&& Int32.toUInt32 31)).toInt32) &&& 1431655765)) &&& 858993459) + ((((x - (((x.toUInt32 >>> ((1 : Int32).toUInt32 &&& Int32.toUInt32 31)).toInt32) &&& 1431655765)).toUInt32 >>> ((2 : Int32).toUInt32 &&& Int32.toUInt32 31)).toInt32) &&& 858993459)) + (((((x - (((x.toUInt32 >>> ((1 : Int32).toUInt32 &&& Int32.toUInt32 31)).toInt32) &&& 1431655765)) &&& 858993459) + ((((x - (((x.toUInt32 >>> ((1 : Int32).toUInt32 &&& Int32.toUInt32 31)).toInt32) &&& 1431655765)).toUInt32 >>> ((2 : Int32).toUInt32 &&& Int32.toUInt32 31)).toInt32) &&& 858993459)).toUInt32 >>> ((4 : Int32).toUInt32 &&& Int32.toUInt32 31)).toInt32)) &&& 252645135) + (((((((x - (((x.toUInt32 >>> ((1 : Int32).toUInt32 &&& Int32.toUInt32 31)).toInt32) &&& 1431655765)) &&& 858993459) + ((((x - (((x.toUInt32 >>> ((1 : Int32).toUInt32 &&& Int32.toUInt32 31)).toInt32) &&& 1431655765)).toUInt32 >>> ((2 : Int32).toUInt32 &&& Int32.toUInt32 31)).toInt32) &&& 858993459)) + (((((x - (((x.toUInt32 >>> ((1 : Int32).toUInt32 &&& Int32.toUInt32 31)).toInt32) &&& 1431655765)) &&& 858993459) + ((((x - (((x.toUInt32 >>> ((1 : Int32).toUInt32 &&& Int32.toUInt32 31)).toInt32) &&& 1431655765)).toUInt32 >>> ((2 : Int32).toUInt32 &&& Int32.toUInt32 31)).toInt32) &&& 858993459)).toUInt32 >>> ((4 : Int32).toUInt32 &&& Int32.toUInt32 31)).toInt32)) &&& 252645135).toUInt32 >>> ((8 : Int32).toUInt32 &&& Int32.toUInt32 31)).toInt32)))]) hx hb dI_bitCount_40 rfl hl (by decide) rfl (fun ls hl => ?_)
  refine lv_iload_n hx hb dI_bitCount_41 rfl (lv_at hl 0 rfl) ?_
  refine lv_iload_n hx hb dI_bitCount_42 rfl (lv_at hl 0 rfl) ?_
  refine lv_bipush (v := 16) hx hb dI_bitCount_43 (by decide) ?_
  refine lv_iushr hx hb dI_bitCount_45 rfl ?_
  refine lv_iadd hx hb dI_bitCount_46 ?_
  refine lv_istore_n (lv' := [(0, .int (((((((x - (((x.toUInt32 >>> ((1 : Int32).toUInt32 &&& Int32.toUInt32 31)).toInt32) &&& 1431655765)) &&& 858993459) + ((((x - (((x.toUInt32 >>> ((1 : Int32).toUInt32 &&& Int32.toUInt32 31)).toInt32) &&& 1431655765)).toUInt32 >>> ((2 : Int32).toUInt32 &&& Int32.toUInt32 31)).toInt32) &&& 858993459)) + (((((x - (((x.toUInt32 >>> ((1 : Int32).toUInt32 &&& Int32.toUInt32 31)).toInt32) &&& 1431655765)) &&& 858993459) + ((((x - (((x.toUInt32 >>> ((1 : Int32).toUInt32 &&& Int32.toUInt32 31)).toInt32) &&& 1431655765)).toUInt32 >>> ((2 : Int32).toUInt32 &&& Int32.toUInt32 31)).toInt32) &&& 858993459)).toUInt32 >>> ((4 : Int32).toUInt32 &&& Int32.toUInt32 31)).toInt32)) &&& 252645135) + (((((((x - (((x.toUInt32 >>> ((1 : Int32).toUInt32 &&& Int32.toUInt32 31)).toInt32) &&& 1431655765)) &&& 858993459) + ((((x - (((x.toUInt32 >>> ((1 : Int32).toUInt32 &&& Int32.toUInt32 31)).toInt32) &&& 1431655765)).toUInt32 >>> ((2 : Int32).toUInt32 &&& Int32.toUInt32 31)).toInt32) &&& 858993459)) + (((((x - (((x.toUInt32 >>> ((1 : Int32).toUInt32 &&& Int32.toUInt32 31)).toInt32) &&& 1431655765)) &&& 858993459) + ((((x - (((x.toUInt32 >>> ((1 : Int32).toUInt32 &&& Int32.toUInt32 31)).toInt32) &&& 1431655765)).toUInt32 >>> ((2 : Int32).toUInt32 &&& Int32.toUInt32 31)).toInt32) &&& 858993459)).toUInt32 >>> ((4 : Int32).toUInt32 &&& Int32.toUInt32 31)).toInt32)) &&& 252645135).toUInt32 >>> ((8 : Int32).toUInt32 &&& Int32.toUInt32 31)).toInt32)) + ((((((((x - (((x.toUInt32 >>> ((1 : Int32).toUInt32 &&& Int32.toUInt32 31)).toInt32) &&& 1431655765)) &&& 858993459) + ((((x - (((x.toUInt32 >>> ((1 : Int32).toUInt32 &&& Int32.toUInt32 31)).toInt32) &&& 1431655765)).toUInt32 >>> ((2 : Int32).toUInt32 &&& Int32.toUInt32 31)).toInt32) &&& 858993459)) + (((((x - (((x.toUInt32 >>> ((1 : Int32).toUInt32 &&& Int32.toUInt32 31)).toInt32) &&& 1431655765)) &&& 858993459) + ((((x - (((x.toUInt32 >>> ((1 : Int32).toUInt32 &&& Int32.toUInt32 31)).toInt32) &&& 1431655765)).toUInt32 >>> ((2 : Int32).toUInt32 &&& Int32.toUInt32 31)).toInt32) &&& 858993459)).toUInt32 >>> ((4 : Int32).toUInt32 &&& Int32.toUInt32 31)).toInt32)) &&& 252645135) + (((((((x - (((x.toUInt32 >>> ((1 : Int32).toUInt32 &&& Int32.toUInt32 31)).toInt32) &&& 1431655765)) &&& 858993459) + ((((x - (((x.toUInt32 >>> ((1 : Int32).toUInt32 &&& Int32.toUInt32 31)).toInt32) &&& 1431655765)).toUInt32 >>> ((2 : Int32).toUInt32 &&& Int32.toUInt32 31)).toInt32) &&& 858993459)) + (((((x - (((x.toUInt32 >>> ((1 : Int32).toUInt32 &&& Int32.toUInt32 31)).toInt32) &&& 1431655765)) &&& 858993459) + ((((x - (((x.toUInt32 >>> ((1 : Int32).toUInt32 &&& Int32.toUInt32 31)).toInt32) &&& 1431655765)).toUInt32 >>> ((2 : Int32).toUInt32 &&& Int32.toUInt32 31)).toInt32) &&& 858993459)).toUInt32 >>> ((4 : Int32).toUInt32 &&& Int32.toUInt32 31)).toInt32)) &&& 252645135).toUInt32 >>> ((8 : Int32).toUInt32 &&& Int32.toUInt32 31)).toInt32)).toUInt32 >>> ((16 : Int32).toUInt32 &&& Int32.toUInt32 31)).toInt32)))]) hx hb dI_bitCount_47 rfl hl (by decide) rfl (fun ls hl => ?_)
  refine lv_iload_n hx hb dI_bitCount_48 rfl (lv_at hl 0 rfl) ?_
  refine lv_bipush (v := 63) hx hb dI_bitCount_49 (by decide) ?_
  refine lv_iand hx hb dI_bitCount_51 ?_
  have hd_ : dn_bitCount x = (((((((x - (((x.toUInt32 >>> ((1 : Int32).toUInt32 &&& Int32.toUInt32 31)).toInt32) &&& 1431655765)) &&& 858993459) + ((((x - (((x.toUInt32 >>> ((1 : Int32).toUInt32 &&& Int32.toUInt32 31)).toInt32) &&& 1431655765)).toUInt32 >>> ((2 : Int32).toUInt32 &&& Int32.toUInt32 31)).toInt32) &&& 858993459)) + (((((x - (((x.toUInt32 >>> ((1 : Int32).toUInt32 &&& Int32.toUInt32 31)).toInt32) &&& 1431655765)) &&& 858993459) + ((((x - (((x.toUInt32 >>> ((1 : Int32).toUInt32 &&& Int32.toUInt32 31)).toInt32) &&& 1431655765)).toUInt32 >>> ((2 : Int32).toUInt32 &&& Int32.toUInt32 31)).toInt32) &&& 858993459)).toUInt32 >>> ((4 : Int32).toUInt32 &&& Int32.toUInt32 31)).toInt32)) &&& 252645135) + (((((((x - (((x.toUInt32 >>> ((1 : Int32).toUInt32 &&& Int32.toUInt32 31)).toInt32) &&& 1431655765)) &&& 858993459) + ((((x - (((x.toUInt32 >>> ((1 : Int32).toUInt32 &&& Int32.toUInt32 31)).toInt32) &&& 1431655765)).toUInt32 >>> ((2 : Int32).toUInt32 &&& Int32.toUInt32 31)).toInt32) &&& 858993459)) + (((((x - (((x.toUInt32 >>> ((1 : Int32).toUInt32 &&& Int32.toUInt32 31)).toInt32) &&& 1431655765)) &&& 858993459) + ((((x - (((x.toUInt32 >>> ((1 : Int32).toUInt32 &&& Int32.toUInt32 31)).toInt32) &&& 1431655765)).toUInt32 >>> ((2 : Int32).toUInt32 &&& Int32.toUInt32 31)).toInt32) &&& 858993459)).toUInt32 >>> ((4 : Int32).toUInt32 &&& Int32.toUInt32 31)).toInt32)) &&& 252645135).toUInt32 >>> ((8 : Int32).toUInt32 &&& Int32.toUInt32 31)).toInt32)) + ((((((((x - (((x.toUInt32 >>> ((1 : Int32).toUInt32 &&& Int32.toUInt32 31)).toInt32) &&& 1431655765)) &&& 858993459) + ((((x - (((x.toUInt32 >>> ((1 : Int32).toUInt32 &&& Int32.toUInt32 31)).toInt32) &&& 1431655765)).toUInt32 >>> ((2 : Int32).toUInt32 &&& Int32.toUInt32 31)).toInt32) &&& 858993459)) + (((((x - (((x.toUInt32 >>> ((1 : Int32).toUInt32 &&& Int32.toUInt32 31)).toInt32) &&& 1431655765)) &&& 858993459) + ((((x - (((x.toUInt32 >>> ((1 : Int32).toUInt32 &&& Int32.toUInt32 31)).toInt32) &&& 1431655765)).toUInt32 >>> ((2 : Int32).toUInt32 &&& Int32.toUInt32 31)).toInt32) &&& 858993459)).toUInt32 >>> ((4 : Int32).toUInt32 &&& Int32.toUInt32 31)).toInt32)) &&& 252645135) + (((((((x - (((x.toUInt32 >>> ((1 : Int32).toUInt32 &&& Int32.toUInt32 31)).toInt32) &&& 1431655765)) &&& 858993459) + ((((x - (((x.toUInt32 >>> ((1 : Int32).toUInt32 &&& Int32.toUInt32 31)).toInt32) &&& 1431655765)).toUInt32 >>> ((2 : Int32).toUInt32 &&& Int32.toUInt32 31)).toInt32) &&& 858993459)) + (((((x - (((x.toUInt32 >>> ((1 : Int32).toUInt32 &&& Int32.toUInt32 31)).toInt32) &&& 1431655765)) &&& 858993459) + ((((x - (((x.toUInt32 >>> ((1 : Int32).toUInt32 &&& Int32.toUInt32 31)).toInt32) &&& 1431655765)).toUInt32 >>> ((2 : Int32).toUInt32 &&& Int32.toUInt32 31)).toInt32) &&& 858993459)).toUInt32 >>> ((4 : Int32).toUInt32 &&& Int32.toUInt32 31)).toInt32)) &&& 252645135).toUInt32 >>> ((8 : Int32).toUInt32 &&& Int32.toUInt32 31)).toInt32)).toUInt32 >>> ((16 : Int32).toUInt32 &&& Int32.toUInt32 31)).toInt32)) &&& 63 := by rw [dn_bitCount]
  exact fr_iret C hP hD hS hd_.symm dI_bitCount_52

theorem cl_F_53 {p : Program} {l : Launch} {e : Env} {R : Room} {s : State} {m : MethodId} {args : Array Value} {below : List Frame} {meth : Method} {c : Code} {H : Heap} {locs : List Loc} {cells slots : Nat} {Q : State → Prop} {D : va_G} {A : Nat → Prop} {cc : ByteArray} {nL pc : Nat} {ret : Option FieldType} {hh : List ExceptionTableEntry} {ls : Array Slot} {rest : List Value} {ka : Nat → ClassId} {al : Nat → Nat} {f : Nat → Nat → Int32} {Z : va_W} {n : Int32} {b : Int32} (C : fr_Cx p s m args meth c "FragileRules" cc nL ret hh fr_tbl fr_nw D vwCl (fr_ty ka) A) (hP : va_P D vwCl (fr_cw ka al f Z) H) (hD : va_D A (fr_cw ka al f Z)) (hS : va_S A s.heap H locs) (hsz : ls.size = nL) (hR : 0 + 1 ≤ R.frames ∧ 8 + (2 + 11) + 0 ≤ R.locals) (hw : (rest.map fun v => v.category).sum ≤ 8) (hf : cells + 0 ≤ R.cells ∧ slots + 0 ≤ R.slots) (hdg : decode cc pc = .ok (.invokestatic 53, 3)) (kk : ∀ (H : Heap) (locs : List Loc), va_P D vwCl (fr_cw ka al f Z) H → va_D A (fr_cw ka al f Z) → va_S A s.heap H locs → W p l e R s m args below meth c H locs (cells + 0) (slots + 0) Q (F0 m (pc + 3) ls (.int (dn_within n b) :: rest))) : W p l e R s m args below meth c H locs cells slots Q (F0 m pc ls (.int b :: .int n :: rest)) :=
  fr_callSi (As := [.int n, .int b]) C hP hD hS (c_within l D ka al Z f n b) (cwS 2 C.2.2.2.2.1 (fr_goodS ml_F_53 mst_within mini_F mc_within) rfl rfl rfl (by decide +kernel) hR) rfl hsz hw hdg hf kk
theorem cl_F_184 {p : Program} {l : Launch} {e : Env} {R : Room} {s : State} {m : MethodId} {args : Array Value} {below : List Frame} {meth : Method} {c : Code} {H : Heap} {locs : List Loc} {cells slots : Nat} {Q : State → Prop} {D : va_G} {A : Nat → Prop} {cc : ByteArray} {nL pc : Nat} {ret : Option FieldType} {hh : List ExceptionTableEntry} {ls : Array Slot} {rest : List Value} {ka : Nat → ClassId} {al : Nat → Nat} {f : Nat → Nat → Int32} {Z : va_W} {x : Int32} (C : fr_Cx p s m args meth c "FragileRules" cc nL ret hh fr_tbl fr_nw D vwCl (fr_ty ka) A) (hP : va_P D vwCl (fr_cw ka al f Z) H) (hD : va_D A (fr_cw ka al f Z)) (hS : va_S A s.heap H locs) (hsz : ls.size = nL) (hR : 0 + 1 ≤ R.frames ∧ 8 + (1 + 11) + 0 ≤ R.locals) (hw : (rest.map fun v => v.category).sum ≤ 8) (hf : cells + 0 ≤ R.cells ∧ slots + 0 ≤ R.slots) (hdg : decode cc pc = .ok (.invokestatic 184, 3)) (kk : ∀ (H : Heap) (locs : List Loc), va_P D vwCl (fr_cw ka al f Z) H → va_D A (fr_cw ka al f Z) → va_S A s.heap H locs → W p l e R s m args below meth c H locs (cells + 0) (slots + 0) Q (F0 m (pc + 3) ls (.int (dn_bitCount x) :: rest))) : W p l e R s m args below meth c H locs cells slots Q (F0 m pc ls (.int x :: rest)) :=
  fr_callSi (As := [.int x]) C hP hD hS (c_bitCount l D ka al Z f x) (va_cwS 1 C.2.2.2.2.1 (fr_goodSS ml_F_184 mst_bitCount mini_I mc_bitCount) rfl rfl rfl (by decide +kernel) hR) rfl hsz hw hdg hf kk
def dn_isMark (x : Int32) : Int32 := if (dn_within x 16) = 0 then 0 else (if (dn_bitCount x) = 1 then 1 else 0)
set_option maxHeartbeats 4000000 in
set_option maxRecDepth 100000 in
theorem c_isMark (l : Launch) (D : va_G) (ka : Nat → ClassId) (al : Nat → Nat) (Z : va_W) (f : Nat → Nat → Int32) (x : Int32) : fr_Mi l y_isMark (.code y_isMark prog_1_method_17_code 1 (some .boolean) :: fr_tbl) { frames := 1, cells := 0, slots := 0, locals := 21 } D vwCl (fr_ty ka) fr_nw [.int x] (fr_cw ka al f Z) (dn_isMark x) (fr_cw ka al f Z) 0 0 := by
  refine fr_Mi.of (by decide) (Nat.le_of_ble_eq_true rfl) ?_
  intro p e s m below meth c A H locs ls C hP hD hS hl
  obtain ⟨hx, hb, hml, hown, ht, hK, hlocks, hr, hA, hN, hZ, hEx⟩ := id C
  have hl : lv_has ls 1 [(0, .int x)] := hl
  refine lv_iload_n hx hb dF_isMark_0 rfl (lv_at hl 0 rfl) ?_
  refine lv_bipush (v := 16) hx hb dF_isMark_1 (by decide) ?_
  refine cl_F_53 C hP hD hS hl.1 ⟨Nat.le_of_ble_eq_true rfl, Nat.le_of_ble_eq_true rfl⟩ (Nat.le_of_ble_eq_true rfl) ⟨Nat.le_of_ble_eq_true rfl, Nat.le_of_ble_eq_true rfl⟩ dF_isMark_3 (fun H locs hP hD hS => ?_)
  refine lv_if_eq (tgt := 21) hx hb dF_isMark_6 (by decide) (fun c_6 => ?_) (fun c_6 => ?_)
  · skip
    refine lv_iconst (v := 0) hx hb dF_isMark_21 (by decide) ?_
    have hd_ : dn_isMark x = 0 := by rw [dn_isMark, if_pos c_6]
    exact fr_zret C hP hD hS hd_.symm (Or.inl rfl) dF_isMark_22
  · skip
    refine lv_iload_n hx hb dF_isMark_9 rfl (lv_at hl 0 rfl) ?_
    refine cl_F_184 C hP hD hS hl.1 ⟨Nat.le_of_ble_eq_true rfl, Nat.le_of_ble_eq_true rfl⟩ (Nat.le_of_ble_eq_true rfl) ⟨Nat.le_of_ble_eq_true rfl, Nat.le_of_ble_eq_true rfl⟩ dF_isMark_10 (fun H locs hP hD hS => ?_)
    refine lv_iconst (v := 1) hx hb dF_isMark_13 (by decide) ?_
    refine lv_icmp_ne (tgt := 21) hx hb dF_isMark_14 (by decide) (fun c_14 => ?_) (fun c_14 => ?_)
    · skip
      refine lv_iconst (v := 0) hx hb dF_isMark_21 (by decide) ?_
      have hd_ : dn_isMark x = 0 := by rw [dn_isMark, if_neg c_6, if_neg c_14]
      exact fr_zret C hP hD hS hd_.symm (Or.inl rfl) dF_isMark_22
    · skip
      refine lv_iconst (v := 1) hx hb dF_isMark_17 (by decide) ?_
      refine lv_goto (tgt := 22) hx hb dF_isMark_18 (by decide) ?_
      have hd_ : dn_isMark x = 1 := by rw [dn_isMark, if_neg c_6, if_pos c_14]
      exact fr_zret C hP hD hS hd_.symm (Or.inr rfl) dF_isMark_22
theorem bz_isMark {x : Int32} : dn_isMark x = 0 ∨ dn_isMark x = 1 := by
  unfold dn_isMark
  repeat' split
  all_goals first | exact Or.inl rfl | exact Or.inr rfl | exact bz_has

theorem cl_F_139 {p : Program} {l : Launch} {e : Env} {R : Room} {s : State} {m : MethodId} {args : Array Value} {below : List Frame} {meth : Method} {c : Code} {H : Heap} {locs : List Loc} {cells slots : Nat} {Q : State → Prop} {D : va_G} {A : Nat → Prop} {cc : ByteArray} {nL pc : Nat} {ret : Option FieldType} {hh : List ExceptionTableEntry} {ls : Array Slot} {rest : List Value} {ka : Nat → ClassId} {al : Nat → Nat} {f : Nat → Nat → Int32} {Z : va_W} {x : Int32} (C : fr_Cx p s m args meth c "FragileRules" cc nL ret hh fr_tbl fr_nw D vwCl (fr_ty ka) A) (hP : va_P D vwCl (fr_cw ka al f Z) H) (hD : va_D A (fr_cw ka al f Z)) (hS : va_S A s.heap H locs) (hsz : ls.size = nL) (hR : 1 + 1 ≤ R.frames ∧ 8 + (1 + 11) + 21 ≤ R.locals) (hw : (rest.map fun v => v.category).sum ≤ 8) (hf : cells + 0 ≤ R.cells ∧ slots + 0 ≤ R.slots) (hdg : decode cc pc = .ok (.invokestatic 139, 3)) (kk : ∀ (H : Heap) (locs : List Loc), va_P D vwCl (fr_cw ka al f Z) H → va_D A (fr_cw ka al f Z) → va_S A s.heap H locs → W p l e R s m args below meth c H locs (cells + 0) (slots + 0) Q (F0 m (pc + 3) ls (.int (dn_isMark x) :: rest))) : W p l e R s m args below meth c H locs cells slots Q (F0 m pc ls (.int x :: rest)) :=
  fr_callSi (As := [.int x]) C hP hD hS (c_isMark l D ka al Z f x) (cwS 1 C.2.2.2.2.1 (fr_goodS ml_F_139 mst_isMark mini_F mc_isMark) rfl rfl rfl (by decide +kernel) hR) rfl hsz hw hdg hf kk
def dn_isRule (x : Int32) (y : Int32) (k : Int32) : Int32 := if x = 0 then (if (dn_within y 7) = 0 then 0 else (if (dn_within k 7) = 0 then 0 else 1)) else (if x = 1 then (if (dn_within y 7) = 0 then 0 else (if (dn_within k 7) = 0 then 0 else 1)) else (if x = 2 then (if (dn_within y 7) = 0 then 0 else (if (dn_within k 99) = 0 then 0 else 1)) else (if x = 3 then (if (dn_within y 7) = 0 then 0 else (if (dn_within k 9) = 0 then 0 else 1)) else (if x = 4 then (if (dn_isMark y) = 0 then 0 else (if (dn_isMark k) = 0 then 0 else (if y = k then 0 else 1))) else 0))))
set_option maxHeartbeats 4000000 in
set_option maxRecDepth 100000 in
theorem c_isRule (l : Launch) (D : va_G) (ka : Nat → ClassId) (al : Nat → Nat) (Z : va_W) (f : Nat → Nat → Int32) (x : Int32) (y : Int32) (k : Int32) : fr_Mi l y_isRule (.code y_isRule prog_1_method_18_code 3 (some .boolean) :: fr_tbl) { frames := 2, cells := 0, slots := 0, locals := 41 } D vwCl (fr_ty ka) fr_nw [.int x, .int y, .int k] (fr_cw ka al f Z) (dn_isRule x y k) (fr_cw ka al f Z) 0 0 := by
  refine fr_Mi.of (by decide) (Nat.le_of_ble_eq_true rfl) ?_
  intro p e s m below meth c A H locs ls C hP hD hS hl
  obtain ⟨hx, hb, hml, hown, ht, hK, hlocks, hr, hA, hN, hZ, hEx⟩ := id C
  have hl : lv_has ls 3 [(0, .int x), (1, .int y), (2, .int k)] := hl
  refine lv_iload_n hx hb dF_isRule_0 rfl (lv_at hl 0 rfl) ?_
  by_cases c_1_0 : x = 0
  · skip
    refine lv_tableIn (tgt := 36) hx hb dF_isRule_1 (by rw [c_1_0]; decide) (by rw [c_1_0]; decide) (by rw [c_1_0] <;> rfl) (by decide) ?_
    refine lv_iload_n hx hb dF_isRule_36 rfl (lv_at hl 1 rfl) ?_
    refine lv_bipush (v := 7) hx hb dF_isRule_37 (by decide) ?_
    refine cl_F_53 C hP hD hS hl.1 ⟨Nat.le_of_ble_eq_true rfl, Nat.le_of_ble_eq_true rfl⟩ (Nat.le_of_ble_eq_true rfl) ⟨Nat.le_of_ble_eq_true rfl, Nat.le_of_ble_eq_true rfl⟩ dF_isRule_39 (fun H locs hP hD hS => ?_)
    refine lv_if_eq (tgt := 58) hx hb dF_isRule_42 (by decide) (fun c_42 => ?_) (fun c_42 => ?_)
    · skip
      refine lv_iconst (v := 0) hx hb dF_isRule_58 (by decide) ?_
      have hd_ : dn_isRule x y k = 0 := by rw [dn_isRule, if_pos c_1_0, if_pos c_42]
      exact fr_zret C hP hD hS hd_.symm (Or.inl rfl) dF_isRule_59
    · skip
      refine lv_iload_n hx hb dF_isRule_45 rfl (lv_at hl 2 rfl) ?_
      refine lv_bipush (v := 7) hx hb dF_isRule_46 (by decide) ?_
      refine cl_F_53 C hP hD hS hl.1 ⟨Nat.le_of_ble_eq_true rfl, Nat.le_of_ble_eq_true rfl⟩ (Nat.le_of_ble_eq_true rfl) ⟨Nat.le_of_ble_eq_true rfl, Nat.le_of_ble_eq_true rfl⟩ dF_isRule_48 (fun H locs hP hD hS => ?_)
      refine lv_if_eq (tgt := 58) hx hb dF_isRule_51 (by decide) (fun c_51 => ?_) (fun c_51 => ?_)
      · skip
        refine lv_iconst (v := 0) hx hb dF_isRule_58 (by decide) ?_
        have hd_ : dn_isRule x y k = 0 := by rw [dn_isRule, if_pos c_1_0, if_neg c_42, if_pos c_51]
        exact fr_zret C hP hD hS hd_.symm (Or.inl rfl) dF_isRule_59
      · skip
        refine lv_iconst (v := 1) hx hb dF_isRule_54 (by decide) ?_
        refine lv_goto (tgt := 59) hx hb dF_isRule_55 (by decide) ?_
        have hd_ : dn_isRule x y k = 1 := by rw [dn_isRule, if_pos c_1_0, if_neg c_42, if_neg c_51]
        exact fr_zret C hP hD hS hd_.symm (Or.inr rfl) dF_isRule_59
  · skip
    by_cases c_1_1 : x = 1
    · skip
      refine lv_tableIn (tgt := 36) hx hb dF_isRule_1 (by rw [c_1_1]; decide) (by rw [c_1_1]; decide) (by rw [c_1_1] <;> rfl) (by decide) ?_
      refine lv_iload_n hx hb dF_isRule_36 rfl (lv_at hl 1 rfl) ?_
      refine lv_bipush (v := 7) hx hb dF_isRule_37 (by decide) ?_
      refine cl_F_53 C hP hD hS hl.1 ⟨Nat.le_of_ble_eq_true rfl, Nat.le_of_ble_eq_true rfl⟩ (Nat.le_of_ble_eq_true rfl) ⟨Nat.le_of_ble_eq_true rfl, Nat.le_of_ble_eq_true rfl⟩ dF_isRule_39 (fun H locs hP hD hS => ?_)
      refine lv_if_eq (tgt := 58) hx hb dF_isRule_42 (by decide) (fun c_42 => ?_) (fun c_42 => ?_)
      · skip
        refine lv_iconst (v := 0) hx hb dF_isRule_58 (by decide) ?_
        have hd_ : dn_isRule x y k = 0 := by rw [dn_isRule, if_neg c_1_0, if_pos c_1_1, if_pos c_42]
        exact fr_zret C hP hD hS hd_.symm (Or.inl rfl) dF_isRule_59
      · skip
        refine lv_iload_n hx hb dF_isRule_45 rfl (lv_at hl 2 rfl) ?_
        refine lv_bipush (v := 7) hx hb dF_isRule_46 (by decide) ?_
        refine cl_F_53 C hP hD hS hl.1 ⟨Nat.le_of_ble_eq_true rfl, Nat.le_of_ble_eq_true rfl⟩ (Nat.le_of_ble_eq_true rfl) ⟨Nat.le_of_ble_eq_true rfl, Nat.le_of_ble_eq_true rfl⟩ dF_isRule_48 (fun H locs hP hD hS => ?_)
        refine lv_if_eq (tgt := 58) hx hb dF_isRule_51 (by decide) (fun c_51 => ?_) (fun c_51 => ?_)
        · skip
          refine lv_iconst (v := 0) hx hb dF_isRule_58 (by decide) ?_
          have hd_ : dn_isRule x y k = 0 := by rw [dn_isRule, if_neg c_1_0, if_pos c_1_1, if_neg c_42, if_pos c_51]
          exact fr_zret C hP hD hS hd_.symm (Or.inl rfl) dF_isRule_59
        · skip
          refine lv_iconst (v := 1) hx hb dF_isRule_54 (by decide) ?_
          refine lv_goto (tgt := 59) hx hb dF_isRule_55 (by decide) ?_
          have hd_ : dn_isRule x y k = 1 := by rw [dn_isRule, if_neg c_1_0, if_pos c_1_1, if_neg c_42, if_neg c_51]
          exact fr_zret C hP hD hS hd_.symm (Or.inr rfl) dF_isRule_59
    · skip
      by_cases c_1_2 : x = 2
      · skip
        refine lv_tableIn (tgt := 60) hx hb dF_isRule_1 (by rw [c_1_2]; decide) (by rw [c_1_2]; decide) (by rw [c_1_2] <;> rfl) (by decide) ?_
        refine lv_iload_n hx hb dF_isRule_60 rfl (lv_at hl 1 rfl) ?_
        refine lv_bipush (v := 7) hx hb dF_isRule_61 (by decide) ?_
        refine cl_F_53 C hP hD hS hl.1 ⟨Nat.le_of_ble_eq_true rfl, Nat.le_of_ble_eq_true rfl⟩ (Nat.le_of_ble_eq_true rfl) ⟨Nat.le_of_ble_eq_true rfl, Nat.le_of_ble_eq_true rfl⟩ dF_isRule_63 (fun H locs hP hD hS => ?_)
        refine lv_if_eq (tgt := 82) hx hb dF_isRule_66 (by decide) (fun c_66 => ?_) (fun c_66 => ?_)
        · skip
          refine lv_iconst (v := 0) hx hb dF_isRule_82 (by decide) ?_
          have hd_ : dn_isRule x y k = 0 := by rw [dn_isRule, if_neg c_1_0, if_neg c_1_1, if_pos c_1_2, if_pos c_66]
          exact fr_zret C hP hD hS hd_.symm (Or.inl rfl) dF_isRule_83
        · skip
          refine lv_iload_n hx hb dF_isRule_69 rfl (lv_at hl 2 rfl) ?_
          refine lv_bipush (v := 99) hx hb dF_isRule_70 (by decide) ?_
          refine cl_F_53 C hP hD hS hl.1 ⟨Nat.le_of_ble_eq_true rfl, Nat.le_of_ble_eq_true rfl⟩ (Nat.le_of_ble_eq_true rfl) ⟨Nat.le_of_ble_eq_true rfl, Nat.le_of_ble_eq_true rfl⟩ dF_isRule_72 (fun H locs hP hD hS => ?_)
          refine lv_if_eq (tgt := 82) hx hb dF_isRule_75 (by decide) (fun c_75 => ?_) (fun c_75 => ?_)
          · skip
            refine lv_iconst (v := 0) hx hb dF_isRule_82 (by decide) ?_
            have hd_ : dn_isRule x y k = 0 := by rw [dn_isRule, if_neg c_1_0, if_neg c_1_1, if_pos c_1_2, if_neg c_66, if_pos c_75]
            exact fr_zret C hP hD hS hd_.symm (Or.inl rfl) dF_isRule_83
          · skip
            refine lv_iconst (v := 1) hx hb dF_isRule_78 (by decide) ?_
            refine lv_goto (tgt := 83) hx hb dF_isRule_79 (by decide) ?_
            have hd_ : dn_isRule x y k = 1 := by rw [dn_isRule, if_neg c_1_0, if_neg c_1_1, if_pos c_1_2, if_neg c_66, if_neg c_75]
            exact fr_zret C hP hD hS hd_.symm (Or.inr rfl) dF_isRule_83
      · skip
        by_cases c_1_3 : x = 3
        · skip
          refine lv_tableIn (tgt := 84) hx hb dF_isRule_1 (by rw [c_1_3]; decide) (by rw [c_1_3]; decide) (by rw [c_1_3] <;> rfl) (by decide) ?_
          refine lv_iload_n hx hb dF_isRule_84 rfl (lv_at hl 1 rfl) ?_
          refine lv_bipush (v := 7) hx hb dF_isRule_85 (by decide) ?_
          refine cl_F_53 C hP hD hS hl.1 ⟨Nat.le_of_ble_eq_true rfl, Nat.le_of_ble_eq_true rfl⟩ (Nat.le_of_ble_eq_true rfl) ⟨Nat.le_of_ble_eq_true rfl, Nat.le_of_ble_eq_true rfl⟩ dF_isRule_87 (fun H locs hP hD hS => ?_)
          refine lv_if_eq (tgt := 106) hx hb dF_isRule_90 (by decide) (fun c_90 => ?_) (fun c_90 => ?_)
          · skip
            refine lv_iconst (v := 0) hx hb dF_isRule_106 (by decide) ?_
            have hd_ : dn_isRule x y k = 0 := by rw [dn_isRule, if_neg c_1_0, if_neg c_1_1, if_neg c_1_2, if_pos c_1_3, if_pos c_90]
            exact fr_zret C hP hD hS hd_.symm (Or.inl rfl) dF_isRule_107
          · skip
            refine lv_iload_n hx hb dF_isRule_93 rfl (lv_at hl 2 rfl) ?_
            refine lv_bipush (v := 9) hx hb dF_isRule_94 (by decide) ?_
            refine cl_F_53 C hP hD hS hl.1 ⟨Nat.le_of_ble_eq_true rfl, Nat.le_of_ble_eq_true rfl⟩ (Nat.le_of_ble_eq_true rfl) ⟨Nat.le_of_ble_eq_true rfl, Nat.le_of_ble_eq_true rfl⟩ dF_isRule_96 (fun H locs hP hD hS => ?_)
            refine lv_if_eq (tgt := 106) hx hb dF_isRule_99 (by decide) (fun c_99 => ?_) (fun c_99 => ?_)
            · skip
              refine lv_iconst (v := 0) hx hb dF_isRule_106 (by decide) ?_
              have hd_ : dn_isRule x y k = 0 := by rw [dn_isRule, if_neg c_1_0, if_neg c_1_1, if_neg c_1_2, if_pos c_1_3, if_neg c_90, if_pos c_99]
              exact fr_zret C hP hD hS hd_.symm (Or.inl rfl) dF_isRule_107
            · skip
              refine lv_iconst (v := 1) hx hb dF_isRule_102 (by decide) ?_
              refine lv_goto (tgt := 107) hx hb dF_isRule_103 (by decide) ?_
              have hd_ : dn_isRule x y k = 1 := by rw [dn_isRule, if_neg c_1_0, if_neg c_1_1, if_neg c_1_2, if_pos c_1_3, if_neg c_90, if_neg c_99]
              exact fr_zret C hP hD hS hd_.symm (Or.inr rfl) dF_isRule_107
        · skip
          by_cases c_1_4 : x = 4
          · skip
            refine lv_tableIn (tgt := 108) hx hb dF_isRule_1 (by rw [c_1_4]; decide) (by rw [c_1_4]; decide) (by rw [c_1_4] <;> rfl) (by decide) ?_
            refine lv_iload_n hx hb dF_isRule_108 rfl (lv_at hl 1 rfl) ?_
            refine cl_F_139 C hP hD hS hl.1 ⟨Nat.le_of_ble_eq_true rfl, Nat.le_of_ble_eq_true rfl⟩ (Nat.le_of_ble_eq_true rfl) ⟨Nat.le_of_ble_eq_true rfl, Nat.le_of_ble_eq_true rfl⟩ dF_isRule_109 (fun H locs hP hD hS => ?_)
            refine lv_if_eq (tgt := 131) hx hb dF_isRule_112 (by decide) (fun c_112 => ?_) (fun c_112 => ?_)
            · skip
              refine lv_iconst (v := 0) hx hb dF_isRule_131 (by decide) ?_
              have hd_ : dn_isRule x y k = 0 := by rw [dn_isRule, if_neg c_1_0, if_neg c_1_1, if_neg c_1_2, if_neg c_1_3, if_pos c_1_4, if_pos c_112]
              exact fr_zret C hP hD hS hd_.symm (Or.inl rfl) dF_isRule_132
            · skip
              refine lv_iload_n hx hb dF_isRule_115 rfl (lv_at hl 2 rfl) ?_
              refine cl_F_139 C hP hD hS hl.1 ⟨Nat.le_of_ble_eq_true rfl, Nat.le_of_ble_eq_true rfl⟩ (Nat.le_of_ble_eq_true rfl) ⟨Nat.le_of_ble_eq_true rfl, Nat.le_of_ble_eq_true rfl⟩ dF_isRule_116 (fun H locs hP hD hS => ?_)
              refine lv_if_eq (tgt := 131) hx hb dF_isRule_119 (by decide) (fun c_119 => ?_) (fun c_119 => ?_)
              · skip
                refine lv_iconst (v := 0) hx hb dF_isRule_131 (by decide) ?_
                have hd_ : dn_isRule x y k = 0 := by rw [dn_isRule, if_neg c_1_0, if_neg c_1_1, if_neg c_1_2, if_neg c_1_3, if_pos c_1_4, if_neg c_112, if_pos c_119]
                exact fr_zret C hP hD hS hd_.symm (Or.inl rfl) dF_isRule_132
              · skip
                refine lv_iload_n hx hb dF_isRule_122 rfl (lv_at hl 1 rfl) ?_
                refine lv_iload_n hx hb dF_isRule_123 rfl (lv_at hl 2 rfl) ?_
                refine lv_icmp_eq (tgt := 131) hx hb dF_isRule_124 (by decide) (fun c_124 => ?_) (fun c_124 => ?_)
                · skip
                  refine lv_iconst (v := 0) hx hb dF_isRule_131 (by decide) ?_
                  have hd_ : dn_isRule x y k = 0 := by rw [dn_isRule, if_neg c_1_0, if_neg c_1_1, if_neg c_1_2, if_neg c_1_3, if_pos c_1_4, if_neg c_112, if_neg c_119, if_pos c_124]
                  exact fr_zret C hP hD hS hd_.symm (Or.inl rfl) dF_isRule_132
                · skip
                  refine lv_iconst (v := 1) hx hb dF_isRule_127 (by decide) ?_
                  refine lv_goto (tgt := 132) hx hb dF_isRule_128 (by decide) ?_
                  have hd_ : dn_isRule x y k = 1 := by rw [dn_isRule, if_neg c_1_0, if_neg c_1_1, if_neg c_1_2, if_neg c_1_3, if_pos c_1_4, if_neg c_112, if_neg c_119, if_neg c_124]
                  exact fr_zret C hP hD hS hd_.symm (Or.inr rfl) dF_isRule_132
          · skip
            refine lv_tableOut (tgt := 133) hx hb dF_isRule_1 (by have h0 := fr_ne (k := 0) (a := 0) rfl c_1_0; have h1 := fr_ne (k := 1) (a := 1) rfl c_1_1; have h2 := fr_ne (k := 2) (a := 2) rfl c_1_2; have h3 := fr_ne (k := 3) (a := 3) rfl c_1_3; have h4 := fr_ne (k := 4) (a := 4) rfl c_1_4; omega) (by decide) ?_
            refine lv_iconst (v := 0) hx hb dF_isRule_133 (by decide) ?_
            have hd_ : dn_isRule x y k = 0 := by rw [dn_isRule, if_neg c_1_0, if_neg c_1_1, if_neg c_1_2, if_neg c_1_3, if_neg c_1_4]
            exact fr_zret C hP hD hS hd_.symm (Or.inl rfl) dF_isRule_134
theorem bz_isRule {x : Int32} {y : Int32} {k : Int32} : dn_isRule x y k = 0 ∨ dn_isRule x y k = 1 := by
  unfold dn_isRule
  repeat' split
  all_goals first | exact Or.inl rfl | exact Or.inr rfl | exact bz_has

theorem cl_F_189 {p : Program} {l : Launch} {e : Env} {R : Room} {s : State} {m : MethodId} {args : Array Value} {below : List Frame} {meth : Method} {c : Code} {H : Heap} {locs : List Loc} {cells slots : Nat} {Q : State → Prop} {D : va_G} {A : Nat → Prop} {cc : ByteArray} {nL pc : Nat} {ret : Option FieldType} {hh : List ExceptionTableEntry} {ls : Array Slot} {rest : List Value} {ka : Nat → ClassId} {al : Nat → Nat} {f : Nat → Nat → Int32} {Z : va_W} {x : Int32} (C : fr_Cx p s m args meth c "FragileRules" cc nL ret hh fr_tbl fr_nw D vwCl (fr_ty ka) A) (hP : va_P D vwCl (fr_cw ka al f Z) H) (hD : va_D A (fr_cw ka al f Z)) (hS : va_S A s.heap H locs) (hsz : ls.size = nL) (hR : 1 + 1 ≤ R.frames ∧ 8 + (2 + 11) + 21 ≤ R.locals) (hw : (rest.map fun v => v.category).sum ≤ 8) (hf : cells + 0 ≤ R.cells ∧ slots + 0 ≤ R.slots) (gT : 0 ≤ (f 0 5).toInt ∧ (f 0 5).toInt ≤ 200) (hdg : decode cc pc = .ok (.invokevirtual 189, 3)) (kk : ∀ (H : Heap) (locs : List Loc), va_P D vwCl (fr_cw ka al f Z) H → va_D A (fr_cw ka al f Z) → va_S A s.heap H locs → W p l e R s m args below meth c H locs (cells + 0) (slots + 0) Q (F0 m (pc + 3) ls (.int (dn_rowAt f x) :: rest))) : W p l e R s m args below meth c H locs cells slots Q (F0 m pc ls (.int x :: .ref (al 5) :: rest)) :=
  fr_callVi (As := [.int x]) C hP hD hS (c_rowAt l D ka al Z f x gT) (cwV 1 C.2.2.2.2.1 (fr_goodV ml_F_189 mi_rowAt msel_rowAt mini_T mc_rowAt) rfl rfl rfl (by decide +kernel) hR) (va_recv C.2.2.2.2.2.1 hP (ci := 3) (q0 := 5) rfl rfl) rfl hsz hw hdg hf kk
theorem cl_F_192 {p : Program} {l : Launch} {e : Env} {R : Room} {s : State} {m : MethodId} {args : Array Value} {below : List Frame} {meth : Method} {c : Code} {H : Heap} {locs : List Loc} {cells slots : Nat} {Q : State → Prop} {D : va_G} {A : Nat → Prop} {cc : ByteArray} {nL pc : Nat} {ret : Option FieldType} {hh : List ExceptionTableEntry} {ls : Array Slot} {rest : List Value} {ka : Nat → ClassId} {al : Nat → Nat} {f : Nat → Nat → Int32} {Z : va_W} {x : Int32} (C : fr_Cx p s m args meth c "FragileRules" cc nL ret hh fr_tbl fr_nw D vwCl (fr_ty ka) A) (hP : va_P D vwCl (fr_cw ka al f Z) H) (hD : va_D A (fr_cw ka al f Z)) (hS : va_S A s.heap H locs) (hsz : ls.size = nL) (hR : 1 + 1 ≤ R.frames ∧ 8 + (3 + 11) + 21 ≤ R.locals) (hw : (rest.map fun v => v.category).sum ≤ 8) (hf : cells + 0 ≤ R.cells ∧ slots + 0 ≤ R.slots) (gT : 0 ≤ (f 0 5).toInt ∧ (f 0 5).toInt ≤ 200) (hdg : decode cc pc = .ok (.invokevirtual 192, 3)) (kk : ∀ (H : Heap) (locs : List Loc), va_P D vwCl (fr_cw ka al f Z) H → va_D A (fr_cw ka al f Z) → va_S A s.heap H locs → W p l e R s m args below meth c H locs (cells + 0) (slots + 0) Q (F0 m (pc + 3) ls (.int (dn_digitAt f x) :: rest))) : W p l e R s m args below meth c H locs cells slots Q (F0 m pc ls (.int x :: .ref (al 5) :: rest)) :=
  fr_callVi (As := [.int x]) C hP hD hS (c_digitAt l D ka al Z f x gT) (cwV 1 C.2.2.2.2.1 (fr_goodV ml_F_192 mi_digitAt msel_digitAt mini_T mc_digitAt) rfl rfl rfl (by decide +kernel) hR) (va_recv C.2.2.2.2.2.1 hP (ci := 3) (q0 := 5) rfl rfl) rfl hsz hw hdg hf kk
theorem cl_F_195 {p : Program} {l : Launch} {e : Env} {R : Room} {s : State} {m : MethodId} {args : Array Value} {below : List Frame} {meth : Method} {c : Code} {H : Heap} {locs : List Loc} {cells slots : Nat} {Q : State → Prop} {D : va_G} {A : Nat → Prop} {cc : ByteArray} {nL pc : Nat} {ret : Option FieldType} {hh : List ExceptionTableEntry} {ls : Array Slot} {rest : List Value} {ka : Nat → ClassId} {al : Nat → Nat} {f : Nat → Nat → Int32} {Z : va_W} {x : Int32} (C : fr_Cx p s m args meth c "FragileRules" cc nL ret hh fr_tbl fr_nw D vwCl (fr_ty ka) A) (hP : va_P D vwCl (fr_cw ka al f Z) H) (hD : va_D A (fr_cw ka al f Z)) (hS : va_S A s.heap H locs) (hsz : ls.size = nL) (hR : 2 + 1 ≤ R.frames ∧ 8 + (4 + 11) + 43 ≤ R.locals) (hw : (rest.map fun v => v.category).sum ≤ 8) (hf : cells + 0 ≤ R.cells ∧ slots + 0 ≤ R.slots) (gT : 0 ≤ (f 0 5).toInt ∧ (f 0 5).toInt ≤ 200) (hdg : decode cc pc = .ok (.invokevirtual 195, 3)) (kk : ∀ (H : Heap) (locs : List Loc), va_P D vwCl (fr_cw ka al f Z) H → va_D A (fr_cw ka al f Z) → va_S A s.heap H locs → W p l e R s m args below meth c H locs (cells + 0) (slots + 0) Q (F0 m (pc + 3) ls (.int (dn_numberAt f x) :: rest))) : W p l e R s m args below meth c H locs cells slots Q (F0 m pc ls (.int x :: .ref (al 5) :: rest)) :=
  fr_callVi (As := [.int x]) C hP hD hS (c_numberAt l D ka al Z f x gT) (cwV 1 C.2.2.2.2.1 (fr_goodV ml_F_195 mi_numberAt msel_numberAt mini_T mc_numberAt) rfl rfl rfl (by decide +kernel) hR) (va_recv C.2.2.2.2.2.1 hP (ci := 3) (q0 := 5) rfl rfl) rfl hsz hw hdg hf kk
theorem cl_F_90 {p : Program} {l : Launch} {e : Env} {R : Room} {s : State} {m : MethodId} {args : Array Value} {below : List Frame} {meth : Method} {c : Code} {H : Heap} {locs : List Loc} {cells slots : Nat} {Q : State → Prop} {D : va_G} {A : Nat → Prop} {cc : ByteArray} {nL pc : Nat} {ret : Option FieldType} {hh : List ExceptionTableEntry} {ls : Array Slot} {rest : List Value} {ka : Nat → ClassId} {al : Nat → Nat} {f : Nat → Nat → Int32} {Z : va_W} {x : Int32} {y : Int32} {k : Int32} (C : fr_Cx p s m args meth c "FragileRules" cc nL ret hh fr_tbl fr_nw D vwCl (fr_ty ka) A) (hP : va_P D vwCl (fr_cw ka al f Z) H) (hD : va_D A (fr_cw ka al f Z)) (hS : va_S A s.heap H locs) (hsz : ls.size = nL) (hR : 0 + 1 ≤ R.frames ∧ 8 + (5 + 11) + 0 ≤ R.locals) (hw : (rest.map fun v => v.category).sum ≤ 8) (hf : cells + 0 ≤ R.cells ∧ slots + 0 ≤ R.slots) (gR : 0 ≤ (f 0 1).toInt ∧ (f 0 1).toInt < 12) (hdg : decode cc pc = .ok (.invokevirtual 90, 3)) (kk : ∀ (H : Heap) (locs : List Loc), va_P D vwCl (fr_cw ka al ((dn_addRule f x y k).2) Z) H → va_D A (fr_cw ka al ((dn_addRule f x y k).2) Z) → va_S A s.heap H locs → W p l e R s m args below meth c H locs (cells + 0) (slots + 0) Q (F0 m (pc + 3) ls (.int ((dn_addRule f x y k).1) :: rest))) : W p l e R s m args below meth c H locs cells slots Q (F0 m pc ls (.int k :: .int y :: .int x :: .ref (al 0) :: rest)) :=
  fr_callVi (As := [.int x, .int y, .int k]) C hP hD hS (c_addRule l D ka al Z f x y k gR) (cwV 3 C.2.2.2.2.1 (fr_goodV ml_F_90 mi_addRule msel_addRule mini_F mc_addRule) rfl rfl rfl (by decide +kernel) hR) (va_recv C.2.2.2.2.2.1 hP (ci := 0) (q0 := 0) rfl rfl) rfl hsz hw hdg hf kk
theorem cl_F_198 {p : Program} {l : Launch} {e : Env} {R : Room} {s : State} {m : MethodId} {args : Array Value} {below : List Frame} {meth : Method} {c : Code} {H : Heap} {locs : List Loc} {cells slots : Nat} {Q : State → Prop} {D : va_G} {A : Nat → Prop} {cc : ByteArray} {nL pc : Nat} {ret : Option FieldType} {hh : List ExceptionTableEntry} {ls : Array Slot} {rest : List Value} {ka : Nat → ClassId} {al : Nat → Nat} {f : Nat → Nat → Int32} {Z : va_W} {x : Int32} (C : fr_Cx p s m args meth c "FragileRules" cc nL ret hh fr_tbl fr_nw D vwCl (fr_ty ka) A) (hP : va_P D vwCl (fr_cw ka al f Z) H) (hD : va_D A (fr_cw ka al f Z)) (hS : va_S A s.heap H locs) (hsz : ls.size = nL) (hR : 2 + 1 ≤ R.frames ∧ 8 + (6 + 11) + 43 ≤ R.locals) (hw : (rest.map fun v => v.category).sum ≤ 8) (hf : cells + 0 ≤ R.cells ∧ slots + 0 ≤ R.slots) (gT : 0 ≤ (f 0 5).toInt ∧ (f 0 5).toInt ≤ 200) (hdg : decode cc pc = .ok (.invokevirtual 198, 3)) (kk : ∀ (H : Heap) (locs : List Loc), va_P D vwCl (fr_cw ka al f Z) H → va_D A (fr_cw ka al f Z) → va_S A s.heap H locs → W p l e R s m args below meth c H locs (cells + 0) (slots + 0) Q (F0 m (pc + 3) ls (.int (dn_behind f x) :: rest))) : W p l e R s m args below meth c H locs cells slots Q (F0 m pc ls (.int x :: .ref (al 5) :: rest)) :=
  fr_callVi (As := [.int x]) C hP hD hS (c_behind l D ka al Z f x gT) (cwV 1 C.2.2.2.2.1 (fr_goodV ml_F_198 mi_behind msel_behind mini_T mc_behind) rfl rfl rfl (by decide +kernel) hR) (va_recv C.2.2.2.2.2.1 hP (ci := 3) (q0 := 5) rfl rfl) rfl hsz hw hdg hf kk
def dn_addLines_4 : Nat → (Int32) → (Nat → Nat → Int32) → (Int32) → (Int32) → Nat → Nat → Int32
  | 0, _, _, _, _ => fun _ _ => 0
  | n + 1, x, g, x2, x3 => if x ≤ x3 then g else (dn_addLines_4 n x ((dn_addRule g (dn_rowAt g x2) (dn_digitAt g (x2 + 2)) (dn_numberAt g (x2 + 4))).2) (dn_behind ((dn_addRule g (dn_rowAt g x2) (dn_digitAt g (x2 + 2)) (dn_numberAt g (x2 + 4))).2) x2) (x3 + 1))
set_option maxHeartbeats 4000000 in
set_option maxRecDepth 100000 in
theorem k_addLines_4 {p : Program} {l : Launch} {e : Env} {s : State} {m : MethodId} {below : List Frame} {meth : Method} {c : Code} {D : va_G} {A : Nat → Prop} {ka : Nat → ClassId} {al : Nat → Nat} {Z : va_W} {f : Nat → Nat → Int32} {x : Int32} (C : fr_Cx p s m ([.ref (al 0), .int x] : List Value).toArray meth c "FragileRules" prog_1_method_22_code 4 none [] fr_tbl fr_nw D vwCl (fr_ty ka) A) (gT : 0 ≤ (f 0 5).toInt ∧ (f 0 5).toInt ≤ 200) (gR : 0 ≤ (f 0 1).toInt ∧ (f 0 1).toInt + x.toInt ≤ 12 ∧ 0 ≤ x.toInt) :
    ∀ (n : Nat) (g : Nat → Nat → Int32) (x2 : Int32) (x3 : Int32) (H : Heap) (locs : List Loc) (ls : Array Slot), fr_al g x x3 n → va_P D vwCl (fr_cw ka al g Z) H → va_D A (fr_cw ka al g Z) → va_S A s.heap H locs → lv_has ls 4 [(0, .ref (al 0)), (1, .int x), (2, .int x2), (3, .int x3)] → W p l e { frames := 3, cells := 0, slots := 0, locals := 68 } s m ([.ref (al 0), .int x] : List Value).toArray below meth c H locs 0 0 (MQ below (fr_Qv D vwCl (fr_ty ka) (fr_cw ka al (dn_addLines_4 n x g x2 x3) Z) A) ([.ref (al 0), .int x] : List Value).toArray s 0 0 A) (F0 m 4 ls []) := by
  obtain ⟨hx, hb, hml, hown, ht, hK, hlocks, hr, hA, hN, hZ, hEx⟩ := id C
  intro n
  induction n with
  | zero =>
    intro g x2 x3 H locs ls hm hP hD hS hl
    exact fr_al_0 hm
  | succ n ih =>
    intro g x2 x3 H locs ls hm hP hD hS hl
    refine lv_iload_n hx hb dF_addLines_4 rfl (lv_at hl 3 rfl) ?_
    refine lv_iload_n hx hb dF_addLines_5 rfl (lv_at hl 1 rfl) ?_
    refine lv_icmp_ge (tgt := 57) hx hb dF_addLines_6 (by decide) (fun c_6 => ?_) (fun c_6 => ?_)
    · skip
      have hd_ : dn_addLines_4 (n + 1) x g x2 x3 = g := by rw [dn_addLines_4, if_pos c_6]
      rw [hd_]
      exact fr_vret C hP hD hS dF_addLines_57
    · skip
      refine lv_aload_n hx hb dF_addLines_9 rfl (lv_at hl 0 rfl) ?_
      refine lv_aload_n hx hb dF_addLines_10 rfl (lv_at hl 0 rfl) ?_
      refine gf_F_41 C hP dF_addLines_11 ?_
      refine lv_iload_n hx hb dF_addLines_14 rfl (lv_at hl 2 rfl) ?_
      refine cl_F_189 C hP hD hS hl.1 ⟨Nat.le_of_ble_eq_true rfl, Nat.le_of_ble_eq_true rfl⟩ (Nat.le_of_ble_eq_true rfl) ⟨Nat.le_of_ble_eq_true rfl, Nat.le_of_ble_eq_true rfl⟩ hm.1 dF_addLines_15 (fun H locs hP hD hS => ?_)
      refine lv_aload_n hx hb dF_addLines_18 rfl (lv_at hl 0 rfl) ?_
      refine gf_F_41 C hP dF_addLines_19 ?_
      refine lv_iload_n hx hb dF_addLines_22 rfl (lv_at hl 2 rfl) ?_
      refine lv_iconst (v := 2) hx hb dF_addLines_23 (by decide) ?_
      refine lv_iadd hx hb dF_addLines_24 ?_
      refine cl_F_192 C hP hD hS hl.1 ⟨Nat.le_of_ble_eq_true rfl, Nat.le_of_ble_eq_true rfl⟩ (Nat.le_of_ble_eq_true rfl) ⟨Nat.le_of_ble_eq_true rfl, Nat.le_of_ble_eq_true rfl⟩ hm.1 dF_addLines_25 (fun H locs hP hD hS => ?_)
      refine lv_aload_n hx hb dF_addLines_28 rfl (lv_at hl 0 rfl) ?_
      refine gf_F_41 C hP dF_addLines_29 ?_
      refine lv_iload_n hx hb dF_addLines_32 rfl (lv_at hl 2 rfl) ?_
      refine lv_iconst (v := 4) hx hb dF_addLines_33 (by decide) ?_
      refine lv_iadd hx hb dF_addLines_34 ?_
      refine cl_F_195 C hP hD hS hl.1 ⟨Nat.le_of_ble_eq_true rfl, Nat.le_of_ble_eq_true rfl⟩ (Nat.le_of_ble_eq_true rfl) ⟨Nat.le_of_ble_eq_true rfl, Nat.le_of_ble_eq_true rfl⟩ hm.1 dF_addLines_35 (fun H locs hP hD hS => ?_)
      refine cl_F_90 C hP hD hS hl.1 ⟨Nat.le_of_ble_eq_true rfl, Nat.le_of_ble_eq_true rfl⟩ (Nat.le_of_ble_eq_true rfl) ⟨Nat.le_of_ble_eq_true rfl, Nat.le_of_ble_eq_true rfl⟩ (fr_al_r hm c_6) dF_addLines_38 (fun H locs hP hD hS => ?_)
      refine lv_pop hx hb dF_addLines_41 rfl ?_
      refine lv_aload_n hx hb dF_addLines_42 rfl (lv_at hl 0 rfl) ?_
      refine gf_F_41 C hP dF_addLines_43 ?_
      refine lv_iload_n hx hb dF_addLines_46 rfl (lv_at hl 2 rfl) ?_
      refine cl_F_198 C hP hD hS hl.1 ⟨Nat.le_of_ble_eq_true rfl, Nat.le_of_ble_eq_true rfl⟩ (Nat.le_of_ble_eq_true rfl) ⟨Nat.le_of_ble_eq_true rfl, Nat.le_of_ble_eq_true rfl⟩ hm.1 dF_addLines_47 (fun H locs hP hD hS => ?_)
      refine lv_istore_n (lv' := [(2, .int (dn_behind ((dn_addRule g (dn_rowAt g x2) (dn_digitAt g (x2 + 2)) (dn_numberAt g (x2 + 4))).2) x2)), (0, .ref (al 0)), (1, .int x), (3, .int x3)]) hx hb dF_addLines_50 rfl hl (by decide) rfl (fun ls hl => ?_)
      refine lv_iinc (v := x3 + 1) (lv' := [(3, .int (x3 + 1)), (2, .int (dn_behind ((dn_addRule g (dn_rowAt g x2) (dn_digitAt g (x2 + 2)) (dn_numberAt g (x2 + 4))).2) x2)), (0, .ref (al 0)), (1, .int x)]) hx hb dF_addLines_51 hl (k := 3) rfl rfl (by decide) rfl (fun ls hl => ?_)
      refine lv_goto (tgt := 4) hx hb dF_addLines_54 (by decide) ?_
      have hd_ : dn_addLines_4 (n + 1) x g x2 x3 = dn_addLines_4 n x ((dn_addRule g (dn_rowAt g x2) (dn_digitAt g (x2 + 2)) (dn_numberAt g (x2 + 4))).2) (dn_behind ((dn_addRule g (dn_rowAt g x2) (dn_digitAt g (x2 + 2)) (dn_numberAt g (x2 + 4))).2) x2) (x3 + 1) := by rw [dn_addLines_4, if_neg c_6]
      rw [hd_]
      exact ih ((dn_addRule g (dn_rowAt g x2) (dn_digitAt g (x2 + 2)) (dn_numberAt g (x2 + 4))).2) (dn_behind ((dn_addRule g (dn_rowAt g x2) (dn_digitAt g (x2 + 2)) (dn_numberAt g (x2 + 4))).2) x2) (x3 + 1) H locs ls (fr_al_b hm c_6) hP hD hS (lv_sub hl [2, 3, 1, 0] rfl)
def dn_addLines (f : Nat → Nat → Int32) (x : Int32) : Nat → Nat → Int32 := dn_addLines_4 13 x f 0 0
set_option maxHeartbeats 4000000 in
set_option maxRecDepth 100000 in
theorem c_addLines (l : Launch) (D : va_G) (ka : Nat → ClassId) (al : Nat → Nat) (Z : va_W) (f : Nat → Nat → Int32) (x : Int32) (gT : 0 ≤ (f 0 5).toInt ∧ (f 0 5).toInt ≤ 200) (gR : 0 ≤ (f 0 1).toInt ∧ (f 0 1).toInt + x.toInt ≤ 12 ∧ 0 ≤ x.toInt) : fr_Mv l y_addLines (.code y_addLines prog_1_method_22_code 4 none :: fr_tbl) { frames := 3, cells := 0, slots := 0, locals := 68 } D vwCl (fr_ty ka) fr_nw [.ref (al 0), .int x] (fr_cw ka al f Z) (fr_cw ka al (dn_addLines f x) Z) 0 0 := by
  refine fr_Mv.of (by decide) (Nat.le_of_ble_eq_true rfl) ?_
  intro p e s m below meth c A H locs ls C hinit hP hD hS hl
  obtain ⟨hx, hb, hml, hown, ht, hK, hlocks, hr, hA, hN, hZ, hEx⟩ := id C
  have hl : lv_has ls 4 [(0, .ref (al 0)), (1, .int x)] := hl
  refine lv_iconst (v := 0) hx hb dF_addLines_0 (by decide) ?_
  refine lv_istore_n (lv' := [(2, .int 0), (0, .ref (al 0)), (1, .int x)]) hx hb dF_addLines_1 rfl hl (by decide) rfl (fun ls hl => ?_)
  refine lv_iconst (v := 0) hx hb dF_addLines_2 (by decide) ?_
  refine lv_istore_n (lv' := [(3, .int 0), (2, .int 0), (0, .ref (al 0)), (1, .int x)]) hx hb dF_addLines_3 rfl hl (by decide) rfl (fun ls hl => ?_)
  have hd_ : dn_addLines f x = dn_addLines_4 13 x f 0 0 := by rw [dn_addLines]
  rw [hd_]
  exact k_addLines_4 C gT gR 13 f 0 0 H locs ls (fr_al_in gT gR) hP hD hS (lv_sub hl [2, 3, 1, 0] rfl)

theorem cl_F_144 {p : Program} {l : Launch} {e : Env} {R : Room} {s : State} {m : MethodId} {args : Array Value} {below : List Frame} {meth : Method} {c : Code} {H : Heap} {locs : List Loc} {cells slots : Nat} {Q : State → Prop} {D : va_G} {A : Nat → Prop} {cc : ByteArray} {nL pc : Nat} {ret : Option FieldType} {hh : List ExceptionTableEntry} {ls : Array Slot} {rest : List Value} {ka : Nat → ClassId} {al : Nat → Nat} {f : Nat → Nat → Int32} {Z : va_W} {u : Nat} {k : Int32} (C : fr_Cx p s m args meth c "FragileRules" cc nL ret hh fr_tbl fr_nw D vwCl (fr_ty ka) A) (hP : va_P D vwCl (fr_cw ka al f Z) H) (hD : va_D A (fr_cw ka al f Z)) (hS : va_S A s.heap H locs) (hsz : ls.size = nL) (hR : 0 + 1 ≤ R.frames ∧ 8 + (2 + 11) + 0 ≤ R.locals) (hw : (rest.map fun v => v.category).sum ≤ 8) (hf : cells + 0 ≤ R.cells ∧ slots + 0 ≤ R.slots) (hu : u < 10) (hdg : decode cc pc = .ok (.invokevirtual 144, 3)) (kk : ∀ (H : Heap) (locs : List Loc), va_P D vwCl (fr_cw ka al f Z) H → va_D A (fr_cw ka al f Z) → va_S A s.heap H locs → W p l e R s m args below meth c H locs (cells + 0) (slots + 0) Q (F0 m (pc + 3) ls (.int (dn_has f u k) :: rest))) : W p l e R s m args below meth c H locs cells slots Q (F0 m pc ls (.int k :: .ref (al (7 + u)) :: rest)) :=
  fr_callVi (As := [.int k]) C hP hD hS (c_has l D ka al Z f u k hu) (cwV 1 C.2.2.2.2.1 (fr_goodV ml_F_144 mi_has msel_has mini_U mc_has) rfl rfl rfl (by decide +kernel) hR) (va_recv C.2.2.2.2.2.1 hP (ci := 1) (q0 := (7 + u)) rfl (fr_cw_u hu)) rfl hsz hw hdg hf kk
def dn_marks_2 : Nat → (Nat) → (Nat → Nat → Int32) → (Int32) → Int32 × (Nat → Nat → Int32)
  | 0, _, _, _ => (0, fun _ _ => 0)
  | n + 1, u, g, x2 => if 16 < x2 then (0, g) else (if (dn_has g u x2) = 0 then (dn_marks_2 n u g (x2 <<< (1 &&& 31))) else (if ((dn_firstRefusing g 2 u u x2).1) = 0 then (dn_marks_2 n u ((dn_firstRefusing g 2 u u x2).2) (x2 <<< (1 &&& 31))) else ((dn_firstRefusing g 2 u u x2).1, (dn_firstRefusing g 2 u u x2).2)))
set_option maxHeartbeats 4000000 in
set_option maxRecDepth 100000 in
theorem k_marks_2 {p : Program} {l : Launch} {e : Env} {s : State} {m : MethodId} {below : List Frame} {meth : Method} {c : Code} {D : va_G} {A : Nat → Prop} {ka : Nat → ClassId} {al : Nat → Nat} {Z : va_W} {f : Nat → Nat → Int32} {u : Nat} (C : fr_Cx p s m ([.ref (al 0), .ref (al (7 + u))] : List Value).toArray meth c "FragileRules" prog_1_method_25_code 4 (some .int) [] fr_tbl fr_nw D vwCl (fr_ty ka) A) (hu : u < 10) (gR : 0 ≤ (f 0 1).toInt ∧ (f 0 1).toInt ≤ 12) (gO : fr_ord f) :
    ∀ (n : Nat) (g : Nat → Nat → Int32) (x2 : Int32) (H : Heap) (locs : List Loc) (ls : Array Slot), fr_mk x2 n → fr_ro g → va_P D vwCl (fr_cw ka al g Z) H → va_D A (fr_cw ka al g Z) → va_S A s.heap H locs → lv_has ls 4 [(0, .ref (al 0)), (1, .ref (al (7 + u))), (2, .int x2)] → W p l e { frames := 4, cells := 0, slots := 0, locals := 94 } s m ([.ref (al 0), .ref (al (7 + u))] : List Value).toArray below meth c H locs 0 0 (MQ below (fr_Qi D vwCl (fr_ty ka) (dn_marks_2 n u g x2).1 (fr_cw ka al ((dn_marks_2 n u g x2).2) Z) A) ([.ref (al 0), .ref (al (7 + u))] : List Value).toArray s 0 0 A) (F0 m 2 ls []) := by
  obtain ⟨hx, hb, hml, hown, ht, hK, hlocks, hr, hA, hN, hZ, hEx⟩ := id C
  intro n
  induction n with
  | zero =>
    intro g x2 H locs ls hm hq hP hD hS hl
    exact fr_mk_0 hm
  | succ n ih =>
    intro g x2 H locs ls hm hq hP hD hS hl
    refine lv_iload_n hx hb dF_firstRefusingMarks_2 rfl (lv_at hl 2 rfl) ?_
    refine lv_bipush (v := 16) hx hb dF_firstRefusingMarks_3 (by decide) ?_
    refine lv_icmp_gt (tgt := 42) hx hb dF_firstRefusingMarks_5 (by decide) (fun c_5 => ?_) (fun c_5 => ?_)
    · skip
      refine lv_iconst (v := 0) hx hb dF_firstRefusingMarks_42 (by decide) ?_
      have hd_ : dn_marks_2 (n + 1) u g x2 = (0, g) := by rw [dn_marks_2, if_pos c_5]
      rw [hd_]
      exact fr_iret C hP hD hS rfl dF_firstRefusingMarks_43
    · skip
      refine lv_aload_n hx hb dF_firstRefusingMarks_8 rfl (lv_at hl 1 rfl) ?_
      refine lv_iload_n hx hb dF_firstRefusingMarks_9 rfl (lv_at hl 2 rfl) ?_
      refine cl_F_144 C hP hD hS hl.1 ⟨Nat.le_of_ble_eq_true rfl, Nat.le_of_ble_eq_true rfl⟩ (Nat.le_of_ble_eq_true rfl) ⟨Nat.le_of_ble_eq_true rfl, Nat.le_of_ble_eq_true rfl⟩ hu dF_firstRefusingMarks_10 (fun H locs hP hD hS => ?_)
      refine lv_if_eq (tgt := 27) hx hb dF_firstRefusingMarks_13 (by decide) (fun c_13 => ?_) (fun c_13 => ?_)
      · skip
        refine lv_iconst (v := 0) hx hb dF_firstRefusingMarks_27 (by decide) ?_
        refine lv_istore_n (lv' := [(3, .int 0), (0, .ref (al 0)), (1, .ref (al (7 + u))), (2, .int x2)]) hx hb dF_firstRefusingMarks_28 rfl hl (by decide) rfl (fun ls hl => ?_)
        refine lv_iload_n hx hb dF_firstRefusingMarks_29 rfl (lv_at hl 0 rfl) ?_
        refine lv_if_eq (tgt := 35) hx hb dF_firstRefusingMarks_30 (by decide) (fun c_30 => ?_) (fun c_30 => absurd c_30 (by decide))
        refine lv_iload_n hx hb dF_firstRefusingMarks_35 rfl (lv_at hl 3 rfl) ?_
        refine lv_iconst (v := 1) hx hb dF_firstRefusingMarks_36 (by decide) ?_
        refine lv_ishl hx hb dF_firstRefusingMarks_37 ?_
        refine lv_istore_n (lv' := [(2, .int (x2 <<< (1 &&& 31))), (3, .int 0), (0, .ref (al 0)), (1, .ref (al (7 + u)))]) hx hb dF_firstRefusingMarks_38 rfl hl (by decide) rfl (fun ls hl => ?_)
        refine lv_goto (tgt := 2) hx hb dF_firstRefusingMarks_39 (by decide) ?_
        have hd_ : dn_marks_2 (n + 1) u g x2 = dn_marks_2 n u g (x2 <<< (1 &&& 31)) := by rw [dn_marks_2, if_neg c_5, if_pos c_13]
        rw [hd_]
        exact ih g (x2 <<< (1 &&& 31)) H locs ls (fr_mk_b hm c_5) hq hP hD hS (lv_sub hl [2, 3, 0] rfl)
      · skip
        refine lv_aload_n hx hb dF_firstRefusingMarks_16 rfl (lv_at hl 0 rfl) ?_
        refine lv_iconst (v := 2) hx hb dF_firstRefusingMarks_17 (by decide) ?_
        refine lv_aload_n hx hb dF_firstRefusingMarks_18 rfl (lv_at hl 1 rfl) ?_
        refine lv_aload_n hx hb dF_firstRefusingMarks_19 rfl (lv_at hl 1 rfl) ?_
        refine lv_iload_n hx hb dF_firstRefusingMarks_20 rfl (lv_at hl 2 rfl) ?_
        refine cl_F_201 C hP hD hS hl.1 ⟨Nat.le_of_ble_eq_true rfl, Nat.le_of_ble_eq_true rfl⟩ (Nat.le_of_ble_eq_true rfl) ⟨Nat.le_of_ble_eq_true rfl, Nat.le_of_ble_eq_true rfl⟩ hu hu hq.1 hq.2 dF_firstRefusingMarks_21 (fun H locs hP hD hS => ?_)
        refine lv_goto (tgt := 28) hx hb dF_firstRefusingMarks_24 (by decide) ?_
        refine lv_istore_n (lv' := [(3, .int ((dn_firstRefusing g 2 u u x2).1)), (0, .ref (al 0)), (1, .ref (al (7 + u))), (2, .int x2)]) hx hb dF_firstRefusingMarks_28 rfl hl (by decide) rfl (fun ls hl => ?_)
        refine lv_iload_n hx hb dF_firstRefusingMarks_29 rfl (lv_at hl 0 rfl) ?_
        refine lv_if_eq (tgt := 35) hx hb dF_firstRefusingMarks_30 (by decide) (fun c_30 => ?_) (fun c_30 => ?_)
        · skip
          refine lv_iload_n hx hb dF_firstRefusingMarks_35 rfl (lv_at hl 3 rfl) ?_
          refine lv_iconst (v := 1) hx hb dF_firstRefusingMarks_36 (by decide) ?_
          refine lv_ishl hx hb dF_firstRefusingMarks_37 ?_
          refine lv_istore_n (lv' := [(2, .int (x2 <<< (1 &&& 31))), (3, .int ((dn_firstRefusing g 2 u u x2).1)), (0, .ref (al 0)), (1, .ref (al (7 + u)))]) hx hb dF_firstRefusingMarks_38 rfl hl (by decide) rfl (fun ls hl => ?_)
          refine lv_goto (tgt := 2) hx hb dF_firstRefusingMarks_39 (by decide) ?_
          have hd_ : dn_marks_2 (n + 1) u g x2 = dn_marks_2 n u ((dn_firstRefusing g 2 u u x2).2) (x2 <<< (1 &&& 31)) := by rw [dn_marks_2, if_neg c_5, if_neg c_13, if_pos c_30]
          rw [hd_]
          exact ih ((dn_firstRefusing g 2 u u x2).2) (x2 <<< (1 &&& 31)) H locs ls (fr_mk_b hm c_5) (fr_ro_fr hq) hP hD hS (lv_sub hl [2, 3, 0] rfl)
        · skip
          refine lv_iload_n hx hb dF_firstRefusingMarks_33 rfl (lv_at hl 0 rfl) ?_
          have hd_ : dn_marks_2 (n + 1) u g x2 = ((dn_firstRefusing g 2 u u x2).1, (dn_firstRefusing g 2 u u x2).2) := by rw [dn_marks_2, if_neg c_5, if_neg c_13, if_neg c_30]
          rw [hd_]
          exact fr_iret C hP hD hS rfl dF_firstRefusingMarks_34
def dn_marks (f : Nat → Nat → Int32) (u : Nat) : Int32 × (Nat → Nat → Int32) := dn_marks_2 6 u f 1
set_option maxHeartbeats 4000000 in
set_option maxRecDepth 100000 in
theorem c_marks (l : Launch) (D : va_G) (ka : Nat → ClassId) (al : Nat → Nat) (Z : va_W) (f : Nat → Nat → Int32) (u : Nat) (hu : u < 10) (gR : 0 ≤ (f 0 1).toInt ∧ (f 0 1).toInt ≤ 12) (gO : fr_ord f) : fr_Mi l y_marks (.code y_marks prog_1_method_25_code 4 (some .int) :: fr_tbl) { frames := 4, cells := 0, slots := 0, locals := 94 } D vwCl (fr_ty ka) fr_nw [.ref (al 0), .ref (al (7 + u))] (fr_cw ka al f Z) ((dn_marks f u).1) (fr_cw ka al ((dn_marks f u).2) Z) 0 0 := by
  refine fr_Mi.of (by decide) (Nat.le_of_ble_eq_true rfl) ?_
  intro p e s m below meth c A H locs ls C hP hD hS hl
  obtain ⟨hx, hb, hml, hown, ht, hK, hlocks, hr, hA, hN, hZ, hEx⟩ := id C
  have hl : lv_has ls 4 [(0, .ref (al 0)), (1, .ref (al (7 + u)))] := hl
  refine lv_iconst (v := 1) hx hb dF_firstRefusingMarks_0 (by decide) ?_
  refine lv_istore_n (lv' := [(2, .int 1), (0, .ref (al 0)), (1, .ref (al (7 + u)))]) hx hb dF_firstRefusingMarks_1 rfl hl (by decide) rfl (fun ls hl => ?_)
  have hd_ : dn_marks f u = dn_marks_2 6 u f 1 := by rw [dn_marks]
  rw [hd_]
  exact k_marks_2 C hu gR gO 6 f 1 H locs ls (Or.inl ⟨rfl, Nat.le_refl _⟩) (⟨gR, gO⟩) hP hD hS (lv_sub hl [1, 2, 0] rfl)
end
section
theorem cl_F_78 {p : Program} {l : Launch} {e : Env} {R : Room} {s : State} {m : MethodId} {args : Array Value} {below : List Frame} {meth : Method} {c : Code} {H : Heap} {locs : List Loc} {cells slots : Nat} {Q : State → Prop} {D : va_G} {A : Nat → Prop} {cc : ByteArray} {nL pc : Nat} {ret : Option FieldType} {hh : List ExceptionTableEntry} {ls : Array Slot} {rest : List Value} {ka : Nat → ClassId} {al : Nat → Nat} {f : Nat → Nat → Int32} {Z : va_W} {u : Nat} (C : fr_Cx p s m args meth c "FragileRules" cc nL ret hh fr_tbl fr_nw D vwCl (fr_ty ka) A) (hP : va_P D vwCl (fr_cw ka al f Z) H) (hD : va_D A (fr_cw ka al f Z)) (hS : va_S A s.heap H locs) (hsz : ls.size = nL) (hR : 4 + 1 ≤ R.frames ∧ 8 + (4 + 11) + 94 ≤ R.locals) (hw : (rest.map fun v => v.category).sum ≤ 8) (hf : cells + 0 ≤ R.cells ∧ slots + 0 ≤ R.slots) (hu : u < 10) (gR : 0 ≤ (f 0 1).toInt ∧ (f 0 1).toInt ≤ 12) (gO : fr_ord f) (hdg : decode cc pc = .ok (.invokevirtual 78, 3)) (kk : ∀ (H : Heap) (locs : List Loc), va_P D vwCl (fr_cw ka al ((dn_marks f u).2) Z) H → va_D A (fr_cw ka al ((dn_marks f u).2) Z) → va_S A s.heap H locs → W p l e R s m args below meth c H locs (cells + 0) (slots + 0) Q (F0 m (pc + 3) ls (.int ((dn_marks f u).1) :: rest))) : W p l e R s m args below meth c H locs cells slots Q (F0 m pc ls (.ref (al (7 + u)) :: .ref (al 0) :: rest)) :=
  fr_callVi (As := [.ref (al (7 + u))]) C hP hD hS (c_marks l D ka al Z f u hu gR gO) (cwV 1 C.2.2.2.2.1 (fr_goodV ml_F_78 mi_marks msel_marks mini_F mc_marks) rfl rfl rfl (by decide +kernel) hR) (va_recv C.2.2.2.2.2.1 hP (ci := 0) (q0 := 0) rfl rfl) rfl hsz hw hdg hf kk
def dn_unit (f : Nat → Nat → Int32) (x : Int32) (y : Int32) (k : Int32) : Option String × Int32 × (Nat → Nat → Int32) := if (dn_within x 7) = 0 then (some "java/lang/IllegalArgumentException", 0, f) else (if (dn_within y 1000) = 0 then (some "java/lang/IllegalArgumentException", 0, f) else (if (dn_within k 31) = 0 then (some "java/lang/IllegalArgumentException", 0, f) else (if (f 0 0) < 10 then (if ((dn_marks (fr_up (fr_up (fr_up f 1 ((f 0 0).toNatClampNeg) x) 2 ((f 0 0).toNatClampNeg) y) 3 ((f 0 0).toNatClampNeg) k) ((f 0 0).toNatClampNeg)).1) = 0 then (none, ((((dn_marks (fr_up (fr_up (fr_up f 1 ((f 0 0).toNatClampNeg) x) 2 ((f 0 0).toNatClampNeg) y) 3 ((f 0 0).toNatClampNeg) k) ((f 0 0).toNatClampNeg)).2) 0 0) + 1) - 1, fr_up (fr_up ((dn_marks (fr_up (fr_up (fr_up f 1 ((f 0 0).toNatClampNeg) x) 2 ((f 0 0).toNatClampNeg) y) 3 ((f 0 0).toNatClampNeg) k) ((f 0 0).toNatClampNeg)).2) 0 2 0) 0 0 ((((dn_marks (fr_up (fr_up (fr_up f 1 ((f 0 0).toNatClampNeg) x) 2 ((f 0 0).toNatClampNeg) y) 3 ((f 0 0).toNatClampNeg) k) ((f 0 0).toNatClampNeg)).2) 0 0) + 1)) else (none, (-1) - ((dn_marks (fr_up (fr_up (fr_up f 1 ((f 0 0).toNatClampNeg) x) 2 ((f 0 0).toNatClampNeg) y) 3 ((f 0 0).toNatClampNeg) k) ((f 0 0).toNatClampNeg)).1), fr_up ((dn_marks (fr_up (fr_up (fr_up f 1 ((f 0 0).toNatClampNeg) x) 2 ((f 0 0).toNatClampNeg) y) 3 ((f 0 0).toNatClampNeg) k) ((f 0 0).toNatClampNeg)).2) 0 2 0)) else (some "java/lang/UnsupportedOperationException", 0, f))))
set_option maxHeartbeats 4000000 in
set_option maxRecDepth 100000 in
theorem c_unit (l : Launch) (hls : l.stackTraces = false) (D : va_G) (ka : Nat → ClassId) (al : Nat → Nat) (Z : va_W) (f : Nat → Nat → Int32) (x : Int32) (y : Int32) (k : Int32) (gU : 0 ≤ (f 0 0).toInt ∧ (f 0 0).toInt ≤ 10) (gR : 0 ≤ (f 0 1).toInt ∧ (f 0 1).toInt ≤ 12) (gO : fr_ord f) : fr_Mx (fr_Qi D vwCl (fr_ty ka)) l y_unit (.code y_unit prog_1_method_2_code 6 (some .int) :: fr_tbl) { frames := 6, cells := 1, slots := 6, locals := 117 } D vwCl (fr_ty ka) fr_nw [.ref (al 0), .int x, .int y, .int k] (fr_cw ka al f Z) (dn_unit f x y k).1 (dn_unit f x y k).2.1 (fr_cw ka al ((dn_unit f x y k).2.2) Z) 1 6 := by
  refine fr_Mx.of (by decide) (Nat.le_of_ble_eq_true rfl) ?_
  intro p e s m below meth c A H locs ls C hP hD hS hl
  obtain ⟨hx, hb, hml, hown, ht, hK, hlocks, hr, hA, hN, hZ, hEx⟩ := id C
  have hl : lv_has ls 6 [(0, .ref (al 0)), (1, .int x), (2, .int y), (3, .int k)] := hl
  refine lv_iload_n hx hb dF_unit_0 rfl (lv_at hl 1 rfl) ?_
  refine lv_bipush (v := 7) hx hb dF_unit_1 (by decide) ?_
  refine cl_F_53 C hP hD hS hl.1 ⟨Nat.le_of_ble_eq_true rfl, Nat.le_of_ble_eq_true rfl⟩ (Nat.le_of_ble_eq_true rfl) ⟨Nat.le_of_ble_eq_true rfl, Nat.le_of_ble_eq_true rfl⟩ dF_unit_3 (fun H locs hP hD hS => ?_)
  refine lv_if_eq (tgt := 28) hx hb dF_unit_6 (by decide) (fun c_6 => ?_) (fun c_6 => ?_)
  · skip
    have hd_ : dn_unit f x y k = (some "java/lang/IllegalArgumentException", 0, f) := by rw [dn_unit, if_pos c_6]
    rw [hd_]
    obtain ⟨sa, hsa⟩ := fr_str hown (hN _ str_F_59).2
    exact th_IAE C hl.1 hls hS hsa (Nat.le_of_ble_eq_true rfl) (Nat.le_of_ble_eq_true rfl) (Nat.le_of_ble_eq_true rfl) (Nat.le_of_ble_eq_true rfl) dF_unit_28 dF_unit_31 dF_unit_32 dF_unit_34 dF_unit_37 (fr_xthrow rfl hK hP hD hS rfl rfl)
  · skip
    refine lv_iload_n hx hb dF_unit_9 rfl (lv_at hl 2 rfl) ?_
    refine lv_sipush (v := 1000) hx hb dF_unit_10 (by decide) ?_
    refine cl_F_53 C hP hD hS hl.1 ⟨Nat.le_of_ble_eq_true rfl, Nat.le_of_ble_eq_true rfl⟩ (Nat.le_of_ble_eq_true rfl) ⟨Nat.le_of_ble_eq_true rfl, Nat.le_of_ble_eq_true rfl⟩ dF_unit_13 (fun H locs hP hD hS => ?_)
    refine lv_if_eq (tgt := 28) hx hb dF_unit_16 (by decide) (fun c_16 => ?_) (fun c_16 => ?_)
    · skip
      have hd_ : dn_unit f x y k = (some "java/lang/IllegalArgumentException", 0, f) := by rw [dn_unit, if_neg c_6, if_pos c_16]
      rw [hd_]
      obtain ⟨sa, hsa⟩ := fr_str hown (hN _ str_F_59).2
      exact th_IAE C hl.1 hls hS hsa (Nat.le_of_ble_eq_true rfl) (Nat.le_of_ble_eq_true rfl) (Nat.le_of_ble_eq_true rfl) (Nat.le_of_ble_eq_true rfl) dF_unit_28 dF_unit_31 dF_unit_32 dF_unit_34 dF_unit_37 (fr_xthrow rfl hK hP hD hS rfl rfl)
    · skip
      refine lv_iload_n hx hb dF_unit_19 rfl (lv_at hl 3 rfl) ?_
      refine lv_bipush (v := 31) hx hb dF_unit_20 (by decide) ?_
      refine cl_F_53 C hP hD hS hl.1 ⟨Nat.le_of_ble_eq_true rfl, Nat.le_of_ble_eq_true rfl⟩ (Nat.le_of_ble_eq_true rfl) ⟨Nat.le_of_ble_eq_true rfl, Nat.le_of_ble_eq_true rfl⟩ dF_unit_22 (fun H locs hP hD hS => ?_)
      refine lv_if_ne (tgt := 38) hx hb dF_unit_25 (by decide) (fun c_25 => ?_) (fun c_25 => ?_)
      · skip
        refine lv_aload_n hx hb dF_unit_38 rfl (lv_at hl 0 rfl) ?_
        refine gf_F_15 C hP dF_unit_39 ?_
        refine lv_bipush (v := 10) hx hb dF_unit_42 (by decide) ?_
        refine lv_icmp_lt (tgt := 57) hx hb dF_unit_44 (by decide) (fun c_44 => ?_) (fun c_44 => ?_)
        · skip
          refine lv_aload_n hx hb dF_unit_57 rfl (lv_at hl 0 rfl) ?_
          refine gf_F_11 C hP dF_unit_58 ?_
          refine lv_aload_n hx hb dF_unit_61 rfl (lv_at hl 0 rfl) ?_
          refine gf_F_15 C hP dF_unit_62 ?_
          have hin_65 : vp_in (f 0 0) 10 := by have q0 := fr_t6 c_6; have q1 := fr_t6 c_16; have q2 := fr_t6 c_25; have q3 := fr_t1 c_44; have z0 : (0 : Int32).toInt = 0 := rfl; have z1 : (10 : Int32).toInt = 10 := rfl; have e0 := gU; skip; rw [vp_in_iff]; omega
          refine ald_aU C hP hin_65 dF_unit_65 ?_
          refine lv_astore (lv' := [(4, .ref (al (7 + ((f 0 0).toNatClampNeg)))), (0, .ref (al 0)), (1, .int x), (2, .int y), (3, .int k)]) hx hb dF_unit_66 hl (by decide) rfl (fun ls hl => ?_)
          refine lv_aload hx hb dF_unit_68 (lv_at hl 0 rfl) ?_
          refine lv_iload_n hx hb dF_unit_70 rfl (lv_at hl 2 rfl) ?_
          refine pf_F_69 C hP hD hS (fr_lt hin_65) dF_unit_71 (fun H locs hP hD hS => ?_)
          refine lv_aload hx hb dF_unit_74 (lv_at hl 0 rfl) ?_
          refine lv_iload_n hx hb dF_unit_76 rfl (lv_at hl 3 rfl) ?_
          refine pf_F_72 C hP hD hS (fr_lt hin_65) dF_unit_77 (fun H locs hP hD hS => ?_)
          refine lv_aload hx hb dF_unit_80 (lv_at hl 0 rfl) ?_
          refine lv_iload_n hx hb dF_unit_82 rfl (lv_at hl 4 rfl) ?_
          refine pf_F_75 C hP hD hS (fr_lt hin_65) dF_unit_83 (fun H locs hP hD hS => ?_)
          refine lv_aload_n hx hb dF_unit_86 rfl (lv_at hl 1 rfl) ?_
          refine lv_aload hx hb dF_unit_87 (lv_at hl 0 rfl) ?_
          refine cl_F_78 C hP hD hS hl.1 ⟨Nat.le_of_ble_eq_true rfl, Nat.le_of_ble_eq_true rfl⟩ (Nat.le_of_ble_eq_true rfl) ⟨Nat.le_of_ble_eq_true rfl, Nat.le_of_ble_eq_true rfl⟩ (fr_lt hin_65) gR gO dF_unit_89 (fun H locs hP hD hS => ?_)
          refine lv_istore (lv' := [(5, .int ((dn_marks (fr_up (fr_up (fr_up f 1 ((f 0 0).toNatClampNeg) x) 2 ((f 0 0).toNatClampNeg) y) 3 ((f 0 0).toNatClampNeg) k) ((f 0 0).toNatClampNeg)).1)), (4, .ref (al (7 + ((f 0 0).toNatClampNeg)))), (0, .ref (al 0)), (1, .int x), (2, .int y), (3, .int k)]) hx hb dF_unit_92 hl (by decide) rfl (fun ls hl => ?_)
          refine lv_aload_n hx hb dF_unit_94 rfl (lv_at hl 2 rfl) ?_
          refine lv_iconst (v := 0) hx hb dF_unit_95 (by decide) ?_
          refine pf_F_35 C hP hD hS dF_unit_96 (fun H locs hP hD hS => ?_)
          refine lv_iload hx hb dF_unit_99 (lv_at hl 0 rfl) ?_
          refine lv_if_eq (tgt := 109) hx hb dF_unit_101 (by decide) (fun c_101 => ?_) (fun c_101 => ?_)
          · skip
            refine lv_aload_n hx hb dF_unit_109 rfl (lv_at hl 2 rfl) ?_
            refine lv_dup hx hb dF_unit_110 rfl ?_
            refine gf_F_15 C hP dF_unit_111 ?_
            refine W.eq (g2 := F0 m 114 ls [.int (((dn_marks (fr_up (fr_up (fr_up f 1 ((f 0 0).toNatClampNeg) x) 2 ((f 0 0).toNatClampNeg) y) 3 ((f 0 0).toNatClampNeg) k) ((f 0 0).toNatClampNeg)).2) 0 0), .ref (al 0)]) (by first | rfl | simp [fr_up, fr_row]) ?_
            refine lv_iconst (v := 1) hx hb dF_unit_114 (by decide) ?_
            refine lv_iadd hx hb dF_unit_115 ?_
            refine pf_F_15 C hP hD hS dF_unit_116 (fun H locs hP hD hS => ?_)
            refine lv_aload_n hx hb dF_unit_119 rfl (lv_at hl 2 rfl) ?_
            refine gf_F_15 C hP dF_unit_120 ?_
            refine W.eq (g2 := F0 m 123 ls [.int ((((dn_marks (fr_up (fr_up (fr_up f 1 ((f 0 0).toNatClampNeg) x) 2 ((f 0 0).toNatClampNeg) y) 3 ((f 0 0).toNatClampNeg) k) ((f 0 0).toNatClampNeg)).2) 0 0) + 1)]) (by first | rfl | simp [fr_up, fr_row]) ?_
            refine lv_iconst (v := 1) hx hb dF_unit_123 (by decide) ?_
            refine lv_isub hx hb dF_unit_124 ?_
            have hd_ : dn_unit f x y k = (none, ((((dn_marks (fr_up (fr_up (fr_up f 1 ((f 0 0).toNatClampNeg) x) 2 ((f 0 0).toNatClampNeg) y) 3 ((f 0 0).toNatClampNeg) k) ((f 0 0).toNatClampNeg)).2) 0 0) + 1) - 1, fr_up (fr_up ((dn_marks (fr_up (fr_up (fr_up f 1 ((f 0 0).toNatClampNeg) x) 2 ((f 0 0).toNatClampNeg) y) 3 ((f 0 0).toNatClampNeg) k) ((f 0 0).toNatClampNeg)).2) 0 2 0) 0 0 ((((dn_marks (fr_up (fr_up (fr_up f 1 ((f 0 0).toNatClampNeg) x) 2 ((f 0 0).toNatClampNeg) y) 3 ((f 0 0).toNatClampNeg) k) ((f 0 0).toNatClampNeg)).2) 0 0) + 1)) := by rw [dn_unit, if_neg c_6, if_neg c_16, if_neg c_25, if_pos c_44, if_pos c_101]
            rw [hd_]
            refine fr_xret rfl ?_
            refine W.widen (k := 1) (n := 6) (by decide) (by decide) ?_
            exact fr_iret C hP hD hS rfl dF_unit_125
          · skip
            refine lv_iconst (v := (-1)) hx hb dF_unit_104 (by decide) ?_
            refine lv_iload hx hb dF_unit_105 (lv_at hl 0 rfl) ?_
            refine lv_isub hx hb dF_unit_107 ?_
            have hd_ : dn_unit f x y k = (none, (-1) - ((dn_marks (fr_up (fr_up (fr_up f 1 ((f 0 0).toNatClampNeg) x) 2 ((f 0 0).toNatClampNeg) y) 3 ((f 0 0).toNatClampNeg) k) ((f 0 0).toNatClampNeg)).1), fr_up ((dn_marks (fr_up (fr_up (fr_up f 1 ((f 0 0).toNatClampNeg) x) 2 ((f 0 0).toNatClampNeg) y) 3 ((f 0 0).toNatClampNeg) k) ((f 0 0).toNatClampNeg)).2) 0 2 0) := by rw [dn_unit, if_neg c_6, if_neg c_16, if_neg c_25, if_pos c_44, if_neg c_101]
            rw [hd_]
            refine fr_xret rfl ?_
            refine W.widen (k := 1) (n := 6) (by decide) (by decide) ?_
            exact fr_iret C hP hD hS rfl dF_unit_108
        · skip
          have hd_ : dn_unit f x y k = (some "java/lang/UnsupportedOperationException", 0, f) := by rw [dn_unit, if_neg c_6, if_neg c_16, if_neg c_25, if_neg c_44]
          rw [hd_]
          obtain ⟨sa, hsa⟩ := fr_str hown (hN _ str_F_66).2
          exact th_UOE C hl.1 hls hS hsa (Nat.le_of_ble_eq_true rfl) (Nat.le_of_ble_eq_true rfl) (Nat.le_of_ble_eq_true rfl) (Nat.le_of_ble_eq_true rfl) dF_unit_47 dF_unit_50 dF_unit_51 dF_unit_53 dF_unit_56 (fr_xthrow rfl hK hP hD hS rfl rfl)
      · skip
        have hd_ : dn_unit f x y k = (some "java/lang/IllegalArgumentException", 0, f) := by rw [dn_unit, if_neg c_6, if_neg c_16, if_pos c_25]
        rw [hd_]
        obtain ⟨sa, hsa⟩ := fr_str hown (hN _ str_F_59).2
        exact th_IAE C hl.1 hls hS hsa (Nat.le_of_ble_eq_true rfl) (Nat.le_of_ble_eq_true rfl) (Nat.le_of_ble_eq_true rfl) (Nat.le_of_ble_eq_true rfl) dF_unit_28 dF_unit_31 dF_unit_32 dF_unit_34 dF_unit_37 (fr_xthrow rfl hK hP hD hS rfl rfl)

theorem cl_F_82 {p : Program} {l : Launch} {e : Env} {R : Room} {s : State} {m : MethodId} {args : Array Value} {below : List Frame} {meth : Method} {c : Code} {H : Heap} {locs : List Loc} {cells slots : Nat} {Q : State → Prop} {D : va_G} {A : Nat → Prop} {cc : ByteArray} {nL pc : Nat} {ret : Option FieldType} {hh : List ExceptionTableEntry} {ls : Array Slot} {rest : List Value} {ka : Nat → ClassId} {al : Nat → Nat} {f : Nat → Nat → Int32} {Z : va_W} {x : Int32} {y : Int32} {k : Int32} (C : fr_Cx p s m args meth c "FragileRules" cc nL ret hh fr_tbl fr_nw D vwCl (fr_ty ka) A) (hP : va_P D vwCl (fr_cw ka al f Z) H) (hD : va_D A (fr_cw ka al f Z)) (hS : va_S A s.heap H locs) (hsz : ls.size = nL) (hR : 2 + 1 ≤ R.frames ∧ 8 + (3 + 11) + 41 ≤ R.locals) (hw : (rest.map fun v => v.category).sum ≤ 8) (hf : cells + 0 ≤ R.cells ∧ slots + 0 ≤ R.slots) (hdg : decode cc pc = .ok (.invokestatic 82, 3)) (kk : ∀ (H : Heap) (locs : List Loc), va_P D vwCl (fr_cw ka al f Z) H → va_D A (fr_cw ka al f Z) → va_S A s.heap H locs → W p l e R s m args below meth c H locs (cells + 0) (slots + 0) Q (F0 m (pc + 3) ls (.int (dn_isRule x y k) :: rest))) : W p l e R s m args below meth c H locs cells slots Q (F0 m pc ls (.int k :: .int y :: .int x :: rest)) :=
  fr_callSi (As := [.int x, .int y, .int k]) C hP hD hS (c_isRule l D ka al Z f x y k) (cwS 3 C.2.2.2.2.1 (fr_goodS ml_F_82 mst_isRule mini_F mc_isRule) rfl rfl rfl (by decide +kernel) hR) rfl hsz hw hdg hf kk
def dn_rule (f : Nat → Nat → Int32) (x : Int32) (y : Int32) (k : Int32) : Option String × Int32 × (Nat → Nat → Int32) := if (dn_isRule x y k) = 0 then (some "java/lang/IllegalArgumentException", 0, f) else (if (f 0 1) < 12 then (none, (dn_addRule f x y k).1, (dn_addRule f x y k).2) else (some "java/lang/UnsupportedOperationException", 0, f))
set_option maxHeartbeats 4000000 in
set_option maxRecDepth 100000 in
theorem c_rule (l : Launch) (hls : l.stackTraces = false) (D : va_G) (ka : Nat → ClassId) (al : Nat → Nat) (Z : va_W) (f : Nat → Nat → Int32) (x : Int32) (y : Int32) (k : Int32) (gR : 0 ≤ (f 0 1).toInt ∧ (f 0 1).toInt ≤ 12) : fr_Mx (fr_Qi D vwCl (fr_ty ka)) l y_rule (.code y_rule prog_1_method_3_code 4 (some .int) :: fr_tbl) { frames := 6, cells := 1, slots := 6, locals := 90 } D vwCl (fr_ty ka) fr_nw [.ref (al 0), .int x, .int y, .int k] (fr_cw ka al f Z) (dn_rule f x y k).1 (dn_rule f x y k).2.1 (fr_cw ka al ((dn_rule f x y k).2.2) Z) 1 6 := by
  refine fr_Mx.of (by decide) (Nat.le_of_ble_eq_true rfl) ?_
  intro p e s m below meth c A H locs ls C hP hD hS hl
  obtain ⟨hx, hb, hml, hown, ht, hK, hlocks, hr, hA, hN, hZ, hEx⟩ := id C
  have hl : lv_has ls 4 [(0, .ref (al 0)), (1, .int x), (2, .int y), (3, .int k)] := hl
  refine lv_iload_n hx hb dF_rule_0 rfl (lv_at hl 1 rfl) ?_
  refine lv_iload_n hx hb dF_rule_1 rfl (lv_at hl 2 rfl) ?_
  refine lv_iload_n hx hb dF_rule_2 rfl (lv_at hl 3 rfl) ?_
  refine cl_F_82 C hP hD hS hl.1 ⟨Nat.le_of_ble_eq_true rfl, Nat.le_of_ble_eq_true rfl⟩ (Nat.le_of_ble_eq_true rfl) ⟨Nat.le_of_ble_eq_true rfl, Nat.le_of_ble_eq_true rfl⟩ dF_rule_3 (fun H locs hP hD hS => ?_)
  refine lv_if_ne (tgt := 19) hx hb dF_rule_6 (by decide) (fun c_6 => ?_) (fun c_6 => ?_)
  · skip
    refine lv_aload_n hx hb dF_rule_19 rfl (lv_at hl 0 rfl) ?_
    refine gf_F_25 C hP dF_rule_20 ?_
    refine lv_bipush (v := 12) hx hb dF_rule_23 (by decide) ?_
    refine lv_icmp_lt (tgt := 38) hx hb dF_rule_25 (by decide) (fun c_25 => ?_) (fun c_25 => ?_)
    · skip
      refine lv_aload_n hx hb dF_rule_38 rfl (lv_at hl 0 rfl) ?_
      refine lv_iload_n hx hb dF_rule_39 rfl (lv_at hl 1 rfl) ?_
      refine lv_iload_n hx hb dF_rule_40 rfl (lv_at hl 2 rfl) ?_
      refine lv_iload_n hx hb dF_rule_41 rfl (lv_at hl 3 rfl) ?_
      refine cl_F_90 C hP hD hS hl.1 ⟨Nat.le_of_ble_eq_true rfl, Nat.le_of_ble_eq_true rfl⟩ (Nat.le_of_ble_eq_true rfl) ⟨Nat.le_of_ble_eq_true rfl, Nat.le_of_ble_eq_true rfl⟩ (by have q := fr_t1 c_25; have z : (12 : Int32).toInt = 12 := rfl; omega) dF_rule_42 (fun H locs hP hD hS => ?_)
      have hd_ : dn_rule f x y k = (none, (dn_addRule f x y k).1, (dn_addRule f x y k).2) := by rw [dn_rule, if_neg c_6, if_pos c_25]
      rw [hd_]
      refine fr_xret rfl ?_
      refine W.widen (k := 1) (n := 6) (by decide) (by decide) ?_
      exact fr_iret C hP hD hS rfl dF_rule_45
    · skip
      have hd_ : dn_rule f x y k = (some "java/lang/UnsupportedOperationException", 0, f) := by rw [dn_rule, if_neg c_6, if_neg c_25]
      rw [hd_]
      obtain ⟨sa, hsa⟩ := fr_str hown (hN _ str_F_88).2
      exact th_UOE C hl.1 hls hS hsa (Nat.le_of_ble_eq_true rfl) (Nat.le_of_ble_eq_true rfl) (Nat.le_of_ble_eq_true rfl) (Nat.le_of_ble_eq_true rfl) dF_rule_28 dF_rule_31 dF_rule_32 dF_rule_34 dF_rule_37 (fr_xthrow rfl hK hP hD hS rfl rfl)
  · skip
    have hd_ : dn_rule f x y k = (some "java/lang/IllegalArgumentException", 0, f) := by rw [dn_rule, if_pos c_6]
    rw [hd_]
    obtain ⟨sa, hsa⟩ := fr_str hown (hN _ str_F_86).2
    exact th_IAE C hl.1 hls hS hsa (Nat.le_of_ble_eq_true rfl) (Nat.le_of_ble_eq_true rfl) (Nat.le_of_ble_eq_true rfl) (Nat.le_of_ble_eq_true rfl) dF_rule_9 dF_rule_12 dF_rule_13 dF_rule_15 dF_rule_18 (fr_xthrow rfl hK hP hD hS rfl rfl)

def dn_own (f : Nat → Nat → Int32) (x : Int32) (y : Int32) : Option String × Int32 × (Nat → Nat → Int32) := if (dn_within x 3) = 0 then (some "java/lang/IllegalArgumentException", 0, f) else (if (f 0 1) < 12 then (if y = 0 then (none, (dn_addRule f 5 x 0).1, (dn_addRule f 5 x 0).2) else (none, (dn_addRule f 5 x 1).1, (dn_addRule f 5 x 1).2)) else (some "java/lang/UnsupportedOperationException", 0, f))
set_option maxHeartbeats 4000000 in
set_option maxRecDepth 100000 in
theorem c_own (l : Launch) (hls : l.stackTraces = false) (D : va_G) (ka : Nat → ClassId) (al : Nat → Nat) (Z : va_W) (f : Nat → Nat → Int32) (x : Int32) (y : Int32) (gR : 0 ≤ (f 0 1).toInt ∧ (f 0 1).toInt ≤ 12) : fr_Mx (fr_Qi D vwCl (fr_ty ka)) l y_own (.code y_own prog_1_method_4_code 3 (some .int) :: fr_tbl) { frames := 6, cells := 1, slots := 6, locals := 90 } D vwCl (fr_ty ka) fr_nw [.ref (al 0), .int x, .int y] (fr_cw ka al f Z) (dn_own f x y).1 (dn_own f x y).2.1 (fr_cw ka al ((dn_own f x y).2.2) Z) 1 6 := by
  refine fr_Mx.of (by decide) (Nat.le_of_ble_eq_true rfl) ?_
  intro p e s m below meth c A H locs ls C hP hD hS hl
  obtain ⟨hx, hb, hml, hown, ht, hK, hlocks, hr, hA, hN, hZ, hEx⟩ := id C
  have hl : lv_has ls 3 [(0, .ref (al 0)), (1, .int x), (2, .int y)] := hl
  refine lv_iload_n hx hb dF_own_0 rfl (lv_at hl 1 rfl) ?_
  refine lv_iconst (v := 3) hx hb dF_own_1 (by decide) ?_
  refine cl_F_53 C hP hD hS hl.1 ⟨Nat.le_of_ble_eq_true rfl, Nat.le_of_ble_eq_true rfl⟩ (Nat.le_of_ble_eq_true rfl) ⟨Nat.le_of_ble_eq_true rfl, Nat.le_of_ble_eq_true rfl⟩ dF_own_2 (fun H locs hP hD hS => ?_)
  refine lv_if_ne (tgt := 18) hx hb dF_own_5 (by decide) (fun c_5 => ?_) (fun c_5 => ?_)
  · skip
    refine lv_aload_n hx hb dF_own_18 rfl (lv_at hl 0 rfl) ?_
    refine gf_F_25 C hP dF_own_19 ?_
    refine lv_bipush (v := 12) hx hb dF_own_22 (by decide) ?_
    refine lv_icmp_lt (tgt := 37) hx hb dF_own_24 (by decide) (fun c_24 => ?_) (fun c_24 => ?_)
    · skip
      refine lv_aload_n hx hb dF_own_37 rfl (lv_at hl 0 rfl) ?_
      refine lv_iconst (v := 5) hx hb dF_own_38 (by decide) ?_
      refine lv_iload_n hx hb dF_own_39 rfl (lv_at hl 1 rfl) ?_
      refine lv_iload_n hx hb dF_own_40 rfl (lv_at hl 2 rfl) ?_
      refine lv_if_eq (tgt := 48) hx hb dF_own_41 (by decide) (fun c_41 => ?_) (fun c_41 => ?_)
      · skip
        refine lv_iconst (v := 0) hx hb dF_own_48 (by decide) ?_
        refine cl_F_90 C hP hD hS hl.1 ⟨Nat.le_of_ble_eq_true rfl, Nat.le_of_ble_eq_true rfl⟩ (Nat.le_of_ble_eq_true rfl) ⟨Nat.le_of_ble_eq_true rfl, Nat.le_of_ble_eq_true rfl⟩ (by have q := fr_t1 c_24; have z : (12 : Int32).toInt = 12 := rfl; omega) dF_own_49 (fun H locs hP hD hS => ?_)
        have hd_ : dn_own f x y = (none, (dn_addRule f 5 x 0).1, (dn_addRule f 5 x 0).2) := by rw [dn_own, if_neg c_5, if_pos c_24, if_pos c_41]
        rw [hd_]
        refine fr_xret rfl ?_
        refine W.widen (k := 1) (n := 6) (by decide) (by decide) ?_
        exact fr_iret C hP hD hS rfl dF_own_52
      · skip
        refine lv_iconst (v := 1) hx hb dF_own_44 (by decide) ?_
        refine lv_goto (tgt := 49) hx hb dF_own_45 (by decide) ?_
        refine cl_F_90 C hP hD hS hl.1 ⟨Nat.le_of_ble_eq_true rfl, Nat.le_of_ble_eq_true rfl⟩ (Nat.le_of_ble_eq_true rfl) ⟨Nat.le_of_ble_eq_true rfl, Nat.le_of_ble_eq_true rfl⟩ (by have q := fr_t1 c_24; have z : (12 : Int32).toInt = 12 := rfl; omega) dF_own_49 (fun H locs hP hD hS => ?_)
        have hd_ : dn_own f x y = (none, (dn_addRule f 5 x 1).1, (dn_addRule f 5 x 1).2) := by rw [dn_own, if_neg c_5, if_pos c_24, if_neg c_41]
        rw [hd_]
        refine fr_xret rfl ?_
        refine W.widen (k := 1) (n := 6) (by decide) (by decide) ?_
        exact fr_iret C hP hD hS rfl dF_own_52
    · skip
      have hd_ : dn_own f x y = (some "java/lang/UnsupportedOperationException", 0, f) := by rw [dn_own, if_neg c_5, if_neg c_24]
      rw [hd_]
      obtain ⟨sa, hsa⟩ := fr_str hown (hN _ str_F_88).2
      exact th_UOE C hl.1 hls hS hsa (Nat.le_of_ble_eq_true rfl) (Nat.le_of_ble_eq_true rfl) (Nat.le_of_ble_eq_true rfl) (Nat.le_of_ble_eq_true rfl) dF_own_27 dF_own_30 dF_own_31 dF_own_33 dF_own_36 (fr_xthrow rfl hK hP hD hS rfl rfl)
  · skip
    have hd_ : dn_own f x y = (some "java/lang/IllegalArgumentException", 0, f) := by rw [dn_own, if_pos c_5]
    rw [hd_]
    obtain ⟨sa, hsa⟩ := fr_str hown (hN _ str_F_94).2
    exact th_IAE C hl.1 hls hS hsa (Nat.le_of_ble_eq_true rfl) (Nat.le_of_ble_eq_true rfl) (Nat.le_of_ble_eq_true rfl) (Nat.le_of_ble_eq_true rfl) dF_own_8 dF_own_11 dF_own_12 dF_own_14 dF_own_17 (fr_xthrow rfl hK hP hD hS rfl rfl)

def dn_sign (f : Nat → Nat → Int32) (x : Int32) : Option String × Int32 × (Nat → Nat → Int32) := if x = 10 then (if (f 0 5) < 200 then (none, 0, fr_up (fr_up f 10 ((f 0 5).toNatClampNeg) x) 0 5 ((f 0 5) + 1)) else (some "java/lang/UnsupportedOperationException", 0, f)) else (if x < 32 then (some "java/lang/IllegalArgumentException", 0, f) else (if x ≤ 126 then (if (f 0 5) < 200 then (none, 0, fr_up (fr_up f 10 ((f 0 5).toNatClampNeg) x) 0 5 ((f 0 5) + 1)) else (some "java/lang/UnsupportedOperationException", 0, f)) else (some "java/lang/IllegalArgumentException", 0, f)))
set_option maxHeartbeats 4000000 in
set_option maxRecDepth 100000 in
theorem c_sign (l : Launch) (hls : l.stackTraces = false) (D : va_G) (ka : Nat → ClassId) (al : Nat → Nat) (Z : va_W) (f : Nat → Nat → Int32) (x : Int32) (gT : 0 ≤ (f 0 5).toInt ∧ (f 0 5).toInt ≤ 200) : fr_Mx (fun _ => fr_Qv D vwCl (fr_ty ka)) l y_sign (.code y_sign prog_1_method_5_code 2 none :: fr_tbl) { frames := 6, cells := 1, slots := 6, locals := 90 } D vwCl (fr_ty ka) fr_nw [.ref (al 0), .int x] (fr_cw ka al f Z) (dn_sign f x).1 (dn_sign f x).2.1 (fr_cw ka al ((dn_sign f x).2.2) Z) 1 6 := by
  refine fr_Mx.of (by decide) (Nat.le_of_ble_eq_true rfl) ?_
  intro p e s m below meth c A H locs ls C hP hD hS hl
  obtain ⟨hx, hb, hml, hown, ht, hK, hlocks, hr, hA, hN, hZ, hEx⟩ := id C
  have hl : lv_has ls 2 [(0, .ref (al 0)), (1, .int x)] := hl
  refine lv_iload_n hx hb dF_sign_0 rfl (lv_at hl 1 rfl) ?_
  refine lv_bipush (v := 10) hx hb dF_sign_1 (by decide) ?_
  refine lv_icmp_eq (tgt := 28) hx hb dF_sign_3 (by decide) (fun c_3 => ?_) (fun c_3 => ?_)
  · skip
    refine lv_aload_n hx hb dF_sign_28 rfl (lv_at hl 0 rfl) ?_
    refine gf_F_41 C hP dF_sign_29 ?_
    refine gf_F_98 C hP dF_sign_32 ?_
    refine lv_sipush (v := 200) hx hb dF_sign_35 (by decide) ?_
    refine lv_icmp_lt (tgt := 51) hx hb dF_sign_38 (by decide) (fun c_38 => ?_) (fun c_38 => ?_)
    · skip
      refine lv_aload_n hx hb dF_sign_51 rfl (lv_at hl 0 rfl) ?_
      refine gf_F_41 C hP dF_sign_52 ?_
      refine gf_F_103 C hP dF_sign_55 ?_
      refine lv_aload_n hx hb dF_sign_58 rfl (lv_at hl 0 rfl) ?_
      refine gf_F_41 C hP dF_sign_59 ?_
      refine gf_F_98 C hP dF_sign_62 ?_
      refine lv_iload_n hx hb dF_sign_65 rfl (lv_at hl 1 rfl) ?_
      have hin_66 : vp_in (f 0 5) 200 := by have q0 := fr_t5 c_3; have q1 := fr_t1 c_38; have z0 : (10 : Int32).toInt = 10 := rfl; have z1 : (200 : Int32).toInt = 200 := rfl; have e0 := gT; skip; rw [vp_in_iff]; omega
      refine ast_10 C hP hD hS hin_66 dF_sign_66 (fun H locs hP hD hS => ?_)
      refine lv_aload_n hx hb dF_sign_67 rfl (lv_at hl 0 rfl) ?_
      refine gf_F_41 C hP dF_sign_68 ?_
      refine lv_dup hx hb dF_sign_71 rfl ?_
      refine gf_F_98 C hP dF_sign_72 ?_
      refine W.eq (g2 := F0 m 75 ls [.int (f 0 5), .ref (al 5)]) (by first | rfl | simp [fr_up, fr_row]) ?_
      refine lv_iconst (v := 1) hx hb dF_sign_75 (by decide) ?_
      refine lv_iadd hx hb dF_sign_76 ?_
      refine pf_F_98 C hP hD hS dF_sign_77 (fun H locs hP hD hS => ?_)
      have hd_ : dn_sign f x = (none, 0, fr_up (fr_up f 10 ((f 0 5).toNatClampNeg) x) 0 5 ((f 0 5) + 1)) := by rw [dn_sign, if_pos c_3, if_pos c_38]
      rw [hd_]
      refine fr_xret rfl ?_
      refine W.widen (k := 1) (n := 6) (by decide) (by decide) ?_
      exact fr_vret C hP hD hS dF_sign_80
    · skip
      have hd_ : dn_sign f x = (some "java/lang/UnsupportedOperationException", 0, f) := by rw [dn_sign, if_pos c_3, if_neg c_38]
      rw [hd_]
      obtain ⟨sa, hsa⟩ := fr_str hown (hN _ str_F_101).2
      exact th_UOE C hl.1 hls hS hsa (Nat.le_of_ble_eq_true rfl) (Nat.le_of_ble_eq_true rfl) (Nat.le_of_ble_eq_true rfl) (Nat.le_of_ble_eq_true rfl) dF_sign_41 dF_sign_44 dF_sign_45 dF_sign_47 dF_sign_50 (fr_xthrow rfl hK hP hD hS rfl rfl)
  · skip
    refine lv_iload_n hx hb dF_sign_6 rfl (lv_at hl 1 rfl) ?_
    refine lv_bipush (v := 32) hx hb dF_sign_7 (by decide) ?_
    refine lv_icmp_lt (tgt := 18) hx hb dF_sign_9 (by decide) (fun c_9 => ?_) (fun c_9 => ?_)
    · skip
      have hd_ : dn_sign f x = (some "java/lang/IllegalArgumentException", 0, f) := by rw [dn_sign, if_neg c_3, if_pos c_9]
      rw [hd_]
      obtain ⟨sa, hsa⟩ := fr_str hown (hN _ str_F_96).2
      exact th_IAE C hl.1 hls hS hsa (Nat.le_of_ble_eq_true rfl) (Nat.le_of_ble_eq_true rfl) (Nat.le_of_ble_eq_true rfl) (Nat.le_of_ble_eq_true rfl) dF_sign_18 dF_sign_21 dF_sign_22 dF_sign_24 dF_sign_27 (fr_xthrow rfl hK hP hD hS rfl rfl)
    · skip
      refine lv_iload_n hx hb dF_sign_12 rfl (lv_at hl 1 rfl) ?_
      refine lv_bipush (v := 126) hx hb dF_sign_13 (by decide) ?_
      refine lv_icmp_le (tgt := 28) hx hb dF_sign_15 (by decide) (fun c_15 => ?_) (fun c_15 => ?_)
      · skip
        refine lv_aload_n hx hb dF_sign_28 rfl (lv_at hl 0 rfl) ?_
        refine gf_F_41 C hP dF_sign_29 ?_
        refine gf_F_98 C hP dF_sign_32 ?_
        refine lv_sipush (v := 200) hx hb dF_sign_35 (by decide) ?_
        refine lv_icmp_lt (tgt := 51) hx hb dF_sign_38 (by decide) (fun c_38 => ?_) (fun c_38 => ?_)
        · skip
          refine lv_aload_n hx hb dF_sign_51 rfl (lv_at hl 0 rfl) ?_
          refine gf_F_41 C hP dF_sign_52 ?_
          refine gf_F_103 C hP dF_sign_55 ?_
          refine lv_aload_n hx hb dF_sign_58 rfl (lv_at hl 0 rfl) ?_
          refine gf_F_41 C hP dF_sign_59 ?_
          refine gf_F_98 C hP dF_sign_62 ?_
          refine lv_iload_n hx hb dF_sign_65 rfl (lv_at hl 1 rfl) ?_
          have hin_66 : vp_in (f 0 5) 200 := by have q0 := fr_t6 c_3; have q1 := fr_t2 c_9; have q2 := fr_t3 c_15; have q3 := fr_t1 c_38; have z0 : (10 : Int32).toInt = 10 := rfl; have z1 : (32 : Int32).toInt = 32 := rfl; have z2 : (126 : Int32).toInt = 126 := rfl; have z3 : (200 : Int32).toInt = 200 := rfl; have e0 := gT; skip; rw [vp_in_iff]; omega
          refine ast_10 C hP hD hS hin_66 dF_sign_66 (fun H locs hP hD hS => ?_)
          refine lv_aload_n hx hb dF_sign_67 rfl (lv_at hl 0 rfl) ?_
          refine gf_F_41 C hP dF_sign_68 ?_
          refine lv_dup hx hb dF_sign_71 rfl ?_
          refine gf_F_98 C hP dF_sign_72 ?_
          refine W.eq (g2 := F0 m 75 ls [.int (f 0 5), .ref (al 5)]) (by first | rfl | simp [fr_up, fr_row]) ?_
          refine lv_iconst (v := 1) hx hb dF_sign_75 (by decide) ?_
          refine lv_iadd hx hb dF_sign_76 ?_
          refine pf_F_98 C hP hD hS dF_sign_77 (fun H locs hP hD hS => ?_)
          have hd_ : dn_sign f x = (none, 0, fr_up (fr_up f 10 ((f 0 5).toNatClampNeg) x) 0 5 ((f 0 5) + 1)) := by rw [dn_sign, if_neg c_3, if_neg c_9, if_pos c_15, if_pos c_38]
          rw [hd_]
          refine fr_xret rfl ?_
          refine W.widen (k := 1) (n := 6) (by decide) (by decide) ?_
          exact fr_vret C hP hD hS dF_sign_80
        · skip
          have hd_ : dn_sign f x = (some "java/lang/UnsupportedOperationException", 0, f) := by rw [dn_sign, if_neg c_3, if_neg c_9, if_pos c_15, if_neg c_38]
          rw [hd_]
          obtain ⟨sa, hsa⟩ := fr_str hown (hN _ str_F_101).2
          exact th_UOE C hl.1 hls hS hsa (Nat.le_of_ble_eq_true rfl) (Nat.le_of_ble_eq_true rfl) (Nat.le_of_ble_eq_true rfl) (Nat.le_of_ble_eq_true rfl) dF_sign_41 dF_sign_44 dF_sign_45 dF_sign_47 dF_sign_50 (fr_xthrow rfl hK hP hD hS rfl rfl)
      · skip
        have hd_ : dn_sign f x = (some "java/lang/IllegalArgumentException", 0, f) := by rw [dn_sign, if_neg c_3, if_neg c_9, if_neg c_15]
        rw [hd_]
        obtain ⟨sa, hsa⟩ := fr_str hown (hN _ str_F_96).2
        exact th_IAE C hl.1 hls hS hsa (Nat.le_of_ble_eq_true rfl) (Nat.le_of_ble_eq_true rfl) (Nat.le_of_ble_eq_true rfl) (Nat.le_of_ble_eq_true rfl) dF_sign_18 dF_sign_21 dF_sign_22 dF_sign_24 dF_sign_27 (fr_xthrow rfl hK hP hD hS rfl rfl)

theorem cl_F_106 {p : Program} {l : Launch} {e : Env} {R : Room} {s : State} {m : MethodId} {args : Array Value} {below : List Frame} {meth : Method} {c : Code} {H : Heap} {locs : List Loc} {cells slots : Nat} {Q : State → Prop} {D : va_G} {A : Nat → Prop} {cc : ByteArray} {nL pc : Nat} {ret : Option FieldType} {hh : List ExceptionTableEntry} {ls : Array Slot} {rest : List Value} {ka : Nat → ClassId} {al : Nat → Nat} {f : Nat → Nat → Int32} {Z : va_W}  (C : fr_Cx p s m args meth c "FragileRules" cc nL ret hh fr_tbl fr_nw D vwCl (fr_ty ka) A) (hP : va_P D vwCl (fr_cw ka al f Z) H) (hD : va_D A (fr_cw ka al f Z)) (hS : va_S A s.heap H locs) (hsz : ls.size = nL) (hR : 3 + 1 ≤ R.frames ∧ 8 + (4 + 11) + 68 ≤ R.locals) (hw : (rest.map fun v => v.category).sum ≤ 8) (hf : cells + 0 ≤ R.cells ∧ slots + 0 ≤ R.slots) (gT : 0 ≤ (f 0 5).toInt ∧ (f 0 5).toInt ≤ 200) (hdg : decode cc pc = .ok (.invokevirtual 106, 3)) (kk : ∀ (H : Heap) (locs : List Loc), va_P D vwCl (fr_cw ka al f Z) H → va_D A (fr_cw ka al f Z) → va_S A s.heap H locs → W p l e R s m args below meth c H locs (cells + 0) (slots + 0) Q (F0 m (pc + 3) ls (.int (dn_wrongPlace f) :: rest))) : W p l e R s m args below meth c H locs cells slots Q (F0 m pc ls (.ref (al 5) :: rest)) :=
  fr_callVi (As := []) C hP hD hS (c_wrongPlace l D ka al Z f gT) (cwV 0 C.2.2.2.2.1 (fr_goodV ml_F_106 mi_wrongPlace msel_wrongPlace mini_T mc_wrongPlace) rfl rfl rfl (by decide +kernel) hR) (va_recv C.2.2.2.2.2.1 hP (ci := 3) (q0 := 5) rfl rfl) rfl hsz hw hdg hf kk
theorem cl_F_110 {p : Program} {l : Launch} {e : Env} {R : Room} {s : State} {m : MethodId} {args : Array Value} {below : List Frame} {meth : Method} {c : Code} {H : Heap} {locs : List Loc} {cells slots : Nat} {Q : State → Prop} {D : va_G} {A : Nat → Prop} {cc : ByteArray} {nL pc : Nat} {ret : Option FieldType} {hh : List ExceptionTableEntry} {ls : Array Slot} {rest : List Value} {ka : Nat → ClassId} {al : Nat → Nat} {f : Nat → Nat → Int32} {Z : va_W}  (C : fr_Cx p s m args meth c "FragileRules" cc nL ret hh fr_tbl fr_nw D vwCl (fr_ty ka) A) (hP : va_P D vwCl (fr_cw ka al f Z) H) (hD : va_D A (fr_cw ka al f Z)) (hS : va_S A s.heap H locs) (hsz : ls.size = nL) (hR : 0 + 1 ≤ R.frames ∧ 8 + (3 + 11) + 0 ≤ R.locals) (hw : (rest.map fun v => v.category).sum ≤ 8) (hf : cells + 0 ≤ R.cells ∧ slots + 0 ≤ R.slots) (gT : 0 ≤ (f 0 5).toInt ∧ (f 0 5).toInt ≤ 200) (hdg : decode cc pc = .ok (.invokevirtual 110, 3)) (kk : ∀ (H : Heap) (locs : List Loc), va_P D vwCl (fr_cw ka al f Z) H → va_D A (fr_cw ka al f Z) → va_S A s.heap H locs → W p l e R s m args below meth c H locs (cells + 0) (slots + 0) Q (F0 m (pc + 3) ls (.int (dn_lineCount f) :: rest))) : W p l e R s m args below meth c H locs cells slots Q (F0 m pc ls (.ref (al 5) :: rest)) :=
  fr_callVi (As := []) C hP hD hS (c_lineCount l D ka al Z f gT) (cwV 0 C.2.2.2.2.1 (fr_goodV ml_F_110 mi_lineCount msel_lineCount mini_T mc_lineCount) rfl rfl rfl (by decide +kernel) hR) (va_recv C.2.2.2.2.2.1 hP (ci := 3) (q0 := 5) rfl rfl) rfl hsz hw hdg hf kk
theorem cl_F_113 {p : Program} {l : Launch} {e : Env} {R : Room} {s : State} {m : MethodId} {args : Array Value} {below : List Frame} {meth : Method} {c : Code} {H : Heap} {locs : List Loc} {cells slots : Nat} {Q : State → Prop} {D : va_G} {A : Nat → Prop} {cc : ByteArray} {nL pc : Nat} {ret : Option FieldType} {hh : List ExceptionTableEntry} {ls : Array Slot} {rest : List Value} {ka : Nat → ClassId} {al : Nat → Nat} {f : Nat → Nat → Int32} {Z : va_W} {x : Int32} (C : fr_Cx p s m args meth c "FragileRules" cc nL ret hh fr_tbl fr_nw D vwCl (fr_ty ka) A) (hP : va_P D vwCl (fr_cw ka al f Z) H) (hD : va_D A (fr_cw ka al f Z)) (hS : va_S A s.heap H locs) (hsz : ls.size = nL) (hR : 3 + 1 ≤ R.frames ∧ 8 + (4 + 11) + 68 ≤ R.locals) (hw : (rest.map fun v => v.category).sum ≤ 8) (hf : cells + 0 ≤ R.cells ∧ slots + 0 ≤ R.slots) (gT : 0 ≤ (f 0 5).toInt ∧ (f 0 5).toInt ≤ 200) (gR : 0 ≤ (f 0 1).toInt ∧ (f 0 1).toInt + x.toInt ≤ 12 ∧ 0 ≤ x.toInt) (hdg : decode cc pc = .ok (.invokevirtual 113, 3)) (kk : ∀ (H : Heap) (locs : List Loc), va_P D vwCl (fr_cw ka al (dn_addLines f x) Z) H → va_D A (fr_cw ka al (dn_addLines f x) Z) → va_S A s.heap H locs → W p l e R s m args below meth c H locs (cells + 0) (slots + 0) Q (F0 m (pc + 3) ls rest)) : W p l e R s m args below meth c H locs cells slots Q (F0 m pc ls (.int x :: .ref (al 0) :: rest)) :=
  fr_callVv (As := [.int x]) C hP hD hS (c_addLines l D ka al Z f x gT gR) (cwV 1 C.2.2.2.2.1 (fr_goodV ml_F_113 mi_addLines msel_addLines mini_F mc_addLines) rfl rfl rfl (by decide +kernel) hR) (va_recv C.2.2.2.2.2.1 hP (ci := 0) (q0 := 0) rfl rfl) rfl hsz hw hdg hf kk
def dn_read (f : Nat → Nat → Int32)  : Option String × Int32 × (Nat → Nat → Int32) := if (12 - (f 0 1)) < (dn_lineCount f) then (if (dn_wrongPlace f) = (-1) then (some "java/lang/UnsupportedOperationException", 0, fr_up f 0 5 0) else (none, (-1) - (dn_wrongPlace f), fr_up f 0 5 0)) else (if (dn_wrongPlace f) = (-1) then (none, (dn_addLines f (dn_lineCount f)) 0 1, fr_up (dn_addLines f (dn_lineCount f)) 0 5 0) else (none, (-1) - (dn_wrongPlace f), fr_up f 0 5 0))
set_option maxHeartbeats 4000000 in
set_option maxRecDepth 100000 in
theorem c_read (l : Launch) (hls : l.stackTraces = false) (D : va_G) (ka : Nat → ClassId) (al : Nat → Nat) (Z : va_W) (f : Nat → Nat → Int32)  (gT : 0 ≤ (f 0 5).toInt ∧ (f 0 5).toInt ≤ 200) (gR : 0 ≤ (f 0 1).toInt ∧ (f 0 1).toInt ≤ 12) : fr_Mx (fr_Qi D vwCl (fr_ty ka)) l y_read (.code y_read prog_1_method_6_code 4 (some .int) :: fr_tbl) { frames := 6, cells := 1, slots := 6, locals := 91 } D vwCl (fr_ty ka) fr_nw [.ref (al 0)] (fr_cw ka al f Z) (dn_read f).1 (dn_read f).2.1 (fr_cw ka al ((dn_read f).2.2) Z) 1 6 := by
  refine fr_Mx.of (by decide) (Nat.le_of_ble_eq_true rfl) ?_
  intro p e s m below meth c A H locs ls C hP hD hS hl
  obtain ⟨hx, hb, hml, hown, ht, hK, hlocks, hr, hA, hN, hZ, hEx⟩ := id C
  have hl : lv_has ls 4 [(0, .ref (al 0))] := hl
  refine lv_aload_n hx hb dF_read_0 rfl (lv_at hl 0 rfl) ?_
  refine gf_F_41 C hP dF_read_1 ?_
  refine cl_F_106 C hP hD hS hl.1 ⟨Nat.le_of_ble_eq_true rfl, Nat.le_of_ble_eq_true rfl⟩ (Nat.le_of_ble_eq_true rfl) ⟨Nat.le_of_ble_eq_true rfl, Nat.le_of_ble_eq_true rfl⟩ gT dF_read_4 (fun H locs hP hD hS => ?_)
  refine lv_istore_n (lv' := [(1, .int (dn_wrongPlace f)), (0, .ref (al 0))]) hx hb dF_read_7 rfl hl (by decide) rfl (fun ls hl => ?_)
  refine lv_aload_n hx hb dF_read_8 rfl (lv_at hl 1 rfl) ?_
  refine gf_F_41 C hP dF_read_9 ?_
  refine cl_F_110 C hP hD hS hl.1 ⟨Nat.le_of_ble_eq_true rfl, Nat.le_of_ble_eq_true rfl⟩ (Nat.le_of_ble_eq_true rfl) ⟨Nat.le_of_ble_eq_true rfl, Nat.le_of_ble_eq_true rfl⟩ gT dF_read_12 (fun H locs hP hD hS => ?_)
  refine lv_istore_n (lv' := [(2, .int (dn_lineCount f)), (1, .int (dn_wrongPlace f)), (0, .ref (al 0))]) hx hb dF_read_15 rfl hl (by decide) rfl (fun ls hl => ?_)
  refine lv_iload_n hx hb dF_read_16 rfl (lv_at hl 0 rfl) ?_
  refine lv_bipush (v := 12) hx hb dF_read_17 (by decide) ?_
  refine lv_aload_n hx hb dF_read_19 rfl (lv_at hl 2 rfl) ?_
  refine gf_F_25 C hP dF_read_20 ?_
  refine lv_isub hx hb dF_read_23 ?_
  refine lv_icmp_gt (tgt := 31) hx hb dF_read_24 (by decide) (fun c_24 => ?_) (fun c_24 => ?_)
  · skip
    refine lv_iconst (v := 0) hx hb dF_read_31 (by decide) ?_
    refine lv_istore_n (lv' := [(3, .int 0), (2, .int (dn_lineCount f)), (1, .int (dn_wrongPlace f)), (0, .ref (al 0))]) hx hb dF_read_32 rfl hl (by decide) rfl (fun ls hl => ?_)
    refine lv_iload_n hx hb dF_read_33 rfl (lv_at hl 2 rfl) ?_
    refine lv_iconst (v := (-1)) hx hb dF_read_34 (by decide) ?_
    refine lv_icmp_ne (tgt := 47) hx hb dF_read_35 (by decide) (fun c_35 => ?_) (fun c_35 => ?_)
    · skip
      refine lv_aload_n hx hb dF_read_47 rfl (lv_at hl 3 rfl) ?_
      refine gf_F_41 C hP dF_read_48 ?_
      refine lv_iconst (v := 0) hx hb dF_read_51 (by decide) ?_
      refine pf_F_98 C hP hD hS dF_read_52 (fun H locs hP hD hS => ?_)
      refine lv_iload_n hx hb dF_read_55 rfl (lv_at hl 2 rfl) ?_
      refine lv_iconst (v := (-1)) hx hb dF_read_56 (by decide) ?_
      refine lv_icmp_eq (tgt := 64) hx hb dF_read_57 (by decide) (fun c_57 => fr_no c_57 c_35) (fun c_57 => ?_)
      refine lv_iconst (v := (-1)) hx hb dF_read_60 (by decide) ?_
      refine lv_iload_n hx hb dF_read_61 rfl (lv_at hl 2 rfl) ?_
      refine lv_isub hx hb dF_read_62 ?_
      have hd_ : dn_read f = (none, (-1) - (dn_wrongPlace f), fr_up f 0 5 0) := by rw [dn_read, if_pos c_24, if_neg c_35]
      rw [hd_]
      refine fr_xret rfl ?_
      refine W.widen (k := 1) (n := 6) (by decide) (by decide) ?_
      exact fr_iret C hP hD hS rfl dF_read_63
    · skip
      refine lv_iload_n hx hb dF_read_38 rfl (lv_at hl 0 rfl) ?_
      refine lv_if_eq (tgt := 47) hx hb dF_read_39 (by decide) (fun c_39 => ?_) (fun c_39 => absurd c_39 (by decide))
      refine lv_aload_n hx hb dF_read_47 rfl (lv_at hl 3 rfl) ?_
      refine gf_F_41 C hP dF_read_48 ?_
      refine lv_iconst (v := 0) hx hb dF_read_51 (by decide) ?_
      refine pf_F_98 C hP hD hS dF_read_52 (fun H locs hP hD hS => ?_)
      refine lv_iload_n hx hb dF_read_55 rfl (lv_at hl 2 rfl) ?_
      refine lv_iconst (v := (-1)) hx hb dF_read_56 (by decide) ?_
      refine lv_icmp_eq (tgt := 64) hx hb dF_read_57 (by decide) (fun c_57 => ?_) (fun c_57 => fr_no c_35 c_57)
      refine lv_iload_n hx hb dF_read_64 rfl (lv_at hl 0 rfl) ?_
      refine lv_if_ne (tgt := 78) hx hb dF_read_65 (by decide) (fun c_65 => absurd c_65 (by decide)) (fun c_65 => ?_)
      have hd_ : dn_read f = (some "java/lang/UnsupportedOperationException", 0, fr_up f 0 5 0) := by rw [dn_read, if_pos c_24, if_pos c_35]
      rw [hd_]
      obtain ⟨sa, hsa⟩ := fr_str hown (hN _ str_F_117).2
      exact th_UOE C hl.1 hls hS hsa (Nat.le_of_ble_eq_true rfl) (Nat.le_of_ble_eq_true rfl) (Nat.le_of_ble_eq_true rfl) (Nat.le_of_ble_eq_true rfl) dF_read_68 dF_read_71 dF_read_72 dF_read_74 dF_read_77 (fr_xthrow rfl hK hP hD hS rfl rfl)
  · skip
    refine lv_iconst (v := 1) hx hb dF_read_27 (by decide) ?_
    refine lv_goto (tgt := 32) hx hb dF_read_28 (by decide) ?_
    refine lv_istore_n (lv' := [(3, .int 1), (2, .int (dn_lineCount f)), (1, .int (dn_wrongPlace f)), (0, .ref (al 0))]) hx hb dF_read_32 rfl hl (by decide) rfl (fun ls hl => ?_)
    refine lv_iload_n hx hb dF_read_33 rfl (lv_at hl 2 rfl) ?_
    refine lv_iconst (v := (-1)) hx hb dF_read_34 (by decide) ?_
    refine lv_icmp_ne (tgt := 47) hx hb dF_read_35 (by decide) (fun c_35 => ?_) (fun c_35 => ?_)
    · skip
      refine lv_aload_n hx hb dF_read_47 rfl (lv_at hl 3 rfl) ?_
      refine gf_F_41 C hP dF_read_48 ?_
      refine lv_iconst (v := 0) hx hb dF_read_51 (by decide) ?_
      refine pf_F_98 C hP hD hS dF_read_52 (fun H locs hP hD hS => ?_)
      refine lv_iload_n hx hb dF_read_55 rfl (lv_at hl 2 rfl) ?_
      refine lv_iconst (v := (-1)) hx hb dF_read_56 (by decide) ?_
      refine lv_icmp_eq (tgt := 64) hx hb dF_read_57 (by decide) (fun c_57 => fr_no c_57 c_35) (fun c_57 => ?_)
      refine lv_iconst (v := (-1)) hx hb dF_read_60 (by decide) ?_
      refine lv_iload_n hx hb dF_read_61 rfl (lv_at hl 2 rfl) ?_
      refine lv_isub hx hb dF_read_62 ?_
      have hd_ : dn_read f = (none, (-1) - (dn_wrongPlace f), fr_up f 0 5 0) := by rw [dn_read, if_neg c_24, if_neg c_35]
      rw [hd_]
      refine fr_xret rfl ?_
      refine W.widen (k := 1) (n := 6) (by decide) (by decide) ?_
      exact fr_iret C hP hD hS rfl dF_read_63
    · skip
      refine lv_iload_n hx hb dF_read_38 rfl (lv_at hl 0 rfl) ?_
      refine lv_if_eq (tgt := 47) hx hb dF_read_39 (by decide) (fun c_39 => absurd c_39 (by decide)) (fun c_39 => ?_)
      refine lv_aload_n hx hb dF_read_42 rfl (lv_at hl 3 rfl) ?_
      refine lv_iload_n hx hb dF_read_43 rfl (lv_at hl 1 rfl) ?_
      refine cl_F_113 C hP hD hS hl.1 ⟨Nat.le_of_ble_eq_true rfl, Nat.le_of_ble_eq_true rfl⟩ (Nat.le_of_ble_eq_true rfl) ⟨Nat.le_of_ble_eq_true rfl, Nat.le_of_ble_eq_true rfl⟩ gT (fr_rd gT gR c_24) dF_read_44 (fun H locs hP hD hS => ?_)
      refine lv_aload_n hx hb dF_read_47 rfl (lv_at hl 3 rfl) ?_
      refine gf_F_41 C hP dF_read_48 ?_
      refine lv_iconst (v := 0) hx hb dF_read_51 (by decide) ?_
      refine pf_F_98 C hP hD hS dF_read_52 (fun H locs hP hD hS => ?_)
      refine lv_iload_n hx hb dF_read_55 rfl (lv_at hl 2 rfl) ?_
      refine lv_iconst (v := (-1)) hx hb dF_read_56 (by decide) ?_
      refine lv_icmp_eq (tgt := 64) hx hb dF_read_57 (by decide) (fun c_57 => ?_) (fun c_57 => fr_no c_35 c_57)
      refine lv_iload_n hx hb dF_read_64 rfl (lv_at hl 0 rfl) ?_
      refine lv_if_ne (tgt := 78) hx hb dF_read_65 (by decide) (fun c_65 => ?_) (fun c_65 => absurd c_65 (by decide))
      refine lv_aload_n hx hb dF_read_78 rfl (lv_at hl 3 rfl) ?_
      refine gf_F_25 C hP dF_read_79 ?_
      refine W.eq (g2 := F0 m 82 ls [.int ((dn_addLines f (dn_lineCount f)) 0 1)]) (by first | rfl | simp [fr_up, fr_row]) ?_
      have hd_ : dn_read f = (none, (dn_addLines f (dn_lineCount f)) 0 1, fr_up (dn_addLines f (dn_lineCount f)) 0 5 0) := by rw [dn_read, if_neg c_24, if_pos c_35]
      rw [hd_]
      refine fr_xret rfl ?_
      refine W.widen (k := 1) (n := 6) (by decide) (by decide) ?_
      exact fr_iret C hP hD hS rfl dF_read_82

theorem cl_F_119 {p : Program} {l : Launch} {e : Env} {R : Room} {s : State} {m : MethodId} {args : Array Value} {below : List Frame} {meth : Method} {c : Code} {H : Heap} {locs : List Loc} {cells slots : Nat} {Q : State → Prop} {D : va_G} {A : Nat → Prop} {cc : ByteArray} {nL pc : Nat} {ret : Option FieldType} {hh : List ExceptionTableEntry} {ls : Array Slot} {rest : List Value} {ka : Nat → ClassId} {al : Nat → Nat} {f : Nat → Nat → Int32} {Z : va_W} {x : Int32} (C : fr_Cx p s m args meth c "FragileRules" cc nL ret hh fr_tbl fr_nw D vwCl (fr_ty ka) A) (hP : va_P D vwCl (fr_cw ka al f Z) H) (hD : va_D A (fr_cw ka al f Z)) (hS : va_S A s.heap H locs) (hsz : ls.size = nL) (hR : 0 + 1 ≤ R.frames ∧ 8 + (2 + 11) + 0 ≤ R.locals) (hw : (rest.map fun v => v.category).sum ≤ 8) (hf : cells + 0 ≤ R.cells ∧ slots + 0 ≤ R.slots) (hdg : decode cc pc = .ok (.invokevirtual 119, 3)) (kk : ∀ (H : Heap) (locs : List Loc), va_P D vwCl (fr_cw ka al f Z) H → va_D A (fr_cw ka al f Z) → va_S A s.heap H locs → W p l e R s m args below meth c H locs (cells + 0) (slots + 0) Q (F0 m (pc + 3) ls (.int (dn_isUnit f x) :: rest))) : W p l e R s m args below meth c H locs cells slots Q (F0 m pc ls (.int x :: .ref (al 0) :: rest)) :=
  fr_callVi (As := [.int x]) C hP hD hS (c_isUnit l D ka al Z f x) (cwV 1 C.2.2.2.2.1 (fr_goodV ml_F_119 mi_isUnit msel_isUnit mini_F mc_isUnit) rfl rfl rfl (by decide +kernel) hR) (va_recv C.2.2.2.2.2.1 hP (ci := 0) (q0 := 0) rfl rfl) rfl hsz hw hdg hf kk
theorem cl_F_135 {p : Program} {l : Launch} {e : Env} {R : Room} {s : State} {m : MethodId} {args : Array Value} {below : List Frame} {meth : Method} {c : Code} {H : Heap} {locs : List Loc} {cells slots : Nat} {Q : State → Prop} {D : va_G} {A : Nat → Prop} {cc : ByteArray} {nL pc : Nat} {ret : Option FieldType} {hh : List ExceptionTableEntry} {ls : Array Slot} {rest : List Value} {ka : Nat → ClassId} {al : Nat → Nat} {f : Nat → Nat → Int32} {Z : va_W} {y : Int32} {u : Nat} {v : Nat} {x : Int32} (C : fr_Cx p s m args meth c "FragileRules" cc nL ret hh fr_tbl fr_nw D vwCl (fr_ty ka) A) (hP : va_P D vwCl (fr_cw ka al f Z) H) (hD : va_D A (fr_cw ka al f Z)) (hS : va_S A s.heap H locs) (hsz : ls.size = nL) (hR : 4 + 1 ≤ R.frames ∧ 8 + (6 + 11) + 94 ≤ R.locals) (hw : (rest.map fun v => v.category).sum ≤ 8) (hf : cells + 0 ≤ R.cells ∧ slots + 0 ≤ R.slots) (hu : u < 10) (hv : v < 10) (gR : 0 ≤ (f 0 1).toInt ∧ (f 0 1).toInt ≤ 12) (gO : fr_ord f) (hdg : decode cc pc = .ok (.invokevirtual 135, 3)) (kk : ∀ (H : Heap) (locs : List Loc), va_P D vwCl (fr_cw ka al ((dn_verdict f y u v x).2) Z) H → va_D A (fr_cw ka al ((dn_verdict f y u v x).2) Z) → va_S A s.heap H locs → W p l e R s m args below meth c H locs (cells + 0) (slots + 0) Q (F0 m (pc + 3) ls (.int ((dn_verdict f y u v x).1) :: rest))) : W p l e R s m args below meth c H locs cells slots Q (F0 m pc ls (.int x :: .ref (al (7 + v)) :: .ref (al (7 + u)) :: .int y :: .ref (al 0) :: rest)) :=
  fr_callVi (As := [.int y, .ref (al (7 + u)), .ref (al (7 + v)), .int x]) C hP hD hS (c_verdict l D ka al Z f y u v x hu hv gR gO) (cwV 4 C.2.2.2.2.1 (fr_goodV ml_F_135 mi_verdict msel_verdict mini_F mc_verdict) rfl rfl rfl (by decide +kernel) hR) (va_recv C.2.2.2.2.2.1 hP (ci := 0) (q0 := 0) rfl rfl) rfl hsz hw hdg hf kk
def dn_may (f : Nat → Nat → Int32) (x : Int32) (y : Int32) (k : Int32) : Option String × Int32 × (Nat → Nat → Int32) := if (dn_isUnit f x) = 0 then (some "java/util/NoSuchElementException", 0, f) else (if (dn_isUnit f y) = 0 then (some "java/util/NoSuchElementException", 0, f) else (if (dn_within k 9) = 0 then (some "java/lang/IllegalArgumentException", 0, f) else (if x = y then (some "java/lang/IllegalStateException", 0, f) else (none, (dn_verdict f 0 x.toNatClampNeg y.toNatClampNeg k).1, (dn_verdict f 0 x.toNatClampNeg y.toNatClampNeg k).2))))
set_option maxHeartbeats 4000000 in
set_option maxRecDepth 100000 in
theorem c_may (l : Launch) (hls : l.stackTraces = false) (D : va_G) (ka : Nat → ClassId) (al : Nat → Nat) (Z : va_W) (f : Nat → Nat → Int32) (x : Int32) (y : Int32) (k : Int32) (gU : 0 ≤ (f 0 0).toInt ∧ (f 0 0).toInt ≤ 10) (gR : 0 ≤ (f 0 1).toInt ∧ (f 0 1).toInt ≤ 12) (gO : fr_ord f) : fr_Mx (fr_Qi D vwCl (fr_ty ka)) l y_may (.code y_may prog_1_method_7_code 4 (some .int) :: fr_tbl) { frames := 6, cells := 1, slots := 6, locals := 119 } D vwCl (fr_ty ka) fr_nw [.ref (al 0), .int x, .int y, .int k] (fr_cw ka al f Z) (dn_may f x y k).1 (dn_may f x y k).2.1 (fr_cw ka al ((dn_may f x y k).2.2) Z) 1 6 := by
  refine fr_Mx.of (by decide) (Nat.le_of_ble_eq_true rfl) ?_
  intro p e s m below meth c A H locs ls C hP hD hS hl
  obtain ⟨hx, hb, hml, hown, ht, hK, hlocks, hr, hA, hN, hZ, hEx⟩ := id C
  have hl : lv_has ls 4 [(0, .ref (al 0)), (1, .int x), (2, .int y), (3, .int k)] := hl
  refine lv_aload_n hx hb dF_may_0 rfl (lv_at hl 0 rfl) ?_
  refine lv_iload_n hx hb dF_may_1 rfl (lv_at hl 1 rfl) ?_
  refine cl_F_119 C hP hD hS hl.1 ⟨Nat.le_of_ble_eq_true rfl, Nat.le_of_ble_eq_true rfl⟩ (Nat.le_of_ble_eq_true rfl) ⟨Nat.le_of_ble_eq_true rfl, Nat.le_of_ble_eq_true rfl⟩ dF_may_2 (fun H locs hP hD hS => ?_)
  refine lv_if_eq (tgt := 16) hx hb dF_may_5 (by decide) (fun c_5 => ?_) (fun c_5 => ?_)
  · skip
    have hd_ : dn_may f x y k = (some "java/util/NoSuchElementException", 0, f) := by rw [dn_may, if_pos c_5]
    rw [hd_]
    obtain ⟨sa, hsa⟩ := fr_str hown (hN _ str_F_125).2
    exact th_NSE C hl.1 hls hS hsa (Nat.le_of_ble_eq_true rfl) (Nat.le_of_ble_eq_true rfl) (Nat.le_of_ble_eq_true rfl) (Nat.le_of_ble_eq_true rfl) dF_may_16 dF_may_19 dF_may_20 dF_may_22 dF_may_25 (fr_xthrow rfl hK hP hD hS rfl rfl)
  · skip
    refine lv_aload_n hx hb dF_may_8 rfl (lv_at hl 0 rfl) ?_
    refine lv_iload_n hx hb dF_may_9 rfl (lv_at hl 2 rfl) ?_
    refine cl_F_119 C hP hD hS hl.1 ⟨Nat.le_of_ble_eq_true rfl, Nat.le_of_ble_eq_true rfl⟩ (Nat.le_of_ble_eq_true rfl) ⟨Nat.le_of_ble_eq_true rfl, Nat.le_of_ble_eq_true rfl⟩ dF_may_10 (fun H locs hP hD hS => ?_)
    refine lv_if_ne (tgt := 26) hx hb dF_may_13 (by decide) (fun c_13 => ?_) (fun c_13 => ?_)
    · skip
      refine lv_iload_n hx hb dF_may_26 rfl (lv_at hl 3 rfl) ?_
      refine lv_bipush (v := 9) hx hb dF_may_27 (by decide) ?_
      refine cl_F_53 C hP hD hS hl.1 ⟨Nat.le_of_ble_eq_true rfl, Nat.le_of_ble_eq_true rfl⟩ (Nat.le_of_ble_eq_true rfl) ⟨Nat.le_of_ble_eq_true rfl, Nat.le_of_ble_eq_true rfl⟩ dF_may_29 (fun H locs hP hD hS => ?_)
      refine lv_if_ne (tgt := 45) hx hb dF_may_32 (by decide) (fun c_32 => ?_) (fun c_32 => ?_)
      · skip
        refine lv_iload_n hx hb dF_may_45 rfl (lv_at hl 1 rfl) ?_
        refine lv_iload_n hx hb dF_may_46 rfl (lv_at hl 2 rfl) ?_
        refine lv_icmp_ne (tgt := 60) hx hb dF_may_47 (by decide) (fun c_47 => ?_) (fun c_47 => ?_)
        · skip
          refine lv_aload_n hx hb dF_may_60 rfl (lv_at hl 0 rfl) ?_
          refine lv_iconst (v := 0) hx hb dF_may_61 (by decide) ?_
          refine lv_aload_n hx hb dF_may_62 rfl (lv_at hl 0 rfl) ?_
          refine gf_F_11 C hP dF_may_63 ?_
          refine lv_iload_n hx hb dF_may_66 rfl (lv_at hl 1 rfl) ?_
          have hin_67 : vp_in x 10 := by have q0 := fr_t6 c_5; have q1 := fr_t6 c_13; have q2 := fr_t6 c_32; have q3 := fr_t6 c_47; have z0 : (0 : Int32).toInt = 0 := rfl; have e0 := fr_isU c_5; have e1 := gU; skip; rw [vp_in_iff]; omega
          refine ald_aU C hP hin_67 dF_may_67 ?_
          refine lv_aload_n hx hb dF_may_68 rfl (lv_at hl 0 rfl) ?_
          refine gf_F_11 C hP dF_may_69 ?_
          refine lv_iload_n hx hb dF_may_72 rfl (lv_at hl 2 rfl) ?_
          have hin_73 : vp_in y 10 := by have q0 := fr_t6 c_5; have q1 := fr_t6 c_13; have q2 := fr_t6 c_32; have q3 := fr_t6 c_47; have z0 : (0 : Int32).toInt = 0 := rfl; have e0 := fr_isU c_13; have e1 := gU; skip; rw [vp_in_iff]; omega
          refine ald_aU C hP hin_73 dF_may_73 ?_
          refine lv_iload_n hx hb dF_may_74 rfl (lv_at hl 3 rfl) ?_
          refine cl_F_135 C hP hD hS hl.1 ⟨Nat.le_of_ble_eq_true rfl, Nat.le_of_ble_eq_true rfl⟩ (Nat.le_of_ble_eq_true rfl) ⟨Nat.le_of_ble_eq_true rfl, Nat.le_of_ble_eq_true rfl⟩ (fr_lt hin_67) (fr_lt hin_73) gR gO dF_may_75 (fun H locs hP hD hS => ?_)
          have hd_ : dn_may f x y k = (none, (dn_verdict f 0 x.toNatClampNeg y.toNatClampNeg k).1, (dn_verdict f 0 x.toNatClampNeg y.toNatClampNeg k).2) := by rw [dn_may, if_neg c_5, if_neg c_13, if_neg c_32, if_neg c_47]
          rw [hd_]
          refine fr_xret rfl ?_
          refine W.widen (k := 1) (n := 6) (by decide) (by decide) ?_
          exact fr_iret C hP hD hS rfl dF_may_78
        · skip
          have hd_ : dn_may f x y k = (some "java/lang/IllegalStateException", 0, f) := by rw [dn_may, if_neg c_5, if_neg c_13, if_neg c_32, if_pos c_47]
          rw [hd_]
          obtain ⟨sa, hsa⟩ := fr_str hown (hN _ str_F_132).2
          exact th_ISE C hl.1 hls hS hsa (Nat.le_of_ble_eq_true rfl) (Nat.le_of_ble_eq_true rfl) (Nat.le_of_ble_eq_true rfl) (Nat.le_of_ble_eq_true rfl) dF_may_50 dF_may_53 dF_may_54 dF_may_56 dF_may_59 (fr_xthrow rfl hK hP hD hS rfl rfl)
      · skip
        have hd_ : dn_may f x y k = (some "java/lang/IllegalArgumentException", 0, f) := by rw [dn_may, if_neg c_5, if_neg c_13, if_pos c_32]
        rw [hd_]
        obtain ⟨sa, hsa⟩ := fr_str hown (hN _ str_F_128).2
        exact th_IAE C hl.1 hls hS hsa (Nat.le_of_ble_eq_true rfl) (Nat.le_of_ble_eq_true rfl) (Nat.le_of_ble_eq_true rfl) (Nat.le_of_ble_eq_true rfl) dF_may_35 dF_may_38 dF_may_39 dF_may_41 dF_may_44 (fr_xthrow rfl hK hP hD hS rfl rfl)
    · skip
      have hd_ : dn_may f x y k = (some "java/util/NoSuchElementException", 0, f) := by rw [dn_may, if_neg c_5, if_pos c_13]
      rw [hd_]
      obtain ⟨sa, hsa⟩ := fr_str hown (hN _ str_F_125).2
      exact th_NSE C hl.1 hls hS hsa (Nat.le_of_ble_eq_true rfl) (Nat.le_of_ble_eq_true rfl) (Nat.le_of_ble_eq_true rfl) (Nat.le_of_ble_eq_true rfl) dF_may_16 dF_may_19 dF_may_20 dF_may_22 dF_may_25 (fr_xthrow rfl hK hP hD hS rfl rfl)

def dn_together (f : Nat → Nat → Int32) (x : Int32) (y : Int32) : Option String × Int32 × (Nat → Nat → Int32) := if (dn_isUnit f x) = 0 then (some "java/util/NoSuchElementException", 0, f) else (if (dn_isUnit f y) = 0 then (some "java/util/NoSuchElementException", 0, f) else (if x = y then (some "java/lang/IllegalStateException", 0, f) else (none, (dn_verdict f 1 x.toNatClampNeg y.toNatClampNeg 0).1, (dn_verdict f 1 x.toNatClampNeg y.toNatClampNeg 0).2)))
set_option maxHeartbeats 4000000 in
set_option maxRecDepth 100000 in
theorem c_together (l : Launch) (hls : l.stackTraces = false) (D : va_G) (ka : Nat → ClassId) (al : Nat → Nat) (Z : va_W) (f : Nat → Nat → Int32) (x : Int32) (y : Int32) (gU : 0 ≤ (f 0 0).toInt ∧ (f 0 0).toInt ≤ 10) (gR : 0 ≤ (f 0 1).toInt ∧ (f 0 1).toInt ≤ 12) (gO : fr_ord f) : fr_Mx (fr_Qi D vwCl (fr_ty ka)) l y_together (.code y_together prog_1_method_8_code 3 (some .int) :: fr_tbl) { frames := 6, cells := 1, slots := 6, locals := 119 } D vwCl (fr_ty ka) fr_nw [.ref (al 0), .int x, .int y] (fr_cw ka al f Z) (dn_together f x y).1 (dn_together f x y).2.1 (fr_cw ka al ((dn_together f x y).2.2) Z) 1 6 := by
  refine fr_Mx.of (by decide) (Nat.le_of_ble_eq_true rfl) ?_
  intro p e s m below meth c A H locs ls C hP hD hS hl
  obtain ⟨hx, hb, hml, hown, ht, hK, hlocks, hr, hA, hN, hZ, hEx⟩ := id C
  have hl : lv_has ls 3 [(0, .ref (al 0)), (1, .int x), (2, .int y)] := hl
  refine lv_aload_n hx hb dF_together_0 rfl (lv_at hl 0 rfl) ?_
  refine lv_iload_n hx hb dF_together_1 rfl (lv_at hl 1 rfl) ?_
  refine cl_F_119 C hP hD hS hl.1 ⟨Nat.le_of_ble_eq_true rfl, Nat.le_of_ble_eq_true rfl⟩ (Nat.le_of_ble_eq_true rfl) ⟨Nat.le_of_ble_eq_true rfl, Nat.le_of_ble_eq_true rfl⟩ dF_together_2 (fun H locs hP hD hS => ?_)
  refine lv_if_eq (tgt := 16) hx hb dF_together_5 (by decide) (fun c_5 => ?_) (fun c_5 => ?_)
  · skip
    have hd_ : dn_together f x y = (some "java/util/NoSuchElementException", 0, f) := by rw [dn_together, if_pos c_5]
    rw [hd_]
    obtain ⟨sa, hsa⟩ := fr_str hown (hN _ str_F_125).2
    exact th_NSE C hl.1 hls hS hsa (Nat.le_of_ble_eq_true rfl) (Nat.le_of_ble_eq_true rfl) (Nat.le_of_ble_eq_true rfl) (Nat.le_of_ble_eq_true rfl) dF_together_16 dF_together_19 dF_together_20 dF_together_22 dF_together_25 (fr_xthrow rfl hK hP hD hS rfl rfl)
  · skip
    refine lv_aload_n hx hb dF_together_8 rfl (lv_at hl 0 rfl) ?_
    refine lv_iload_n hx hb dF_together_9 rfl (lv_at hl 2 rfl) ?_
    refine cl_F_119 C hP hD hS hl.1 ⟨Nat.le_of_ble_eq_true rfl, Nat.le_of_ble_eq_true rfl⟩ (Nat.le_of_ble_eq_true rfl) ⟨Nat.le_of_ble_eq_true rfl, Nat.le_of_ble_eq_true rfl⟩ dF_together_10 (fun H locs hP hD hS => ?_)
    refine lv_if_ne (tgt := 26) hx hb dF_together_13 (by decide) (fun c_13 => ?_) (fun c_13 => ?_)
    · skip
      refine lv_iload_n hx hb dF_together_26 rfl (lv_at hl 1 rfl) ?_
      refine lv_iload_n hx hb dF_together_27 rfl (lv_at hl 2 rfl) ?_
      refine lv_icmp_ne (tgt := 41) hx hb dF_together_28 (by decide) (fun c_28 => ?_) (fun c_28 => ?_)
      · skip
        refine lv_aload_n hx hb dF_together_41 rfl (lv_at hl 0 rfl) ?_
        refine lv_iconst (v := 1) hx hb dF_together_42 (by decide) ?_
        refine lv_aload_n hx hb dF_together_43 rfl (lv_at hl 0 rfl) ?_
        refine gf_F_11 C hP dF_together_44 ?_
        refine lv_iload_n hx hb dF_together_47 rfl (lv_at hl 1 rfl) ?_
        have hin_48 : vp_in x 10 := by have q0 := fr_t6 c_5; have q1 := fr_t6 c_13; have q2 := fr_t6 c_28; have z0 : (0 : Int32).toInt = 0 := rfl; have e0 := fr_isU c_5; have e1 := gU; skip; rw [vp_in_iff]; omega
        refine ald_aU C hP hin_48 dF_together_48 ?_
        refine lv_aload_n hx hb dF_together_49 rfl (lv_at hl 0 rfl) ?_
        refine gf_F_11 C hP dF_together_50 ?_
        refine lv_iload_n hx hb dF_together_53 rfl (lv_at hl 2 rfl) ?_
        have hin_54 : vp_in y 10 := by have q0 := fr_t6 c_5; have q1 := fr_t6 c_13; have q2 := fr_t6 c_28; have z0 : (0 : Int32).toInt = 0 := rfl; have e0 := fr_isU c_13; have e1 := gU; skip; rw [vp_in_iff]; omega
        refine ald_aU C hP hin_54 dF_together_54 ?_
        refine lv_iconst (v := 0) hx hb dF_together_55 (by decide) ?_
        refine cl_F_135 C hP hD hS hl.1 ⟨Nat.le_of_ble_eq_true rfl, Nat.le_of_ble_eq_true rfl⟩ (Nat.le_of_ble_eq_true rfl) ⟨Nat.le_of_ble_eq_true rfl, Nat.le_of_ble_eq_true rfl⟩ (fr_lt hin_48) (fr_lt hin_54) gR gO dF_together_56 (fun H locs hP hD hS => ?_)
        have hd_ : dn_together f x y = (none, (dn_verdict f 1 x.toNatClampNeg y.toNatClampNeg 0).1, (dn_verdict f 1 x.toNatClampNeg y.toNatClampNeg 0).2) := by rw [dn_together, if_neg c_5, if_neg c_13, if_neg c_28]
        rw [hd_]
        refine fr_xret rfl ?_
        refine W.widen (k := 1) (n := 6) (by decide) (by decide) ?_
        exact fr_iret C hP hD hS rfl dF_together_59
      · skip
        have hd_ : dn_together f x y = (some "java/lang/IllegalStateException", 0, f) := by rw [dn_together, if_neg c_5, if_neg c_13, if_pos c_28]
        rw [hd_]
        obtain ⟨sa, hsa⟩ := fr_str hown (hN _ str_F_132).2
        exact th_ISE C hl.1 hls hS hsa (Nat.le_of_ble_eq_true rfl) (Nat.le_of_ble_eq_true rfl) (Nat.le_of_ble_eq_true rfl) (Nat.le_of_ble_eq_true rfl) dF_together_31 dF_together_34 dF_together_35 dF_together_37 dF_together_40 (fr_xthrow rfl hK hP hD hS rfl rfl)
    · skip
      have hd_ : dn_together f x y = (some "java/util/NoSuchElementException", 0, f) := by rw [dn_together, if_neg c_5, if_pos c_13]
      rw [hd_]
      obtain ⟨sa, hsa⟩ := fr_str hown (hN _ str_F_125).2
      exact th_NSE C hl.1 hls hS hsa (Nat.le_of_ble_eq_true rfl) (Nat.le_of_ble_eq_true rfl) (Nat.le_of_ble_eq_true rfl) (Nat.le_of_ble_eq_true rfl) dF_together_16 dF_together_19 dF_together_20 dF_together_22 dF_together_25 (fr_xthrow rfl hK hP hD hS rfl rfl)

def dn_mark (f : Nat → Nat → Int32) (x : Int32) (y : Int32) : Option String × Int32 × (Nat → Nat → Int32) := if (dn_isUnit f x) = 0 then (some "java/util/NoSuchElementException", 0, f) else (if (dn_isMark y) = 0 then (some "java/lang/IllegalArgumentException", 0, f) else (if (dn_has f x.toNatClampNeg y) = 0 then (if ((dn_verdict f 2 x.toNatClampNeg x.toNatClampNeg y).1) = 0 then (none, (dn_verdict f 2 x.toNatClampNeg x.toNatClampNeg y).1, fr_up ((dn_verdict f 2 x.toNatClampNeg x.toNatClampNeg y).2) 3 x.toNatClampNeg ((((dn_verdict f 2 x.toNatClampNeg x.toNatClampNeg y).2) 3 x.toNatClampNeg) ||| y)) else (none, (dn_verdict f 2 x.toNatClampNeg x.toNatClampNeg y).1, (dn_verdict f 2 x.toNatClampNeg x.toNatClampNeg y).2)) else (some "java/lang/IllegalStateException", 0, f)))
set_option maxHeartbeats 4000000 in
set_option maxRecDepth 100000 in
theorem c_mark (l : Launch) (hls : l.stackTraces = false) (D : va_G) (ka : Nat → ClassId) (al : Nat → Nat) (Z : va_W) (f : Nat → Nat → Int32) (x : Int32) (y : Int32) (gU : 0 ≤ (f 0 0).toInt ∧ (f 0 0).toInt ≤ 10) (gR : 0 ≤ (f 0 1).toInt ∧ (f 0 1).toInt ≤ 12) (gO : fr_ord f) : fr_Mx (fr_Qi D vwCl (fr_ty ka)) l y_mark (.code y_mark prog_1_method_9_code 5 (some .int) :: fr_tbl) { frames := 6, cells := 1, slots := 6, locals := 119 } D vwCl (fr_ty ka) fr_nw [.ref (al 0), .int x, .int y] (fr_cw ka al f Z) (dn_mark f x y).1 (dn_mark f x y).2.1 (fr_cw ka al ((dn_mark f x y).2.2) Z) 1 6 := by
  refine fr_Mx.of (by decide) (Nat.le_of_ble_eq_true rfl) ?_
  intro p e s m below meth c A H locs ls C hP hD hS hl
  obtain ⟨hx, hb, hml, hown, ht, hK, hlocks, hr, hA, hN, hZ, hEx⟩ := id C
  have hl : lv_has ls 5 [(0, .ref (al 0)), (1, .int x), (2, .int y)] := hl
  refine lv_aload_n hx hb dF_mark_0 rfl (lv_at hl 0 rfl) ?_
  refine lv_iload_n hx hb dF_mark_1 rfl (lv_at hl 1 rfl) ?_
  refine cl_F_119 C hP hD hS hl.1 ⟨Nat.le_of_ble_eq_true rfl, Nat.le_of_ble_eq_true rfl⟩ (Nat.le_of_ble_eq_true rfl) ⟨Nat.le_of_ble_eq_true rfl, Nat.le_of_ble_eq_true rfl⟩ dF_mark_2 (fun H locs hP hD hS => ?_)
  refine lv_if_ne (tgt := 18) hx hb dF_mark_5 (by decide) (fun c_5 => ?_) (fun c_5 => ?_)
  · skip
    refine lv_iload_n hx hb dF_mark_18 rfl (lv_at hl 2 rfl) ?_
    refine cl_F_139 C hP hD hS hl.1 ⟨Nat.le_of_ble_eq_true rfl, Nat.le_of_ble_eq_true rfl⟩ (Nat.le_of_ble_eq_true rfl) ⟨Nat.le_of_ble_eq_true rfl, Nat.le_of_ble_eq_true rfl⟩ dF_mark_19 (fun H locs hP hD hS => ?_)
    refine lv_if_ne (tgt := 35) hx hb dF_mark_22 (by decide) (fun c_22 => ?_) (fun c_22 => ?_)
    · skip
      refine lv_aload_n hx hb dF_mark_35 rfl (lv_at hl 0 rfl) ?_
      refine gf_F_11 C hP dF_mark_36 ?_
      refine lv_iload_n hx hb dF_mark_39 rfl (lv_at hl 1 rfl) ?_
      have hin_40 : vp_in x 10 := by have q0 := fr_t6 c_5; have q1 := fr_t6 c_22; have z0 : (0 : Int32).toInt = 0 := rfl; have e0 := fr_isU c_5; have e1 := gU; skip; rw [vp_in_iff]; omega
      refine ald_aU C hP hin_40 dF_mark_40 ?_
      refine lv_astore_n (lv' := [(3, .ref (al (7 + x.toNatClampNeg))), (0, .ref (al 0)), (1, .int x), (2, .int y)]) hx hb dF_mark_41 rfl hl (by decide) rfl (fun ls hl => ?_)
      refine lv_aload_n hx hb dF_mark_42 rfl (lv_at hl 0 rfl) ?_
      refine lv_iload_n hx hb dF_mark_43 rfl (lv_at hl 3 rfl) ?_
      refine cl_F_144 C hP hD hS hl.1 ⟨Nat.le_of_ble_eq_true rfl, Nat.le_of_ble_eq_true rfl⟩ (Nat.le_of_ble_eq_true rfl) ⟨Nat.le_of_ble_eq_true rfl, Nat.le_of_ble_eq_true rfl⟩ (fr_lt hin_40) dF_mark_44 (fun H locs hP hD hS => ?_)
      refine lv_if_eq (tgt := 60) hx hb dF_mark_47 (by decide) (fun c_47 => ?_) (fun c_47 => ?_)
      · skip
        refine lv_aload_n hx hb dF_mark_60 rfl (lv_at hl 1 rfl) ?_
        refine lv_iconst (v := 2) hx hb dF_mark_61 (by decide) ?_
        refine lv_aload_n hx hb dF_mark_62 rfl (lv_at hl 0 rfl) ?_
        refine lv_aload_n hx hb dF_mark_63 rfl (lv_at hl 0 rfl) ?_
        refine lv_iload_n hx hb dF_mark_64 rfl (lv_at hl 3 rfl) ?_
        refine cl_F_135 C hP hD hS hl.1 ⟨Nat.le_of_ble_eq_true rfl, Nat.le_of_ble_eq_true rfl⟩ (Nat.le_of_ble_eq_true rfl) ⟨Nat.le_of_ble_eq_true rfl, Nat.le_of_ble_eq_true rfl⟩ (fr_lt hin_40) (fr_lt hin_40) gR gO dF_mark_65 (fun H locs hP hD hS => ?_)
        refine lv_istore (lv' := [(4, .int ((dn_verdict f 2 x.toNatClampNeg x.toNatClampNeg y).1)), (3, .ref (al (7 + x.toNatClampNeg))), (0, .ref (al 0)), (1, .int x), (2, .int y)]) hx hb dF_mark_68 hl (by decide) rfl (fun ls hl => ?_)
        refine lv_iload hx hb dF_mark_70 (lv_at hl 0 rfl) ?_
        refine lv_if_ne (tgt := 85) hx hb dF_mark_72 (by decide) (fun c_72 => ?_) (fun c_72 => ?_)
        · skip
          refine lv_iload hx hb dF_mark_85 (lv_at hl 0 rfl) ?_
          have hd_ : dn_mark f x y = (none, (dn_verdict f 2 x.toNatClampNeg x.toNatClampNeg y).1, (dn_verdict f 2 x.toNatClampNeg x.toNatClampNeg y).2) := by rw [dn_mark, if_neg c_5, if_neg c_22, if_pos c_47, if_neg c_72]
          rw [hd_]
          refine fr_xret rfl ?_
          refine W.widen (k := 1) (n := 6) (by decide) (by decide) ?_
          exact fr_iret C hP hD hS rfl dF_mark_87
        · skip
          refine lv_aload_n hx hb dF_mark_75 rfl (lv_at hl 1 rfl) ?_
          refine lv_dup hx hb dF_mark_76 rfl ?_
          refine gf_F_75 C hP (fr_lt hin_40) dF_mark_77 ?_
          refine lv_iload_n hx hb dF_mark_80 rfl (lv_at hl 4 rfl) ?_
          refine lv_ior hx hb dF_mark_81 ?_
          refine pf_F_75 C hP hD hS (fr_lt hin_40) dF_mark_82 (fun H locs hP hD hS => ?_)
          refine lv_iload hx hb dF_mark_85 (lv_at hl 0 rfl) ?_
          have hd_ : dn_mark f x y = (none, (dn_verdict f 2 x.toNatClampNeg x.toNatClampNeg y).1, fr_up ((dn_verdict f 2 x.toNatClampNeg x.toNatClampNeg y).2) 3 x.toNatClampNeg ((((dn_verdict f 2 x.toNatClampNeg x.toNatClampNeg y).2) 3 x.toNatClampNeg) ||| y)) := by rw [dn_mark, if_neg c_5, if_neg c_22, if_pos c_47, if_pos c_72]
          rw [hd_]
          refine fr_xret rfl ?_
          refine W.widen (k := 1) (n := 6) (by decide) (by decide) ?_
          exact fr_iret C hP hD hS rfl dF_mark_87
      · skip
        have hd_ : dn_mark f x y = (some "java/lang/IllegalStateException", 0, f) := by rw [dn_mark, if_neg c_5, if_neg c_22, if_neg c_47]
        rw [hd_]
        obtain ⟨sa, hsa⟩ := fr_str hown (hN _ str_F_147).2
        exact th_ISE C hl.1 hls hS hsa (Nat.le_of_ble_eq_true rfl) (Nat.le_of_ble_eq_true rfl) (Nat.le_of_ble_eq_true rfl) (Nat.le_of_ble_eq_true rfl) dF_mark_50 dF_mark_53 dF_mark_54 dF_mark_56 dF_mark_59 (fr_xthrow rfl hK hP hD hS rfl rfl)
    · skip
      have hd_ : dn_mark f x y = (some "java/lang/IllegalArgumentException", 0, f) := by rw [dn_mark, if_neg c_5, if_pos c_22]
      rw [hd_]
      obtain ⟨sa, hsa⟩ := fr_str hown (hN _ str_F_142).2
      exact th_IAE C hl.1 hls hS hsa (Nat.le_of_ble_eq_true rfl) (Nat.le_of_ble_eq_true rfl) (Nat.le_of_ble_eq_true rfl) (Nat.le_of_ble_eq_true rfl) dF_mark_25 dF_mark_28 dF_mark_29 dF_mark_31 dF_mark_34 (fr_xthrow rfl hK hP hD hS rfl rfl)
  · skip
    have hd_ : dn_mark f x y = (some "java/util/NoSuchElementException", 0, f) := by rw [dn_mark, if_pos c_5]
    rw [hd_]
    obtain ⟨sa, hsa⟩ := fr_str hown (hN _ str_F_125).2
    exact th_NSE C hl.1 hls hS hsa (Nat.le_of_ble_eq_true rfl) (Nat.le_of_ble_eq_true rfl) (Nat.le_of_ble_eq_true rfl) (Nat.le_of_ble_eq_true rfl) dF_mark_8 dF_mark_11 dF_mark_12 dF_mark_14 dF_mark_17 (fr_xthrow rfl hK hP hD hS rfl rfl)
end
section
def dn_never_18 : Nat → (Nat → Nat → Int32) → (Int32) → (Int32) → (Int32) → Option String × Int32 × (Nat → Nat → Int32)
  | 0, _, _, _, _ => (none, 0, fun _ _ => 0)
  | n + 1, f, x, x2, x3 => if (f 0 1) < x3 then (none, (-1), f) else (if (f 7 ((x3 - 1).toNatClampNeg)) = 0 then (if x2 = x then (none, x3, f) else (dn_never_18 n f x (x2 + 1) (x3 + 1))) else (dn_never_18 n f x x2 (x3 + 1)))
set_option maxHeartbeats 4000000 in
set_option maxRecDepth 100000 in
theorem k_never_18 {p : Program} {l : Launch} {e : Env} {s : State} {m : MethodId} {below : List Frame} {meth : Method} {c : Code} {D : va_G} {A : Nat → Prop} {ka : Nat → ClassId} {al : Nat → Nat} {Z : va_W} {f : Nat → Nat → Int32} {x : Int32} (C : fr_Cx p s m ([.ref (al 0), .int x] : List Value).toArray meth c "FragileRules" prog_1_method_11_code 4 (some .int) [] fr_tbl fr_nw D vwCl (fr_ty ka) A) (gR : 0 ≤ (f 0 1).toInt ∧ (f 0 1).toInt ≤ 12) :
    ∀ (n : Nat) (x2 : Int32) (x3 : Int32) (H : Heap) (locs : List Loc) (ls : Array Slot), 1 ≤ x3.toInt ∧ x3.toInt ≤ (f 0 1).toInt + 1 ∧ (f 0 1).toInt + 1 < x3.toInt + n → va_P D vwCl (fr_cw ka al f Z) H → va_D A (fr_cw ka al f Z) → va_S A s.heap H locs → lv_has ls 4 [(0, .ref (al 0)), (1, .int x), (2, .int x2), (3, .int x3)] → W p l e { frames := 6, cells := 1, slots := 6, locals := 90 } s m ([.ref (al 0), .int x] : List Value).toArray below meth c H locs 0 0 (fr_XQ below (fr_Qi D vwCl (fr_ty ka) (dn_never_18 n f x x2 x3).2.1 (fr_cw ka al ((dn_never_18 n f x x2 x3).2.2) Z) A) D vwCl (fr_ty ka) (dn_never_18 n f x x2 x3).1 (fr_cw ka al ((dn_never_18 n f x x2 x3).2.2) Z) ([.ref (al 0), .int x] : List Value).toArray s 1 6 A) (F0 m 18 ls []) := by
  obtain ⟨hx, hb, hml, hown, ht, hK, hlocks, hr, hA, hN, hZ, hEx⟩ := id C
  intro n
  induction n with
  | zero =>
    intro x2 x3 H locs ls hm hP hD hS hl
    exact absurd hm (by omega)
  | succ n ih =>
    intro x2 x3 H locs ls hm hP hD hS hl
    refine lv_iload_n hx hb dF_never_18 rfl (lv_at hl 3 rfl) ?_
    refine lv_aload_n hx hb dF_never_19 rfl (lv_at hl 0 rfl) ?_
    refine gf_F_25 C hP dF_never_20 ?_
    refine lv_icmp_gt (tgt := 56) hx hb dF_never_23 (by decide) (fun c_23 => ?_) (fun c_23 => ?_)
    · skip
      refine lv_iconst (v := (-1)) hx hb dF_never_56 (by decide) ?_
      have hd_ : dn_never_18 (n + 1) f x x2 x3 = (none, (-1), f) := by rw [dn_never_18, if_pos c_23]
      rw [hd_]
      refine fr_xret rfl ?_
      refine W.widen (k := 1) (n := 6) (by decide) (by decide) ?_
      exact fr_iret C hP hD hS rfl dF_never_57
    · skip
      refine lv_aload_n hx hb dF_never_26 rfl (lv_at hl 0 rfl) ?_
      refine gf_F_21 C hP dF_never_27 ?_
      refine lv_iload_n hx hb dF_never_30 rfl (lv_at hl 3 rfl) ?_
      refine lv_iconst (v := 1) hx hb dF_never_31 (by decide) ?_
      refine lv_isub hx hb dF_never_32 ?_
      have hin_33 : vp_in (x3 - 1) 12 := by have q0 := fr_t2 c_23; have e0 := hm; have e1 := gR; have e2 := fr_sub1 (x := x3) hm.1; skip; rw [vp_in_iff]; omega
      refine ald_aR C hP hin_33 dF_never_33 ?_
      refine gf_F_151 C hP (fr_lt hin_33) dF_never_34 ?_
      refine lv_if_ne (tgt := 50) hx hb dF_never_37 (by decide) (fun c_37 => ?_) (fun c_37 => ?_)
      · skip
        refine lv_iinc (v := x3 + 1) (lv' := [(3, .int (x3 + 1)), (0, .ref (al 0)), (1, .int x), (2, .int x2)]) hx hb dF_never_50 hl (k := 3) rfl rfl (by decide) rfl (fun ls hl => ?_)
        refine lv_goto (tgt := 18) hx hb dF_never_53 (by decide) ?_
        have hd_ : dn_never_18 (n + 1) f x x2 x3 = dn_never_18 n f x x2 (x3 + 1) := by rw [dn_never_18, if_neg c_23, if_neg c_37]
        rw [hd_]
        exact ih x2 (x3 + 1) H locs ls (fr_nv gR hm c_23) hP hD hS (lv_sub hl [1, 2, 3, 0] rfl)
      · skip
        refine lv_iload_n hx hb dF_never_40 rfl (lv_at hl 2 rfl) ?_
        refine lv_iload_n hx hb dF_never_41 rfl (lv_at hl 1 rfl) ?_
        refine lv_icmp_ne (tgt := 47) hx hb dF_never_42 (by decide) (fun c_42 => ?_) (fun c_42 => ?_)
        · skip
          refine lv_iinc (v := x2 + 1) (lv' := [(2, .int (x2 + 1)), (0, .ref (al 0)), (1, .int x), (3, .int x3)]) hx hb dF_never_47 hl (k := 2) rfl rfl (by decide) rfl (fun ls hl => ?_)
          refine lv_iinc (v := x3 + 1) (lv' := [(3, .int (x3 + 1)), (2, .int (x2 + 1)), (0, .ref (al 0)), (1, .int x)]) hx hb dF_never_50 hl (k := 3) rfl rfl (by decide) rfl (fun ls hl => ?_)
          refine lv_goto (tgt := 18) hx hb dF_never_53 (by decide) ?_
          have hd_ : dn_never_18 (n + 1) f x x2 x3 = dn_never_18 n f x (x2 + 1) (x3 + 1) := by rw [dn_never_18, if_neg c_23, if_pos c_37, if_neg c_42]
          rw [hd_]
          exact ih (x2 + 1) (x3 + 1) H locs ls (fr_nv gR hm c_23) hP hD hS (lv_sub hl [2, 3, 1, 0] rfl)
        · skip
          refine lv_iload_n hx hb dF_never_45 rfl (lv_at hl 3 rfl) ?_
          have hd_ : dn_never_18 (n + 1) f x x2 x3 = (none, x3, f) := by rw [dn_never_18, if_neg c_23, if_pos c_37, if_pos c_42]
          rw [hd_]
          refine fr_xret rfl ?_
          refine W.widen (k := 1) (n := 6) (by decide) (by decide) ?_
          exact fr_iret C hP hD hS rfl dF_never_46
def dn_never (f : Nat → Nat → Int32) (x : Int32) : Option String × Int32 × (Nat → Nat → Int32) := if 0 ≤ x then (dn_never_18 13 f x 0 1) else (some "java/lang/IllegalArgumentException", 0, f)
set_option maxHeartbeats 4000000 in
set_option maxRecDepth 100000 in
theorem c_never (l : Launch) (hls : l.stackTraces = false) (D : va_G) (ka : Nat → ClassId) (al : Nat → Nat) (Z : va_W) (f : Nat → Nat → Int32) (x : Int32) (gR : 0 ≤ (f 0 1).toInt ∧ (f 0 1).toInt ≤ 12) : fr_Mx (fr_Qi D vwCl (fr_ty ka)) l y_never (.code y_never prog_1_method_11_code 4 (some .int) :: fr_tbl) { frames := 6, cells := 1, slots := 6, locals := 90 } D vwCl (fr_ty ka) fr_nw [.ref (al 0), .int x] (fr_cw ka al f Z) (dn_never f x).1 (dn_never f x).2.1 (fr_cw ka al ((dn_never f x).2.2) Z) 1 6 := by
  refine fr_Mx.of (by decide) (Nat.le_of_ble_eq_true rfl) ?_
  intro p e s m below meth c A H locs ls C hP hD hS hl
  obtain ⟨hx, hb, hml, hown, ht, hK, hlocks, hr, hA, hN, hZ, hEx⟩ := id C
  have hl : lv_has ls 4 [(0, .ref (al 0)), (1, .int x)] := hl
  refine lv_iload_n hx hb dF_never_0 rfl (lv_at hl 1 rfl) ?_
  refine lv_if_ge (tgt := 14) hx hb dF_never_1 (by decide) (fun c_1 => ?_) (fun c_1 => ?_)
  · skip
    refine lv_iconst (v := 0) hx hb dF_never_14 (by decide) ?_
    refine lv_istore_n (lv' := [(2, .int 0), (0, .ref (al 0)), (1, .int x)]) hx hb dF_never_15 rfl hl (by decide) rfl (fun ls hl => ?_)
    refine lv_iconst (v := 1) hx hb dF_never_16 (by decide) ?_
    refine lv_istore_n (lv' := [(3, .int 1), (2, .int 0), (0, .ref (al 0)), (1, .int x)]) hx hb dF_never_17 rfl hl (by decide) rfl (fun ls hl => ?_)
    have hd_ : dn_never f x = dn_never_18 13 f x 0 1 := by rw [dn_never, if_pos c_1]
    rw [hd_]
    exact k_never_18 C gR 13 0 1 H locs ls (by have z : (1 : Int32).toInt = 1 := rfl; omega) hP hD hS (lv_sub hl [2, 3, 1, 0] rfl)
  · skip
    have hd_ : dn_never f x = (some "java/lang/IllegalArgumentException", 0, f) := by rw [dn_never, if_neg c_1]
    rw [hd_]
    obtain ⟨sa, hsa⟩ := fr_str hown (hN _ str_F_149).2
    exact th_IAE C hl.1 hls hS hsa (Nat.le_of_ble_eq_true rfl) (Nat.le_of_ble_eq_true rfl) (Nat.le_of_ble_eq_true rfl) (Nat.le_of_ble_eq_true rfl) dF_never_4 dF_never_7 dF_never_8 dF_never_10 dF_never_13 (fr_xthrow rfl hK hP hD hS rfl rfl)

theorem cl_F_154 {p : Program} {l : Launch} {e : Env} {R : Room} {s : State} {m : MethodId} {args : Array Value} {below : List Frame} {meth : Method} {c : Code} {H : Heap} {locs : List Loc} {cells slots : Nat} {Q : State → Prop} {D : va_G} {A : Nat → Prop} {cc : ByteArray} {nL pc : Nat} {ret : Option FieldType} {hh : List ExceptionTableEntry} {ls : Array Slot} {rest : List Value} {ka : Nat → ClassId} {al : Nat → Nat} {f : Nat → Nat → Int32} {Z : va_W} {x : Int32} (C : fr_Cx p s m args meth c "FragileRules" cc nL ret hh fr_tbl fr_nw D vwCl (fr_ty ka) A) (hP : va_P D vwCl (fr_cw ka al f Z) H) (hD : va_D A (fr_cw ka al f Z)) (hS : va_S A s.heap H locs) (hsz : ls.size = nL) (hR : 0 + 1 ≤ R.frames ∧ 8 + (2 + 11) + 0 ≤ R.locals) (hw : (rest.map fun v => v.category).sum ≤ 8) (hf : cells + 0 ≤ R.cells ∧ slots + 0 ≤ R.slots) (hdg : decode cc pc = .ok (.invokevirtual 154, 3)) (kk : ∀ (H : Heap) (locs : List Loc), va_P D vwCl (fr_cw ka al f Z) H → va_D A (fr_cw ka al f Z) → va_S A s.heap H locs → W p l e R s m args below meth c H locs (cells + 0) (slots + 0) Q (F0 m (pc + 3) ls (.int (dn_isRuleNumber f x) :: rest))) : W p l e R s m args below meth c H locs cells slots Q (F0 m pc ls (.int x :: .ref (al 0) :: rest)) :=
  fr_callVi (As := [.int x]) C hP hD hS (c_isRuleNumber l D ka al Z f x) (cwV 1 C.2.2.2.2.1 (fr_goodV ml_F_154 mi_isRuleNumber msel_isRuleNumber mini_F mc_isRuleNumber) rfl rfl rfl (by decide +kernel) hR) (va_recv C.2.2.2.2.2.1 hP (ci := 0) (q0 := 0) rfl rfl) rfl hsz hw hdg hf kk
theorem cl_F_161 {p : Program} {l : Launch} {e : Env} {R : Room} {s : State} {m : MethodId} {args : Array Value} {below : List Frame} {meth : Method} {c : Code} {H : Heap} {locs : List Loc} {cells slots : Nat} {Q : State → Prop} {D : va_G} {A : Nat → Prop} {cc : ByteArray} {nL pc : Nat} {ret : Option FieldType} {hh : List ExceptionTableEntry} {ls : Array Slot} {rest : List Value} {ka : Nat → ClassId} {al : Nat → Nat} {f : Nat → Nat → Int32} {Z : va_W} {x : Int32} (C : fr_Cx p s m args meth c "FragileRules" cc nL ret hh fr_tbl fr_nw D vwCl (fr_ty ka) A) (hP : va_P D vwCl (fr_cw ka al f Z) H) (hD : va_D A (fr_cw ka al f Z)) (hS : va_S A s.heap H locs) (hsz : ls.size = nL) (hR : 0 + 1 ≤ R.frames ∧ 8 + (3 + 11) + 0 ≤ R.locals) (hw : (rest.map fun v => v.category).sum ≤ 8) (hf : cells + 0 ≤ R.cells ∧ slots + 0 ≤ R.slots) (gR : 1 ≤ (f 0 1).toInt ∧ (f 0 1).toInt ≤ 12) (hdg : decode cc pc = .ok (.invokevirtual 161, 3)) (kk : ∀ (H : Heap) (locs : List Loc), va_P D vwCl (fr_cw ka al f Z) H → va_D A (fr_cw ka al f Z) → va_S A s.heap H locs → W p l e R s m args below meth c H locs (cells + 0) (slots + 0) Q (F0 m (pc + 3) ls (.int (dn_placeIn f x) :: rest))) : W p l e R s m args below meth c H locs cells slots Q (F0 m pc ls (.int x :: .ref (al 0) :: rest)) :=
  fr_callVi (As := [.int x]) C hP hD hS (c_placeIn l D ka al Z f x gR) (cwV 1 C.2.2.2.2.1 (fr_goodV ml_F_161 mi_placeIn msel_placeIn mini_F mc_placeIn) rfl rfl rfl (by decide +kernel) hR) (va_recv C.2.2.2.2.2.1 hP (ci := 0) (q0 := 0) rfl rfl) rfl hsz hw hdg hf kk
def dn_order (f : Nat → Nat → Int32) (x : Int32) (y : Int32) : Option String × Int32 × (Nat → Nat → Int32) := if (dn_isRuleNumber f x) = 0 then (some "java/util/NoSuchElementException", 0, f) else (if (dn_within y ((f 0 1) - 1)) = 0 then (some "java/lang/IllegalArgumentException", 0, f) else (if y ≤ (dn_placeIn f x) then (none, dn_placeIn f x, fr_up (fr_row f 8 (va_cpy (fun j => f 8 j) (fun j => f 8 j) y.toNatClampNeg (y + 1).toNatClampNeg ((dn_placeIn f x) - y).toNatClampNeg)) 8 y.toNatClampNeg x) else (none, dn_placeIn f x, fr_up (fr_row f 8 (va_cpy (fun j => f 8 j) (fun j => f 8 j) ((dn_placeIn f x) + 1).toNatClampNeg (dn_placeIn f x).toNatClampNeg (y - (dn_placeIn f x)).toNatClampNeg)) 8 y.toNatClampNeg x)))
set_option maxHeartbeats 4000000 in
set_option maxRecDepth 100000 in
theorem c_order (l : Launch) (hls : l.stackTraces = false) (D : va_G) (ka : Nat → ClassId) (al : Nat → Nat) (Z : va_W) (f : Nat → Nat → Int32) (x : Int32) (y : Int32) (gR : 0 ≤ (f 0 1).toInt ∧ (f 0 1).toInt ≤ 12) : fr_Mx (fr_Qi D vwCl (fr_ty ka)) l y_order (.code y_order prog_1_method_12_code 4 (some .int) :: fr_tbl) { frames := 6, cells := 1, slots := 6, locals := 90 } D vwCl (fr_ty ka) fr_nw [.ref (al 0), .int x, .int y] (fr_cw ka al f Z) (dn_order f x y).1 (dn_order f x y).2.1 (fr_cw ka al ((dn_order f x y).2.2) Z) 1 6 := by
  refine fr_Mx.of (by decide) (Nat.le_of_ble_eq_true rfl) ?_
  intro p e s m below meth c A H locs ls C hP hD hS hl
  obtain ⟨hx, hb, hml, hown, ht, hK, hlocks, hr, hA, hN, hZ, hEx⟩ := id C
  have hl : lv_has ls 4 [(0, .ref (al 0)), (1, .int x), (2, .int y)] := hl
  refine lv_aload_n hx hb dF_order_0 rfl (lv_at hl 0 rfl) ?_
  refine lv_iload_n hx hb dF_order_1 rfl (lv_at hl 1 rfl) ?_
  refine cl_F_154 C hP hD hS hl.1 ⟨Nat.le_of_ble_eq_true rfl, Nat.le_of_ble_eq_true rfl⟩ (Nat.le_of_ble_eq_true rfl) ⟨Nat.le_of_ble_eq_true rfl, Nat.le_of_ble_eq_true rfl⟩ dF_order_2 (fun H locs hP hD hS => ?_)
  refine lv_if_ne (tgt := 18) hx hb dF_order_5 (by decide) (fun c_5 => ?_) (fun c_5 => ?_)
  · skip
    refine lv_iload_n hx hb dF_order_18 rfl (lv_at hl 2 rfl) ?_
    refine lv_aload_n hx hb dF_order_19 rfl (lv_at hl 0 rfl) ?_
    refine gf_F_25 C hP dF_order_20 ?_
    refine lv_iconst (v := 1) hx hb dF_order_23 (by decide) ?_
    refine lv_isub hx hb dF_order_24 ?_
    refine cl_F_53 C hP hD hS hl.1 ⟨Nat.le_of_ble_eq_true rfl, Nat.le_of_ble_eq_true rfl⟩ (Nat.le_of_ble_eq_true rfl) ⟨Nat.le_of_ble_eq_true rfl, Nat.le_of_ble_eq_true rfl⟩ dF_order_25 (fun H locs hP hD hS => ?_)
    refine lv_if_ne (tgt := 41) hx hb dF_order_28 (by decide) (fun c_28 => ?_) (fun c_28 => ?_)
    · skip
      refine lv_aload_n hx hb dF_order_41 rfl (lv_at hl 0 rfl) ?_
      refine lv_iload_n hx hb dF_order_42 rfl (lv_at hl 1 rfl) ?_
      refine cl_F_161 C hP hD hS hl.1 ⟨Nat.le_of_ble_eq_true rfl, Nat.le_of_ble_eq_true rfl⟩ (Nat.le_of_ble_eq_true rfl) ⟨Nat.le_of_ble_eq_true rfl, Nat.le_of_ble_eq_true rfl⟩ (fr_or1 gR c_5) dF_order_43 (fun H locs hP hD hS => ?_)
      refine lv_istore_n (lv' := [(3, .int (dn_placeIn f x)), (0, .ref (al 0)), (1, .int x), (2, .int y)]) hx hb dF_order_46 rfl hl (by decide) rfl (fun ls hl => ?_)
      refine lv_iload_n hx hb dF_order_47 rfl (lv_at hl 0 rfl) ?_
      refine lv_iload_n hx hb dF_order_48 rfl (lv_at hl 3 rfl) ?_
      refine lv_icmp_ge (tgt := 73) hx hb dF_order_49 (by decide) (fun c_49 => ?_) (fun c_49 => ?_)
      · skip
        refine lv_aload_n hx hb dF_order_73 rfl (lv_at hl 1 rfl) ?_
        refine gf_F_28 C hP dF_order_74 ?_
        refine lv_iload_n hx hb dF_order_77 rfl (lv_at hl 3 rfl) ?_
        refine lv_aload_n hx hb dF_order_78 rfl (lv_at hl 1 rfl) ?_
        refine gf_F_28 C hP dF_order_79 ?_
        refine lv_iload_n hx hb dF_order_82 rfl (lv_at hl 3 rfl) ?_
        refine lv_iconst (v := 1) hx hb dF_order_83 (by decide) ?_
        refine lv_iadd hx hb dF_order_84 ?_
        refine lv_iload_n hx hb dF_order_85 rfl (lv_at hl 0 rfl) ?_
        refine lv_iload_n hx hb dF_order_86 rfl (lv_at hl 3 rfl) ?_
        refine lv_isub hx hb dF_order_87 ?_
        refine cpy_F_8 C hP hD hS hl.1 (by have q0 := fr_t6 c_5; have q1 := fr_t6 c_28; have q2 := fr_t3 c_49; have z0 : (0 : Int32).toInt = 0 := rfl; have e0 := fr_or3 gR c_5 c_28 c_49; skip; omega) (Nat.le_of_ble_eq_true rfl) (Nat.le_of_ble_eq_true rfl) dF_order_88 (fun H locs hP hD hS => ?_)
        refine lv_aload_n hx hb dF_order_91 rfl (lv_at hl 1 rfl) ?_
        refine gf_F_28 C hP dF_order_92 ?_
        refine lv_iload_n hx hb dF_order_95 rfl (lv_at hl 3 rfl) ?_
        refine lv_iload_n hx hb dF_order_96 rfl (lv_at hl 2 rfl) ?_
        have hin_97 : vp_in y 12 := by have q0 := fr_t6 c_5; have q1 := fr_t6 c_28; have q2 := fr_t3 c_49; have z0 : (0 : Int32).toInt = 0 := rfl; have e0 := fr_or gR c_5 c_28; skip; rw [vp_in_iff]; omega
        refine ast_8 C hP hD hS hin_97 dF_order_97 (fun H locs hP hD hS => ?_)
        refine lv_iload_n hx hb dF_order_98 rfl (lv_at hl 0 rfl) ?_
        have hd_ : dn_order f x y = (none, dn_placeIn f x, fr_up (fr_row f 8 (va_cpy (fun j => f 8 j) (fun j => f 8 j) y.toNatClampNeg (y + 1).toNatClampNeg ((dn_placeIn f x) - y).toNatClampNeg)) 8 y.toNatClampNeg x) := by rw [dn_order, if_neg c_5, if_neg c_28, if_pos c_49]
        rw [hd_]
        refine fr_xret rfl ?_
        refine W.widen (k := 1) (n := 6) (by decide) (by decide) ?_
        exact fr_iret C hP hD hS rfl dF_order_99
      · skip
        refine lv_aload_n hx hb dF_order_52 rfl (lv_at hl 1 rfl) ?_
        refine gf_F_28 C hP dF_order_53 ?_
        refine lv_iload_n hx hb dF_order_56 rfl (lv_at hl 0 rfl) ?_
        refine lv_iconst (v := 1) hx hb dF_order_57 (by decide) ?_
        refine lv_iadd hx hb dF_order_58 ?_
        refine lv_aload_n hx hb dF_order_59 rfl (lv_at hl 1 rfl) ?_
        refine gf_F_28 C hP dF_order_60 ?_
        refine lv_iload_n hx hb dF_order_63 rfl (lv_at hl 0 rfl) ?_
        refine lv_iload_n hx hb dF_order_64 rfl (lv_at hl 3 rfl) ?_
        refine lv_iload_n hx hb dF_order_65 rfl (lv_at hl 0 rfl) ?_
        refine lv_isub hx hb dF_order_66 ?_
        refine cpy_F_8 C hP hD hS hl.1 (by have q0 := fr_t6 c_5; have q1 := fr_t6 c_28; have q2 := fr_t4 c_49; have z0 : (0 : Int32).toInt = 0 := rfl; have e0 := fr_or2 gR c_5 c_28 c_49; skip; omega) (Nat.le_of_ble_eq_true rfl) (Nat.le_of_ble_eq_true rfl) dF_order_67 (fun H locs hP hD hS => ?_)
        refine lv_goto (tgt := 91) hx hb dF_order_70 (by decide) ?_
        refine lv_aload_n hx hb dF_order_91 rfl (lv_at hl 1 rfl) ?_
        refine gf_F_28 C hP dF_order_92 ?_
        refine lv_iload_n hx hb dF_order_95 rfl (lv_at hl 3 rfl) ?_
        refine lv_iload_n hx hb dF_order_96 rfl (lv_at hl 2 rfl) ?_
        have hin_97 : vp_in y 12 := by have q0 := fr_t6 c_5; have q1 := fr_t6 c_28; have q2 := fr_t4 c_49; have z0 : (0 : Int32).toInt = 0 := rfl; have e0 := fr_or gR c_5 c_28; skip; rw [vp_in_iff]; omega
        refine ast_8 C hP hD hS hin_97 dF_order_97 (fun H locs hP hD hS => ?_)
        refine lv_iload_n hx hb dF_order_98 rfl (lv_at hl 0 rfl) ?_
        have hd_ : dn_order f x y = (none, dn_placeIn f x, fr_up (fr_row f 8 (va_cpy (fun j => f 8 j) (fun j => f 8 j) ((dn_placeIn f x) + 1).toNatClampNeg (dn_placeIn f x).toNatClampNeg (y - (dn_placeIn f x)).toNatClampNeg)) 8 y.toNatClampNeg x) := by rw [dn_order, if_neg c_5, if_neg c_28, if_neg c_49]
        rw [hd_]
        refine fr_xret rfl ?_
        refine W.widen (k := 1) (n := 6) (by decide) (by decide) ?_
        exact fr_iret C hP hD hS rfl dF_order_99
    · skip
      have hd_ : dn_order f x y = (some "java/lang/IllegalArgumentException", 0, f) := by rw [dn_order, if_neg c_5, if_pos c_28]
      rw [hd_]
      obtain ⟨sa, hsa⟩ := fr_str hown (hN _ str_F_159).2
      exact th_IAE C hl.1 hls hS hsa (Nat.le_of_ble_eq_true rfl) (Nat.le_of_ble_eq_true rfl) (Nat.le_of_ble_eq_true rfl) (Nat.le_of_ble_eq_true rfl) dF_order_31 dF_order_34 dF_order_35 dF_order_37 dF_order_40 (fr_xthrow rfl hK hP hD hS rfl rfl)
  · skip
    have hd_ : dn_order f x y = (some "java/util/NoSuchElementException", 0, f) := by rw [dn_order, if_pos c_5]
    rw [hd_]
    obtain ⟨sa, hsa⟩ := fr_str hown (hN _ str_F_157).2
    exact th_NSE C hl.1 hls hS hsa (Nat.le_of_ble_eq_true rfl) (Nat.le_of_ble_eq_true rfl) (Nat.le_of_ble_eq_true rfl) (Nat.le_of_ble_eq_true rfl) dF_order_8 dF_order_11 dF_order_12 dF_order_14 dF_order_17 (fr_xthrow rfl hK hP hD hS rfl rfl)

def dn_told (f : Nat → Nat → Int32) (x : Int32) (y : Int32) : Option String × Int32 × (Nat → Nat → Int32) := if (dn_isRuleNumber f x) = 0 then (some "java/util/NoSuchElementException", 0, f) else (if y = 0 then (none, f 4 ((x - 1).toNatClampNeg), f) else (if y = 1 then (none, f 5 ((x - 1).toNatClampNeg), f) else (if y = 2 then (none, f 6 ((x - 1).toNatClampNeg), f) else (if y = 3 then (none, dn_placeIn f x, f) else (if y = 4 then (none, f 7 ((x - 1).toNatClampNeg), f) else (some "java/lang/IllegalArgumentException", 0, f))))))
set_option maxHeartbeats 4000000 in
set_option maxRecDepth 100000 in
theorem c_told (l : Launch) (hls : l.stackTraces = false) (D : va_G) (ka : Nat → ClassId) (al : Nat → Nat) (Z : va_W) (f : Nat → Nat → Int32) (x : Int32) (y : Int32) (gR : 0 ≤ (f 0 1).toInt ∧ (f 0 1).toInt ≤ 12) : fr_Mx (fr_Qi D vwCl (fr_ty ka)) l y_told (.code y_told prog_1_method_13_code 4 (some .int) :: fr_tbl) { frames := 6, cells := 1, slots := 6, locals := 90 } D vwCl (fr_ty ka) fr_nw [.ref (al 0), .int x, .int y] (fr_cw ka al f Z) (dn_told f x y).1 (dn_told f x y).2.1 (fr_cw ka al ((dn_told f x y).2.2) Z) 1 6 := by
  refine fr_Mx.of (by decide) (Nat.le_of_ble_eq_true rfl) ?_
  intro p e s m below meth c A H locs ls C hP hD hS hl
  obtain ⟨hx, hb, hml, hown, ht, hK, hlocks, hr, hA, hN, hZ, hEx⟩ := id C
  have hl : lv_has ls 4 [(0, .ref (al 0)), (1, .int x), (2, .int y)] := hl
  refine lv_aload_n hx hb dF_told_0 rfl (lv_at hl 0 rfl) ?_
  refine lv_iload_n hx hb dF_told_1 rfl (lv_at hl 1 rfl) ?_
  refine cl_F_154 C hP hD hS hl.1 ⟨Nat.le_of_ble_eq_true rfl, Nat.le_of_ble_eq_true rfl⟩ (Nat.le_of_ble_eq_true rfl) ⟨Nat.le_of_ble_eq_true rfl, Nat.le_of_ble_eq_true rfl⟩ dF_told_2 (fun H locs hP hD hS => ?_)
  refine lv_if_ne (tgt := 18) hx hb dF_told_5 (by decide) (fun c_5 => ?_) (fun c_5 => ?_)
  · skip
    refine lv_aload_n hx hb dF_told_18 rfl (lv_at hl 0 rfl) ?_
    refine gf_F_21 C hP dF_told_19 ?_
    refine lv_iload_n hx hb dF_told_22 rfl (lv_at hl 1 rfl) ?_
    refine lv_iconst (v := 1) hx hb dF_told_23 (by decide) ?_
    refine lv_isub hx hb dF_told_24 ?_
    have hin_25 : vp_in (x - 1) 12 := by have q0 := fr_t6 c_5; have z0 : (0 : Int32).toInt = 0 := rfl; have e0 := fr_isR c_5; have e1 := fr_sub1 (fr_isR c_5).1; have e2 := gR; skip; rw [vp_in_iff]; omega
    refine ald_aR C hP hin_25 dF_told_25 ?_
    refine lv_astore_n (lv' := [(3, .ref (al (17 + ((x - 1).toNatClampNeg)))), (0, .ref (al 0)), (1, .int x), (2, .int y)]) hx hb dF_told_26 rfl hl (by decide) rfl (fun ls hl => ?_)
    refine lv_iload_n hx hb dF_told_27 rfl (lv_at hl 3 rfl) ?_
    by_cases c_28_0 : y = 0
    · skip
      refine lv_tableIn (tgt := 64) hx hb dF_told_28 (by rw [c_28_0]; decide) (by rw [c_28_0]; decide) (by rw [c_28_0] <;> rfl) (by decide) ?_
      refine lv_aload_n hx hb dF_told_64 rfl (lv_at hl 0 rfl) ?_
      refine gf_F_171 C hP (fr_lt hin_25) dF_told_65 ?_
      have hd_ : dn_told f x y = (none, f 4 ((x - 1).toNatClampNeg), f) := by rw [dn_told, if_neg c_5, if_pos c_28_0]
      rw [hd_]
      refine fr_xret rfl ?_
      refine W.widen (k := 1) (n := 6) (by decide) (by decide) ?_
      exact fr_iret C hP hD hS rfl dF_told_68
    · skip
      by_cases c_28_1 : y = 1
      · skip
        refine lv_tableIn (tgt := 69) hx hb dF_told_28 (by rw [c_28_1]; decide) (by rw [c_28_1]; decide) (by rw [c_28_1] <;> rfl) (by decide) ?_
        refine lv_aload_n hx hb dF_told_69 rfl (lv_at hl 0 rfl) ?_
        refine gf_F_174 C hP (fr_lt hin_25) dF_told_70 ?_
        have hd_ : dn_told f x y = (none, f 5 ((x - 1).toNatClampNeg), f) := by rw [dn_told, if_neg c_5, if_neg c_28_0, if_pos c_28_1]
        rw [hd_]
        refine fr_xret rfl ?_
        refine W.widen (k := 1) (n := 6) (by decide) (by decide) ?_
        exact fr_iret C hP hD hS rfl dF_told_73
      · skip
        by_cases c_28_2 : y = 2
        · skip
          refine lv_tableIn (tgt := 74) hx hb dF_told_28 (by rw [c_28_2]; decide) (by rw [c_28_2]; decide) (by rw [c_28_2] <;> rfl) (by decide) ?_
          refine lv_aload_n hx hb dF_told_74 rfl (lv_at hl 0 rfl) ?_
          refine gf_F_177 C hP (fr_lt hin_25) dF_told_75 ?_
          have hd_ : dn_told f x y = (none, f 6 ((x - 1).toNatClampNeg), f) := by rw [dn_told, if_neg c_5, if_neg c_28_0, if_neg c_28_1, if_pos c_28_2]
          rw [hd_]
          refine fr_xret rfl ?_
          refine W.widen (k := 1) (n := 6) (by decide) (by decide) ?_
          exact fr_iret C hP hD hS rfl dF_told_78
        · skip
          by_cases c_28_3 : y = 3
          · skip
            refine lv_tableIn (tgt := 79) hx hb dF_told_28 (by rw [c_28_3]; decide) (by rw [c_28_3]; decide) (by rw [c_28_3] <;> rfl) (by decide) ?_
            refine lv_aload_n hx hb dF_told_79 rfl (lv_at hl 1 rfl) ?_
            refine lv_iload_n hx hb dF_told_80 rfl (lv_at hl 2 rfl) ?_
            refine cl_F_161 C hP hD hS hl.1 ⟨Nat.le_of_ble_eq_true rfl, Nat.le_of_ble_eq_true rfl⟩ (Nat.le_of_ble_eq_true rfl) ⟨Nat.le_of_ble_eq_true rfl, Nat.le_of_ble_eq_true rfl⟩ (fr_or1 gR c_5) dF_told_81 (fun H locs hP hD hS => ?_)
            have hd_ : dn_told f x y = (none, dn_placeIn f x, f) := by rw [dn_told, if_neg c_5, if_neg c_28_0, if_neg c_28_1, if_neg c_28_2, if_pos c_28_3]
            rw [hd_]
            refine fr_xret rfl ?_
            refine W.widen (k := 1) (n := 6) (by decide) (by decide) ?_
            exact fr_iret C hP hD hS rfl dF_told_84
          · skip
            by_cases c_28_4 : y = 4
            · skip
              refine lv_tableIn (tgt := 85) hx hb dF_told_28 (by rw [c_28_4]; decide) (by rw [c_28_4]; decide) (by rw [c_28_4] <;> rfl) (by decide) ?_
              refine lv_aload_n hx hb dF_told_85 rfl (lv_at hl 0 rfl) ?_
              refine gf_F_151 C hP (fr_lt hin_25) dF_told_86 ?_
              have hd_ : dn_told f x y = (none, f 7 ((x - 1).toNatClampNeg), f) := by rw [dn_told, if_neg c_5, if_neg c_28_0, if_neg c_28_1, if_neg c_28_2, if_neg c_28_3, if_pos c_28_4]
              rw [hd_]
              refine fr_xret rfl ?_
              refine W.widen (k := 1) (n := 6) (by decide) (by decide) ?_
              exact fr_iret C hP hD hS rfl dF_told_89
            · skip
              refine lv_tableOut (tgt := 90) hx hb dF_told_28 (by have h0 := fr_ne (k := 0) (a := 0) rfl c_28_0; have h1 := fr_ne (k := 1) (a := 1) rfl c_28_1; have h2 := fr_ne (k := 2) (a := 2) rfl c_28_2; have h3 := fr_ne (k := 3) (a := 3) rfl c_28_3; have h4 := fr_ne (k := 4) (a := 4) rfl c_28_4; omega) (by decide) ?_
              have hd_ : dn_told f x y = (some "java/lang/IllegalArgumentException", 0, f) := by rw [dn_told, if_neg c_5, if_neg c_28_0, if_neg c_28_1, if_neg c_28_2, if_neg c_28_3, if_neg c_28_4]
              rw [hd_]
              obtain ⟨sa, hsa⟩ := fr_str hown (hN _ str_F_180).2
              exact th_IAE C hl.1 hls hS hsa (Nat.le_of_ble_eq_true rfl) (Nat.le_of_ble_eq_true rfl) (Nat.le_of_ble_eq_true rfl) (Nat.le_of_ble_eq_true rfl) dF_told_90 dF_told_93 dF_told_94 dF_told_96 dF_told_99 (fr_xthrow rfl hK hP hD hS rfl rfl)
  · skip
    have hd_ : dn_told f x y = (some "java/util/NoSuchElementException", 0, f) := by rw [dn_told, if_pos c_5]
    rw [hd_]
    obtain ⟨sa, hsa⟩ := fr_str hown (hN _ str_F_157).2
    exact th_NSE C hl.1 hls hS hsa (Nat.le_of_ble_eq_true rfl) (Nat.le_of_ble_eq_true rfl) (Nat.le_of_ble_eq_true rfl) (Nat.le_of_ble_eq_true rfl) dF_told_8 dF_told_11 dF_told_12 dF_told_14 dF_told_17 (fr_xthrow rfl hK hP hD hS rfl rfl)

def dn_about (f : Nat → Nat → Int32) (x : Int32) (y : Int32) : Option String × Int32 × (Nat → Nat → Int32) := if (dn_isUnit f x) = 0 then (some "java/util/NoSuchElementException", 0, f) else (if y = 0 then (none, f 1 x.toNatClampNeg, f) else (if y = 1 then (none, f 2 x.toNatClampNeg, f) else (if y = 2 then (none, f 3 x.toNatClampNeg, f) else (some "java/lang/IllegalArgumentException", 0, f))))
set_option maxHeartbeats 4000000 in
set_option maxRecDepth 100000 in
theorem c_about (l : Launch) (hls : l.stackTraces = false) (D : va_G) (ka : Nat → ClassId) (al : Nat → Nat) (Z : va_W) (f : Nat → Nat → Int32) (x : Int32) (y : Int32) (gU : 0 ≤ (f 0 0).toInt ∧ (f 0 0).toInt ≤ 10) : fr_Mx (fr_Qi D vwCl (fr_ty ka)) l y_about (.code y_about prog_1_method_14_code 3 (some .int) :: fr_tbl) { frames := 6, cells := 1, slots := 6, locals := 90 } D vwCl (fr_ty ka) fr_nw [.ref (al 0), .int x, .int y] (fr_cw ka al f Z) (dn_about f x y).1 (dn_about f x y).2.1 (fr_cw ka al ((dn_about f x y).2.2) Z) 1 6 := by
  refine fr_Mx.of (by decide) (Nat.le_of_ble_eq_true rfl) ?_
  intro p e s m below meth c A H locs ls C hP hD hS hl
  obtain ⟨hx, hb, hml, hown, ht, hK, hlocks, hr, hA, hN, hZ, hEx⟩ := id C
  have hl : lv_has ls 3 [(0, .ref (al 0)), (1, .int x), (2, .int y)] := hl
  refine lv_aload_n hx hb dF_about_0 rfl (lv_at hl 0 rfl) ?_
  refine lv_iload_n hx hb dF_about_1 rfl (lv_at hl 1 rfl) ?_
  refine cl_F_119 C hP hD hS hl.1 ⟨Nat.le_of_ble_eq_true rfl, Nat.le_of_ble_eq_true rfl⟩ (Nat.le_of_ble_eq_true rfl) ⟨Nat.le_of_ble_eq_true rfl, Nat.le_of_ble_eq_true rfl⟩ dF_about_2 (fun H locs hP hD hS => ?_)
  refine lv_if_ne (tgt := 18) hx hb dF_about_5 (by decide) (fun c_5 => ?_) (fun c_5 => ?_)
  · skip
    refine lv_iload_n hx hb dF_about_18 rfl (lv_at hl 2 rfl) ?_
    by_cases c_19_0 : y = 0
    · skip
      refine lv_tableIn (tgt := 44) hx hb dF_about_19 (by rw [c_19_0]; decide) (by rw [c_19_0]; decide) (by rw [c_19_0] <;> rfl) (by decide) ?_
      refine lv_aload_n hx hb dF_about_44 rfl (lv_at hl 0 rfl) ?_
      refine gf_F_11 C hP dF_about_45 ?_
      refine lv_iload_n hx hb dF_about_48 rfl (lv_at hl 1 rfl) ?_
      have hin_49 : vp_in x 10 := by have q0 := fr_t6 c_5; have q1 := fr_t5 c_19_0; have z0 : (0 : Int32).toInt = 0 := rfl; have e0 := fr_isU c_5; have e1 := gU; skip; rw [vp_in_iff]; omega
      refine ald_aU C hP hin_49 dF_about_49 ?_
      refine gf_F_69 C hP (fr_lt hin_49) dF_about_50 ?_
      have hd_ : dn_about f x y = (none, f 1 x.toNatClampNeg, f) := by rw [dn_about, if_neg c_5, if_pos c_19_0]
      rw [hd_]
      refine fr_xret rfl ?_
      refine W.widen (k := 1) (n := 6) (by decide) (by decide) ?_
      exact fr_iret C hP hD hS rfl dF_about_53
    · skip
      by_cases c_19_1 : y = 1
      · skip
        refine lv_tableIn (tgt := 54) hx hb dF_about_19 (by rw [c_19_1]; decide) (by rw [c_19_1]; decide) (by rw [c_19_1] <;> rfl) (by decide) ?_
        refine lv_aload_n hx hb dF_about_54 rfl (lv_at hl 0 rfl) ?_
        refine gf_F_11 C hP dF_about_55 ?_
        refine lv_iload_n hx hb dF_about_58 rfl (lv_at hl 1 rfl) ?_
        have hin_59 : vp_in x 10 := by have q0 := fr_t6 c_5; have q1 := fr_t6 c_19_0; have q2 := fr_t5 c_19_1; have z0 : (0 : Int32).toInt = 0 := rfl; have z1 : (1 : Int32).toInt = 1 := rfl; have e0 := fr_isU c_5; have e1 := gU; skip; rw [vp_in_iff]; omega
        refine ald_aU C hP hin_59 dF_about_59 ?_
        refine gf_F_72 C hP (fr_lt hin_59) dF_about_60 ?_
        have hd_ : dn_about f x y = (none, f 2 x.toNatClampNeg, f) := by rw [dn_about, if_neg c_5, if_neg c_19_0, if_pos c_19_1]
        rw [hd_]
        refine fr_xret rfl ?_
        refine W.widen (k := 1) (n := 6) (by decide) (by decide) ?_
        exact fr_iret C hP hD hS rfl dF_about_63
      · skip
        by_cases c_19_2 : y = 2
        · skip
          refine lv_tableIn (tgt := 64) hx hb dF_about_19 (by rw [c_19_2]; decide) (by rw [c_19_2]; decide) (by rw [c_19_2] <;> rfl) (by decide) ?_
          refine lv_aload_n hx hb dF_about_64 rfl (lv_at hl 0 rfl) ?_
          refine gf_F_11 C hP dF_about_65 ?_
          refine lv_iload_n hx hb dF_about_68 rfl (lv_at hl 1 rfl) ?_
          have hin_69 : vp_in x 10 := by have q0 := fr_t6 c_5; have q1 := fr_t6 c_19_0; have q2 := fr_t6 c_19_1; have q3 := fr_t5 c_19_2; have z0 : (0 : Int32).toInt = 0 := rfl; have z1 : (1 : Int32).toInt = 1 := rfl; have z2 : (2 : Int32).toInt = 2 := rfl; have e0 := fr_isU c_5; have e1 := gU; skip; rw [vp_in_iff]; omega
          refine ald_aU C hP hin_69 dF_about_69 ?_
          refine gf_F_75 C hP (fr_lt hin_69) dF_about_70 ?_
          have hd_ : dn_about f x y = (none, f 3 x.toNatClampNeg, f) := by rw [dn_about, if_neg c_5, if_neg c_19_0, if_neg c_19_1, if_pos c_19_2]
          rw [hd_]
          refine fr_xret rfl ?_
          refine W.widen (k := 1) (n := 6) (by decide) (by decide) ?_
          exact fr_iret C hP hD hS rfl dF_about_73
        · skip
          refine lv_tableOut (tgt := 74) hx hb dF_about_19 (by have h0 := fr_ne (k := 0) (a := 0) rfl c_19_0; have h1 := fr_ne (k := 1) (a := 1) rfl c_19_1; have h2 := fr_ne (k := 2) (a := 2) rfl c_19_2; omega) (by decide) ?_
          have hd_ : dn_about f x y = (some "java/lang/IllegalArgumentException", 0, f) := by rw [dn_about, if_neg c_5, if_neg c_19_0, if_neg c_19_1, if_neg c_19_2]
          rw [hd_]
          obtain ⟨sa, hsa⟩ := fr_str hown (hN _ str_F_182).2
          exact th_IAE C hl.1 hls hS hsa (Nat.le_of_ble_eq_true rfl) (Nat.le_of_ble_eq_true rfl) (Nat.le_of_ble_eq_true rfl) (Nat.le_of_ble_eq_true rfl) dF_about_74 dF_about_77 dF_about_78 dF_about_80 dF_about_83 (fr_xthrow rfl hK hP hD hS rfl rfl)
  · skip
    have hd_ : dn_about f x y = (some "java/util/NoSuchElementException", 0, f) := by rw [dn_about, if_pos c_5]
    rw [hd_]
    obtain ⟨sa, hsa⟩ := fr_str hown (hN _ str_F_125).2
    exact th_NSE C hl.1 hls hS hsa (Nat.le_of_ble_eq_true rfl) (Nat.le_of_ble_eq_true rfl) (Nat.le_of_ble_eq_true rfl) (Nat.le_of_ble_eq_true rfl) dF_about_8 dF_about_11 dF_about_12 dF_about_14 dF_about_17 (fr_xthrow rfl hK hP hD hS rfl rfl)
end
