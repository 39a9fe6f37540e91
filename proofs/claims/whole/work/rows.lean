section
-- ===== PART A: goes FIRST, ahead of the names: the tables' words, and 'selects' of the private methods out of them =====
/-- a private method of a class that the tables say can be made, by its rows of tables_1 -/
def lw_okq (q : MethodName × Nat) : Prop := (q.1.cls ≠ "java/lang/invoke/MethodHandle" ∧ q.1.cls ≠ "java/lang/invoke/VarHandle") ∧ Cond.instantiable q.1.cls q.2 ∈ tables_1 ∧ Cond.privateMethod q.1 ∈ tables_1 ∧ Cond.instanceMethod q.1 ∈ tables_1
theorem lw_p0 : lw_okq (⟨"java/lang/Throwable", "fillInStackTrace", "(I)Ljava/lang/Throwable;"⟩, 6) := ⟨⟨by decide +kernel, by decide +kernel⟩, List.mem_of_getElem? (i := 176) (by decide +kernel), List.mem_of_getElem? (i := 174) (by decide +kernel), List.mem_of_getElem? (i := 175) (by decide +kernel)⟩
theorem lw_p1 : lw_okq (⟨"FragileRules", "firstRefusingMarks", "(LFragileRules$Unit;)I"⟩, 10) := ⟨⟨by decide +kernel, by decide +kernel⟩, List.mem_of_getElem? (i := 16) (by decide +kernel), List.mem_of_getElem? (i := 222) (by decide +kernel), List.mem_of_getElem? (i := 223) (by decide +kernel)⟩
theorem lw_p2 : lw_okq (⟨"FragileRules", "firstRefusing", "(ILFragileRules$Unit;LFragileRules$Unit;I)I"⟩, 10) := ⟨⟨by decide +kernel, by decide +kernel⟩, List.mem_of_getElem? (i := 16) (by decide +kernel), List.mem_of_getElem? (i := 230) (by decide +kernel), List.mem_of_getElem? (i := 231) (by decide +kernel)⟩
theorem lw_p3 : lw_okq (⟨"FragileRules", "addRule", "(III)I"⟩, 10) := ⟨⟨by decide +kernel, by decide +kernel⟩, List.mem_of_getElem? (i := 16) (by decide +kernel), List.mem_of_getElem? (i := 268) (by decide +kernel), List.mem_of_getElem? (i := 269) (by decide +kernel)⟩
theorem lw_p4 : lw_okq (⟨"FragileRules", "addLines", "(I)V"⟩, 10) := ⟨⟨by decide +kernel, by decide +kernel⟩, List.mem_of_getElem? (i := 16) (by decide +kernel), List.mem_of_getElem? (i := 321) (by decide +kernel), List.mem_of_getElem? (i := 322) (by decide +kernel)⟩
theorem lw_p5 : lw_okq (⟨"FragileRules", "isUnit", "(I)Z"⟩, 10) := ⟨⟨by decide +kernel, by decide +kernel⟩, List.mem_of_getElem? (i := 16) (by decide +kernel), List.mem_of_getElem? (i := 342) (by decide +kernel), List.mem_of_getElem? (i := 343) (by decide +kernel)⟩
theorem lw_p6 : lw_okq (⟨"FragileRules", "verdict", "(ILFragileRules$Unit;LFragileRules$Unit;I)I"⟩, 10) := ⟨⟨by decide +kernel, by decide +kernel⟩, List.mem_of_getElem? (i := 16) (by decide +kernel), List.mem_of_getElem? (i := 379) (by decide +kernel), List.mem_of_getElem? (i := 380) (by decide +kernel)⟩
theorem lw_p7 : lw_okq (⟨"FragileRules", "isRuleNumber", "(I)Z"⟩, 10) := ⟨⟨by decide +kernel, by decide +kernel⟩, List.mem_of_getElem? (i := 16) (by decide +kernel), List.mem_of_getElem? (i := 414) (by decide +kernel), List.mem_of_getElem? (i := 415) (by decide +kernel)⟩
theorem lw_p8 : lw_okq (⟨"FragileRules", "placeInOrder", "(I)I"⟩, 10) := ⟨⟨by decide +kernel, by decide +kernel⟩, List.mem_of_getElem? (i := 16) (by decide +kernel), List.mem_of_getElem? (i := 420) (by decide +kernel), List.mem_of_getElem? (i := 421) (by decide +kernel)⟩
theorem lw_p9 : lw_okq (⟨"FragileRulesModel", "ask", "()I"⟩, 25) := ⟨⟨by decide +kernel, by decide +kernel⟩, List.mem_of_getElem? (i := 443) (by decide +kernel), List.mem_of_getElem? (i := 536) (by decide +kernel), List.mem_of_getElem? (i := 537) (by decide +kernel)⟩
theorem lw_p10 : lw_okq (⟨"FragileRulesModel", "concerns", "(I)Z"⟩, 25) := ⟨⟨by decide +kernel, by decide +kernel⟩, List.mem_of_getElem? (i := 443) (by decide +kernel), List.mem_of_getElem? (i := 540) (by decide +kernel), List.mem_of_getElem? (i := 541) (by decide +kernel)⟩
theorem lw_p11 : lw_okq (⟨"FragileRulesModel", "refuses", "(I)Z"⟩, 25) := ⟨⟨by decide +kernel, by decide +kernel⟩, List.mem_of_getElem? (i := 443) (by decide +kernel), List.mem_of_getElem? (i := 544) (by decide +kernel), List.mem_of_getElem? (i := 545) (by decide +kernel)⟩
theorem lw_p12 : lw_okq (⟨"FragileRulesModel", "ownRefuses", "(I)Z"⟩, 25) := ⟨⟨by decide +kernel, by decide +kernel⟩, List.mem_of_getElem? (i := 443) (by decide +kernel), List.mem_of_getElem? (i := 548) (by decide +kernel), List.mem_of_getElem? (i := 549) (by decide +kernel)⟩
theorem lw_p13 : lw_okq (⟨"FragileRulesModel", "add", "(III)V"⟩, 25) := ⟨⟨by decide +kernel, by decide +kernel⟩, List.mem_of_getElem? (i := 443) (by decide +kernel), List.mem_of_getElem? (i := 562) (by decide +kernel), List.mem_of_getElem? (i := 563) (by decide +kernel)⟩
theorem lw_p14 : lw_okq (⟨"FragileRulesModel", "go", "(Z)I"⟩, 25) := ⟨⟨by decide +kernel, by decide +kernel⟩, List.mem_of_getElem? (i := 443) (by decide +kernel), List.mem_of_getElem? (i := 578) (by decide +kernel), List.mem_of_getElem? (i := 579) (by decide +kernel)⟩
theorem lw_p15 : lw_okq (⟨"FragileRulesModel", "line", "(Z)V"⟩, 25) := ⟨⟨by decide +kernel, by decide +kernel⟩, List.mem_of_getElem? (i := 443) (by decide +kernel), List.mem_of_getElem? (i := 582) (by decide +kernel), List.mem_of_getElem? (i := 583) (by decide +kernel)⟩
def lw_privs_1 : List (MethodName × Nat) := [(⟨"java/lang/Throwable", "fillInStackTrace", "(I)Ljava/lang/Throwable;"⟩, 6), (⟨"FragileRules", "firstRefusingMarks", "(LFragileRules$Unit;)I"⟩, 10), (⟨"FragileRules", "firstRefusing", "(ILFragileRules$Unit;LFragileRules$Unit;I)I"⟩, 10), (⟨"FragileRules", "addRule", "(III)I"⟩, 10), (⟨"FragileRules", "addLines", "(I)V"⟩, 10), (⟨"FragileRules", "isUnit", "(I)Z"⟩, 10), (⟨"FragileRules", "verdict", "(ILFragileRules$Unit;LFragileRules$Unit;I)I"⟩, 10), (⟨"FragileRules", "isRuleNumber", "(I)Z"⟩, 10), (⟨"FragileRules", "placeInOrder", "(I)I"⟩, 10), (⟨"FragileRulesModel", "ask", "()I"⟩, 25), (⟨"FragileRulesModel", "concerns", "(I)Z"⟩, 25), (⟨"FragileRulesModel", "refuses", "(I)Z"⟩, 25), (⟨"FragileRulesModel", "ownRefuses", "(I)Z"⟩, 25), (⟨"FragileRulesModel", "add", "(III)V"⟩, 25), (⟨"FragileRulesModel", "go", "(Z)I"⟩, 25), (⟨"FragileRulesModel", "line", "(Z)V"⟩, 25)]
theorem lw_r1 : ∀ q ∈ lw_privs_1, lw_okq q := List.forall_mem_cons.mpr ⟨lw_p0, List.forall_mem_cons.mpr ⟨lw_p1, List.forall_mem_cons.mpr ⟨lw_p2, List.forall_mem_cons.mpr ⟨lw_p3, List.forall_mem_cons.mpr ⟨lw_p4, List.forall_mem_cons.mpr ⟨lw_p5, List.forall_mem_cons.mpr ⟨lw_p6, List.forall_mem_cons.mpr ⟨lw_p7, List.forall_mem_cons.mpr ⟨lw_p8, List.forall_mem_cons.mpr ⟨lw_p9, List.forall_mem_cons.mpr ⟨lw_p10, List.forall_mem_cons.mpr ⟨lw_p11, List.forall_mem_cons.mpr ⟨lw_p12, List.forall_mem_cons.mpr ⟨lw_p13, List.forall_mem_cons.mpr ⟨lw_p14, List.forall_mem_cons.mpr ⟨lw_p15, fun _ h => absurd h List.not_mem_nil⟩⟩⟩⟩⟩⟩⟩⟩⟩⟩⟩⟩⟩⟩⟩⟩
theorem lw_p16 : lw_okq (⟨"FragileRulesModel", "look", "()I"⟩, 25) := ⟨⟨by decide +kernel, by decide +kernel⟩, List.mem_of_getElem? (i := 443) (by decide +kernel), List.mem_of_getElem? (i := 586) (by decide +kernel), List.mem_of_getElem? (i := 587) (by decide +kernel)⟩
theorem lw_p17 : lw_okq (⟨"FragileRulesModel", "fail", "()V"⟩, 25) := ⟨⟨by decide +kernel, by decide +kernel⟩, List.mem_of_getElem? (i := 443) (by decide +kernel), List.mem_of_getElem? (i := 593) (by decide +kernel), List.mem_of_getElem? (i := 594) (by decide +kernel)⟩
theorem lw_p18 : lw_okq (⟨"FragileRulesModel", "take", "(I)V"⟩, 25) := ⟨⟨by decide +kernel, by decide +kernel⟩, List.mem_of_getElem? (i := 443) (by decide +kernel), List.mem_of_getElem? (i := 597) (by decide +kernel), List.mem_of_getElem? (i := 598) (by decide +kernel)⟩
theorem lw_p19 : lw_okq (⟨"FragileRulesModel", "digit", "(I)I"⟩, 25) := ⟨⟨by decide +kernel, by decide +kernel⟩, List.mem_of_getElem? (i := 443) (by decide +kernel), List.mem_of_getElem? (i := 601) (by decide +kernel), List.mem_of_getElem? (i := 602) (by decide +kernel)⟩
theorem lw_p20 : lw_okq (⟨"FragileRulesModel", "isUnit", "(I)Z"⟩, 25) := ⟨⟨by decide +kernel, by decide +kernel⟩, List.mem_of_getElem? (i := 443) (by decide +kernel), List.mem_of_getElem? (i := 609) (by decide +kernel), List.mem_of_getElem? (i := 610) (by decide +kernel)⟩
theorem lw_p21 : lw_okq (⟨"FragileRulesModel", "verdict", "()I"⟩, 25) := ⟨⟨by decide +kernel, by decide +kernel⟩, List.mem_of_getElem? (i := 443) (by decide +kernel), List.mem_of_getElem? (i := 613) (by decide +kernel), List.mem_of_getElem? (i := 614) (by decide +kernel)⟩
theorem lw_p22 : lw_okq (⟨"FragileRulesModel", "isNumber", "(I)Z"⟩, 25) := ⟨⟨by decide +kernel, by decide +kernel⟩, List.mem_of_getElem? (i := 443) (by decide +kernel), List.mem_of_getElem? (i := 637) (by decide +kernel), List.mem_of_getElem? (i := 638) (by decide +kernel)⟩
theorem lw_p23 : lw_okq (⟨"FragileRulesModel", "placeOf", "(I)I"⟩, 25) := ⟨⟨by decide +kernel, by decide +kernel⟩, List.mem_of_getElem? (i := 443) (by decide +kernel), List.mem_of_getElem? (i := 641) (by decide +kernel), List.mem_of_getElem? (i := 642) (by decide +kernel)⟩
def lw_privs_2 : List (MethodName × Nat) := [(⟨"FragileRulesModel", "look", "()I"⟩, 25), (⟨"FragileRulesModel", "fail", "()V"⟩, 25), (⟨"FragileRulesModel", "take", "(I)V"⟩, 25), (⟨"FragileRulesModel", "digit", "(I)I"⟩, 25), (⟨"FragileRulesModel", "isUnit", "(I)Z"⟩, 25), (⟨"FragileRulesModel", "verdict", "()I"⟩, 25), (⟨"FragileRulesModel", "isNumber", "(I)Z"⟩, 25), (⟨"FragileRulesModel", "placeOf", "(I)I"⟩, 25)]
theorem lw_r2 : ∀ q ∈ lw_privs_2, lw_okq q := List.forall_mem_cons.mpr ⟨lw_p16, List.forall_mem_cons.mpr ⟨lw_p17, List.forall_mem_cons.mpr ⟨lw_p18, List.forall_mem_cons.mpr ⟨lw_p19, List.forall_mem_cons.mpr ⟨lw_p20, List.forall_mem_cons.mpr ⟨lw_p21, List.forall_mem_cons.mpr ⟨lw_p22, List.forall_mem_cons.mpr ⟨lw_p23, fun _ h => absurd h List.not_mem_nil⟩⟩⟩⟩⟩⟩⟩⟩
def lw_privs : List (MethodName × Nat) := lw_privs_1 ++ (lw_privs_2)
def lw_tbl : List Cond := k2_sels lw_privs ++ tables_1
theorem lw_privs_ok : ∀ q ∈ lw_privs, lw_okq q := by
  show ∀ q ∈ lw_privs_1 ++ (lw_privs_2), lw_okq q
  exact List.forall_mem_append.mpr ⟨lw_r1, lw_r2⟩
/-- the words that stay while the tables warm -/
def fr_tbl : List Cond := lw_tbl.filter goodWord
theorem fr_in {w : Cond} (i : Nat) (h : lw_tbl[i]? = some w) (hg : goodWord w = true) : w ∈ fr_tbl := List.mem_filter.mpr ⟨List.mem_of_getElem? h, hg⟩
theorem fr_tbl_good : ∀ w ∈ fr_tbl, goodWord w = true := fun _ h => (List.mem_filter.mp h).2
theorem fr_good {y : MethodName} {b : ByteArray} {n : Nat} {r : Option FieldType} (h : Cond.code y b n r ∈ fr_tbl) : GoodIn fr_tbl (.code y b n r :: fr_tbl) := by
  intro w hw
  rcases List.mem_cons.mp hw with rfl | hw
  · exact ⟨h, good_of_word (fr_tbl_good _ h)⟩
  · exact ⟨hw, good_of_word (fr_tbl_good _ hw)⟩
theorem fr_goodL {L ws : List Cond} (h : ∀ w ∈ L, w ∈ fr_tbl) (hw : GoodIn fr_tbl ws) : GoodIn fr_tbl (L ++ ws) := by
  intro w h1
  rcases List.mem_append.mp h1 with h1 | h1
  · exact ⟨h w h1, good_of_word (fr_tbl_good _ (h w h1))⟩
  · exact hw w h1
theorem fr_goodV {own C : String} {i n : Nat} {y : MethodName} {b : ByteArray} {r : Option FieldType} (h1 : Cond.methodLink own i y ∈ fr_tbl) (h2 : Cond.instanceMethod y ∈ fr_tbl) (h3 : Cond.selects C y y ∈ fr_tbl) (h4 : Cond.initialized C ∈ fr_tbl) (h5 : Cond.code y b n r ∈ fr_tbl) : GoodIn fr_tbl (wsV own i C y (.code y b n r :: fr_tbl)) :=
  fr_goodL (by intro w hw; simp only [List.mem_cons, List.not_mem_nil, or_false] at hw; rcases hw with rfl | rfl | rfl | rfl <;> assumption) (fr_good h5)
theorem fr_goodS {own : String} {i n : Nat} {y : MethodName} {b : ByteArray} {r : Option FieldType} (h1 : Cond.methodLink own i y ∈ fr_tbl) (h2 : Cond.static y ∈ fr_tbl) (h3 : Cond.initialized own ∈ fr_tbl) (h5 : Cond.code y b n r ∈ fr_tbl) : GoodIn fr_tbl (wsS own i y (.code y b n r :: fr_tbl)) :=
  fr_goodL (by intro w hw; simp only [List.mem_cons, List.not_mem_nil, or_false] at hw; rcases hw with rfl | rfl | rfl <;> assumption) (fr_good h5)
theorem fr_goodSS {own : String} {i n : Nat} {y : MethodName} {b : ByteArray} {r : Option FieldType} (h1 : Cond.methodLink own i y ∈ fr_tbl) (h2 : Cond.static y ∈ fr_tbl) (h3 : Cond.initialized y.cls ∈ fr_tbl) (h5 : Cond.code y b n r ∈ fr_tbl) : GoodIn fr_tbl (va_wsS own i y (.code y b n r :: fr_tbl)) :=
  fr_goodL (by intro w hw; simp only [List.mem_cons, List.not_mem_nil, or_false] at hw; rcases hw with rfl | rfl | rfl <;> assumption) (fr_good h5)
def TXF : u_T := fun k => match k with
  | 0 => ("FragileRules", "units", "[LFragileRules$Unit;", true)
  | 1 => ("FragileRules", "unitCount", "I", false)
  | 2 => ("FragileRules", "rules", "[LFragileRules$Rule;", true)
  | 3 => ("FragileRules", "ruleCount", "I", false)
  | 4 => ("FragileRules", "numbersInOrder", "[I", true)
  | 5 => ("FragileRules", "askedNumbers", "[I", true)
  | 6 => ("FragileRules", "askedCount", "I", false)
  | 7 => ("FragileRules", "text", "LFragileRules$Text;", true)
  | 8 => ("FragileRules", "verdictCount", "I", false)
  | _ => ("FragileRules", "refusedCount", "I", false)
def tyXF : Nat → FieldType := fun k => match k with
  | 0 => .array (.object "FragileRules$Unit")
  | 1 => .int
  | 2 => .array (.object "FragileRules$Rule")
  | 3 => .int
  | 4 => .array .int
  | 5 => .array .int
  | 6 => .int
  | 7 => .object "FragileRules$Text"
  | 8 => .int
  | _ => .int
theorem nmXF : ∀ a, a < 10 → ∀ b, b < 10 → a ≠ b → (TXF a).2.1 ≠ (TXF b).2.1 := by decide +kernel
theorem tokXF : ∀ k, k < 10 → parseFieldDescriptor (TXF k).2.2.1 = some (tyXF k) := by decide +kernel
theorem iXF : ∀ w ∈ u_ws "FragileRules" TXF 10, w ∈ fr_tbl := by decide +kernel
def TXU : u_T := fun k => match k with
  | 0 => ("FragileRules$Unit", "kind", "I", false)
  | 1 => ("FragileRules$Unit", "weight", "I", false)
  | _ => ("FragileRules$Unit", "marks", "I", false)
def tyXU : Nat → FieldType := fun k => match k with
  | 0 => .int
  | 1 => .int
  | _ => .int
theorem nmXU : ∀ a, a < 3 → ∀ b, b < 3 → a ≠ b → (TXU a).2.1 ≠ (TXU b).2.1 := by decide +kernel
theorem tokXU : ∀ k, k < 3 → parseFieldDescriptor (TXU k).2.2.1 = some (tyXU k) := by decide +kernel
theorem iXU : ∀ w ∈ u_ws "FragileRules$Unit" TXU 3, w ∈ fr_tbl := by decide +kernel
def TXR : u_T := fun k => match k with
  | 0 => ("FragileRules$Rule", "row", "I", false)
  | 1 => ("FragileRules$Rule", "a", "I", false)
  | 2 => ("FragileRules$Rule", "b", "I", false)
  | _ => ("FragileRules$Rule", "refusals", "I", false)
def tyXR : Nat → FieldType := fun k => match k with
  | 0 => .int
  | 1 => .int
  | 2 => .int
  | _ => .int
theorem nmXR : ∀ a, a < 4 → ∀ b, b < 4 → a ≠ b → (TXR a).2.1 ≠ (TXR b).2.1 := by decide +kernel
theorem tokXR : ∀ k, k < 4 → parseFieldDescriptor (TXR k).2.2.1 = some (tyXR k) := by decide +kernel
theorem iXR : ∀ w ∈ u_ws "FragileRules$Rule" TXR 4, w ∈ fr_tbl := by decide +kernel
def TXT : u_T := fun k => match k with
  | 0 => ("FragileRules$Text", "signs", "[I", true)
  | _ => ("FragileRules$Text", "length", "I", false)
def tyXT : Nat → FieldType := fun k => match k with
  | 0 => .array .int
  | _ => .int
theorem nmXT : ∀ a, a < 2 → ∀ b, b < 2 → a ≠ b → (TXT a).2.1 ≠ (TXT b).2.1 := by decide +kernel
theorem tokXT : ∀ k, k < 2 → parseFieldDescriptor (TXT k).2.2.1 = some (tyXT k) := by decide +kernel
theorem iXT : ∀ w ∈ u_ws "FragileRules$Text" TXT 2, w ∈ fr_tbl := by decide +kernel
def TXM : u_T := fun k => match k with
  | 0 => ("FragileRulesModel", "units", "I", false)
  | 1 => ("FragileRulesModel", "rules", "I", false)
  | 2 => ("FragileRulesModel", "signs", "I", false)
  | 3 => ("FragileRulesModel", "verdicts", "I", false)
  | 4 => ("FragileRulesModel", "refusals", "I", false)
  | 5 => ("FragileRulesModel", "thrown", "I", false)
  | 6 => ("FragileRulesModel", "kind", "[I", true)
  | 7 => ("FragileRulesModel", "weight", "[I", true)
  | 8 => ("FragileRulesModel", "marks", "[I", true)
  | 9 => ("FragileRulesModel", "row", "[I", true)
  | 10 => ("FragileRulesModel", "first", "[I", true)
  | 11 => ("FragileRulesModel", "second", "[I", true)
  | 12 => ("FragileRulesModel", "refused", "[I", true)
  | 13 => ("FragileRulesModel", "order", "[I", true)
  | 14 => ("FragileRulesModel", "text", "[I", true)
  | 15 => ("FragileRulesModel", "asked", "[I", true)
  | 16 => ("FragileRulesModel", "askedMany", "I", false)
  | 17 => ("FragileRulesModel", "question", "I", false)
  | 18 => ("FragileRulesModel", "below", "I", false)
  | 19 => ("FragileRulesModel", "above", "I", false)
  | 20 => ("FragileRulesModel", "place", "I", false)
  | 21 => ("FragileRulesModel", "mark", "I", false)
  | 22 => ("FragileRulesModel", "had", "I", false)
  | 23 => ("FragileRulesModel", "p", "I", false)
  | _ => ("FragileRulesModel", "bad", "I", false)
def tyXM : Nat → FieldType := fun k => match k with
  | 0 => .int
  | 1 => .int
  | 2 => .int
  | 3 => .int
  | 4 => .int
  | 5 => .int
  | 6 => .array .int
  | 7 => .array .int
  | 8 => .array .int
  | 9 => .array .int
  | 10 => .array .int
  | 11 => .array .int
  | 12 => .array .int
  | 13 => .array .int
  | 14 => .array .int
  | 15 => .array .int
  | 16 => .int
  | 17 => .int
  | 18 => .int
  | 19 => .int
  | 20 => .int
  | 21 => .int
  | 22 => .int
  | 23 => .int
  | _ => .int
theorem nmXM : ∀ a, a < 25 → ∀ b, b < 25 → a ≠ b → (TXM a).2.1 ≠ (TXM b).2.1 := by decide +kernel
theorem tokXM : ∀ k, k < 25 → parseFieldDescriptor (TXM k).2.2.1 = some (tyXM k) := by decide +kernel
theorem iXM : ∀ w ∈ u_ws "FragileRulesModel" TXM 25, w ∈ fr_tbl := by decide +kernel
abbrev vwCl : List vw_C := [("FragileRules", TXF, 10), ("FragileRules$Unit", TXU, 3), ("FragileRules$Rule", TXR, 4), ("FragileRules$Text", TXT, 2), ("FragileRulesModel", TXM, 25)]
end
section
/-! BASE: contracts between two worlds: from the cells w with the arguments As the method comes back with r, and the cells are w'. A world here is ALL the cells that the caller tells of: no cutting, no joining. -/
/-- words that stay by laws of their own -/
def fr_nest : Cond → Bool
  | .methodLinkNest .. => true
  | .declares _ => true
  | .castable .. => true
  | .arrayOver (.object _) => true
  | .not (.castable ..) => true
  | .stringRef .. => true
  | _ => false
theorem fr_nc_back {C T : String} {U : State} (h : va_Nc C T U) : va_Nw (.not (.castable C T)) U := by
  obtain ⟨c, t, h1, h2, h3⟩ := h
  simp [va_Nw, Cond.before, Cond.holds, Cond.value, h1, h2, h3]
theorem fr_str {own tx : String} {k cur : Nat} {A : Array Value} {U : State} (hown : U.vm.findClass own = some cur) (h : (Cond.stringRef own k tx).before A U = true) : ∃ a, vk_R own k tx a U := by
  obtain ⟨_, _, _, a, -, -, -, -, -, he⟩ := Cond.stringRef_spec hown h
  exact ⟨a, vk_R.of h he⟩
theorem fr_nest_warm {q : Cond} (h : fr_nest q = true) {s U : State} (hW : s.WarmedH U.vm) (hZ : va_Nw q s) : va_Nw q U := by
  unfold fr_nest at h
  split at h
  · exact va_Nw.warmM hW hZ
  · exact va_Nw.warmD hW hZ
  · exact va_Nw.warmC hW hZ
  · exact va_AO.moved hW.alike hZ
  · exact fr_nc_back ((va_Nc.of hZ).moved hW.alike)
  · rename_i own k tx
    cases hc : s.vm.findClass own with
    | none => simp [va_Nw, Cond.before, Cond.holds, Cond.value, hc] at hZ
    | some cur =>
      obtain ⟨a, hv⟩ := fr_str hc hZ
      exact (vk_R.warm hW hv).1
  · cases h
theorem fr_noHandlers {c : Code} (h : c.exceptionTable.isEmpty = true) : c.exceptionTable.toList = [] := by
  have h0 : c.exceptionTable.size = 0 := by simpa [Array.isEmpty] using h
  exact List.eq_nil_of_length_eq_zero (by simpa using h0)
theorem fr_ne {x k : Int32} {a : Int} (hk : k.toInt = a) (h : ¬ x = k) : x.toInt ≠ a := fun q => h (Int32.toInt_inj.mp (q.trans hk.symm))
section FRZ
/-- a static of Throwable that holds a reference or null, at a cell outside A -/
def fr_zf (n d : String) (A : Nat → Prop) (U : State) (H : Heap) : Prop := ∃ (c : ClassId) (k : Class) (i : Nat) (f : Field) (a : Nat) (cell : Cell) (v : Value),
  U.vm.findClass Bundle.tN = some c ∧ U.fieldFound? Bundle.tN n d = some (c, k, i, f) ∧ f.isStatic = true ∧ k.statics = some a ∧ H[a]? = some cell ∧ cell.vm.isStatics = true ∧ cell.cls = c ∧ f.slot < cell.slots.size ∧ k.staticTypes[f.slot]? = some f.type ∧ cell.slots[f.slot]? = some v ∧ (v = .null ∨ ∃ t, v = .ref t) ∧ ¬ A a
theorem fr_zf.moved {n d : String} {A : Nat → Prop} {u U : State} {H : Heap} (hvm : u.vm.Alike U.vm) (h : fr_zf n d A u H) : fr_zf n d A U H := by
  obtain ⟨c, k, i, f, a, cell, v, h1, h2, h3, h4, h5, h6, h7, h8, h9, h10⟩ := h
  obtain ⟨k', hi', he⟩ := State.fieldFound?_setVm hvm h2
  exact ⟨c, k', i, f, a, cell, v, by rw [hvm.findClass]; exact h1, hi', h3, by rw [he]; exact h4, h5, h6, h7, h8, by rw [he]; exact h9, h10⟩
theorem fr_zf.kept {n d : String} {A : Nat → Prop} {U : State} {H H1 : Heap} (h : fr_zf n d A U H) (hq : ∀ a : Nat, a < H.size → ¬ A a → H1[a]? = H[a]?) : fr_zf n d A U H1 := by
  obtain ⟨c, k, i, f, a, cell, v, h1, h2, h3, h4, h5, h6, h7, h8, h9, h10, h11, h12⟩ := h
  exact ⟨c, k, i, f, a, cell, v, h1, h2, h3, h4, by rw [hq a (Array.getElem?_eq_some_iff.mp h5).1 h12]; exact h5, h6, h7, h8, h9, h10, h11, h12⟩
theorem fr_zf.narrow {n d : String} {A B : Nat → Prop} {U : State} {H : Heap} (h : fr_zf n d A U H) (hAB : ∀ q, B q → A q) : fr_zf n d B U H := by
  obtain ⟨c, k, i, f, a, cell, v, h1, h2, h3, h4, h5, h6, h7, h8, h9, h10, h11, h12⟩ := h
  exact ⟨c, k, i, f, a, cell, v, h1, h2, h3, h4, h5, h6, h7, h8, h9, h10, h11, fun z => h12 (hAB a z)⟩
theorem fr_zf.of {args : Array Value} {s : State} {n d : String} {A : Nat → Prop} (hl : (Cond.laysStatic Bundle.tN n d).before args s = true) (hr : (Cond.isRef (.static Bundle.tN n d)).before args s = true) (hA : ∀ a : Nat, a < s.heap.size → ¬ A a) : fr_zf n d A s s.heap := by
  obtain ⟨c, k, i, f, a, cell, hc, hi, hst, ha, hcell, hs, hcls, hlt, hty⟩ := Cond.laysStatic_spec hl
  cases hv : (Term.static Bundle.tN n d).eval args s none [] s with
  | none => simp [Cond.before, Cond.holds, Cond.value, hv] at hr
  | some v =>
    obtain ⟨hst', a', cell', ha', hcell', -, hslot⟩ := Term.static_spec hi hv
    cases ha.symm.trans ha'
    cases hcell.symm.trans hcell'
    simp only [Cond.before, Cond.holds, Cond.value, hv] at hr
    refine ⟨c, k, i, f, a, cell, v, hc, hi, hst, ha, hcell, hs, hcls, hlt, hty, hslot, ?_, hA a (Array.getElem?_eq_some_iff.mp hcell).1⟩
    cases v with
    | null => exact Or.inl rfl
    | ref t => exact Or.inr ⟨t, rfl⟩
    | _ => simp at hr
theorem fr_zf.lays {args : Array Value} {s : State} {n d : String} {A : Nat → Prop} (h : fr_zf n d A s s.heap) : (Cond.laysStatic Bundle.tN n d).before args s = true := by
  obtain ⟨c, k, i, f, a, cell, v, h1, h2, h3, h4, h5, h6, h7, h8, h9, h10, h11, h12⟩ := h
  simp [Cond.before, Cond.holds, Cond.value, h1, h2, h3, h4, h5, h6, h7, h8, h9]
theorem fr_zf.isRef {args : Array Value} {s : State} {n d : String} {A : Nat → Prop} (h : fr_zf n d A s s.heap) : (Cond.isRef (.static Bundle.tN n d)).before args s = true := by
  obtain ⟨c, k, i, f, a, cell, v, h1, h2, h3, h4, h5, h6, h7, h8, h9, h10, h11, h12⟩ := h
  rcases h11 with rfl | ⟨t, rfl⟩ <;> simp [Cond.before, Cond.holds, Cond.value, Term.eval, State.fieldNamed?, h2, h3, h4, h5, h6, h10]
end FRZ
/-- what every contract asks of Throwable's statics: no method of ours writes them -/
def fr_zz (A : Nat → Prop) (U : State) (H : Heap) : Prop := fr_zf "UNASSIGNED_STACK" Bundle.steD A U H ∧ fr_zf "SUPPRESSED_SENTINEL" Bundle.listD A U H
section FRB
variable {p : Program} {l : Launch} {e : Env} {R : Room} {s : State} {m : MethodId} {args : Array Value} {below : List Frame} {meth : Method} {c : Code} {H : Heap} {locs : List Loc} {cells slots : Nat} {Q : State → Prop}
variable {D : va_G} {cl : List vw_C} {tys : List (ClassId × FieldType)} {A : Nat → Prop} {nw tbl : List Cond}
/-- what a contract asks of its start -/
def fr_Pre (D : va_G) (cl : List vw_C) (tys : List (ClassId × FieldType)) (nw : List Cond) (w : va_W) (sz : Nat) (U : State) : Prop :=
  U.heap.size = sz ∧ va_P D cl w U.heap ∧ va_K D cl tys U ∧ va_D (fun _ => True) w ∧ (∀ q ∈ nw, fr_nest q = true ∧ va_Nw q U) ∧ fr_zz (va_A w sz) U U.heap
/-- what it says of its end -/
def fr_End (D : va_G) (cl : List vw_C) (tys : List (ClassId × FieldType)) (w : va_W) (A : Nat → Prop) (_ : Unit) (t : State) : Prop := va_P D cl w t.heap ∧ va_K D cl tys t ∧ va_D A w
def fr_Qi (D : va_G) (cl : List vw_C) (tys : List (ClassId × FieldType)) (r : Int32) (w : va_W) (A : Nat → Prop) : Array Value → State → Outcome → State → Prop := va_Qi (fun r' (_ : Unit) => r' = r) (fr_End D cl tys w A) A
def fr_Qv (D : va_G) (cl : List vw_C) (tys : List (ClassId × FieldType)) (w : va_W) (A : Nat → Prop) : Array Value → State → Outcome → State → Prop := va_Qv (fun (_ : Unit) => True) (fr_End D cl tys w A) A
def fr_Mi (l : Launch) (y : MethodName) (ws : List Cond) (rm : Room) (D : va_G) (cl : List vw_C) (tys : List (ClassId × FieldType)) (nw : List Cond) (As : List Value) (w : va_W) (r : Int32) (w' : va_W) (mc ms : Nat) : Prop :=
  ∀ sz : Nat, Met l y ws rm (va_Pc As (fr_Pre D cl tys nw w sz)) (fr_Qi D cl tys r w' (va_A w sz)) mc ms (va_A w sz)
def fr_Mv (l : Launch) (y : MethodName) (ws : List Cond) (rm : Room) (D : va_G) (cl : List vw_C) (tys : List (ClassId × FieldType)) (nw : List Cond) (As : List Value) (w : va_W) (w' : va_W) (mc ms : Nat) : Prop :=
  ∀ sz : Nat, Met l y ws rm (va_Pc As (fr_Pre D cl tys nw w sz)) (fr_Qv D cl tys w' (va_A w sz)) mc ms (va_A w sz)
theorem fr_blind {As : List Value} {w : va_W} {sz : Nat} : FrameBlind (va_Pc As (fr_Pre D cl tys nw w sz)) := fun a U g mk q => by
  obtain ⟨q0, q1, qP, qK, qD, qN, qZ⟩ := q
  exact ⟨q0, q1, qP, va_K.moved (u := U) (U := U.calling g mk a) (Vm.Alike.refl U.vm) qK, qD, fun z hz => ⟨(qN z hz).1, fr_nest_warm (qN z hz).1 (s := U) (U := U.calling g mk a) (State.WarmedH.refl U) (qN z hz).2⟩,
    qZ.1.moved (u := U) (U := U.calling g mk a) (Vm.Alike.refl U.vm), qZ.2.moved (u := U) (U := U.calling g mk a) (Vm.Alike.refl U.vm)⟩
/-- the facts that stand through a method's walk -/
def fr_Cx (p : Program) (s : State) (m : MethodId) (args : Array Value) (meth : Method) (c : Code) (own : String) (cc : ByteArray) (maxL : Nat) (ret : Option FieldType) (hh : List ExceptionTableEntry) (tbl nw : List Cond) (D : va_G) (cl : List vw_C) (tys : List (ClassId × FieldType)) (A : Nat → Prop) : Prop :=
  p.tables.exec = Jvm.exec ∧ c.code = cc ∧ c.maxLocals = maxL ∧ s.vm.findClass own = some m.cls ∧ (∀ w ∈ tbl, w.before args s = true) ∧ va_K D cl tys s ∧ meth.locks = false ∧ meth.sig.returnType = ret ∧ (∀ q : Nat, s.heap.size ≤ q → A q) ∧ (∀ q ∈ nw, fr_nest q = true ∧ va_Nw q s) ∧ fr_zz A s s.heap ∧ c.exceptionTable.toList = hh
theorem fr_Mi.of {y : MethodName} {rm : Room} {As : List Value} {w : va_W} {r : Int32} {w' : va_W} {mc ms : Nat} {cc : ByteArray} {maxL : Nat} {ret : Option FieldType} (hy : plainName y.cls = true) (hnL : (lg_sl As).length ≤ maxL)
    (body : ∀ (p : Program) (e : Env) (s : State) (m : MethodId) (below : List Frame) (meth : Method) (c : Code) (A : Nat → Prop) (H : Heap) (locs : List Loc) (ls : Array Slot), fr_Cx p s m As.toArray meth c y.cls cc maxL ret [] tbl nw D cl tys A → va_P D cl w H → va_D A w → va_S A s.heap H locs → lv_has ls maxL (lv_args 0 As) →
      W p l e rm s m As.toArray below meth c H locs 0 0 (MQ below (fr_Qi D cl tys r w' A) As.toArray s mc ms A) (F0 m 0 ls [])) : fr_Mi l y (.code y cc maxL ret :: tbl) rm D cl tys nw As w r w' mc ms := by
  intro sz
  refine Met.ofW (cc := cc) (maxL := maxL) (ret := ret) hy rfl ?_
  intro p e s m args below meth c s₁ B hml hv
  obtain ⟨rfl, hsz, hP, hK, hD0, hN, hZ⟩ := hv
  subst hsz
  have hts := atoms_spec (ws := .code y cc maxL ret :: tbl) B.pre
  rw [lg_entry_eq]
  exact body p e s m below meth c (va_A w s.heap.size) s.heap [] _ ⟨B.exec, B.bytes, hml, findClass_of_methodNamed B.named, fun z hz => hts z (List.mem_cons_of_mem _ hz), hK, B.notSynchronized, B.returns, fun q h => Or.inr h, hN, hZ, fr_noHandlers (B.noHandlers (hts _ List.mem_cons_self))⟩ hP hD0.self va_S.rf (lv_entry As hnL)
theorem fr_Mv.of {y : MethodName} {rm : Room} {As : List Value} {w : va_W} {w' : va_W} {mc ms : Nat} {cc : ByteArray} {maxL : Nat} {ret : Option FieldType} (hy : plainName y.cls = true) (hnL : (lg_sl As).length ≤ maxL)
    (body : ∀ (p : Program) (e : Env) (s : State) (m : MethodId) (below : List Frame) (meth : Method) (c : Code) (A : Nat → Prop) (H : Heap) (locs : List Loc) (ls : Array Slot), fr_Cx p s m As.toArray meth c y.cls cc maxL ret [] tbl nw D cl tys A → meth.name = y.name → va_P D cl w H → va_D A w → va_S A s.heap H locs → lv_has ls maxL (lv_args 0 As) →
      W p l e rm s m As.toArray below meth c H locs 0 0 (MQ below (fr_Qv D cl tys w' A) As.toArray s mc ms A) (F0 m 0 ls [])) : fr_Mv l y (.code y cc maxL ret :: tbl) rm D cl tys nw As w w' mc ms := by
  intro sz
  refine Met.ofW (cc := cc) (maxL := maxL) (ret := ret) hy rfl ?_
  intro p e s m args below meth c s₁ B hml hv
  obtain ⟨rfl, hsz, hP, hK, hD0, hN, hZ⟩ := hv
  subst hsz
  have hts := atoms_spec (ws := .code y cc maxL ret :: tbl) B.pre
  rw [lg_entry_eq]
  exact body p e s m below meth c (va_A w s.heap.size) s.heap [] _ ⟨B.exec, B.bytes, hml, findClass_of_methodNamed B.named, fun z hz => hts z (List.mem_cons_of_mem _ hz), hK, B.notSynchronized, B.returns, fun q h => Or.inr h, hN, hZ, fr_noHandlers (B.noHandlers (hts _ List.mem_cons_self))⟩ (name_of_methodNamed B.named B.method).1 hP hD0.self va_S.rf (lv_entry As hnL)
variable {own : String} {cc : ByteArray} {nL pc : Nat} {ret : Option FieldType} {hh : List ExceptionTableEntry} {ls : Array Slot} {w w' : va_W} {st0 rest : List Value}
theorem fr_iret {v r : Int32} (C : fr_Cx p s m args meth c own cc nL (some .int) hh tbl nw D cl tys A) (hP : va_P D cl w H) (hD : va_D A w) (hS : va_S A s.heap H locs) (hv : v = r) (hdg : decode cc pc = .ok (.ireturn, 1)) :
    W p l e R s m args below meth c H locs cells slots (MQ below (fr_Qi D cl tys r w A) args s cells slots A) (F0 m pc ls [.int v]) := by
  obtain ⟨hx, hb, hml, hown, ht, hK, hlocks, hr, hA, hN, hZ, hT⟩ := C
  exact W.iret (v := v) hx hb hr (fun t ht hW => ⟨⟨v, (), rfl, hv, by rw [ht]; exact hP, va_K.moved hW.alike hK, hD⟩, hS.F ht⟩) hS.2.2 hdg hlocks
theorem fr_zret {v r : Int32} (C : fr_Cx p s m args meth c own cc nL (some .boolean) hh tbl nw D cl tys A) (hP : va_P D cl w H) (hD : va_D A w) (hS : va_S A s.heap H locs) (hv : v = r) (hn : v = 0 ∨ v = 1) (hdg : decode cc pc = .ok (.ireturn, 1)) :
    W p l e R s m args below meth c H locs cells slots (MQ below (fr_Qi D cl tys r w A) args s cells slots A) (F0 m pc ls [.int v]) := by
  obtain ⟨hx, hb, hml, hown, ht, hK, hlocks, hr, hA, hN, hZ, hT⟩ := C
  exact W.zret (v := v) hx hb hr (by rcases hn with rfl | rfl <;> rfl) (fun t ht hW => ⟨⟨v, (), rfl, hv, by rw [ht]; exact hP, va_K.moved hW.alike hK, hD⟩, hS.F ht⟩) hS.2.2 hdg hlocks
theorem fr_vret (C : fr_Cx p s m args meth c own cc nL none hh tbl nw D cl tys A) (hP : va_P D cl w H) (hD : va_D A w) (hS : va_S A s.heap H locs) (hdg : decode cc pc = .ok (.return_, 1)) :
    W p l e R s m args below meth c H locs cells slots (MQ below (fr_Qv D cl tys w A) args s cells slots A) (F0 m pc ls []) := by
  obtain ⟨hx, hb, hml, hown, ht, hK, hlocks, hr, hA, hN, hZ, hT⟩ := C
  exact W.vret hx hb hr (fun t ht hW => ⟨⟨(), rfl, trivial, by rw [ht]; exact hP, va_K.moved hW.alike hK, hD⟩, hS.F ht⟩) hS.2.2 hdg hlocks
theorem fr_free (hA : ∀ q : Nat, s.heap.size ≤ q → A q) (hD : va_D A w) (hS : va_S A s.heap H locs) : ∀ q, va_A w H.size q → A q := by
  intro q h
  rcases h with ⟨k, e0, h⟩ | h
  · exact hD.2 k _ h
  · exact hA q (Nat.le_trans hS.1 h)
variable {y : MethodName} {bytes : ByteArray} {maxL n index mc ms : Nat} {rty : Option FieldType} {ws : List Cond} {rm : Room} {C0 : String} {b : Addr} {As : List Value} {r : Int32} {host : String}
/-- the start of a callee's contract, at the caller's heap -/
theorem fr_pre (C : fr_Cx p s m args meth c own cc nL ret hh tbl nw D cl tys A) (hP : va_P D cl w H) (hD : va_D A w) (hS : va_S A s.heap H locs) : ∀ U : State, U.heap = H → s.WarmedH U.vm → va_Pc As (fr_Pre D cl tys nw w H.size) As.toArray U := by
  obtain ⟨hx, hb, hml, hown, ht, hK, hlocks, hr, hA, hN, hZ, hT⟩ := C
  exact fun U hU hW => ⟨rfl, by rw [hU], by rw [hU]; exact hP, va_K.moved hW.alike hK, hD.weaken (fun _ _ _ _ => trivial), fun q hq => ⟨(hN q hq).1, fr_nest_warm (hN q hq).1 hW (hN q hq).2⟩,
    by rw [hU]; exact ⟨((hZ.1.kept hS.2.1).narrow (fr_free hA hD hS)).moved hW.alike, ((hZ.2.kept hS.2.1).narrow (fr_free hA hD hS)).moved hW.alike⟩⟩
theorem fr_backi (C : fr_Cx p s m args meth c own cc nL ret hh tbl nw D cl tys A) (hD : va_D A w) (hS : va_S A s.heap H locs)
    (hr : va_Run p l e R s m args below meth c H locs cells slots mc ms (F0 m pc ls st0) rest (fr_Qi D cl tys r w' (va_A w H.size) As.toArray) (va_A w H.size))
    (kk : ∀ (H : Heap) (locs : List Loc), va_P D cl w' H → va_D A w' → va_S A s.heap H locs → W p l e R s m args below meth c H locs (cells + mc) (slots + ms) Q (F0 m (pc + 3) ls (.int r :: rest))) : W p l e R s m args below meth c H locs cells slots Q (F0 m pc ls st0) := by
  have hFc := fr_free C.2.2.2.2.2.2.2.2.1 hD hS
  refine va_calli (post := fun r' (_ : Unit) => r' = r) (B := fr_End D cl tys w' (va_A w H.size)) (A1 := va_A w H.size) hr hS (fun q _ h => hFc q h) hFc (fun r' u t H1 locs1 ht hvm hw hB hz hk hS1 => ?_)
  obtain ⟨hP1, hK1, hD1⟩ := hB
  rw [ht] at hP1
  subst hw
  exact kk H1 locs1 hP1 (hD1.weaken (fun _ _ _ h => hFc _ h)) hS1
theorem fr_backv (C : fr_Cx p s m args meth c own cc nL ret hh tbl nw D cl tys A) (hD : va_D A w) (hS : va_S A s.heap H locs)
    (hr : va_Run p l e R s m args below meth c H locs cells slots mc ms (F0 m pc ls st0) rest (fr_Qv D cl tys w' (va_A w H.size) As.toArray) (va_A w H.size))
    (kk : ∀ (H : Heap) (locs : List Loc), va_P D cl w' H → va_D A w' → va_S A s.heap H locs → W p l e R s m args below meth c H locs (cells + mc) (slots + ms) Q (F0 m (pc + 3) ls rest)) : W p l e R s m args below meth c H locs cells slots Q (F0 m pc ls st0) := by
  have hFc := fr_free C.2.2.2.2.2.2.2.2.1 hD hS
  refine va_callv (post := fun (_ : Unit) => True) (B := fr_End D cl tys w' (va_A w H.size)) (A1 := va_A w H.size) hr hS (fun q _ h => hFc q h) hFc (fun u t H1 locs1 ht hvm hw hB hz hk hS1 => ?_)
  obtain ⟨hP1, hK1, hD1⟩ := hB
  rw [ht] at hP1
  exact kk H1 locs1 hP1 (hD1.weaken (fun _ _ _ h => hFc _ h)) hS1
theorem fr_callVi (C : fr_Cx p s m args meth c own cc nL ret hh tbl nw D cl tys A) (hP : va_P D cl w H) (hD : va_D A w) (hS : va_S A s.heap H locs) (hM : fr_Mi l y ws rm D cl tys nw (.ref b :: As) w r w' mc ms) (cw : CallW R s args own C0 index y bytes maxL rty ws rm mc ms n)
    (hrecv : ∃ cellB : Cell, H[b]? = some cellB ∧ cellB.vm.isStatics = false ∧ s.vm.findClass C0 = some cellB.cls) (hn : As.length = n) (hsz : ls.size = nL) (hW : (rest.map fun v => v.category).sum ≤ 8) (hdg : decode cc pc = .ok (.invokevirtual index, 3)) (hf : cells + mc ≤ R.cells ∧ slots + ms ≤ R.slots)
    (kk : ∀ (H : Heap) (locs : List Loc), va_P D cl w' H → va_D A w' → va_S A s.heap H locs → W p l e R s m args below meth c H locs (cells + mc) (slots + ms) Q (F0 m (pc + 3) ls (.int r :: rest))) : W p l e R s m args below meth c H locs cells slots Q (F0 m pc ls (As.reverse ++ .ref b :: rest)) :=
  fr_backi C hD hS (va_runV (As := As) (rest := rest) ⟨C.1, C.2.1, C.2.2.1, C.2.2.2.1, C.2.2.2.2.1⟩ (hM H.size) cw ⟨fr_blind, hrecv, fr_pre C hP hD hS⟩ rfl hn hsz rfl (lv_room hW) hdg hf) kk
theorem fr_callVv (C : fr_Cx p s m args meth c own cc nL ret hh tbl nw D cl tys A) (hP : va_P D cl w H) (hD : va_D A w) (hS : va_S A s.heap H locs) (hM : fr_Mv l y ws rm D cl tys nw (.ref b :: As) w w' mc ms) (cw : CallW R s args own C0 index y bytes maxL rty ws rm mc ms n)
    (hrecv : ∃ cellB : Cell, H[b]? = some cellB ∧ cellB.vm.isStatics = false ∧ s.vm.findClass C0 = some cellB.cls) (hn : As.length = n) (hsz : ls.size = nL) (hW : (rest.map fun v => v.category).sum ≤ 8) (hdg : decode cc pc = .ok (.invokevirtual index, 3)) (hf : cells + mc ≤ R.cells ∧ slots + ms ≤ R.slots)
    (kk : ∀ (H : Heap) (locs : List Loc), va_P D cl w' H → va_D A w' → va_S A s.heap H locs → W p l e R s m args below meth c H locs (cells + mc) (slots + ms) Q (F0 m (pc + 3) ls rest)) : W p l e R s m args below meth c H locs cells slots Q (F0 m pc ls (As.reverse ++ .ref b :: rest)) :=
  fr_backv C hD hS (va_runV (As := As) (rest := rest) ⟨C.1, C.2.1, C.2.2.1, C.2.2.2.1, C.2.2.2.2.1⟩ (hM H.size) cw ⟨fr_blind, hrecv, fr_pre C hP hD hS⟩ rfl hn hsz rfl (lv_room hW) hdg hf) kk
theorem fr_callSi (C : fr_Cx p s m args meth c own cc nL ret hh tbl nw D cl tys A) (hP : va_P D cl w H) (hD : va_D A w) (hS : va_S A s.heap H locs) (hM : fr_Mi l y ws rm D cl tys nw As w r w' mc ms) (cw : CallB R s args own index y bytes maxL rty ws rm mc ms n ∧ (Cond.static y).before args s = true)
    (hn : As.length = n) (hsz : ls.size = nL) (hW : (rest.map fun v => v.category).sum ≤ 8) (hdg : decode cc pc = .ok (.invokestatic index, 3)) (hf : cells + mc ≤ R.cells ∧ slots + ms ≤ R.slots)
    (kk : ∀ (H : Heap) (locs : List Loc), va_P D cl w' H → va_D A w' → va_S A s.heap H locs → W p l e R s m args below meth c H locs (cells + mc) (slots + ms) Q (F0 m (pc + 3) ls (.int r :: rest))) : W p l e R s m args below meth c H locs cells slots Q (F0 m pc ls (As.reverse ++ rest)) :=
  fr_backi C hD hS (va_runS (As := As) (rest := rest) ⟨C.1, C.2.1, C.2.2.1, C.2.2.2.1, C.2.2.2.2.1⟩ (hM H.size) cw ⟨fr_blind, fr_pre C hP hD hS⟩ rfl hn hsz rfl (lv_room hW) hdg hf) kk
theorem fr_callSv (C : fr_Cx p s m args meth c own cc nL ret hh tbl nw D cl tys A) (hP : va_P D cl w H) (hD : va_D A w) (hS : va_S A s.heap H locs) (hM : fr_Mv l y ws rm D cl tys nw As w w' mc ms) (cw : CallB R s args own index y bytes maxL rty ws rm mc ms n ∧ (Cond.static y).before args s = true)
    (hn : As.length = n) (hsz : ls.size = nL) (hW : (rest.map fun v => v.category).sum ≤ 8) (hdg : decode cc pc = .ok (.invokestatic index, 3)) (hf : cells + mc ≤ R.cells ∧ slots + ms ≤ R.slots)
    (kk : ∀ (H : Heap) (locs : List Loc), va_P D cl w' H → va_D A w' → va_S A s.heap H locs → W p l e R s m args below meth c H locs (cells + mc) (slots + ms) Q (F0 m (pc + 3) ls rest)) : W p l e R s m args below meth c H locs cells slots Q (F0 m pc ls (As.reverse ++ rest)) :=
  fr_backv C hD hS (va_runS (As := As) (rest := rest) ⟨C.1, C.2.1, C.2.2.1, C.2.2.2.1, C.2.2.2.2.1⟩ (hM H.size) cw ⟨fr_blind, fr_pre C hP hD hS⟩ rfl hn hsz rfl (lv_room hW) hdg hf) kk
theorem fr_callSNi (C : fr_Cx p s m args meth c own cc nL ret hh tbl nw D cl tys A) (hP : va_P D cl w H) (hD : va_D A w) (hS : va_S A s.heap H locs) (hM : fr_Mi l y ws rm D cl tys nw As w r w' mc ms) (cw : va_CN R s args own index y host bytes maxL rty ws rm mc ms n ∧ (Cond.static y).before args s = true ∧ True)
    (hn : As.length = n) (hsz : ls.size = nL) (hW : (rest.map fun v => v.category).sum ≤ 8) (hdg : decode cc pc = .ok (.invokestatic index, 3)) (hf : cells + mc ≤ R.cells ∧ slots + ms ≤ R.slots)
    (kk : ∀ (H : Heap) (locs : List Loc), va_P D cl w' H → va_D A w' → va_S A s.heap H locs → W p l e R s m args below meth c H locs (cells + mc) (slots + ms) Q (F0 m (pc + 3) ls (.int r :: rest))) : W p l e R s m args below meth c H locs cells slots Q (F0 m pc ls (As.reverse ++ rest)) :=
  fr_backi C hD hS (va_runSN (As := As) (rest := rest) ⟨C.1, C.2.1, C.2.2.1, C.2.2.2.1, C.2.2.2.2.1⟩ (hM H.size) cw ⟨fr_blind, fr_pre C hP hD hS⟩ rfl hn hsz rfl (lv_room hW) hdg hf) kk
theorem fr_callINv (C : fr_Cx p s m args meth c own cc nL ret hh tbl nw D cl tys A) (hP : va_P D cl w H) (hD : va_D A w) (hS : va_S A s.heap H locs) (hM : fr_Mv l y ws rm D cl tys nw (.ref b :: As) w w' mc ms) (cw : va_CN R s args own index y host bytes maxL none ws rm mc ms n ∧ y.name = "<init>" ∧ (Cond.instanceMethod y).before args s = true)
    (hn : As.length = n) (hsz : ls.size = nL) (hW : (rest.map fun v => v.category).sum ≤ 8) (hdg : decode cc pc = .ok (.invokespecial index, 3)) (hf : cells + mc ≤ R.cells ∧ slots + ms ≤ R.slots)
    (kk : ∀ (H : Heap) (locs : List Loc), va_P D cl w' H → va_D A w' → va_S A s.heap H locs → W p l e R s m args below meth c H locs (cells + mc) (slots + ms) Q (F0 m (pc + 3) ls rest)) : W p l e R s m args below meth c H locs cells slots Q (F0 m pc ls (As.reverse ++ .ref b :: rest)) :=
  fr_backv C hD hS (va_runIN (As := As) (rest := rest) ⟨C.1, C.2.1, C.2.2.1, C.2.2.2.1, C.2.2.2.2.1⟩ (hM H.size) cw ⟨fr_blind, fr_pre C hP hD hS⟩ rfl hn hsz rfl (lv_room hW) hdg hf) kk
theorem fr_callIv (C : fr_Cx p s m args meth c own cc nL ret hh tbl nw D cl tys A) (hP : va_P D cl w H) (hD : va_D A w) (hS : va_S A s.heap H locs) (hM : fr_Mv l y ws rm D cl tys nw (.ref b :: As) w w' mc ms) (cw : CallB R s args own index y bytes maxL none ws rm mc ms n ∧ y.name = "<init>" ∧ (Cond.instanceMethod y).before args s = true)
    (hn : As.length = n) (hsz : ls.size = nL) (hW : (rest.map fun v => v.category).sum ≤ 8) (hdg : decode cc pc = .ok (.invokespecial index, 3)) (hf : cells + mc ≤ R.cells ∧ slots + ms ≤ R.slots)
    (kk : ∀ (H : Heap) (locs : List Loc), va_P D cl w' H → va_D A w' → va_S A s.heap H locs → W p l e R s m args below meth c H locs (cells + mc) (slots + ms) Q (F0 m (pc + 3) ls rest)) : W p l e R s m args below meth c H locs cells slots Q (F0 m pc ls (As.reverse ++ .ref b :: rest)) :=
  fr_backv C hD hS (va_runI (As := As) (rest := rest) ⟨C.1, C.2.1, C.2.2.1, C.2.2.2.1, C.2.2.2.2.1⟩ (hM H.size) cw ⟨fr_blind, fr_pre C hP hD hS⟩ rfl hn hsz rfl (lv_room hW) hdg hf) kk
end FRB
end
section
/-! THE CLASS's WORLD. Its numbers are one function f: row 0: 0 unitCount, 1 ruleCount, 2 askedCount, 3 verdictCount, 4 refusedCount, 5 text.length; rows 1, 2, 3: a unit's kind, weight, marks; 4, 5, 6, 7: a rule's row, a, b, refusals; 8 the order, 9 what was asked, 10 the signs.
Its addresses are one function al: 0 the object, 1 units, 2 rules, 3 order, 4 asked, 5 the text, 6 its signs, 7 + i unit i, 17 + i rule i. ka: the array classes' numbers: 0 of units, 1 of rules, 2 of ints, 3 of longs. -/
def fr_up (f : Nat → Nat → Int32) (r k : Nat) (v : Int32) : Nat → Nat → Int32 := fun r' k' => if r' = r ∧ k' = k then v else f r' k'
def fr_uc (al : Nat → Nat) (f : Nat → Nat → Int32) (i : Nat) : Nat × va_E := (al (7 + i), .inr (1, [.int (f 1 i), .int (f 2 i), .int (f 3 i)]))
def fr_rc (al : Nat → Nat) (f : Nat → Nat → Int32) (i : Nat) : Nat × va_E := (al (17 + i), .inr (2, [.int (f 4 i), .int (f 5 i), .int (f 6 i), .int (f 7 i)]))
def fr_oc (al : Nat → Nat) (f : Nat → Nat → Int32) : Nat × va_E := (al 0, .inr (0, [.ref (al 1), .int (f 0 0), .ref (al 2), .int (f 0 1), .ref (al 3), .ref (al 4), .int (f 0 2), .ref (al 5), .int (f 0 3), .int (f 0 4)]))
def fr_tc (al : Nat → Nat) (f : Nat → Nat → Int32) : Nat × va_E := (al 5, .inr (3, [.ref (al 6), .int (f 0 5)]))
def fr_ia (c : ClassId) (n a : Nat) (f : Nat → Int32) : Nat × va_E := (a, .inl (c, n, .inl f))
def fr_qa (c : ClassId) (n a : Nat) (g : Nat → Option Nat) : Nat × va_E := (a, .inl (c, n, .inr (.inr (.inr (.inr g)))))
def fr_cw (ka : Nat → ClassId) (al : Nat → Nat) (f : Nat → Nat → Int32) (Z : va_W) : va_W :=
  fr_oc al f :: fr_qa (ka 0) 10 (al 1) (fun i => some (al (7 + i))) :: fr_qa (ka 1) 12 (al 2) (fun i => some (al (17 + i))) :: fr_ia (ka 2) 12 (al 3) (fun j => f 8 j) :: fr_ia (ka 2) 12 (al 4) (fun j => f 9 j) :: fr_tc al f :: fr_ia (ka 2) 200 (al 6) (fun j => f 10 j) ::
    ((List.range 10).map (fr_uc al f) ++ ((List.range 12).map (fr_rc al f) ++ Z))
theorem fr_cw_u {ka : Nat → ClassId} {al : Nat → Nat} {f : Nat → Nat → Int32} {Z : va_W} {i : Nat} (h : i < 10) : (fr_cw ka al f Z)[7 + i]? = some (fr_uc al f i) := by
  rw [show 7 + i = i + 7 from Nat.add_comm _ _]
  show ((List.range 10).map (fr_uc al f) ++ ((List.range 12).map (fr_rc al f) ++ Z))[i]? = _
  rw [List.getElem?_append_left (by simpa using h)]
  simp [List.getElem?_range, h]
theorem fr_cw_r {ka : Nat → ClassId} {al : Nat → Nat} {f : Nat → Nat → Int32} {Z : va_W} {i : Nat} (h : i < 12) : (fr_cw ka al f Z)[17 + i]? = some (fr_rc al f i) := by
  rw [show 17 + i = (i + 10) + 7 from by omega]
  show ((List.range 10).map (fr_uc al f) ++ ((List.range 12).map (fr_rc al f) ++ Z))[i + 10]? = _
  rw [List.getElem?_append_right (by simp), List.getElem?_append_left (by simpa using h)]
  simp [List.getElem?_range, h]
/-- a cell of a row of cells is written: the row of the new numbers -/
theorem fr_map_set {β : Type} (F G : Nat → β) (n i : Nat) (h : i < n) (hne : ∀ j, j ≠ i → F j = G j) : ((List.range n).map F).set i (G i) = (List.range n).map G := by
  apply List.ext_getElem?
  intro j
  by_cases hj : j = i
  · subst hj
    rw [List.getElem?_set_self (by simpa using h)]
    simp [List.getElem?_range, h]
  · rw [List.getElem?_set_ne (Ne.symm hj)]
    simp only [List.getElem?_map]
    by_cases hl : j < n
    · simp [List.getElem?_range, hl, hne j hj]
    · simp [List.getElem?_range, hl]
theorem fr_up_s {f : Nat → Nat → Int32} {r k : Nat} {v : Int32} : fr_up f r k v r k = v := by simp [fr_up]
theorem fr_up_r {f : Nat → Nat → Int32} {r k r' k' : Nat} {v : Int32} (h : r' ≠ r) : fr_up f r k v r' k' = f r' k' := by simp [fr_up, h]
theorem fr_up_k {f : Nat → Nat → Int32} {r k r' k' : Nat} {v : Int32} (h : k' ≠ k) : fr_up f r k v r' k' = f r' k' := by simp [fr_up, h]
/-! NUMBERS -/
theorem fr_t1 {x y : Int32} (h : x < y) : x.toInt < y.toInt := Int32.lt_iff_toInt_lt.mp h
theorem fr_t2 {x y : Int32} (h : ¬ x < y) : y.toInt ≤ x.toInt := by rw [Int32.lt_iff_toInt_lt] at h; omega
theorem fr_t3 {x y : Int32} (h : x ≤ y) : x.toInt ≤ y.toInt := Int32.le_iff_toInt_le.mp h
theorem fr_t4 {x y : Int32} (h : ¬ x ≤ y) : y.toInt < x.toInt := by rw [Int32.le_iff_toInt_le] at h; omega
theorem fr_t5 {x y : Int32} (h : x = y) : x.toInt = y.toInt := by rw [h]
theorem fr_t6 {x y : Int32} (h : ¬ x = y) : x.toInt ≠ y.toInt := fun q => h (Int32.toInt_inj.mp q)
theorem fr_no {P : Prop} {Q : Prop} (h : P) (g : ¬ P) : Q := absurd h g
theorem fr_lt {x : Int32} {n : Nat} (h : vp_in x n) : x.toNatClampNeg < n := Nat.not_le.mp fun q => h (Or.inr q)
theorem fr_clamp {x : Int32} (h : 0 ≤ x.toInt) : (x.toNatClampNeg : Int) = x.toInt := Int.toNat_of_nonneg h
theorem fr_sub1 {x : Int32} (h : 1 ≤ x.toInt) : (x - 1).toInt = x.toInt - 1 := by
  have h1 := x.toInt_lt
  rw [Int32.toInt_sub, show (1 : Int32).toInt = 1 from rfl, Int.bmod_def]
  split <;> omega
theorem fr_add1 {x : Int32} (h0 : 0 ≤ x.toInt) (h : x.toInt < 2147483647) : (x + 1).toInt = x.toInt + 1 := by
  rw [Int32.toInt_add, show (1 : Int32).toInt = 1 from rfl, Int.bmod_def]
  split <;> omega
theorem fr_step {x B : Int32} {b : Int} {n : Nat} (hB : B.toInt = b) (c : ¬ B ≤ x) (h : 0 ≤ x.toInt ∧ x.toInt ≤ b ∧ b < x.toInt + ((n + 1 : Nat) : Int)) : 0 ≤ (x + 1).toInt ∧ (x + 1).toInt ≤ b ∧ b < (x + 1).toInt + (n : Int) := by
  have h1 := fr_t4 c
  have h2 := B.toInt_lt
  have h3 := fr_add1 (x := x) h.1 (by omega)
  omega
theorem fr_start {B : Int32} {k : Int} {n : Nat} (h : 0 ≤ B.toInt ∧ B.toInt ≤ k) (hk : k < (n : Int)) : 0 ≤ (0 : Int32).toInt ∧ (0 : Int32).toInt ≤ B.toInt ∧ B.toInt < (0 : Int32).toInt + (n : Int) := by
  have z : (0 : Int32).toInt = 0 := rfl
  omega
/-- the order's numbers are rules' numbers -/
def fr_ord (f : Nat → Nat → Int32) : Prop := ∀ k : Nat, (k : Int) < (f 0 1).toInt → 1 ≤ (f 8 k).toInt ∧ (f 8 k).toInt ≤ (f 0 1).toInt
/-- at the head of the asking loop -/
def fr_lp (g : Nat → Nat → Int32) (x : Int32) (n : Nat) : Prop := (0 ≤ (g 0 1).toInt ∧ (g 0 1).toInt ≤ 12) ∧ fr_ord g ∧ 0 ≤ (g 0 2).toInt ∧ (g 0 2).toInt ≤ x.toInt ∧ 0 ≤ x.toInt ∧ x.toInt ≤ (g 0 1).toInt ∧ (g 0 1).toInt < x.toInt + (n : Int)
theorem fr_lp_0 {g : Nat → Nat → Int32} {x : Int32} {P : Prop} (h : fr_lp g x 0) : P := by
  obtain ⟨h1, h2, h3, h4, h5, h6, h7⟩ := h
  exact absurd h7 (by omega)
theorem fr_lp_ord {g : Nat → Nat → Int32} {x : Int32} {n : Nat} (h : fr_lp g x n) (c : ¬ g 0 1 ≤ x) : 1 ≤ (g 8 x.toNatClampNeg).toInt ∧ (g 8 x.toNatClampNeg).toInt ≤ (g 0 1).toInt := by
  obtain ⟨h1, h2, h3, h4, h5, h6, h7⟩ := h
  have h8 := fr_t4 c
  exact h2 _ (by rw [fr_clamp h5]; exact h8)
theorem fr_lp_in {f : Nat → Nat → Int32} (gR : 0 ≤ (f 0 1).toInt ∧ (f 0 1).toInt ≤ 12) (gO : fr_ord f) : fr_lp (fr_up f 0 2 0) 0 13 := by
  have z : (0 : Int32).toInt = 0 := rfl
  refine ⟨gR, gO, ?_, ?_, ?_, ?_, ?_⟩
  · show 0 ≤ (0 : Int32).toInt; omega
  · show (0 : Int32).toInt ≤ _; omega
  · omega
  · show _ ≤ (f 0 1).toInt; omega
  · show (f 0 1).toInt < _; omega
theorem fr_lp_a {g : Nat → Nat → Int32} {x : Int32} {n : Nat} (h : fr_lp g x (n + 1)) (c : ¬ g 0 1 ≤ x) : fr_lp g (x + 1) n := by
  obtain ⟨h1, h2, h3, h4, h5, h6, h7⟩ := h
  have h8 := fr_t4 c
  have h9 := fr_add1 (x := x) h5 (by omega)
  exact ⟨h1, h2, h3, by omega, by omega, by omega, by omega⟩
theorem fr_lp_b {g : Nat → Nat → Int32} {x v : Int32} {n k : Nat} (h : fr_lp g x (n + 1)) (c : ¬ g 0 1 ≤ x) : fr_lp (fr_up (fr_up g 9 k v) 0 2 (g 0 2 + 1)) (x + 1) n := by
  obtain ⟨h1, h2, h3, h4, h5, h6, h7⟩ := h
  have h8 := fr_t4 c
  have h9 := fr_add1 (x := x) h5 (by omega)
  have h10 := fr_add1 (x := g 0 2) h3 (by omega)
  have e1 : fr_up (fr_up g 9 k v) 0 2 (g 0 2 + 1) 0 2 = g 0 2 + 1 := rfl
  have e2 : fr_up (fr_up g 9 k v) 0 2 (g 0 2 + 1) 0 1 = g 0 1 := rfl
  refine ⟨h1, h2, ?_, ?_, by omega, ?_, ?_⟩
  · rw [e1]; omega
  · rw [e1]; omega
  · rw [e2]; omega
  · rw [e2]; omega
def fr_row (f : Nat → Nat → Int32) (r : Nat) (h : Nat → Int32) : Nat → Nat → Int32 := fun r' k' => if r' = r then h k' else f r' k'
def fr_ro (g : Nat → Nat → Int32) : Prop := (0 ≤ (g 0 1).toInt ∧ (g 0 1).toInt ≤ 12) ∧ fr_ord g
/-- at the head of the loop over the marks -/
def fr_mk (x : Int32) (n : Nat) : Prop := (x = 1 ∧ 6 ≤ n) ∨ (x = 2 ∧ 5 ≤ n) ∨ (x = 4 ∧ 4 ≤ n) ∨ (x = 8 ∧ 3 ≤ n) ∨ (x = 16 ∧ 2 ≤ n) ∨ (x = 32 ∧ 1 ≤ n)
theorem fr_mk_0 {x : Int32} {P : Prop} (h : fr_mk x 0) : P := by
  rcases h with ⟨-, h⟩ | ⟨-, h⟩ | ⟨-, h⟩ | ⟨-, h⟩ | ⟨-, h⟩ | ⟨-, h⟩ <;> exact absurd h (by omega)
theorem fr_mk_b {x : Int32} {n : Nat} (h : fr_mk x (n + 1)) (c : ¬ 16 < x) : fr_mk (x <<< ((1 : Int32) &&& 31)) n := by
  rcases h with ⟨rfl, h⟩ | ⟨rfl, h⟩ | ⟨rfl, h⟩ | ⟨rfl, h⟩ | ⟨rfl, h⟩ | ⟨rfl, h⟩
  · exact Or.inr (Or.inl ⟨by decide, by omega⟩)
  · exact Or.inr (Or.inr (Or.inl ⟨by decide, by omega⟩))
  · exact Or.inr (Or.inr (Or.inr (Or.inl ⟨by decide, by omega⟩)))
  · exact Or.inr (Or.inr (Or.inr (Or.inr (Or.inl ⟨by decide, by omega⟩))))
  · exact Or.inr (Or.inr (Or.inr (Or.inr (Or.inr ⟨by decide, by omega⟩))))
  · exact absurd (by decide) c
/-- at the head of the loop over the lines -/
def fr_al (g : Nat → Nat → Int32) (x y : Int32) (n : Nat) : Prop := (0 ≤ (g 0 5).toInt ∧ (g 0 5).toInt ≤ 200) ∧ 0 ≤ (g 0 1).toInt ∧ (g 0 1).toInt + (x.toInt - y.toInt) ≤ 12 ∧ 0 ≤ y.toInt ∧ y.toInt ≤ x.toInt ∧ x.toInt < y.toInt + (n : Int)
theorem fr_al_0 {g : Nat → Nat → Int32} {x y : Int32} {P : Prop} (h : fr_al g x y 0) : P := by
  obtain ⟨-, -, -, -, h1, h2⟩ := h
  exact absurd h2 (by omega)
theorem fr_al_in {f : Nat → Nat → Int32} {x : Int32} (gT : 0 ≤ (f 0 5).toInt ∧ (f 0 5).toInt ≤ 200) (gR : 0 ≤ (f 0 1).toInt ∧ (f 0 1).toInt + x.toInt ≤ 12 ∧ 0 ≤ x.toInt) : fr_al f x 0 13 := by
  have z : (0 : Int32).toInt = 0 := rfl
  exact ⟨gT, gR.1, by omega, by omega, by omega, by omega⟩
theorem fr_al_r {g : Nat → Nat → Int32} {x y : Int32} {n : Nat} (h : fr_al g x y n) (c : ¬ x ≤ y) : 0 ≤ (g 0 1).toInt ∧ (g 0 1).toInt < 12 := by
  obtain ⟨-, h1, h2, h3, h4, h5⟩ := h
  have := fr_t4 c
  omega
end
section
/-! THROWS: a method that returns or throws; the making and throwing of an exception with a written text; its catching by the caller. -/
section FRR
variable {p : Program} {l : Launch} {e : Env} {R : Room} {s : State} {m : MethodId} {args : Array Value} {below : List Frame} {meth : Method} {c : Code} {T : State} {locs : List Loc} {cells slots : Nat}
theorem fr_sbn_base {x b : State} {fs : List Frame} {L : List Loc} {k n : Nat} (h : (x.setFrames fs).sameButNew b L k n) : x.sameButNew b L k n := by
  obtain ⟨h1, h2⟩ := h
  rw [State.setFrames_setFrames] at h1
  exact ⟨h1, h2⟩
/-- the walk stands at T as it would if the method had been entered at T's heap -/
theorem fr_rebase {R' : Room} (X : Stand p l e R s m args below meth c T locs cells slots) (hf : R'.frames ≤ R.frames) (hl : R'.locals ≤ R.locals) (hc : cells + R'.cells ≤ R.cells) (hs : slots + R'.slots ≤ R.slots) : Stand p l e R' (T.setFrames (.invoking m args :: below)) m args below meth c T [] 0 0 := by
  obtain ⟨g₀, hfr⟩ := X.frames_eq
  have hcur := State.cur_lt_of_frames hfr
  have hF : (T.setFrames (.invoking m args :: below)).frames = .invoking m args :: below := State.frames_setFrames _ hcur
  have hm : (T.setFrames (.invoking m args :: below)).vm.method? m = some meth := X.method'
  obtain ⟨t, ht, -⟩ := State.frames_cons hF
  obtain ⟨t0, ht0, -⟩ := State.frames_cons hfr
  refine ⟨X.admits, X.cas, X.clock, hF, ?_, ?_, hm, X.code, X.here, X.tail, State.WarmedH.refl (T.setFrames (.invoking m args :: below)), by rw [State.stackLimits_setFrames], by rw [State.stackBytes_setFrames], ?_⟩
  · have h := X.room
    have h1 := X.heapSize
    have h2 := X.used
    have h3 := X.book
    have h4 : (T.setFrames (.invoking m args :: below)).localsInUse = s.localsInUse := by
      rw [State.localsInUse_invoking X.frames X.method X.code, State.localsInUse_invoking hF hm X.code]
    have h5 : (T.setFrames (.invoking m args :: below)).me.stackBytes = s.me.stackBytes := by rw [State.stackBytes_setFrames]; exact X.bytes
    have h6 : e.platform.stackLimits (T.setFrames (.invoking m args :: below)).me = e.platform.stackLimits s.me := by rw [State.stackLimits_setFrames]; exact X.limits
    have h7 : (T.setFrames (.invoking m args :: below)).frames.length = s.frames.length := by rw [hF, X.frames]
    have h8 : (T.setFrames (.invoking m args :: below)).slotsTrue = true := h3
    have h9 : (T.setFrames (.invoking m args :: below)).heap.size = T.heap.size := rfl
    have h10 : (T.setFrames (.invoking m args :: below)).slotsUsed = T.slotsUsed := rfl
    simp only [State.hasRoom, Bool.and_eq_true, decide_eq_true_eq] at h ⊢
    rw [h4, h5, h6, h7, h9, h10]
    obtain ⟨⟨⟨⟨a1, a2, a3, a4, a5, a6⟩, a7⟩, a8⟩, a9⟩ := h
    exact ⟨⟨⟨⟨by omega, by omega, by omega, by omega, by omega, a6⟩, by omega⟩, by omega⟩, h8⟩
  · have h := X.hears
    have hw := X.warmed.alike
    have hmT : T.vm.method? m = some meth := X.method'
    cases below with
    | nil => simpa [State.hears, State.setFrames, hmT, X.method] using h
    | cons q r => cases q <;> simpa [State.hears, State.setFrames, hmT, X.method, State.code?_eq, hw.method?] using h
  · have h := (State.sameButNew.refl (T.setFrames (.invoking m args :: below)) ht).setFrames T.frames (by simpa [State.setFrames] using hcur)
    rw [State.setFrames_setFrames, State.setFrames_self ht0] at h
    exact h
end FRR
section FRX
variable {p : Program} {l : Launch} {e : Env} {R : Room} {s : State} {m : MethodId} {args : Array Value} {below : List Frame} {meth : Method} {c : Code} {H : Heap} {locs : List Loc} {cells slots : Nat} {Q : State → Prop}
variable {D : va_G} {cl : List vw_C} {tys : List (ClassId × FieldType)} {A : Nat → Prop} {nw tbl : List Cond}
/-- a method that returns (x = none) or throws an exception of class E (x = some E); in both cases the cells are w' -/
def fr_Ox (Qn : Array Value → State → Outcome → State → Prop) (D : va_G) (cl : List vw_C) (tys : List (ClassId × FieldType)) (x : Option String) (w : va_W) (mc ms : Nat) (A : Nat → Prop) (a : Array Value) (st : State) (o : Outcome) (t : State) : Prop :=
  (x = none ∧ Qn a st o t ∧ ∃ L, FrameEnd st o t L mc ms ∧ ∀ q ∈ L, A q.base) ∨
  (∃ (E : String) (q : Addr) (ce : Cell) (L : List Loc), x = some E ∧ o = .threw q ∧ t.heap[q]? = some ce ∧ ce.vm = .none ∧ st.vm.findClass E = some ce.cls ∧ st.WarmedH t.vm ∧ st.sameButNew ({ t with vm := st.vm } : State) L mc ms ∧ (∀ z ∈ L, A z.base) ∧ fr_End D cl tys w A () t ∧ va_F A st t)
def fr_Mx (Qn : Int32 → va_W → (Nat → Prop) → Array Value → State → Outcome → State → Prop) (l : Launch) (y : MethodName) (ws : List Cond) (rm : Room) (D : va_G) (cl : List vw_C) (tys : List (ClassId × FieldType)) (nw : List Cond) (As : List Value) (w : va_W) (x : Option String) (r : Int32) (w' : va_W) (mc ms : Nat) : Prop :=
  ∀ sz : Nat, MetFree l y (headSpec ws rm) (va_Pc As (fr_Pre D cl tys nw w sz)) (fun _ _ _ _ _ => True) (fr_Ox (Qn r w' (va_A w sz)) D cl tys x w' mc ms (va_A w sz))
def fr_XQ (below : List Frame) (Qn : Array Value → State → Outcome → State → Prop) (D : va_G) (cl : List vw_C) (tys : List (ClassId × FieldType)) (x : Option String) (w : va_W) (a : Array Value) (s : State) (mc ms : Nat) (A : Nat → Prop) : State → Prop := fun t =>
  ∃ o, t.status = .running ∧ Ended t below o ∧ fr_Ox Qn D cl tys x w mc ms A a s o t
/-- a returning road in a method that may throw -/
theorem fr_xret {Qn : Array Value → State → Outcome → State → Prop} {x : Option String} {w : va_W} {mc ms : Nat} {g : JFrame} (hx : x = none) (k : W p l e R s m args below meth c H locs cells slots (MQ below Qn args s mc ms A) g) : W p l e R s m args below meth c H locs cells slots (fr_XQ below Qn D cl tys x w args s mc ms A) g := by
  intro T hT X
  obtain ⟨t, h1, o, h2, h3, h4, h5⟩ := k T hT X
  exact ⟨t, h1, o, h2, h3, Or.inl ⟨hx, h4, h5⟩⟩
theorem fr_Mx.of {Qn : Int32 → va_W → (Nat → Prop) → Array Value → State → Outcome → State → Prop} {y : MethodName} {rm : Room} {As : List Value} {w : va_W} {x : Option String} {r : Int32} {w' : va_W} {mc ms : Nat} {cc : ByteArray} {maxL : Nat} {ret : Option FieldType} (hy : plainName y.cls = true) (hnL : (lg_sl As).length ≤ maxL)
    (body : ∀ (p : Program) (e : Env) (s : State) (m : MethodId) (below : List Frame) (meth : Method) (c : Code) (A : Nat → Prop) (H : Heap) (locs : List Loc) (ls : Array Slot), fr_Cx p s m As.toArray meth c y.cls cc maxL ret [] tbl nw D cl tys A → va_P D cl w H → va_D A w → va_S A s.heap H locs → lv_has ls maxL (lv_args 0 As) →
      W p l e rm s m As.toArray below meth c H locs 0 0 (fr_XQ below (Qn r w' A) D cl tys x w' As.toArray s mc ms A) (F0 m 0 ls [])) : fr_Mx Qn l y (.code y cc maxL ret :: tbl) rm D cl tys nw As w x r w' mc ms := by
  intro sz
  refine MetFree.of_bodyS (code := cc) (maxLocals := maxL) (ret := ret) hy ?_ ?_
  · intro args s m h hn
    obtain ⟨meth, c, h1, h2, h3, h4, h5, h6, -, -⟩ := Cond.code_spec hn (atoms_spec (ws := .code y cc maxL ret :: tbl) h _ List.mem_cons_self)
    exact ⟨meth, c, h1, h2, h3, h4, h5, h6⟩
  · intro p e s m args below meth c s₁ B hml hv _
    obtain ⟨rfl, hsz, hP, hK, hD0, hN, hZ⟩ := hv
    subst hsz
    have hts := atoms_spec (ws := .code y cc maxL ret :: tbl) B.pre
    have hh0 : s₁.heap = s.heap := by rw [B.state]; rfl
    have K := body p e s m below meth c (va_A w s.heap.size) s.heap [] _ ⟨B.exec, B.bytes, hml, findClass_of_methodNamed B.named, fun z hz => hts z (List.mem_cons_of_mem _ hz), hK, B.notSynchronized, B.returns, fun q h => Or.inr h, hN, hZ, fr_noHandlers (B.noHandlers (hts _ List.mem_cons_self))⟩ hP hD0.self va_S.rf (lv_entry As hnL)
    rw [← lg_entry_eq] at K
    obtain ⟨t, a1, o, b1, b2, b3⟩ := K s₁ hh0 (Stand.of_body B)
    exact ⟨t, o, a1, b1, b2, b3⟩
theorem fr_Mx_none {y : MethodName} {ws : List Cond} {rm : Room} {As : List Value} {w : va_W} {x : Option String} {r : Int32} {w' : va_W} {mc ms : Nat} (h : fr_Mx (fr_Qi D cl tys) l y ws rm D cl tys nw As w x r w' mc ms) (hx : x = none) : fr_Mi l y ws rm D cl tys nw As w r w' mc ms := by
  intro sz p e ha hc hk s m args below hf happ hP hK
  obtain ⟨n, o, h1, h2, h3, h4⟩ := h sz p e ha hc hk s m args below hf happ hP hK
  refine ⟨n, o, h1, h2, h3, ?_⟩
  rcases h4 with ⟨-, h4, h5⟩ | ⟨E, q, ce, L, hE, -⟩
  · exact ⟨h4, h5⟩
  · rw [hx] at hE; cases hE
theorem fr_Mx_nonev {y : MethodName} {ws : List Cond} {rm : Room} {As : List Value} {w : va_W} {x : Option String} {r : Int32} {w' : va_W} {mc ms : Nat} (h : fr_Mx (fun _ => fr_Qv D cl tys) l y ws rm D cl tys nw As w x r w' mc ms) (hx : x = none) : fr_Mv l y ws rm D cl tys nw As w w' mc ms := by
  intro sz p e ha hc hk s m args below hf happ hP hK
  obtain ⟨n, o, h1, h2, h3, h4⟩ := h sz p e ha hc hk s m args below hf happ hP hK
  refine ⟨n, o, h1, h2, h3, ?_⟩
  rcases h4 with ⟨-, h4, h5⟩ | ⟨E, q, ce, L, hE, -⟩
  · exact ⟨h4, h5⟩
  · rw [hx] at hE; cases hE
def fr_z4 : List Cond := [.laysStatic Bundle.tN "UNASSIGNED_STACK" Bundle.steD, .laysStatic Bundle.tN "SUPPRESSED_SENTINEL" Bundle.listD, .isRef (.static Bundle.tN "UNASSIGNED_STACK" Bundle.steD), .isRef (.static Bundle.tN "SUPPRESSED_SENTINEL" Bundle.listD)]
theorem fr_z4_at {A : Nat → Prop} {U : State} (h : fr_zz A U U.heap) : ∀ w ∈ fr_z4, w.before args U = true := by
  intro w hw
  simp only [fr_z4, List.mem_cons, List.not_mem_nil, or_false] at hw
  rcases hw with rfl | rfl | rfl | rfl
  · exact h.1.lays
  · exact h.2.lays
  · exact h.1.isRef
  · exact h.2.isRef
variable {cc : ByteArray} {nL pc : Nat} {ls : Array Slot} {st : List Value} {own : String} {ret : Option FieldType} {hh : List ExceptionTableEntry}
set_option maxHeartbeats 1000000 in
/-- throw new E("a written text"), from its 'new' to the method's end -/
theorem fr_throwS {E tx : String} {names : List String} {ik is ic sa : Nat} (C : fr_Cx p s m args meth c own cc nL ret [] tbl nw D cl tys A) (hsz : ls.size = nL) (hl : l.stackTraces = false) (hcls : Bundle.fit E = true) (hnames : ∀ n ∈ names, Bundle.fit n = true) (hS : va_S A s.heap H locs)
    (hcl : (Cond.classLink own ik E).before args s = true) (hins : (Cond.instantiable E 6).before args s = true) (hini : (Cond.initialized E).before args s = true)
    (hg0 : goodWord (.classLink own ik E) = true ∧ goodWord (.instantiable E 6) = true ∧ goodWord (.initialized E) = true)
    (hat : ∀ w ∈ Bundle.ownAtoms own ic E names, (goodWord w = true ∧ w.before args s = true) ∨ w ∈ fr_z4) (hR : vk_R own is tx sa s)
    (hf1 : names.length + 3 < R.frames) (hf2 : 1 + (st.map fun v => v.category).sum + (13 * (names.length + 1) + 42) ≤ R.locals) (hf3 : cells + 1 ≤ R.cells) (hf4 : slots + 6 ≤ R.slots)
    (d0 : decode cc pc = .ok (.new ik, 3)) (d3 : decode cc (pc + 3) = .ok (.dup, 1)) (d4 : decode cc (pc + 4) = .ok (.ldc is, 2)) (d6 : decode cc (pc + 6) = .ok (.invokespecial ic, 3)) (d9 : decode cc (pc + 9) = .ok (.athrow, 1))
    (hQ : ∀ (t : State) (q : Addr) (ce : Cell), t.status = .running → Ended t below (.threw q) → t.heap[q]? = some ce → ce.vm = .none → s.vm.findClass E = some ce.cls → s.WarmedH t.vm → s.sameButNew ({ t with vm := s.vm } : State) locs (cells + 1) (slots + 6) → (∀ (a : Addr) (cell : Cell), H[a]? = some cell → t.heap[a]? = some cell) → H.size ≤ t.heap.size → Q t) :
    W p l e R s m args below meth c H locs cells slots Q (F0 m pc ls st) := by
  obtain ⟨hx, hb, hml, hown, ht, hK, hlocks, hr, hA, hN, hZ, hT0⟩ := C
  intro T hT X
  have hout : ∀ x ∈ c.exceptionTable.toList, covers x (pc + 9) = false := by rw [hT0]; intro x hx; cases hx
  have htr : e.platform.stackTraces = false := by rw [X.admits.platform]; exact hl
  have X' := fr_rebase (R' := { frames := R.frames, cells := 1, slots := 6, locals := R.locals }) X (Nat.le_refl _) (Nat.le_refl _) hf3 hf4
  have hZ' : fr_zz A (T.setFrames (.invoking m args :: below)) T.heap := by
    rw [hT]
    exact ⟨(hZ.1.kept hS.2.1).moved X.warmed.alike, (hZ.2.kept hS.2.1).moved X.warmed.alike⟩
  have word : ∀ w : Cond, goodWord w = true → w.before args s = true → w.before args (T.setFrames (.invoking m args :: below)) = true := fun w hg hw => word_at (U := T.setFrames (.invoking m args :: below)) X.warmed (good_of_word hg) hw
  have hat' : ∀ w ∈ Bundle.ownAtoms own ic E names, w.before args (T.setFrames (.invoking m args :: below)) = true := by
    intro w hw
    rcases hat w hw with ⟨h1, h2⟩ | h1
    · exact word w h1 h2
    · exact fr_z4_at hZ' w h1
  have hown' : (T.setFrames (.invoking m args :: below)).vm.findClass own = some m.cls := by
    show T.vm.findClass own = some m.cls
    rw [X.warmed.alike.findClass]; exact hown
  have K : W p l e { frames := R.frames, cells := 1, slots := 6, locals := R.locals } (T.setFrames (.invoking m args :: below)) m args below meth c T.heap [] 0 0 Q (F0 m pc ls st) := by
    refine W.newc hx hb hown' (word _ hg0.1 hcl) (word _ hg0.2.1 hins) (word _ hg0.2.2 hini) rfl d0 (Nat.le_refl _) (Nat.le_refl _) (fun cC kC h1 h2 h3 h4 => ?_)
    refine W.eq (g2 := F0 m (pc + 3) ls (.ref T.heap.size :: st)) rfl ?_
    refine lv_dup hx hb d3 rfl ?_
    refine va_ldcS hx hb hown' (tx := tx) (q := sa) (vk_R.warm X.warmed hR) d4 ?_
    intro T2 hT2 X2
    obtain ⟨U, hst, hrun, hend, hW, hsame, ce, hce, hOwn⟩ := X2.ctorThrowS hx htr (own := own) (cls := E) (names := names) (ic := ic) hown' hcls hnames hat' (fun x hx => by cases hx) h1 h2 (a := T.heap.size) (by rw [hT2]; simp [freshCell]) (Nat.le_refl _) (msg := .ref sa) rfl
      (g := F0 m (pc + 6) ls (.ref sa :: .ref T.heap.size :: .ref T.heap.size :: st)) rfl (hsz.trans hml.symm) rfl rfl (rest := st) rfl (by rw [hb]; exact d6) (by rw [hb]; exact d9) hout hf1 (by simpa [Value.category, JFrame.monitorRoom] using hf2) hlocks
    have hsame' : T.sameButNew ({ U with vm := T.vm } : State) [] 1 6 := fr_sbn_base hsame
    refine ⟨U, hst, hQ U T.heap.size ce hrun hend hce hOwn.vm ?_ (State.WarmedH.trans X.warmed hW) ?_ ?_ ?_⟩
    · rw [← X.warmed.alike.findClass]; exact hOwn.cls
    · have h := X.same.trans (hsame'.setVm s.vm)
      rw [List.append_nil] at h
      exact h
    · intro a cell ha
      rw [← hT] at ha
      exact State.sameButNew.old_cell hsame' ha
    · rw [← hT]
      exact hsame'.2.1
  exact K T rfl X'
/-- the end of such a road, as a contract has it -/
theorem fr_xthrow {Qn : Array Value → State → Outcome → State → Prop} {E : String} {x : Option String} {w : va_W} {mc ms : Nat} (hx : x = some E) (hK : va_K D cl tys s) (hP : va_P D cl w H) (hD : va_D A w) (hS : va_S A s.heap H locs) (hc : mc = cells + 1) (hs : ms = slots + 6) :
    ∀ (t : State) (q : Addr) (ce : Cell), t.status = .running → Ended t below (.threw q) → t.heap[q]? = some ce → ce.vm = .none → s.vm.findClass E = some ce.cls → s.WarmedH t.vm → s.sameButNew ({ t with vm := s.vm } : State) locs (cells + 1) (slots + 6) → (∀ (a : Addr) (cell : Cell), H[a]? = some cell → t.heap[a]? = some cell) → H.size ≤ t.heap.size → fr_XQ below Qn D cl tys x w args s mc ms A t := by
  subst hc; subst hs
  intro t q ce h1 h2 h3 h4 h5 h6 h7 h8 h9
  have hk : ∀ a : Nat, a < H.size → t.heap[a]? = H[a]? := fun a ha => by
    have e1 : H[a]? = some (H[a]) := Array.getElem?_eq_getElem ha
    rw [e1]; exact h8 a _ e1
  refine ⟨.threw q, h1, h2, Or.inr ⟨E, q, ce, locs, hx, rfl, h3, h4, h5, h6, h7, hS.2.2, ⟨?_, va_K.moved h6.alike hK, hD⟩, ?_⟩⟩
  · exact hP.kept (fun k z hz => hk z.1 (hP k z hz).lt)
  · exact ⟨Nat.le_trans hS.1 h9, fun a h10 h11 => by rw [hk a (Nat.lt_of_lt_of_le h10 hS.1)]; exact hS.2.1 a h10 h11⟩
end FRX
end
section
def y_within : MethodName := ⟨"FragileRules", "isWithin", "(II)Z"⟩
theorem dF_isWithin_0 : decode prog_1_method_16_code 0 = .ok (.iload_n 0, 1) := by decide +kernel
theorem dF_isWithin_1 : decode prog_1_method_16_code 1 = .ok (.ifCond .lt 12, 3) := by decide +kernel
theorem dF_isWithin_4 : decode prog_1_method_16_code 4 = .ok (.iload_n 0, 1) := by decide +kernel
theorem dF_isWithin_5 : decode prog_1_method_16_code 5 = .ok (.iload_n 1, 1) := by decide +kernel
theorem dF_isWithin_6 : decode prog_1_method_16_code 6 = .ok (.if_icmp .gt 7, 3) := by decide +kernel
theorem dF_isWithin_9 : decode prog_1_method_16_code 9 = .ok (.iconst 1, 1) := by decide +kernel
theorem dF_isWithin_10 : decode prog_1_method_16_code 10 = .ok (.goto 4, 3) := by decide +kernel
theorem dF_isWithin_13 : decode prog_1_method_16_code 13 = .ok (.iconst 0, 1) := by decide +kernel
theorem dF_isWithin_14 : decode prog_1_method_16_code 14 = .ok (.ireturn, 1) := by decide +kernel
def y_has : MethodName := ⟨"FragileRules$Unit", "has", "(I)Z"⟩
theorem dU_has_0 : decode prog_4_method_2_code 0 = .ok (.aload_n 0, 1) := by decide +kernel
theorem dU_has_1 : decode prog_4_method_2_code 1 = .ok (.getfield 16, 3) := by decide +kernel
theorem dU_has_4 : decode prog_4_method_2_code 4 = .ok (.iload_n 1, 1) := by decide +kernel
theorem dU_has_5 : decode prog_4_method_2_code 5 = .ok (.iand, 1) := by decide +kernel
theorem dU_has_6 : decode prog_4_method_2_code 6 = .ok (.ifCond .eq 7, 3) := by decide +kernel
theorem dU_has_9 : decode prog_4_method_2_code 9 = .ok (.iconst 1, 1) := by decide +kernel
theorem dU_has_10 : decode prog_4_method_2_code 10 = .ok (.goto 4, 3) := by decide +kernel
theorem dU_has_13 : decode prog_4_method_2_code 13 = .ok (.iconst 0, 1) := by decide +kernel
theorem dU_has_14 : decode prog_4_method_2_code 14 = .ok (.ireturn, 1) := by decide +kernel
def y_signAt : MethodName := ⟨"FragileRules$Text", "signAt", "(I)I"⟩
theorem dT_signAt_0 : decode prog_3_method_8_code 0 = .ok (.iload_n 1, 1) := by decide +kernel
theorem dT_signAt_1 : decode prog_3_method_8_code 1 = .ok (.ifCond .lt 20, 3) := by decide +kernel
theorem dT_signAt_4 : decode prog_3_method_8_code 4 = .ok (.iload_n 1, 1) := by decide +kernel
theorem dT_signAt_5 : decode prog_3_method_8_code 5 = .ok (.aload_n 0, 1) := by decide +kernel
theorem dT_signAt_6 : decode prog_3_method_8_code 6 = .ok (.getfield 15, 3) := by decide +kernel
theorem dT_signAt_9 : decode prog_3_method_8_code 9 = .ok (.if_icmp .ge 12, 3) := by decide +kernel
theorem dT_signAt_12 : decode prog_3_method_8_code 12 = .ok (.aload_n 0, 1) := by decide +kernel
theorem dT_signAt_13 : decode prog_3_method_8_code 13 = .ok (.getfield 9, 3) := by decide +kernel
theorem dT_signAt_16 : decode prog_3_method_8_code 16 = .ok (.iload_n 1, 1) := by decide +kernel
theorem dT_signAt_17 : decode prog_3_method_8_code 17 = .ok (.iaload, 1) := by decide +kernel
theorem dT_signAt_18 : decode prog_3_method_8_code 18 = .ok (.goto 4, 3) := by decide +kernel
theorem dT_signAt_21 : decode prog_3_method_8_code 21 = .ok (.iconst (-1), 1) := by decide +kernel
theorem dT_signAt_22 : decode prog_3_method_8_code 22 = .ok (.ireturn, 1) := by decide +kernel
def y_digitAt : MethodName := ⟨"FragileRules$Text", "digitAt", "(I)I"⟩
theorem dT_digitAt_0 : decode prog_3_method_7_code 0 = .ok (.aload_n 0, 1) := by decide +kernel
theorem dT_digitAt_1 : decode prog_3_method_7_code 1 = .ok (.iload_n 1, 1) := by decide +kernel
theorem dT_digitAt_2 : decode prog_3_method_7_code 2 = .ok (.invokevirtual 26, 3) := by decide +kernel
theorem dT_digitAt_5 : decode prog_3_method_7_code 5 = .ok (.istore_n 2, 1) := by decide +kernel
theorem dT_digitAt_6 : decode prog_3_method_7_code 6 = .ok (.iload_n 2, 1) := by decide +kernel
theorem dT_digitAt_7 : decode prog_3_method_7_code 7 = .ok (.bipush 48, 2) := by decide +kernel
theorem dT_digitAt_9 : decode prog_3_method_7_code 9 = .ok (.if_icmp .lt 16, 3) := by decide +kernel
theorem dT_digitAt_12 : decode prog_3_method_7_code 12 = .ok (.iload_n 2, 1) := by decide +kernel
theorem dT_digitAt_13 : decode prog_3_method_7_code 13 = .ok (.bipush 57, 2) := by decide +kernel
theorem dT_digitAt_15 : decode prog_3_method_7_code 15 = .ok (.if_icmp .gt 10, 3) := by decide +kernel
theorem dT_digitAt_18 : decode prog_3_method_7_code 18 = .ok (.iload_n 2, 1) := by decide +kernel
theorem dT_digitAt_19 : decode prog_3_method_7_code 19 = .ok (.bipush 48, 2) := by decide +kernel
theorem dT_digitAt_21 : decode prog_3_method_7_code 21 = .ok (.isub, 1) := by decide +kernel
theorem dT_digitAt_22 : decode prog_3_method_7_code 22 = .ok (.goto 4, 3) := by decide +kernel
theorem dT_digitAt_25 : decode prog_3_method_7_code 25 = .ok (.iconst (-1), 1) := by decide +kernel
theorem dT_digitAt_26 : decode prog_3_method_7_code 26 = .ok (.ireturn, 1) := by decide +kernel
def y_rowAt : MethodName := ⟨"FragileRules$Text", "rowAt", "(I)I"⟩
theorem dT_rowAt_0 : decode prog_3_method_5_code 0 = .ok (.aload_n 0, 1) := by decide +kernel
theorem dT_rowAt_1 : decode prog_3_method_5_code 1 = .ok (.iload_n 1, 1) := by decide +kernel
theorem dT_rowAt_2 : decode prog_3_method_5_code 2 = .ok (.invokevirtual 26, 3) := by decide +kernel
theorem dT_rowAt_5 : decode prog_3_method_5_code 5 = .ok (.lookupswitch 51 #[(65, 45), (66, 47), (76, 49), (78, 43)], 43) := by decide +kernel
theorem dT_rowAt_48 : decode prog_3_method_5_code 48 = .ok (.iconst 0, 1) := by decide +kernel
theorem dT_rowAt_49 : decode prog_3_method_5_code 49 = .ok (.ireturn, 1) := by decide +kernel
theorem dT_rowAt_50 : decode prog_3_method_5_code 50 = .ok (.iconst 1, 1) := by decide +kernel
theorem dT_rowAt_51 : decode prog_3_method_5_code 51 = .ok (.ireturn, 1) := by decide +kernel
theorem dT_rowAt_52 : decode prog_3_method_5_code 52 = .ok (.iconst 2, 1) := by decide +kernel
theorem dT_rowAt_53 : decode prog_3_method_5_code 53 = .ok (.ireturn, 1) := by decide +kernel
theorem dT_rowAt_54 : decode prog_3_method_5_code 54 = .ok (.iconst 3, 1) := by decide +kernel
theorem dT_rowAt_55 : decode prog_3_method_5_code 55 = .ok (.ireturn, 1) := by decide +kernel
theorem dT_rowAt_56 : decode prog_3_method_5_code 56 = .ok (.iconst (-1), 1) := by decide +kernel
theorem dT_rowAt_57 : decode prog_3_method_5_code 57 = .ok (.ireturn, 1) := by decide +kernel
def y_numberAt : MethodName := ⟨"FragileRules$Text", "numberAt", "(I)I"⟩
theorem dT_numberAt_0 : decode prog_3_method_6_code 0 = .ok (.aload_n 0, 1) := by decide +kernel
theorem dT_numberAt_1 : decode prog_3_method_6_code 1 = .ok (.iload_n 1, 1) := by decide +kernel
theorem dT_numberAt_2 : decode prog_3_method_6_code 2 = .ok (.invokevirtual 29, 3) := by decide +kernel
theorem dT_numberAt_5 : decode prog_3_method_6_code 5 = .ok (.istore_n 2, 1) := by decide +kernel
theorem dT_numberAt_6 : decode prog_3_method_6_code 6 = .ok (.aload_n 0, 1) := by decide +kernel
theorem dT_numberAt_7 : decode prog_3_method_6_code 7 = .ok (.iload_n 1, 1) := by decide +kernel
theorem dT_numberAt_8 : decode prog_3_method_6_code 8 = .ok (.iconst 1, 1) := by decide +kernel
theorem dT_numberAt_9 : decode prog_3_method_6_code 9 = .ok (.iadd, 1) := by decide +kernel
theorem dT_numberAt_10 : decode prog_3_method_6_code 10 = .ok (.invokevirtual 29, 3) := by decide +kernel
theorem dT_numberAt_13 : decode prog_3_method_6_code 13 = .ok (.istore_n 3, 1) := by decide +kernel
theorem dT_numberAt_14 : decode prog_3_method_6_code 14 = .ok (.iload_n 3, 1) := by decide +kernel
theorem dT_numberAt_15 : decode prog_3_method_6_code 15 = .ok (.iconst (-1), 1) := by decide +kernel
theorem dT_numberAt_16 : decode prog_3_method_6_code 16 = .ok (.if_icmp .ne 7, 3) := by decide +kernel
theorem dT_numberAt_19 : decode prog_3_method_6_code 19 = .ok (.iload_n 2, 1) := by decide +kernel
theorem dT_numberAt_20 : decode prog_3_method_6_code 20 = .ok (.goto 9, 3) := by decide +kernel
theorem dT_numberAt_23 : decode prog_3_method_6_code 23 = .ok (.bipush 10, 2) := by decide +kernel
theorem dT_numberAt_25 : decode prog_3_method_6_code 25 = .ok (.iload_n 2, 1) := by decide +kernel
theorem dT_numberAt_26 : decode prog_3_method_6_code 26 = .ok (.imul, 1) := by decide +kernel
theorem dT_numberAt_27 : decode prog_3_method_6_code 27 = .ok (.iload_n 3, 1) := by decide +kernel
theorem dT_numberAt_28 : decode prog_3_method_6_code 28 = .ok (.iadd, 1) := by decide +kernel
theorem dT_numberAt_29 : decode prog_3_method_6_code 29 = .ok (.ireturn, 1) := by decide +kernel
def y_behind : MethodName := ⟨"FragileRules$Text", "behindLine", "(I)I"⟩
theorem dT_behindLine_0 : decode prog_3_method_4_code 0 = .ok (.aload_n 0, 1) := by decide +kernel
theorem dT_behindLine_1 : decode prog_3_method_4_code 1 = .ok (.iload_n 1, 1) := by decide +kernel
theorem dT_behindLine_2 : decode prog_3_method_4_code 2 = .ok (.invokevirtual 23, 3) := by decide +kernel
theorem dT_behindLine_5 : decode prog_3_method_4_code 5 = .ok (.istore_n 2, 1) := by decide +kernel
theorem dT_behindLine_6 : decode prog_3_method_4_code 6 = .ok (.iload_n 2, 1) := by decide +kernel
theorem dT_behindLine_7 : decode prog_3_method_4_code 7 = .ok (.iconst (-1), 1) := by decide +kernel
theorem dT_behindLine_8 : decode prog_3_method_4_code 8 = .ok (.if_icmp .ne 7, 3) := by decide +kernel
theorem dT_behindLine_11 : decode prog_3_method_4_code 11 = .ok (.iconst (-1), 1) := by decide +kernel
theorem dT_behindLine_12 : decode prog_3_method_4_code 12 = .ok (.iload_n 1, 1) := by decide +kernel
theorem dT_behindLine_13 : decode prog_3_method_4_code 13 = .ok (.isub, 1) := by decide +kernel
theorem dT_behindLine_14 : decode prog_3_method_4_code 14 = .ok (.ireturn, 1) := by decide +kernel
theorem dT_behindLine_15 : decode prog_3_method_4_code 15 = .ok (.aload_n 0, 1) := by decide +kernel
theorem dT_behindLine_16 : decode prog_3_method_4_code 16 = .ok (.iload_n 1, 1) := by decide +kernel
theorem dT_behindLine_17 : decode prog_3_method_4_code 17 = .ok (.iconst 1, 1) := by decide +kernel
theorem dT_behindLine_18 : decode prog_3_method_4_code 18 = .ok (.iadd, 1) := by decide +kernel
theorem dT_behindLine_19 : decode prog_3_method_4_code 19 = .ok (.invokevirtual 26, 3) := by decide +kernel
theorem dT_behindLine_22 : decode prog_3_method_4_code 22 = .ok (.bipush 32, 2) := by decide +kernel
theorem dT_behindLine_24 : decode prog_3_method_4_code 24 = .ok (.if_icmp .eq 8, 3) := by decide +kernel
theorem dT_behindLine_27 : decode prog_3_method_4_code 27 = .ok (.bipush (-2), 2) := by decide +kernel
theorem dT_behindLine_29 : decode prog_3_method_4_code 29 = .ok (.iload_n 1, 1) := by decide +kernel
theorem dT_behindLine_30 : decode prog_3_method_4_code 30 = .ok (.isub, 1) := by decide +kernel
theorem dT_behindLine_31 : decode prog_3_method_4_code 31 = .ok (.ireturn, 1) := by decide +kernel
theorem dT_behindLine_32 : decode prog_3_method_4_code 32 = .ok (.aload_n 0, 1) := by decide +kernel
theorem dT_behindLine_33 : decode prog_3_method_4_code 33 = .ok (.iload_n 1, 1) := by decide +kernel
theorem dT_behindLine_34 : decode prog_3_method_4_code 34 = .ok (.iconst 2, 1) := by decide +kernel
theorem dT_behindLine_35 : decode prog_3_method_4_code 35 = .ok (.iadd, 1) := by decide +kernel
theorem dT_behindLine_36 : decode prog_3_method_4_code 36 = .ok (.invokevirtual 29, 3) := by decide +kernel
theorem dT_behindLine_39 : decode prog_3_method_4_code 39 = .ok (.bipush 7, 2) := by decide +kernel
theorem dT_behindLine_41 : decode prog_3_method_4_code 41 = .ok (.invokestatic 32, 3) := by decide +kernel
theorem dT_behindLine_44 : decode prog_3_method_4_code 44 = .ok (.ifCond .ne 8, 3) := by decide +kernel
theorem dT_behindLine_47 : decode prog_3_method_4_code 47 = .ok (.bipush (-3), 2) := by decide +kernel
theorem dT_behindLine_49 : decode prog_3_method_4_code 49 = .ok (.iload_n 1, 1) := by decide +kernel
theorem dT_behindLine_50 : decode prog_3_method_4_code 50 = .ok (.isub, 1) := by decide +kernel
theorem dT_behindLine_51 : decode prog_3_method_4_code 51 = .ok (.ireturn, 1) := by decide +kernel
theorem dT_behindLine_52 : decode prog_3_method_4_code 52 = .ok (.aload_n 0, 1) := by decide +kernel
theorem dT_behindLine_53 : decode prog_3_method_4_code 53 = .ok (.iload_n 1, 1) := by decide +kernel
theorem dT_behindLine_54 : decode prog_3_method_4_code 54 = .ok (.iconst 3, 1) := by decide +kernel
theorem dT_behindLine_55 : decode prog_3_method_4_code 55 = .ok (.iadd, 1) := by decide +kernel
theorem dT_behindLine_56 : decode prog_3_method_4_code 56 = .ok (.invokevirtual 26, 3) := by decide +kernel
theorem dT_behindLine_59 : decode prog_3_method_4_code 59 = .ok (.bipush 32, 2) := by decide +kernel
theorem dT_behindLine_61 : decode prog_3_method_4_code 61 = .ok (.if_icmp .eq 8, 3) := by decide +kernel
theorem dT_behindLine_64 : decode prog_3_method_4_code 64 = .ok (.bipush (-4), 2) := by decide +kernel
theorem dT_behindLine_66 : decode prog_3_method_4_code 66 = .ok (.iload_n 1, 1) := by decide +kernel
theorem dT_behindLine_67 : decode prog_3_method_4_code 67 = .ok (.isub, 1) := by decide +kernel
theorem dT_behindLine_68 : decode prog_3_method_4_code 68 = .ok (.ireturn, 1) := by decide +kernel
theorem dT_behindLine_69 : decode prog_3_method_4_code 69 = .ok (.aload_n 0, 1) := by decide +kernel
theorem dT_behindLine_70 : decode prog_3_method_4_code 70 = .ok (.iload_n 1, 1) := by decide +kernel
theorem dT_behindLine_71 : decode prog_3_method_4_code 71 = .ok (.iconst 4, 1) := by decide +kernel
theorem dT_behindLine_72 : decode prog_3_method_4_code 72 = .ok (.iadd, 1) := by decide +kernel
theorem dT_behindLine_73 : decode prog_3_method_4_code 73 = .ok (.invokevirtual 29, 3) := by decide +kernel
theorem dT_behindLine_76 : decode prog_3_method_4_code 76 = .ok (.istore_n 3, 1) := by decide +kernel
theorem dT_behindLine_77 : decode prog_3_method_4_code 77 = .ok (.iload_n 3, 1) := by decide +kernel
theorem dT_behindLine_78 : decode prog_3_method_4_code 78 = .ok (.iload_n 2, 1) := by decide +kernel
theorem dT_behindLine_79 : decode prog_3_method_4_code 79 = .ok (.iconst 2, 1) := by decide +kernel
theorem dT_behindLine_80 : decode prog_3_method_4_code 80 = .ok (.if_icmp .eq 8, 3) := by decide +kernel
theorem dT_behindLine_83 : decode prog_3_method_4_code 83 = .ok (.iload_n 2, 1) := by decide +kernel
theorem dT_behindLine_84 : decode prog_3_method_4_code 84 = .ok (.iconst 3, 1) := by decide +kernel
theorem dT_behindLine_85 : decode prog_3_method_4_code 85 = .ok (.if_icmp .ne 8, 3) := by decide +kernel
theorem dT_behindLine_88 : decode prog_3_method_4_code 88 = .ok (.bipush 9, 2) := by decide +kernel
theorem dT_behindLine_90 : decode prog_3_method_4_code 90 = .ok (.goto 5, 3) := by decide +kernel
theorem dT_behindLine_93 : decode prog_3_method_4_code 93 = .ok (.bipush 7, 2) := by decide +kernel
theorem dT_behindLine_95 : decode prog_3_method_4_code 95 = .ok (.invokestatic 32, 3) := by decide +kernel
theorem dT_behindLine_98 : decode prog_3_method_4_code 98 = .ok (.ifCond .ne 8, 3) := by decide +kernel
theorem dT_behindLine_101 : decode prog_3_method_4_code 101 = .ok (.bipush (-5), 2) := by decide +kernel
theorem dT_behindLine_103 : decode prog_3_method_4_code 103 = .ok (.iload_n 1, 1) := by decide +kernel
theorem dT_behindLine_104 : decode prog_3_method_4_code 104 = .ok (.isub, 1) := by decide +kernel
theorem dT_behindLine_105 : decode prog_3_method_4_code 105 = .ok (.ireturn, 1) := by decide +kernel
theorem dT_behindLine_106 : decode prog_3_method_4_code 106 = .ok (.iload_n 2, 1) := by decide +kernel
theorem dT_behindLine_107 : decode prog_3_method_4_code 107 = .ok (.iconst 2, 1) := by decide +kernel
theorem dT_behindLine_108 : decode prog_3_method_4_code 108 = .ok (.if_icmp .ne 22, 3) := by decide +kernel
theorem dT_behindLine_111 : decode prog_3_method_4_code 111 = .ok (.iload_n 3, 1) := by decide +kernel
theorem dT_behindLine_112 : decode prog_3_method_4_code 112 = .ok (.ifCond .eq 18, 3) := by decide +kernel
theorem dT_behindLine_115 : decode prog_3_method_4_code 115 = .ok (.aload_n 0, 1) := by decide +kernel
theorem dT_behindLine_116 : decode prog_3_method_4_code 116 = .ok (.iload_n 1, 1) := by decide +kernel
theorem dT_behindLine_117 : decode prog_3_method_4_code 117 = .ok (.iconst 5, 1) := by decide +kernel
theorem dT_behindLine_118 : decode prog_3_method_4_code 118 = .ok (.iadd, 1) := by decide +kernel
theorem dT_behindLine_119 : decode prog_3_method_4_code 119 = .ok (.invokevirtual 29, 3) := by decide +kernel
theorem dT_behindLine_122 : decode prog_3_method_4_code 122 = .ok (.iconst (-1), 1) := by decide +kernel
theorem dT_behindLine_123 : decode prog_3_method_4_code 123 = .ok (.if_icmp .eq 7, 3) := by decide +kernel
theorem dT_behindLine_126 : decode prog_3_method_4_code 126 = .ok (.iconst 1, 1) := by decide +kernel
theorem dT_behindLine_127 : decode prog_3_method_4_code 127 = .ok (.goto 4, 3) := by decide +kernel
theorem dT_behindLine_130 : decode prog_3_method_4_code 130 = .ok (.iconst 0, 1) := by decide +kernel
theorem dT_behindLine_131 : decode prog_3_method_4_code 131 = .ok (.istore 4, 2) := by decide +kernel
theorem dT_behindLine_133 : decode prog_3_method_4_code 133 = .ok (.iload_n 1, 1) := by decide +kernel
theorem dT_behindLine_134 : decode prog_3_method_4_code 134 = .ok (.iload 4, 2) := by decide +kernel
theorem dT_behindLine_136 : decode prog_3_method_4_code 136 = .ok (.ifCond .eq 8, 3) := by decide +kernel
theorem dT_behindLine_139 : decode prog_3_method_4_code 139 = .ok (.bipush 6, 2) := by decide +kernel
theorem dT_behindLine_141 : decode prog_3_method_4_code 141 = .ok (.goto 4, 3) := by decide +kernel
theorem dT_behindLine_144 : decode prog_3_method_4_code 144 = .ok (.iconst 5, 1) := by decide +kernel
theorem dT_behindLine_145 : decode prog_3_method_4_code 145 = .ok (.iadd, 1) := by decide +kernel
theorem dT_behindLine_146 : decode prog_3_method_4_code 146 = .ok (.istore 5, 2) := by decide +kernel
theorem dT_behindLine_148 : decode prog_3_method_4_code 148 = .ok (.aload_n 0, 1) := by decide +kernel
theorem dT_behindLine_149 : decode prog_3_method_4_code 149 = .ok (.iload 5, 2) := by decide +kernel
theorem dT_behindLine_151 : decode prog_3_method_4_code 151 = .ok (.invokevirtual 26, 3) := by decide +kernel
theorem dT_behindLine_154 : decode prog_3_method_4_code 154 = .ok (.bipush 10, 2) := by decide +kernel
theorem dT_behindLine_156 : decode prog_3_method_4_code 156 = .ok (.if_icmp .ne 10, 3) := by decide +kernel
theorem dT_behindLine_159 : decode prog_3_method_4_code 159 = .ok (.iload 5, 2) := by decide +kernel
theorem dT_behindLine_161 : decode prog_3_method_4_code 161 = .ok (.iconst 1, 1) := by decide +kernel
theorem dT_behindLine_162 : decode prog_3_method_4_code 162 = .ok (.iadd, 1) := by decide +kernel
theorem dT_behindLine_163 : decode prog_3_method_4_code 163 = .ok (.goto 7, 3) := by decide +kernel
theorem dT_behindLine_166 : decode prog_3_method_4_code 166 = .ok (.iconst (-1), 1) := by decide +kernel
theorem dT_behindLine_167 : decode prog_3_method_4_code 167 = .ok (.iload 5, 2) := by decide +kernel
theorem dT_behindLine_169 : decode prog_3_method_4_code 169 = .ok (.isub, 1) := by decide +kernel
theorem dT_behindLine_170 : decode prog_3_method_4_code 170 = .ok (.ireturn, 1) := by decide +kernel
def y_wrongPlace : MethodName := ⟨"FragileRules$Text", "wrongPlace", "()I"⟩
theorem dT_wrongPlace_0 : decode prog_3_method_2_code 0 = .ok (.iconst 0, 1) := by decide +kernel
theorem dT_wrongPlace_1 : decode prog_3_method_2_code 1 = .ok (.istore_n 1, 1) := by decide +kernel
theorem dT_wrongPlace_2 : decode prog_3_method_2_code 2 = .ok (.iconst 0, 1) := by decide +kernel
theorem dT_wrongPlace_3 : decode prog_3_method_2_code 3 = .ok (.istore_n 2, 1) := by decide +kernel
theorem dT_wrongPlace_4 : decode prog_3_method_2_code 4 = .ok (.iload_n 2, 1) := by decide +kernel
theorem dT_wrongPlace_5 : decode prog_3_method_2_code 5 = .ok (.sipush 200, 3) := by decide +kernel
theorem dT_wrongPlace_8 : decode prog_3_method_2_code 8 = .ok (.if_icmp .ge 33, 3) := by decide +kernel
theorem dT_wrongPlace_11 : decode prog_3_method_2_code 11 = .ok (.iload_n 1, 1) := by decide +kernel
theorem dT_wrongPlace_12 : decode prog_3_method_2_code 12 = .ok (.aload_n 0, 1) := by decide +kernel
theorem dT_wrongPlace_13 : decode prog_3_method_2_code 13 = .ok (.getfield 15, 3) := by decide +kernel
theorem dT_wrongPlace_16 : decode prog_3_method_2_code 16 = .ok (.if_icmp .ge 25, 3) := by decide +kernel
theorem dT_wrongPlace_19 : decode prog_3_method_2_code 19 = .ok (.aload_n 0, 1) := by decide +kernel
theorem dT_wrongPlace_20 : decode prog_3_method_2_code 20 = .ok (.iload_n 1, 1) := by decide +kernel
theorem dT_wrongPlace_21 : decode prog_3_method_2_code 21 = .ok (.invokevirtual 19, 3) := by decide +kernel
theorem dT_wrongPlace_24 : decode prog_3_method_2_code 24 = .ok (.istore_n 3, 1) := by decide +kernel
theorem dT_wrongPlace_25 : decode prog_3_method_2_code 25 = .ok (.iload_n 3, 1) := by decide +kernel
theorem dT_wrongPlace_26 : decode prog_3_method_2_code 26 = .ok (.ifCond .ge 7, 3) := by decide +kernel
theorem dT_wrongPlace_29 : decode prog_3_method_2_code 29 = .ok (.iconst (-1), 1) := by decide +kernel
theorem dT_wrongPlace_30 : decode prog_3_method_2_code 30 = .ok (.iload_n 3, 1) := by decide +kernel
theorem dT_wrongPlace_31 : decode prog_3_method_2_code 31 = .ok (.isub, 1) := by decide +kernel
theorem dT_wrongPlace_32 : decode prog_3_method_2_code 32 = .ok (.ireturn, 1) := by decide +kernel
theorem dT_wrongPlace_33 : decode prog_3_method_2_code 33 = .ok (.iload_n 3, 1) := by decide +kernel
theorem dT_wrongPlace_34 : decode prog_3_method_2_code 34 = .ok (.istore_n 1, 1) := by decide +kernel
theorem dT_wrongPlace_35 : decode prog_3_method_2_code 35 = .ok (.iinc 2 1, 3) := by decide +kernel
theorem dT_wrongPlace_38 : decode prog_3_method_2_code 38 = .ok (.goto (-34), 3) := by decide +kernel
theorem dT_wrongPlace_41 : decode prog_3_method_2_code 41 = .ok (.iconst (-1), 1) := by decide +kernel
theorem dT_wrongPlace_42 : decode prog_3_method_2_code 42 = .ok (.ireturn, 1) := by decide +kernel
def y_lineCount : MethodName := ⟨"FragileRules$Text", "lineCount", "()I"⟩
theorem dT_lineCount_0 : decode prog_3_method_3_code 0 = .ok (.iconst 0, 1) := by decide +kernel
theorem dT_lineCount_1 : decode prog_3_method_3_code 1 = .ok (.istore_n 1, 1) := by decide +kernel
theorem dT_lineCount_2 : decode prog_3_method_3_code 2 = .ok (.iconst 0, 1) := by decide +kernel
theorem dT_lineCount_3 : decode prog_3_method_3_code 3 = .ok (.istore_n 2, 1) := by decide +kernel
theorem dT_lineCount_4 : decode prog_3_method_3_code 4 = .ok (.iload_n 2, 1) := by decide +kernel
theorem dT_lineCount_5 : decode prog_3_method_3_code 5 = .ok (.aload_n 0, 1) := by decide +kernel
theorem dT_lineCount_6 : decode prog_3_method_3_code 6 = .ok (.getfield 15, 3) := by decide +kernel
theorem dT_lineCount_9 : decode prog_3_method_3_code 9 = .ok (.if_icmp .ge 23, 3) := by decide +kernel
theorem dT_lineCount_12 : decode prog_3_method_3_code 12 = .ok (.aload_n 0, 1) := by decide +kernel
theorem dT_lineCount_13 : decode prog_3_method_3_code 13 = .ok (.getfield 9, 3) := by decide +kernel
theorem dT_lineCount_16 : decode prog_3_method_3_code 16 = .ok (.iload_n 2, 1) := by decide +kernel
theorem dT_lineCount_17 : decode prog_3_method_3_code 17 = .ok (.iaload, 1) := by decide +kernel
theorem dT_lineCount_18 : decode prog_3_method_3_code 18 = .ok (.bipush 10, 2) := by decide +kernel
theorem dT_lineCount_20 : decode prog_3_method_3_code 20 = .ok (.if_icmp .ne 6, 3) := by decide +kernel
theorem dT_lineCount_23 : decode prog_3_method_3_code 23 = .ok (.iinc 1 1, 3) := by decide +kernel
theorem dT_lineCount_26 : decode prog_3_method_3_code 26 = .ok (.iinc 2 1, 3) := by decide +kernel
theorem dT_lineCount_29 : decode prog_3_method_3_code 29 = .ok (.goto (-25), 3) := by decide +kernel
theorem dT_lineCount_32 : decode prog_3_method_3_code 32 = .ok (.iload_n 1, 1) := by decide +kernel
theorem dT_lineCount_33 : decode prog_3_method_3_code 33 = .ok (.ireturn, 1) := by decide +kernel
def y_isUnit : MethodName := ⟨"FragileRules", "isUnit", "(I)Z"⟩
theorem dF_isUnit_0 : decode prog_1_method_19_code 0 = .ok (.iload_n 1, 1) := by decide +kernel
theorem dF_isUnit_1 : decode prog_1_method_19_code 1 = .ok (.ifCond .lt 15, 3) := by decide +kernel
theorem dF_isUnit_4 : decode prog_1_method_19_code 4 = .ok (.iload_n 1, 1) := by decide +kernel
theorem dF_isUnit_5 : decode prog_1_method_19_code 5 = .ok (.aload_n 0, 1) := by decide +kernel
theorem dF_isUnit_6 : decode prog_1_method_19_code 6 = .ok (.getfield 15, 3) := by decide +kernel
theorem dF_isUnit_9 : decode prog_1_method_19_code 9 = .ok (.if_icmp .ge 7, 3) := by decide +kernel
theorem dF_isUnit_12 : decode prog_1_method_19_code 12 = .ok (.iconst 1, 1) := by decide +kernel
theorem dF_isUnit_13 : decode prog_1_method_19_code 13 = .ok (.goto 4, 3) := by decide +kernel
theorem dF_isUnit_16 : decode prog_1_method_19_code 16 = .ok (.iconst 0, 1) := by decide +kernel
theorem dF_isUnit_17 : decode prog_1_method_19_code 17 = .ok (.ireturn, 1) := by decide +kernel
def y_isRuleNumber : MethodName := ⟨"FragileRules", "isRuleNumber", "(I)Z"⟩
theorem dF_isRuleNumber_0 : decode prog_1_method_20_code 0 = .ok (.iload_n 1, 1) := by decide +kernel
theorem dF_isRuleNumber_1 : decode prog_1_method_20_code 1 = .ok (.iconst 1, 1) := by decide +kernel
theorem dF_isRuleNumber_2 : decode prog_1_method_20_code 2 = .ok (.if_icmp .lt 15, 3) := by decide +kernel
theorem dF_isRuleNumber_5 : decode prog_1_method_20_code 5 = .ok (.iload_n 1, 1) := by decide +kernel
theorem dF_isRuleNumber_6 : decode prog_1_method_20_code 6 = .ok (.aload_n 0, 1) := by decide +kernel
theorem dF_isRuleNumber_7 : decode prog_1_method_20_code 7 = .ok (.getfield 25, 3) := by decide +kernel
theorem dF_isRuleNumber_10 : decode prog_1_method_20_code 10 = .ok (.if_icmp .gt 7, 3) := by decide +kernel
theorem dF_isRuleNumber_13 : decode prog_1_method_20_code 13 = .ok (.iconst 1, 1) := by decide +kernel
theorem dF_isRuleNumber_14 : decode prog_1_method_20_code 14 = .ok (.goto 4, 3) := by decide +kernel
theorem dF_isRuleNumber_17 : decode prog_1_method_20_code 17 = .ok (.iconst 0, 1) := by decide +kernel
theorem dF_isRuleNumber_18 : decode prog_1_method_20_code 18 = .ok (.ireturn, 1) := by decide +kernel
def y_asking : MethodName := ⟨"FragileRules$Rule", "asking", "()I"⟩
theorem dR_asking_0 : decode prog_2_method_2_code 0 = .ok (.aload_n 0, 1) := by decide +kernel
theorem dR_asking_1 : decode prog_2_method_2_code 1 = .ok (.getfield 9, 3) := by decide +kernel
theorem dR_asking_4 : decode prog_2_method_2_code 4 = .ok (.tableswitch 54 1 5 #[36, 54, 54, 38, 40], 36) := by decide +kernel
theorem dR_asking_40 : decode prog_2_method_2_code 40 = .ok (.iconst 1, 1) := by decide +kernel
theorem dR_asking_41 : decode prog_2_method_2_code 41 = .ok (.ireturn, 1) := by decide +kernel
theorem dR_asking_42 : decode prog_2_method_2_code 42 = .ok (.iconst 2, 1) := by decide +kernel
theorem dR_asking_43 : decode prog_2_method_2_code 43 = .ok (.ireturn, 1) := by decide +kernel
theorem dR_asking_44 : decode prog_2_method_2_code 44 = .ok (.aload_n 0, 1) := by decide +kernel
theorem dR_asking_45 : decode prog_2_method_2_code 45 = .ok (.getfield 15, 3) := by decide +kernel
theorem dR_asking_48 : decode prog_2_method_2_code 48 = .ok (.iconst 2, 1) := by decide +kernel
theorem dR_asking_49 : decode prog_2_method_2_code 49 = .ok (.if_icmp .ne 7, 3) := by decide +kernel
theorem dR_asking_52 : decode prog_2_method_2_code 52 = .ok (.iconst 1, 1) := by decide +kernel
theorem dR_asking_53 : decode prog_2_method_2_code 53 = .ok (.goto 4, 3) := by decide +kernel
theorem dR_asking_56 : decode prog_2_method_2_code 56 = .ok (.iconst 0, 1) := by decide +kernel
theorem dR_asking_57 : decode prog_2_method_2_code 57 = .ok (.ireturn, 1) := by decide +kernel
theorem dR_asking_58 : decode prog_2_method_2_code 58 = .ok (.iconst 0, 1) := by decide +kernel
theorem dR_asking_59 : decode prog_2_method_2_code 59 = .ok (.ireturn, 1) := by decide +kernel
def y_doing : MethodName := ⟨"FragileRules$Rule", "refusesByItsDoing", "(LFragileRules$Unit;LFragileRules$Unit;I)Z"⟩
theorem dR_refusesByItsDoing_0 : decode prog_2_method_4_code 0 = .ok (.aload_n 0, 1) := by decide +kernel
theorem dR_refusesByItsDoing_1 : decode prog_2_method_4_code 1 = .ok (.getfield 15, 3) := by decide +kernel
theorem dR_refusesByItsDoing_4 : decode prog_2_method_4_code 4 = .ok (.tableswitch 87 0 2 #[28, 34, 52], 28) := by decide +kernel
theorem dR_refusesByItsDoing_32 : decode prog_2_method_4_code 32 = .ok (.aload_n 1, 1) := by decide +kernel
theorem dR_refusesByItsDoing_33 : decode prog_2_method_4_code 33 = .ok (.iconst 1, 1) := by decide +kernel
theorem dR_refusesByItsDoing_34 : decode prog_2_method_4_code 34 = .ok (.invokevirtual 32, 3) := by decide +kernel
theorem dR_refusesByItsDoing_37 : decode prog_2_method_4_code 37 = .ok (.ireturn, 1) := by decide +kernel
theorem dR_refusesByItsDoing_38 : decode prog_2_method_4_code 38 = .ok (.aload_n 2, 1) := by decide +kernel
theorem dR_refusesByItsDoing_39 : decode prog_2_method_4_code 39 = .ok (.iconst 2, 1) := by decide +kernel
theorem dR_refusesByItsDoing_40 : decode prog_2_method_4_code 40 = .ok (.invokevirtual 32, 3) := by decide +kernel
theorem dR_refusesByItsDoing_43 : decode prog_2_method_4_code 43 = .ok (.ifCond .eq 11, 3) := by decide +kernel
theorem dR_refusesByItsDoing_46 : decode prog_2_method_4_code 46 = .ok (.iload_n 3, 1) := by decide +kernel
theorem dR_refusesByItsDoing_47 : decode prog_2_method_4_code 47 = .ok (.ifCond .eq 7, 3) := by decide +kernel
theorem dR_refusesByItsDoing_50 : decode prog_2_method_4_code 50 = .ok (.iconst 1, 1) := by decide +kernel
theorem dR_refusesByItsDoing_51 : decode prog_2_method_4_code 51 = .ok (.goto 4, 3) := by decide +kernel
theorem dR_refusesByItsDoing_54 : decode prog_2_method_4_code 54 = .ok (.iconst 0, 1) := by decide +kernel
theorem dR_refusesByItsDoing_55 : decode prog_2_method_4_code 55 = .ok (.ireturn, 1) := by decide +kernel
theorem dR_refusesByItsDoing_56 : decode prog_2_method_4_code 56 = .ok (.aload_n 1, 1) := by decide +kernel
theorem dR_refusesByItsDoing_57 : decode prog_2_method_4_code 57 = .ok (.bipush 8, 2) := by decide +kernel
theorem dR_refusesByItsDoing_59 : decode prog_2_method_4_code 59 = .ok (.invokevirtual 32, 3) := by decide +kernel
theorem dR_refusesByItsDoing_62 : decode prog_2_method_4_code 62 = .ok (.ifCond .ne 12, 3) := by decide +kernel
theorem dR_refusesByItsDoing_65 : decode prog_2_method_4_code 65 = .ok (.aload_n 2, 1) := by decide +kernel
theorem dR_refusesByItsDoing_66 : decode prog_2_method_4_code 66 = .ok (.bipush 8, 2) := by decide +kernel
theorem dR_refusesByItsDoing_68 : decode prog_2_method_4_code 68 = .ok (.invokevirtual 32, 3) := by decide +kernel
theorem dR_refusesByItsDoing_71 : decode prog_2_method_4_code 71 = .ok (.ifCond .eq 18, 3) := by decide +kernel
theorem dR_refusesByItsDoing_74 : decode prog_2_method_4_code 74 = .ok (.aload_n 1, 1) := by decide +kernel
theorem dR_refusesByItsDoing_75 : decode prog_2_method_4_code 75 = .ok (.getfield 24, 3) := by decide +kernel
theorem dR_refusesByItsDoing_78 : decode prog_2_method_4_code 78 = .ok (.aload_n 2, 1) := by decide +kernel
theorem dR_refusesByItsDoing_79 : decode prog_2_method_4_code 79 = .ok (.getfield 24, 3) := by decide +kernel
theorem dR_refusesByItsDoing_82 : decode prog_2_method_4_code 82 = .ok (.if_icmp .eq 7, 3) := by decide +kernel
theorem dR_refusesByItsDoing_85 : decode prog_2_method_4_code 85 = .ok (.iconst 1, 1) := by decide +kernel
theorem dR_refusesByItsDoing_86 : decode prog_2_method_4_code 86 = .ok (.goto 4, 3) := by decide +kernel
theorem dR_refusesByItsDoing_89 : decode prog_2_method_4_code 89 = .ok (.iconst 0, 1) := by decide +kernel
theorem dR_refusesByItsDoing_90 : decode prog_2_method_4_code 90 = .ok (.ireturn, 1) := by decide +kernel
theorem dR_refusesByItsDoing_91 : decode prog_2_method_4_code 91 = .ok (.aload_n 1, 1) := by decide +kernel
theorem dR_refusesByItsDoing_92 : decode prog_2_method_4_code 92 = .ok (.iconst 4, 1) := by decide +kernel
theorem dR_refusesByItsDoing_93 : decode prog_2_method_4_code 93 = .ok (.invokevirtual 32, 3) := by decide +kernel
theorem dR_refusesByItsDoing_96 : decode prog_2_method_4_code 96 = .ok (.ifCond .eq 18, 3) := by decide +kernel
theorem dR_refusesByItsDoing_99 : decode prog_2_method_4_code 99 = .ok (.aload_n 1, 1) := by decide +kernel
theorem dR_refusesByItsDoing_100 : decode prog_2_method_4_code 100 = .ok (.getfield 24, 3) := by decide +kernel
theorem dR_refusesByItsDoing_103 : decode prog_2_method_4_code 103 = .ok (.aload_n 2, 1) := by decide +kernel
theorem dR_refusesByItsDoing_104 : decode prog_2_method_4_code 104 = .ok (.getfield 24, 3) := by decide +kernel
theorem dR_refusesByItsDoing_107 : decode prog_2_method_4_code 107 = .ok (.if_icmp .eq 7, 3) := by decide +kernel
theorem dR_refusesByItsDoing_110 : decode prog_2_method_4_code 110 = .ok (.iconst 1, 1) := by decide +kernel
theorem dR_refusesByItsDoing_111 : decode prog_2_method_4_code 111 = .ok (.goto 4, 3) := by decide +kernel
theorem dR_refusesByItsDoing_114 : decode prog_2_method_4_code 114 = .ok (.iconst 0, 1) := by decide +kernel
theorem dR_refusesByItsDoing_115 : decode prog_2_method_4_code 115 = .ok (.ireturn, 1) := by decide +kernel
def y_refuses : MethodName := ⟨"FragileRules$Rule", "refuses", "(LFragileRules$Unit;LFragileRules$Unit;I)Z"⟩
theorem dR_refuses_0 : decode prog_2_method_3_code 0 = .ok (.aload_n 0, 1) := by decide +kernel
theorem dR_refuses_1 : decode prog_2_method_3_code 1 = .ok (.getfield 9, 3) := by decide +kernel
theorem dR_refuses_4 : decode prog_2_method_3_code 4 = .ok (.tableswitch 195 0 4 #[36, 64, 114, 145, 170], 36) := by decide +kernel
theorem dR_refuses_40 : decode prog_2_method_3_code 40 = .ok (.aload_n 2, 1) := by decide +kernel
theorem dR_refuses_41 : decode prog_2_method_3_code 41 = .ok (.getfield 24, 3) := by decide +kernel
theorem dR_refuses_44 : decode prog_2_method_3_code 44 = .ok (.aload_n 0, 1) := by decide +kernel
theorem dR_refuses_45 : decode prog_2_method_3_code 45 = .ok (.getfield 15, 3) := by decide +kernel
theorem dR_refuses_48 : decode prog_2_method_3_code 48 = .ok (.if_icmp .ne 18, 3) := by decide +kernel
theorem dR_refuses_51 : decode prog_2_method_3_code 51 = .ok (.aload_n 1, 1) := by decide +kernel
theorem dR_refuses_52 : decode prog_2_method_3_code 52 = .ok (.getfield 24, 3) := by decide +kernel
theorem dR_refuses_55 : decode prog_2_method_3_code 55 = .ok (.aload_n 0, 1) := by decide +kernel
theorem dR_refuses_56 : decode prog_2_method_3_code 56 = .ok (.getfield 18, 3) := by decide +kernel
theorem dR_refuses_59 : decode prog_2_method_3_code 59 = .ok (.if_icmp .ne 7, 3) := by decide +kernel
theorem dR_refuses_62 : decode prog_2_method_3_code 62 = .ok (.iconst 1, 1) := by decide +kernel
theorem dR_refuses_63 : decode prog_2_method_3_code 63 = .ok (.goto 4, 3) := by decide +kernel
theorem dR_refuses_66 : decode prog_2_method_3_code 66 = .ok (.iconst 0, 1) := by decide +kernel
theorem dR_refuses_67 : decode prog_2_method_3_code 67 = .ok (.ireturn, 1) := by decide +kernel
theorem dR_refuses_68 : decode prog_2_method_3_code 68 = .ok (.aload_n 1, 1) := by decide +kernel
theorem dR_refuses_69 : decode prog_2_method_3_code 69 = .ok (.getfield 24, 3) := by decide +kernel
theorem dR_refuses_72 : decode prog_2_method_3_code 72 = .ok (.aload_n 0, 1) := by decide +kernel
theorem dR_refuses_73 : decode prog_2_method_3_code 73 = .ok (.getfield 15, 3) := by decide +kernel
theorem dR_refuses_76 : decode prog_2_method_3_code 76 = .ok (.if_icmp .ne 14, 3) := by decide +kernel
theorem dR_refuses_79 : decode prog_2_method_3_code 79 = .ok (.aload_n 2, 1) := by decide +kernel
theorem dR_refuses_80 : decode prog_2_method_3_code 80 = .ok (.getfield 24, 3) := by decide +kernel
theorem dR_refuses_83 : decode prog_2_method_3_code 83 = .ok (.aload_n 0, 1) := by decide +kernel
theorem dR_refuses_84 : decode prog_2_method_3_code 84 = .ok (.getfield 18, 3) := by decide +kernel
theorem dR_refuses_87 : decode prog_2_method_3_code 87 = .ok (.if_icmp .eq 25, 3) := by decide +kernel
theorem dR_refuses_90 : decode prog_2_method_3_code 90 = .ok (.aload_n 1, 1) := by decide +kernel
theorem dR_refuses_91 : decode prog_2_method_3_code 91 = .ok (.getfield 24, 3) := by decide +kernel
theorem dR_refuses_94 : decode prog_2_method_3_code 94 = .ok (.aload_n 0, 1) := by decide +kernel
theorem dR_refuses_95 : decode prog_2_method_3_code 95 = .ok (.getfield 18, 3) := by decide +kernel
theorem dR_refuses_98 : decode prog_2_method_3_code 98 = .ok (.if_icmp .ne 18, 3) := by decide +kernel
theorem dR_refuses_101 : decode prog_2_method_3_code 101 = .ok (.aload_n 2, 1) := by decide +kernel
theorem dR_refuses_102 : decode prog_2_method_3_code 102 = .ok (.getfield 24, 3) := by decide +kernel
theorem dR_refuses_105 : decode prog_2_method_3_code 105 = .ok (.aload_n 0, 1) := by decide +kernel
theorem dR_refuses_106 : decode prog_2_method_3_code 106 = .ok (.getfield 15, 3) := by decide +kernel
theorem dR_refuses_109 : decode prog_2_method_3_code 109 = .ok (.if_icmp .ne 7, 3) := by decide +kernel
theorem dR_refuses_112 : decode prog_2_method_3_code 112 = .ok (.iconst 1, 1) := by decide +kernel
theorem dR_refuses_113 : decode prog_2_method_3_code 113 = .ok (.goto 4, 3) := by decide +kernel
theorem dR_refuses_116 : decode prog_2_method_3_code 116 = .ok (.iconst 0, 1) := by decide +kernel
theorem dR_refuses_117 : decode prog_2_method_3_code 117 = .ok (.ireturn, 1) := by decide +kernel
theorem dR_refuses_118 : decode prog_2_method_3_code 118 = .ok (.aload_n 1, 1) := by decide +kernel
theorem dR_refuses_119 : decode prog_2_method_3_code 119 = .ok (.getfield 24, 3) := by decide +kernel
theorem dR_refuses_122 : decode prog_2_method_3_code 122 = .ok (.aload_n 0, 1) := by decide +kernel
theorem dR_refuses_123 : decode prog_2_method_3_code 123 = .ok (.getfield 15, 3) := by decide +kernel
theorem dR_refuses_126 : decode prog_2_method_3_code 126 = .ok (.if_icmp .ne 21, 3) := by decide +kernel
theorem dR_refuses_129 : decode prog_2_method_3_code 129 = .ok (.aload_n 2, 1) := by decide +kernel
theorem dR_refuses_130 : decode prog_2_method_3_code 130 = .ok (.getfield 29, 3) := by decide +kernel
theorem dR_refuses_133 : decode prog_2_method_3_code 133 = .ok (.bipush 10, 2) := by decide +kernel
theorem dR_refuses_135 : decode prog_2_method_3_code 135 = .ok (.aload_n 0, 1) := by decide +kernel
theorem dR_refuses_136 : decode prog_2_method_3_code 136 = .ok (.getfield 18, 3) := by decide +kernel
theorem dR_refuses_139 : decode prog_2_method_3_code 139 = .ok (.imul, 1) := by decide +kernel
theorem dR_refuses_140 : decode prog_2_method_3_code 140 = .ok (.if_icmp .le 7, 3) := by decide +kernel
theorem dR_refuses_143 : decode prog_2_method_3_code 143 = .ok (.iconst 1, 1) := by decide +kernel
theorem dR_refuses_144 : decode prog_2_method_3_code 144 = .ok (.goto 4, 3) := by decide +kernel
theorem dR_refuses_147 : decode prog_2_method_3_code 147 = .ok (.iconst 0, 1) := by decide +kernel
theorem dR_refuses_148 : decode prog_2_method_3_code 148 = .ok (.ireturn, 1) := by decide +kernel
theorem dR_refuses_149 : decode prog_2_method_3_code 149 = .ok (.aload_n 2, 1) := by decide +kernel
theorem dR_refuses_150 : decode prog_2_method_3_code 150 = .ok (.getfield 24, 3) := by decide +kernel
theorem dR_refuses_153 : decode prog_2_method_3_code 153 = .ok (.aload_n 0, 1) := by decide +kernel
theorem dR_refuses_154 : decode prog_2_method_3_code 154 = .ok (.getfield 15, 3) := by decide +kernel
theorem dR_refuses_157 : decode prog_2_method_3_code 157 = .ok (.if_icmp .ne 15, 3) := by decide +kernel
theorem dR_refuses_160 : decode prog_2_method_3_code 160 = .ok (.iload_n 3, 1) := by decide +kernel
theorem dR_refuses_161 : decode prog_2_method_3_code 161 = .ok (.aload_n 0, 1) := by decide +kernel
theorem dR_refuses_162 : decode prog_2_method_3_code 162 = .ok (.getfield 18, 3) := by decide +kernel
theorem dR_refuses_165 : decode prog_2_method_3_code 165 = .ok (.if_icmp .lt 7, 3) := by decide +kernel
theorem dR_refuses_168 : decode prog_2_method_3_code 168 = .ok (.iconst 1, 1) := by decide +kernel
theorem dR_refuses_169 : decode prog_2_method_3_code 169 = .ok (.goto 4, 3) := by decide +kernel
theorem dR_refuses_172 : decode prog_2_method_3_code 172 = .ok (.iconst 0, 1) := by decide +kernel
theorem dR_refuses_173 : decode prog_2_method_3_code 173 = .ok (.ireturn, 1) := by decide +kernel
theorem dR_refuses_174 : decode prog_2_method_3_code 174 = .ok (.iload_n 3, 1) := by decide +kernel
theorem dR_refuses_175 : decode prog_2_method_3_code 175 = .ok (.aload_n 0, 1) := by decide +kernel
theorem dR_refuses_176 : decode prog_2_method_3_code 176 = .ok (.getfield 15, 3) := by decide +kernel
theorem dR_refuses_179 : decode prog_2_method_3_code 179 = .ok (.if_icmp .ne 18, 3) := by decide +kernel
theorem dR_refuses_182 : decode prog_2_method_3_code 182 = .ok (.aload_n 1, 1) := by decide +kernel
theorem dR_refuses_183 : decode prog_2_method_3_code 183 = .ok (.aload_n 0, 1) := by decide +kernel
theorem dR_refuses_184 : decode prog_2_method_3_code 184 = .ok (.getfield 18, 3) := by decide +kernel
theorem dR_refuses_187 : decode prog_2_method_3_code 187 = .ok (.invokevirtual 32, 3) := by decide +kernel
theorem dR_refuses_190 : decode prog_2_method_3_code 190 = .ok (.ifCond .ne 7, 3) := by decide +kernel
theorem dR_refuses_193 : decode prog_2_method_3_code 193 = .ok (.iconst 1, 1) := by decide +kernel
theorem dR_refuses_194 : decode prog_2_method_3_code 194 = .ok (.goto 4, 3) := by decide +kernel
theorem dR_refuses_197 : decode prog_2_method_3_code 197 = .ok (.iconst 0, 1) := by decide +kernel
theorem dR_refuses_198 : decode prog_2_method_3_code 198 = .ok (.ireturn, 1) := by decide +kernel
theorem dR_refuses_199 : decode prog_2_method_3_code 199 = .ok (.aload_n 0, 1) := by decide +kernel
theorem dR_refuses_200 : decode prog_2_method_3_code 200 = .ok (.getfield 18, 3) := by decide +kernel
theorem dR_refuses_203 : decode prog_2_method_3_code 203 = .ok (.iconst 1, 1) := by decide +kernel
theorem dR_refuses_204 : decode prog_2_method_3_code 204 = .ok (.if_icmp .eq 13, 3) := by decide +kernel
theorem dR_refuses_207 : decode prog_2_method_3_code 207 = .ok (.aload_n 0, 1) := by decide +kernel
theorem dR_refuses_208 : decode prog_2_method_3_code 208 = .ok (.aload_n 1, 1) := by decide +kernel
theorem dR_refuses_209 : decode prog_2_method_3_code 209 = .ok (.aload_n 2, 1) := by decide +kernel
theorem dR_refuses_210 : decode prog_2_method_3_code 210 = .ok (.iload_n 3, 1) := by decide +kernel
theorem dR_refuses_211 : decode prog_2_method_3_code 211 = .ok (.invokevirtual 36, 3) := by decide +kernel
theorem dR_refuses_214 : decode prog_2_method_3_code 214 = .ok (.ifCond .eq 7, 3) := by decide +kernel
theorem dR_refuses_217 : decode prog_2_method_3_code 217 = .ok (.iconst 1, 1) := by decide +kernel
theorem dR_refuses_218 : decode prog_2_method_3_code 218 = .ok (.goto 4, 3) := by decide +kernel
theorem dR_refuses_221 : decode prog_2_method_3_code 221 = .ok (.iconst 0, 1) := by decide +kernel
theorem dR_refuses_222 : decode prog_2_method_3_code 222 = .ok (.ireturn, 1) := by decide +kernel
def y_count : MethodName := ⟨"FragileRules", "count", "(I)I"⟩
theorem dF_count_0 : decode prog_1_method_15_code 0 = .ok (.iload_n 1, 1) := by decide +kernel
theorem dF_count_1 : decode prog_1_method_15_code 1 = .ok (.tableswitch 63 0 4 #[35, 40, 45, 53, 58], 35) := by decide +kernel
theorem dF_count_36 : decode prog_1_method_15_code 36 = .ok (.aload_n 0, 1) := by decide +kernel
theorem dF_count_37 : decode prog_1_method_15_code 37 = .ok (.getfield 15, 3) := by decide +kernel
theorem dF_count_40 : decode prog_1_method_15_code 40 = .ok (.ireturn, 1) := by decide +kernel
theorem dF_count_41 : decode prog_1_method_15_code 41 = .ok (.aload_n 0, 1) := by decide +kernel
theorem dF_count_42 : decode prog_1_method_15_code 42 = .ok (.getfield 25, 3) := by decide +kernel
theorem dF_count_45 : decode prog_1_method_15_code 45 = .ok (.ireturn, 1) := by decide +kernel
theorem dF_count_46 : decode prog_1_method_15_code 46 = .ok (.aload_n 0, 1) := by decide +kernel
theorem dF_count_47 : decode prog_1_method_15_code 47 = .ok (.getfield 41, 3) := by decide +kernel
theorem dF_count_50 : decode prog_1_method_15_code 50 = .ok (.getfield 98, 3) := by decide +kernel
theorem dF_count_53 : decode prog_1_method_15_code 53 = .ok (.ireturn, 1) := by decide +kernel
theorem dF_count_54 : decode prog_1_method_15_code 54 = .ok (.aload_n 0, 1) := by decide +kernel
theorem dF_count_55 : decode prog_1_method_15_code 55 = .ok (.getfield 45, 3) := by decide +kernel
theorem dF_count_58 : decode prog_1_method_15_code 58 = .ok (.ireturn, 1) := by decide +kernel
theorem dF_count_59 : decode prog_1_method_15_code 59 = .ok (.aload_n 0, 1) := by decide +kernel
theorem dF_count_60 : decode prog_1_method_15_code 60 = .ok (.getfield 48, 3) := by decide +kernel
theorem dF_count_63 : decode prog_1_method_15_code 63 = .ok (.ireturn, 1) := by decide +kernel
theorem dF_count_64 : decode prog_1_method_15_code 64 = .ok (.iconst (-1), 1) := by decide +kernel
theorem dF_count_65 : decode prog_1_method_15_code 65 = .ok (.ireturn, 1) := by decide +kernel
def y_asked : MethodName := ⟨"FragileRules", "asked", "(I)I"⟩
theorem dF_asked_0 : decode prog_1_method_10_code 0 = .ok (.iload_n 1, 1) := by decide +kernel
theorem dF_asked_1 : decode prog_1_method_10_code 1 = .ok (.ifCond .lt 20, 3) := by decide +kernel
theorem dF_asked_4 : decode prog_1_method_10_code 4 = .ok (.iload_n 1, 1) := by decide +kernel
theorem dF_asked_5 : decode prog_1_method_10_code 5 = .ok (.aload_n 0, 1) := by decide +kernel
theorem dF_asked_6 : decode prog_1_method_10_code 6 = .ok (.getfield 35, 3) := by decide +kernel
theorem dF_asked_9 : decode prog_1_method_10_code 9 = .ok (.if_icmp .ge 12, 3) := by decide +kernel
theorem dF_asked_12 : decode prog_1_method_10_code 12 = .ok (.aload_n 0, 1) := by decide +kernel
theorem dF_asked_13 : decode prog_1_method_10_code 13 = .ok (.getfield 32, 3) := by decide +kernel
theorem dF_asked_16 : decode prog_1_method_10_code 16 = .ok (.iload_n 1, 1) := by decide +kernel
theorem dF_asked_17 : decode prog_1_method_10_code 17 = .ok (.iaload, 1) := by decide +kernel
theorem dF_asked_18 : decode prog_1_method_10_code 18 = .ok (.goto 4, 3) := by decide +kernel
theorem dF_asked_21 : decode prog_1_method_10_code 21 = .ok (.iconst (-1), 1) := by decide +kernel
theorem dF_asked_22 : decode prog_1_method_10_code 22 = .ok (.ireturn, 1) := by decide +kernel
def y_placeIn : MethodName := ⟨"FragileRules", "placeInOrder", "(I)I"⟩
theorem dF_placeInOrder_0 : decode prog_1_method_23_code 0 = .ok (.iconst 0, 1) := by decide +kernel
theorem dF_placeInOrder_1 : decode prog_1_method_23_code 1 = .ok (.istore_n 2, 1) := by decide +kernel
theorem dF_placeInOrder_2 : decode prog_1_method_23_code 2 = .ok (.iload_n 2, 1) := by decide +kernel
theorem dF_placeInOrder_3 : decode prog_1_method_23_code 3 = .ok (.aload_n 0, 1) := by decide +kernel
theorem dF_placeInOrder_4 : decode prog_1_method_23_code 4 = .ok (.getfield 25, 3) := by decide +kernel
theorem dF_placeInOrder_7 : decode prog_1_method_23_code 7 = .ok (.iconst 1, 1) := by decide +kernel
theorem dF_placeInOrder_8 : decode prog_1_method_23_code 8 = .ok (.isub, 1) := by decide +kernel
theorem dF_placeInOrder_9 : decode prog_1_method_23_code 9 = .ok (.if_icmp .ge 19, 3) := by decide +kernel
theorem dF_placeInOrder_12 : decode prog_1_method_23_code 12 = .ok (.aload_n 0, 1) := by decide +kernel
theorem dF_placeInOrder_13 : decode prog_1_method_23_code 13 = .ok (.getfield 28, 3) := by decide +kernel
theorem dF_placeInOrder_16 : decode prog_1_method_23_code 16 = .ok (.iload_n 2, 1) := by decide +kernel
theorem dF_placeInOrder_17 : decode prog_1_method_23_code 17 = .ok (.iaload, 1) := by decide +kernel
theorem dF_placeInOrder_18 : decode prog_1_method_23_code 18 = .ok (.iload_n 1, 1) := by decide +kernel
theorem dF_placeInOrder_19 : decode prog_1_method_23_code 19 = .ok (.if_icmp .eq 9, 3) := by decide +kernel
theorem dF_placeInOrder_22 : decode prog_1_method_23_code 22 = .ok (.iinc 2 1, 3) := by decide +kernel
theorem dF_placeInOrder_25 : decode prog_1_method_23_code 25 = .ok (.goto (-23), 3) := by decide +kernel
theorem dF_placeInOrder_28 : decode prog_1_method_23_code 28 = .ok (.iload_n 2, 1) := by decide +kernel
theorem dF_placeInOrder_29 : decode prog_1_method_23_code 29 = .ok (.ireturn, 1) := by decide +kernel
theorem fl_U_16 : Cond.fieldLink "FragileRules$Unit" 16 "FragileRules$Unit" "marks" "I" ∈ fr_tbl := fr_in 78 (by decide +kernel) rfl
theorem fl_T_15 : Cond.fieldLink "FragileRules$Text" 15 "FragileRules$Text" "length" "I" ∈ fr_tbl := fr_in 59 (by decide +kernel) rfl
theorem fl_T_9 : Cond.fieldLink "FragileRules$Text" 9 "FragileRules$Text" "signs" "[I" ∈ fr_tbl := fr_in 57 (by decide +kernel) rfl
theorem ml_T_26 : Cond.methodLink "FragileRules$Text" 26 ⟨"FragileRules$Text", "signAt", "(I)I"⟩ ∈ fr_tbl := fr_in 331 (by decide +kernel) rfl
theorem mi_signAt : Cond.instanceMethod ⟨"FragileRules$Text", "signAt", "(I)I"⟩ ∈ fr_tbl := fr_in 332 (by decide +kernel) rfl
theorem msel_signAt : Cond.selects "FragileRules$Text" ⟨"FragileRules$Text", "signAt", "(I)I"⟩ ⟨"FragileRules$Text", "signAt", "(I)I"⟩ ∈ fr_tbl := fr_in 333 (by decide +kernel) rfl
theorem mini_T : Cond.initialized "FragileRules$Text" ∈ fr_tbl := fr_in 26 (by decide +kernel) rfl
theorem mc_signAt : Cond.code ⟨"FragileRules$Text", "signAt", "(I)I"⟩ prog_3_method_8_code 2 (some FieldType.int) ∈ fr_tbl := fr_in 334 (by decide +kernel) rfl
theorem ml_T_29 : Cond.methodLink "FragileRules$Text" 29 ⟨"FragileRules$Text", "digitAt", "(I)I"⟩ ∈ fr_tbl := fr_in 335 (by decide +kernel) rfl
theorem mi_digitAt : Cond.instanceMethod ⟨"FragileRules$Text", "digitAt", "(I)I"⟩ ∈ fr_tbl := fr_in 336 (by decide +kernel) rfl
theorem msel_digitAt : Cond.selects "FragileRules$Text" ⟨"FragileRules$Text", "digitAt", "(I)I"⟩ ⟨"FragileRules$Text", "digitAt", "(I)I"⟩ ∈ fr_tbl := fr_in 337 (by decide +kernel) rfl
theorem mc_digitAt : Cond.code ⟨"FragileRules$Text", "digitAt", "(I)I"⟩ prog_3_method_7_code 3 (some FieldType.int) ∈ fr_tbl := fr_in 338 (by decide +kernel) rfl
theorem ml_T_23 : Cond.methodLink "FragileRules$Text" 23 ⟨"FragileRules$Text", "rowAt", "(I)I"⟩ ∈ fr_tbl := fr_in 327 (by decide +kernel) rfl
theorem mi_rowAt : Cond.instanceMethod ⟨"FragileRules$Text", "rowAt", "(I)I"⟩ ∈ fr_tbl := fr_in 328 (by decide +kernel) rfl
theorem msel_rowAt : Cond.selects "FragileRules$Text" ⟨"FragileRules$Text", "rowAt", "(I)I"⟩ ⟨"FragileRules$Text", "rowAt", "(I)I"⟩ ∈ fr_tbl := fr_in 329 (by decide +kernel) rfl
theorem mc_rowAt : Cond.code ⟨"FragileRules$Text", "rowAt", "(I)I"⟩ prog_3_method_5_code 2 (some FieldType.int) ∈ fr_tbl := fr_in 330 (by decide +kernel) rfl
theorem mc_within : Cond.code ⟨"FragileRules", "isWithin", "(II)Z"⟩ prog_1_method_16_code 2 (some FieldType.boolean) ∈ fr_tbl := fr_in 159 (by decide +kernel) rfl
theorem mini_F : Cond.initialized "FragileRules" ∈ fr_tbl := fr_in 25 (by decide +kernel) rfl
theorem mst_within : Cond.static ⟨"FragileRules", "isWithin", "(II)Z"⟩ ∈ fr_tbl := fr_in 158 (by decide +kernel) rfl
theorem ml_T_19 : Cond.methodLink "FragileRules$Text" 19 ⟨"FragileRules$Text", "behindLine", "(I)I"⟩ ∈ fr_tbl := fr_in 323 (by decide +kernel) rfl
theorem mi_behind : Cond.instanceMethod ⟨"FragileRules$Text", "behindLine", "(I)I"⟩ ∈ fr_tbl := fr_in 324 (by decide +kernel) rfl
theorem msel_behind : Cond.selects "FragileRules$Text" ⟨"FragileRules$Text", "behindLine", "(I)I"⟩ ⟨"FragileRules$Text", "behindLine", "(I)I"⟩ ∈ fr_tbl := fr_in 325 (by decide +kernel) rfl
theorem mc_behind : Cond.code ⟨"FragileRules$Text", "behindLine", "(I)I"⟩ prog_3_method_4_code 6 (some FieldType.int) ∈ fr_tbl := fr_in 326 (by decide +kernel) rfl
theorem fl_F_15 : Cond.fieldLink "FragileRules" 15 "FragileRules" "unitCount" "I" ∈ fr_tbl := fr_in 110 (by decide +kernel) rfl
theorem fl_F_25 : Cond.fieldLink "FragileRules" 25 "FragileRules" "ruleCount" "I" ∈ fr_tbl := fr_in 112 (by decide +kernel) rfl
theorem fl_R_9 : Cond.fieldLink "FragileRules$Rule" 9 "FragileRules$Rule" "row" "I" ∈ fr_tbl := fr_in 92 (by decide +kernel) rfl
theorem fl_R_15 : Cond.fieldLink "FragileRules$Rule" 15 "FragileRules$Rule" "a" "I" ∈ fr_tbl := fr_in 94 (by decide +kernel) rfl
theorem ml_R_32 : Cond.methodLink "FragileRules$Rule" 32 ⟨"FragileRules$Unit", "has", "(I)Z"⟩ ∈ fr_tbl := fr_in 265 (by decide +kernel) rfl
theorem mi_has : Cond.instanceMethod ⟨"FragileRules$Unit", "has", "(I)Z"⟩ ∈ fr_tbl := fr_in 250 (by decide +kernel) rfl
theorem msel_has : Cond.selects "FragileRules$Unit" ⟨"FragileRules$Unit", "has", "(I)Z"⟩ ⟨"FragileRules$Unit", "has", "(I)Z"⟩ ∈ fr_tbl := fr_in 251 (by decide +kernel) rfl
theorem mini_U : Cond.initialized "FragileRules$Unit" ∈ fr_tbl := fr_in 27 (by decide +kernel) rfl
theorem mc_has : Cond.code ⟨"FragileRules$Unit", "has", "(I)Z"⟩ prog_4_method_2_code 2 (some FieldType.boolean) ∈ fr_tbl := fr_in 252 (by decide +kernel) rfl
theorem fl_R_24 : Cond.fieldLink "FragileRules$Rule" 24 "FragileRules$Unit" "kind" "I" ∈ fr_tbl := fr_in 74 (by decide +kernel) rfl
theorem fl_R_18 : Cond.fieldLink "FragileRules$Rule" 18 "FragileRules$Rule" "b" "I" ∈ fr_tbl := fr_in 96 (by decide +kernel) rfl
theorem fl_R_29 : Cond.fieldLink "FragileRules$Rule" 29 "FragileRules$Unit" "weight" "I" ∈ fr_tbl := fr_in 77 (by decide +kernel) rfl
theorem ml_R_36 : Cond.methodLink "FragileRules$Rule" 36 ⟨"FragileRules$Rule", "refusesByItsDoing", "(LFragileRules$Unit;LFragileRules$Unit;I)Z"⟩ ∈ fr_tbl := fr_in 266 (by decide +kernel) rfl
theorem mi_doing : Cond.instanceMethod ⟨"FragileRules$Rule", "refusesByItsDoing", "(LFragileRules$Unit;LFragileRules$Unit;I)Z"⟩ ∈ fr_tbl := fr_in 267 (by decide +kernel) rfl
theorem msel_doing : Cond.selects "FragileRules$Rule" ⟨"FragileRules$Rule", "refusesByItsDoing", "(LFragileRules$Unit;LFragileRules$Unit;I)Z"⟩ ⟨"FragileRules$Rule", "refusesByItsDoing", "(LFragileRules$Unit;LFragileRules$Unit;I)Z"⟩ ∈ fr_tbl := fr_in 268 (by decide +kernel) rfl
theorem mini_R : Cond.initialized "FragileRules$Rule" ∈ fr_tbl := fr_in 28 (by decide +kernel) rfl
theorem mc_doing : Cond.code ⟨"FragileRules$Rule", "refusesByItsDoing", "(LFragileRules$Unit;LFragileRules$Unit;I)Z"⟩ prog_2_method_4_code 4 (some FieldType.boolean) ∈ fr_tbl := fr_in 269 (by decide +kernel) rfl
theorem fl_F_41 : Cond.fieldLink "FragileRules" 41 "FragileRules" "text" "LFragileRules$Text;" ∈ fr_tbl := fr_in 116 (by decide +kernel) rfl
theorem fl_F_98 : Cond.fieldLink "FragileRules" 98 "FragileRules$Text" "length" "I" ∈ fr_tbl := fr_in 60 (by decide +kernel) rfl
theorem fl_F_45 : Cond.fieldLink "FragileRules" 45 "FragileRules" "verdictCount" "I" ∈ fr_tbl := fr_in 117 (by decide +kernel) rfl
theorem fl_F_48 : Cond.fieldLink "FragileRules" 48 "FragileRules" "refusedCount" "I" ∈ fr_tbl := fr_in 118 (by decide +kernel) rfl
theorem fl_F_35 : Cond.fieldLink "FragileRules" 35 "FragileRules" "askedCount" "I" ∈ fr_tbl := fr_in 115 (by decide +kernel) rfl
theorem fl_F_32 : Cond.fieldLink "FragileRules" 32 "FragileRules" "askedNumbers" "[I" ∈ fr_tbl := fr_in 114 (by decide +kernel) rfl
theorem fl_F_28 : Cond.fieldLink "FragileRules" 28 "FragileRules" "numbersInOrder" "[I" ∈ fr_tbl := fr_in 113 (by decide +kernel) rfl
end
section
def fr_nw : List Cond := [Cond.arrayOver (FieldType.object "FragileRules$Unit"),
  Cond.arrayOver (FieldType.object "FragileRules$Rule"),
  Cond.methodLinkNest "FragileRules" 40 ⟨"FragileRules$Text", "<init>", "()V"⟩ "FragileRules",
  Cond.methodLinkNest "FragileRules" 51 ⟨"FragileRules$Unit", "<init>", "()V"⟩ "FragileRules",
  Cond.methodLinkNest "FragileRules" 52 ⟨"FragileRules$Rule", "<init>", "()V"⟩ "FragileRules",
  Cond.castable "java/lang/IllegalArgumentException" "java/lang/IllegalArgumentException",
  Cond.declares ⟨"java/lang/RuntimeException", "<init>", "()V"⟩,
  Cond.declares ⟨"java/lang/RuntimeException", "<init>", "(Ljava/lang/String;)V"⟩,
  Cond.declares ⟨"java/lang/Exception", "<init>", "()V"⟩,
  Cond.declares ⟨"java/lang/Exception", "<init>", "(Ljava/lang/String;)V"⟩,
  Cond.declares ⟨"java/lang/Throwable", "<init>", "()V"⟩,
  Cond.declares ⟨"java/lang/Throwable", "<init>", "(Ljava/lang/String;)V"⟩,
  Cond.stringRef "FragileRules" 59 "kind, weight or marks out of range",
  Cond.castable "java/lang/UnsupportedOperationException" "java/lang/UnsupportedOperationException",
  Cond.stringRef "FragileRules" 66 "no room for a unit",
  Cond.stringRef "FragileRules" 86 "not as the row says",
  Cond.stringRef "FragileRules" 88 "no room for a rule",
  Cond.stringRef "FragileRules" 94 "no such doing",
  Cond.stringRef "FragileRules" 96 "no such sign",
  Cond.stringRef "FragileRules" 101 "no room for a sign",
  Cond.methodLinkNest "FragileRules$Text" 32 ⟨"FragileRules", "isWithin", "(II)Z"⟩ "FragileRules",
  Cond.stringRef "FragileRules" 117 "no room for the rules of the text",
  Cond.castable "java/util/NoSuchElementException" "java/util/NoSuchElementException",
  Cond.stringRef "FragileRules" 125 "no such unit",
  Cond.stringRef "FragileRules" 128 "no such place",
  Cond.castable "java/lang/IllegalStateException" "java/lang/IllegalStateException",
  Cond.stringRef "FragileRules" 132 "the same unit",
  Cond.stringRef "FragileRules" 142 "no such mark",
  Cond.stringRef "FragileRules" 147 "it has the mark",
  Cond.stringRef "FragileRules" 149 "below 0",
  Cond.stringRef "FragileRules" 157 "no such rule",
  Cond.stringRef "FragileRules" 159 "no such place in the order",
  Cond.stringRef "FragileRules" 180 "nothing of that is told of a rule",
  Cond.stringRef "FragileRules" 182 "nothing of that is told of a unit"]
theorem nst_T_32 : Cond.methodLinkNest "FragileRules$Text" 32 ⟨"FragileRules", "isWithin", "(II)Z"⟩ "FragileRules" ∈ fr_nw := by decide +kernel
def fr_ty (ka : Nat → ClassId) : List (ClassId × FieldType) := [(ka 0, .object "FragileRules$Unit"), (ka 1, .object "FragileRules$Rule"), (ka 2, .int), (ka 3, .long)]
theorem gf_U_16 {p : Program} {l : Launch} {e : Env} {R : Room} {s : State} {m : MethodId} {args : Array Value} {below : List Frame} {meth : Method} {c : Code} {H : Heap} {locs : List Loc} {cells slots : Nat} {Q : State → Prop} {D : va_G} {A : Nat → Prop} {cc : ByteArray} {nL pc : Nat} {ret : Option FieldType} {hh : List ExceptionTableEntry} {ls : Array Slot} {rest : List Value} {ka : Nat → ClassId} {al : Nat → Nat} {f : Nat → Nat → Int32} {Z : va_W} (C : fr_Cx p s m args meth c "FragileRules$Unit" cc nL ret hh fr_tbl fr_nw D vwCl (fr_ty ka) A) (hP : va_P D vwCl (fr_cw ka al f Z) H) {i : Nat} (hi : i < 10) (hdg : decode cc pc = .ok (.getfield 16, 3)) (kk : W p l e R s m args below meth c H locs cells slots Q (F0 m (pc + 3) ls (.int (f 3 i) :: rest))) : W p l e R s m args below meth c H locs cells slots Q (F0 m pc ls (.ref (al (7 + i)) :: rest)) :=
  va_get (D := D) (ci := 1) (v := .int (f 3 i)) (C := "FragileRules$Unit") (T := TXU) (N := 3) C.1 C.2.1 C.2.2.2.2.1 iXU C.2.2.2.1 C.2.2.2.2.2.1 hP (7 + i) (fr_cw_u hi) rfl 2 (by decide) (C.2.2.2.2.1 _ fl_U_16) (fun _ h9 => h9) rfl hdg kk
theorem gf_T_15 {p : Program} {l : Launch} {e : Env} {R : Room} {s : State} {m : MethodId} {args : Array Value} {below : List Frame} {meth : Method} {c : Code} {H : Heap} {locs : List Loc} {cells slots : Nat} {Q : State → Prop} {D : va_G} {A : Nat → Prop} {cc : ByteArray} {nL pc : Nat} {ret : Option FieldType} {hh : List ExceptionTableEntry} {ls : Array Slot} {rest : List Value} {ka : Nat → ClassId} {al : Nat → Nat} {f : Nat → Nat → Int32} {Z : va_W} (C : fr_Cx p s m args meth c "FragileRules$Text" cc nL ret hh fr_tbl fr_nw D vwCl (fr_ty ka) A) (hP : va_P D vwCl (fr_cw ka al f Z) H) (hdg : decode cc pc = .ok (.getfield 15, 3)) (kk : W p l e R s m args below meth c H locs cells slots Q (F0 m (pc + 3) ls (.int (f 0 5) :: rest))) : W p l e R s m args below meth c H locs cells slots Q (F0 m pc ls (.ref (al 5) :: rest)) :=
  va_get (D := D) (ci := 3) (v := .int (f 0 5)) (C := "FragileRules$Text") (T := TXT) (N := 2) C.1 C.2.1 C.2.2.2.2.1 iXT C.2.2.2.1 C.2.2.2.2.2.1 hP 5 rfl rfl 1 (by decide) (C.2.2.2.2.1 _ fl_T_15) (fun _ h9 => h9) rfl hdg kk
theorem gf_T_9 {p : Program} {l : Launch} {e : Env} {R : Room} {s : State} {m : MethodId} {args : Array Value} {below : List Frame} {meth : Method} {c : Code} {H : Heap} {locs : List Loc} {cells slots : Nat} {Q : State → Prop} {D : va_G} {A : Nat → Prop} {cc : ByteArray} {nL pc : Nat} {ret : Option FieldType} {hh : List ExceptionTableEntry} {ls : Array Slot} {rest : List Value} {ka : Nat → ClassId} {al : Nat → Nat} {f : Nat → Nat → Int32} {Z : va_W} (C : fr_Cx p s m args meth c "FragileRules$Text" cc nL ret hh fr_tbl fr_nw D vwCl (fr_ty ka) A) (hP : va_P D vwCl (fr_cw ka al f Z) H) (hdg : decode cc pc = .ok (.getfield 9, 3)) (kk : W p l e R s m args below meth c H locs cells slots Q (F0 m (pc + 3) ls (.ref (al 6) :: rest))) : W p l e R s m args below meth c H locs cells slots Q (F0 m pc ls (.ref (al 5) :: rest)) :=
  va_get (D := D) (ci := 3) (v := .ref (al 6)) (C := "FragileRules$Text") (T := TXT) (N := 2) C.1 C.2.1 C.2.2.2.2.1 iXT C.2.2.2.1 C.2.2.2.2.2.1 hP 5 rfl rfl 0 (by decide) (C.2.2.2.2.1 _ fl_T_9) (fun _ h9 => h9) rfl hdg kk
theorem ald_10 {p : Program} {l : Launch} {e : Env} {R : Room} {s : State} {m : MethodId} {args : Array Value} {below : List Frame} {meth : Method} {c : Code} {H : Heap} {locs : List Loc} {cells slots : Nat} {Q : State → Prop} {D : va_G} {A : Nat → Prop} {cc : ByteArray} {nL pc : Nat} {ret : Option FieldType} {hh : List ExceptionTableEntry} {ls : Array Slot} {rest : List Value} {ka : Nat → ClassId} {al : Nat → Nat} {f : Nat → Nat → Int32} {Z : va_W} {own : String} {x : Int32} (C : fr_Cx p s m args meth c own cc nL ret hh fr_tbl fr_nw D vwCl (fr_ty ka) A) (hP : va_P D vwCl (fr_cw ka al f Z) H) (hin : vp_in x 200) (hdg : decode cc pc = .ok (.iaload, 1)) (kk : W p l e R s m args below meth c H locs cells slots Q (F0 m (pc + 1) ls (.int (f 10 x.toNatClampNeg) :: rest))) : W p l e R s m args below meth c H locs cells slots Q (F0 m pc ls (.int x :: .ref (al 6) :: rest)) :=
  va_iald (D := D) C.1 C.2.1 C.2.2.2.2.2.1 hP 6 2 (f := fun j => f 10 j) rfl rfl hin hdg kk
theorem gf_F_15 {p : Program} {l : Launch} {e : Env} {R : Room} {s : State} {m : MethodId} {args : Array Value} {below : List Frame} {meth : Method} {c : Code} {H : Heap} {locs : List Loc} {cells slots : Nat} {Q : State → Prop} {D : va_G} {A : Nat → Prop} {cc : ByteArray} {nL pc : Nat} {ret : Option FieldType} {hh : List ExceptionTableEntry} {ls : Array Slot} {rest : List Value} {ka : Nat → ClassId} {al : Nat → Nat} {f : Nat → Nat → Int32} {Z : va_W} (C : fr_Cx p s m args meth c "FragileRules" cc nL ret hh fr_tbl fr_nw D vwCl (fr_ty ka) A) (hP : va_P D vwCl (fr_cw ka al f Z) H) (hdg : decode cc pc = .ok (.getfield 15, 3)) (kk : W p l e R s m args below meth c H locs cells slots Q (F0 m (pc + 3) ls (.int (f 0 0) :: rest))) : W p l e R s m args below meth c H locs cells slots Q (F0 m pc ls (.ref (al 0) :: rest)) :=
  va_get (D := D) (ci := 0) (v := .int (f 0 0)) (C := "FragileRules") (T := TXF) (N := 10) C.1 C.2.1 C.2.2.2.2.1 iXF C.2.2.2.1 C.2.2.2.2.2.1 hP 0 rfl rfl 1 (by decide) (C.2.2.2.2.1 _ fl_F_15) (fun _ h9 => h9) rfl hdg kk
theorem gf_F_25 {p : Program} {l : Launch} {e : Env} {R : Room} {s : State} {m : MethodId} {args : Array Value} {below : List Frame} {meth : Method} {c : Code} {H : Heap} {locs : List Loc} {cells slots : Nat} {Q : State → Prop} {D : va_G} {A : Nat → Prop} {cc : ByteArray} {nL pc : Nat} {ret : Option FieldType} {hh : List ExceptionTableEntry} {ls : Array Slot} {rest : List Value} {ka : Nat → ClassId} {al : Nat → Nat} {f : Nat → Nat → Int32} {Z : va_W} (C : fr_Cx p s m args meth c "FragileRules" cc nL ret hh fr_tbl fr_nw D vwCl (fr_ty ka) A) (hP : va_P D vwCl (fr_cw ka al f Z) H) (hdg : decode cc pc = .ok (.getfield 25, 3)) (kk : W p l e R s m args below meth c H locs cells slots Q (F0 m (pc + 3) ls (.int (f 0 1) :: rest))) : W p l e R s m args below meth c H locs cells slots Q (F0 m pc ls (.ref (al 0) :: rest)) :=
  va_get (D := D) (ci := 0) (v := .int (f 0 1)) (C := "FragileRules") (T := TXF) (N := 10) C.1 C.2.1 C.2.2.2.2.1 iXF C.2.2.2.1 C.2.2.2.2.2.1 hP 0 rfl rfl 3 (by decide) (C.2.2.2.2.1 _ fl_F_25) (fun _ h9 => h9) rfl hdg kk
theorem gf_R_9 {p : Program} {l : Launch} {e : Env} {R : Room} {s : State} {m : MethodId} {args : Array Value} {below : List Frame} {meth : Method} {c : Code} {H : Heap} {locs : List Loc} {cells slots : Nat} {Q : State → Prop} {D : va_G} {A : Nat → Prop} {cc : ByteArray} {nL pc : Nat} {ret : Option FieldType} {hh : List ExceptionTableEntry} {ls : Array Slot} {rest : List Value} {ka : Nat → ClassId} {al : Nat → Nat} {f : Nat → Nat → Int32} {Z : va_W} (C : fr_Cx p s m args meth c "FragileRules$Rule" cc nL ret hh fr_tbl fr_nw D vwCl (fr_ty ka) A) (hP : va_P D vwCl (fr_cw ka al f Z) H) {i : Nat} (hi : i < 12) (hdg : decode cc pc = .ok (.getfield 9, 3)) (kk : W p l e R s m args below meth c H locs cells slots Q (F0 m (pc + 3) ls (.int (f 4 i) :: rest))) : W p l e R s m args below meth c H locs cells slots Q (F0 m pc ls (.ref (al (17 + i)) :: rest)) :=
  va_get (D := D) (ci := 2) (v := .int (f 4 i)) (C := "FragileRules$Rule") (T := TXR) (N := 4) C.1 C.2.1 C.2.2.2.2.1 iXR C.2.2.2.1 C.2.2.2.2.2.1 hP (17 + i) (fr_cw_r hi) rfl 0 (by decide) (C.2.2.2.2.1 _ fl_R_9) (fun _ h9 => h9) rfl hdg kk
theorem gf_R_15 {p : Program} {l : Launch} {e : Env} {R : Room} {s : State} {m : MethodId} {args : Array Value} {below : List Frame} {meth : Method} {c : Code} {H : Heap} {locs : List Loc} {cells slots : Nat} {Q : State → Prop} {D : va_G} {A : Nat → Prop} {cc : ByteArray} {nL pc : Nat} {ret : Option FieldType} {hh : List ExceptionTableEntry} {ls : Array Slot} {rest : List Value} {ka : Nat → ClassId} {al : Nat → Nat} {f : Nat → Nat → Int32} {Z : va_W} (C : fr_Cx p s m args meth c "FragileRules$Rule" cc nL ret hh fr_tbl fr_nw D vwCl (fr_ty ka) A) (hP : va_P D vwCl (fr_cw ka al f Z) H) {i : Nat} (hi : i < 12) (hdg : decode cc pc = .ok (.getfield 15, 3)) (kk : W p l e R s m args below meth c H locs cells slots Q (F0 m (pc + 3) ls (.int (f 5 i) :: rest))) : W p l e R s m args below meth c H locs cells slots Q (F0 m pc ls (.ref (al (17 + i)) :: rest)) :=
  va_get (D := D) (ci := 2) (v := .int (f 5 i)) (C := "FragileRules$Rule") (T := TXR) (N := 4) C.1 C.2.1 C.2.2.2.2.1 iXR C.2.2.2.1 C.2.2.2.2.2.1 hP (17 + i) (fr_cw_r hi) rfl 1 (by decide) (C.2.2.2.2.1 _ fl_R_15) (fun _ h9 => h9) rfl hdg kk
theorem gf_R_24 {p : Program} {l : Launch} {e : Env} {R : Room} {s : State} {m : MethodId} {args : Array Value} {below : List Frame} {meth : Method} {c : Code} {H : Heap} {locs : List Loc} {cells slots : Nat} {Q : State → Prop} {D : va_G} {A : Nat → Prop} {cc : ByteArray} {nL pc : Nat} {ret : Option FieldType} {hh : List ExceptionTableEntry} {ls : Array Slot} {rest : List Value} {ka : Nat → ClassId} {al : Nat → Nat} {f : Nat → Nat → Int32} {Z : va_W} (C : fr_Cx p s m args meth c "FragileRules$Rule" cc nL ret hh fr_tbl fr_nw D vwCl (fr_ty ka) A) (hP : va_P D vwCl (fr_cw ka al f Z) H) {i : Nat} (hi : i < 10) (hdg : decode cc pc = .ok (.getfield 24, 3)) (kk : W p l e R s m args below meth c H locs cells slots Q (F0 m (pc + 3) ls (.int (f 1 i) :: rest))) : W p l e R s m args below meth c H locs cells slots Q (F0 m pc ls (.ref (al (7 + i)) :: rest)) :=
  va_get (D := D) (ci := 1) (v := .int (f 1 i)) (C := "FragileRules$Unit") (T := TXU) (N := 3) C.1 C.2.1 C.2.2.2.2.1 iXU C.2.2.2.1 C.2.2.2.2.2.1 hP (7 + i) (fr_cw_u hi) rfl 0 (by decide) (C.2.2.2.2.1 _ fl_R_24) (fun _ h9 => h9) rfl hdg kk
theorem gf_R_18 {p : Program} {l : Launch} {e : Env} {R : Room} {s : State} {m : MethodId} {args : Array Value} {below : List Frame} {meth : Method} {c : Code} {H : Heap} {locs : List Loc} {cells slots : Nat} {Q : State → Prop} {D : va_G} {A : Nat → Prop} {cc : ByteArray} {nL pc : Nat} {ret : Option FieldType} {hh : List ExceptionTableEntry} {ls : Array Slot} {rest : List Value} {ka : Nat → ClassId} {al : Nat → Nat} {f : Nat → Nat → Int32} {Z : va_W} (C : fr_Cx p s m args meth c "FragileRules$Rule" cc nL ret hh fr_tbl fr_nw D vwCl (fr_ty ka) A) (hP : va_P D vwCl (fr_cw ka al f Z) H) {i : Nat} (hi : i < 12) (hdg : decode cc pc = .ok (.getfield 18, 3)) (kk : W p l e R s m args below meth c H locs cells slots Q (F0 m (pc + 3) ls (.int (f 6 i) :: rest))) : W p l e R s m args below meth c H locs cells slots Q (F0 m pc ls (.ref (al (17 + i)) :: rest)) :=
  va_get (D := D) (ci := 2) (v := .int (f 6 i)) (C := "FragileRules$Rule") (T := TXR) (N := 4) C.1 C.2.1 C.2.2.2.2.1 iXR C.2.2.2.1 C.2.2.2.2.2.1 hP (17 + i) (fr_cw_r hi) rfl 2 (by decide) (C.2.2.2.2.1 _ fl_R_18) (fun _ h9 => h9) rfl hdg kk
theorem gf_R_29 {p : Program} {l : Launch} {e : Env} {R : Room} {s : State} {m : MethodId} {args : Array Value} {below : List Frame} {meth : Method} {c : Code} {H : Heap} {locs : List Loc} {cells slots : Nat} {Q : State → Prop} {D : va_G} {A : Nat → Prop} {cc : ByteArray} {nL pc : Nat} {ret : Option FieldType} {hh : List ExceptionTableEntry} {ls : Array Slot} {rest : List Value} {ka : Nat → ClassId} {al : Nat → Nat} {f : Nat → Nat → Int32} {Z : va_W} (C : fr_Cx p s m args meth c "FragileRules$Rule" cc nL ret hh fr_tbl fr_nw D vwCl (fr_ty ka) A) (hP : va_P D vwCl (fr_cw ka al f Z) H) {i : Nat} (hi : i < 10) (hdg : decode cc pc = .ok (.getfield 29, 3)) (kk : W p l e R s m args below meth c H locs cells slots Q (F0 m (pc + 3) ls (.int (f 2 i) :: rest))) : W p l e R s m args below meth c H locs cells slots Q (F0 m pc ls (.ref (al (7 + i)) :: rest)) :=
  va_get (D := D) (ci := 1) (v := .int (f 2 i)) (C := "FragileRules$Unit") (T := TXU) (N := 3) C.1 C.2.1 C.2.2.2.2.1 iXU C.2.2.2.1 C.2.2.2.2.2.1 hP (7 + i) (fr_cw_u hi) rfl 1 (by decide) (C.2.2.2.2.1 _ fl_R_29) (fun _ h9 => h9) rfl hdg kk
theorem gf_F_41 {p : Program} {l : Launch} {e : Env} {R : Room} {s : State} {m : MethodId} {args : Array Value} {below : List Frame} {meth : Method} {c : Code} {H : Heap} {locs : List Loc} {cells slots : Nat} {Q : State → Prop} {D : va_G} {A : Nat → Prop} {cc : ByteArray} {nL pc : Nat} {ret : Option FieldType} {hh : List ExceptionTableEntry} {ls : Array Slot} {rest : List Value} {ka : Nat → ClassId} {al : Nat → Nat} {f : Nat → Nat → Int32} {Z : va_W} (C : fr_Cx p s m args meth c "FragileRules" cc nL ret hh fr_tbl fr_nw D vwCl (fr_ty ka) A) (hP : va_P D vwCl (fr_cw ka al f Z) H) (hdg : decode cc pc = .ok (.getfield 41, 3)) (kk : W p l e R s m args below meth c H locs cells slots Q (F0 m (pc + 3) ls (.ref (al 5) :: rest))) : W p l e R s m args below meth c H locs cells slots Q (F0 m pc ls (.ref (al 0) :: rest)) :=
  va_get (D := D) (ci := 0) (v := .ref (al 5)) (C := "FragileRules") (T := TXF) (N := 10) C.1 C.2.1 C.2.2.2.2.1 iXF C.2.2.2.1 C.2.2.2.2.2.1 hP 0 rfl rfl 7 (by decide) (C.2.2.2.2.1 _ fl_F_41) (fun _ h9 => h9) rfl hdg kk
theorem gf_F_98 {p : Program} {l : Launch} {e : Env} {R : Room} {s : State} {m : MethodId} {args : Array Value} {below : List Frame} {meth : Method} {c : Code} {H : Heap} {locs : List Loc} {cells slots : Nat} {Q : State → Prop} {D : va_G} {A : Nat → Prop} {cc : ByteArray} {nL pc : Nat} {ret : Option FieldType} {hh : List ExceptionTableEntry} {ls : Array Slot} {rest : List Value} {ka : Nat → ClassId} {al : Nat → Nat} {f : Nat → Nat → Int32} {Z : va_W} (C : fr_Cx p s m args meth c "FragileRules" cc nL ret hh fr_tbl fr_nw D vwCl (fr_ty ka) A) (hP : va_P D vwCl (fr_cw ka al f Z) H) (hdg : decode cc pc = .ok (.getfield 98, 3)) (kk : W p l e R s m args below meth c H locs cells slots Q (F0 m (pc + 3) ls (.int (f 0 5) :: rest))) : W p l e R s m args below meth c H locs cells slots Q (F0 m pc ls (.ref (al 5) :: rest)) :=
  va_get (D := D) (ci := 3) (v := .int (f 0 5)) (C := "FragileRules$Text") (T := TXT) (N := 2) C.1 C.2.1 C.2.2.2.2.1 iXT C.2.2.2.1 C.2.2.2.2.2.1 hP 5 rfl rfl 1 (by decide) (C.2.2.2.2.1 _ fl_F_98) (fun _ h9 => h9) rfl hdg kk
theorem gf_F_45 {p : Program} {l : Launch} {e : Env} {R : Room} {s : State} {m : MethodId} {args : Array Value} {below : List Frame} {meth : Method} {c : Code} {H : Heap} {locs : List Loc} {cells slots : Nat} {Q : State → Prop} {D : va_G} {A : Nat → Prop} {cc : ByteArray} {nL pc : Nat} {ret : Option FieldType} {hh : List ExceptionTableEntry} {ls : Array Slot} {rest : List Value} {ka : Nat → ClassId} {al : Nat → Nat} {f : Nat → Nat → Int32} {Z : va_W} (C : fr_Cx p s m args meth c "FragileRules" cc nL ret hh fr_tbl fr_nw D vwCl (fr_ty ka) A) (hP : va_P D vwCl (fr_cw ka al f Z) H) (hdg : decode cc pc = .ok (.getfield 45, 3)) (kk : W p l e R s m args below meth c H locs cells slots Q (F0 m (pc + 3) ls (.int (f 0 3) :: rest))) : W p l e R s m args below meth c H locs cells slots Q (F0 m pc ls (.ref (al 0) :: rest)) :=
  va_get (D := D) (ci := 0) (v := .int (f 0 3)) (C := "FragileRules") (T := TXF) (N := 10) C.1 C.2.1 C.2.2.2.2.1 iXF C.2.2.2.1 C.2.2.2.2.2.1 hP 0 rfl rfl 8 (by decide) (C.2.2.2.2.1 _ fl_F_45) (fun _ h9 => h9) rfl hdg kk
theorem gf_F_48 {p : Program} {l : Launch} {e : Env} {R : Room} {s : State} {m : MethodId} {args : Array Value} {below : List Frame} {meth : Method} {c : Code} {H : Heap} {locs : List Loc} {cells slots : Nat} {Q : State → Prop} {D : va_G} {A : Nat → Prop} {cc : ByteArray} {nL pc : Nat} {ret : Option FieldType} {hh : List ExceptionTableEntry} {ls : Array Slot} {rest : List Value} {ka : Nat → ClassId} {al : Nat → Nat} {f : Nat → Nat → Int32} {Z : va_W} (C : fr_Cx p s m args meth c "FragileRules" cc nL ret hh fr_tbl fr_nw D vwCl (fr_ty ka) A) (hP : va_P D vwCl (fr_cw ka al f Z) H) (hdg : decode cc pc = .ok (.getfield 48, 3)) (kk : W p l e R s m args below meth c H locs cells slots Q (F0 m (pc + 3) ls (.int (f 0 4) :: rest))) : W p l e R s m args below meth c H locs cells slots Q (F0 m pc ls (.ref (al 0) :: rest)) :=
  va_get (D := D) (ci := 0) (v := .int (f 0 4)) (C := "FragileRules") (T := TXF) (N := 10) C.1 C.2.1 C.2.2.2.2.1 iXF C.2.2.2.1 C.2.2.2.2.2.1 hP 0 rfl rfl 9 (by decide) (C.2.2.2.2.1 _ fl_F_48) (fun _ h9 => h9) rfl hdg kk
theorem gf_F_35 {p : Program} {l : Launch} {e : Env} {R : Room} {s : State} {m : MethodId} {args : Array Value} {below : List Frame} {meth : Method} {c : Code} {H : Heap} {locs : List Loc} {cells slots : Nat} {Q : State → Prop} {D : va_G} {A : Nat → Prop} {cc : ByteArray} {nL pc : Nat} {ret : Option FieldType} {hh : List ExceptionTableEntry} {ls : Array Slot} {rest : List Value} {ka : Nat → ClassId} {al : Nat → Nat} {f : Nat → Nat → Int32} {Z : va_W} (C : fr_Cx p s m args meth c "FragileRules" cc nL ret hh fr_tbl fr_nw D vwCl (fr_ty ka) A) (hP : va_P D vwCl (fr_cw ka al f Z) H) (hdg : decode cc pc = .ok (.getfield 35, 3)) (kk : W p l e R s m args below meth c H locs cells slots Q (F0 m (pc + 3) ls (.int (f 0 2) :: rest))) : W p l e R s m args below meth c H locs cells slots Q (F0 m pc ls (.ref (al 0) :: rest)) :=
  va_get (D := D) (ci := 0) (v := .int (f 0 2)) (C := "FragileRules") (T := TXF) (N := 10) C.1 C.2.1 C.2.2.2.2.1 iXF C.2.2.2.1 C.2.2.2.2.2.1 hP 0 rfl rfl 6 (by decide) (C.2.2.2.2.1 _ fl_F_35) (fun _ h9 => h9) rfl hdg kk
theorem gf_F_32 {p : Program} {l : Launch} {e : Env} {R : Room} {s : State} {m : MethodId} {args : Array Value} {below : List Frame} {meth : Method} {c : Code} {H : Heap} {locs : List Loc} {cells slots : Nat} {Q : State → Prop} {D : va_G} {A : Nat → Prop} {cc : ByteArray} {nL pc : Nat} {ret : Option FieldType} {hh : List ExceptionTableEntry} {ls : Array Slot} {rest : List Value} {ka : Nat → ClassId} {al : Nat → Nat} {f : Nat → Nat → Int32} {Z : va_W} (C : fr_Cx p s m args meth c "FragileRules" cc nL ret hh fr_tbl fr_nw D vwCl (fr_ty ka) A) (hP : va_P D vwCl (fr_cw ka al f Z) H) (hdg : decode cc pc = .ok (.getfield 32, 3)) (kk : W p l e R s m args below meth c H locs cells slots Q (F0 m (pc + 3) ls (.ref (al 4) :: rest))) : W p l e R s m args below meth c H locs cells slots Q (F0 m pc ls (.ref (al 0) :: rest)) :=
  va_get (D := D) (ci := 0) (v := .ref (al 4)) (C := "FragileRules") (T := TXF) (N := 10) C.1 C.2.1 C.2.2.2.2.1 iXF C.2.2.2.1 C.2.2.2.2.2.1 hP 0 rfl rfl 5 (by decide) (C.2.2.2.2.1 _ fl_F_32) (fun _ h9 => h9) rfl hdg kk
theorem ald_9 {p : Program} {l : Launch} {e : Env} {R : Room} {s : State} {m : MethodId} {args : Array Value} {below : List Frame} {meth : Method} {c : Code} {H : Heap} {locs : List Loc} {cells slots : Nat} {Q : State → Prop} {D : va_G} {A : Nat → Prop} {cc : ByteArray} {nL pc : Nat} {ret : Option FieldType} {hh : List ExceptionTableEntry} {ls : Array Slot} {rest : List Value} {ka : Nat → ClassId} {al : Nat → Nat} {f : Nat → Nat → Int32} {Z : va_W} {own : String} {x : Int32} (C : fr_Cx p s m args meth c own cc nL ret hh fr_tbl fr_nw D vwCl (fr_ty ka) A) (hP : va_P D vwCl (fr_cw ka al f Z) H) (hin : vp_in x 12) (hdg : decode cc pc = .ok (.iaload, 1)) (kk : W p l e R s m args below meth c H locs cells slots Q (F0 m (pc + 1) ls (.int (f 9 x.toNatClampNeg) :: rest))) : W p l e R s m args below meth c H locs cells slots Q (F0 m pc ls (.int x :: .ref (al 4) :: rest)) :=
  va_iald (D := D) C.1 C.2.1 C.2.2.2.2.2.1 hP 4 2 (f := fun j => f 9 j) rfl rfl hin hdg kk
theorem gf_F_28 {p : Program} {l : Launch} {e : Env} {R : Room} {s : State} {m : MethodId} {args : Array Value} {below : List Frame} {meth : Method} {c : Code} {H : Heap} {locs : List Loc} {cells slots : Nat} {Q : State → Prop} {D : va_G} {A : Nat → Prop} {cc : ByteArray} {nL pc : Nat} {ret : Option FieldType} {hh : List ExceptionTableEntry} {ls : Array Slot} {rest : List Value} {ka : Nat → ClassId} {al : Nat → Nat} {f : Nat → Nat → Int32} {Z : va_W} (C : fr_Cx p s m args meth c "FragileRules" cc nL ret hh fr_tbl fr_nw D vwCl (fr_ty ka) A) (hP : va_P D vwCl (fr_cw ka al f Z) H) (hdg : decode cc pc = .ok (.getfield 28, 3)) (kk : W p l e R s m args below meth c H locs cells slots Q (F0 m (pc + 3) ls (.ref (al 3) :: rest))) : W p l e R s m args below meth c H locs cells slots Q (F0 m pc ls (.ref (al 0) :: rest)) :=
  va_get (D := D) (ci := 0) (v := .ref (al 3)) (C := "FragileRules") (T := TXF) (N := 10) C.1 C.2.1 C.2.2.2.2.1 iXF C.2.2.2.1 C.2.2.2.2.2.1 hP 0 rfl rfl 4 (by decide) (C.2.2.2.2.1 _ fl_F_28) (fun _ h9 => h9) rfl hdg kk
theorem ald_8 {p : Program} {l : Launch} {e : Env} {R : Room} {s : State} {m : MethodId} {args : Array Value} {below : List Frame} {meth : Method} {c : Code} {H : Heap} {locs : List Loc} {cells slots : Nat} {Q : State → Prop} {D : va_G} {A : Nat → Prop} {cc : ByteArray} {nL pc : Nat} {ret : Option FieldType} {hh : List ExceptionTableEntry} {ls : Array Slot} {rest : List Value} {ka : Nat → ClassId} {al : Nat → Nat} {f : Nat → Nat → Int32} {Z : va_W} {own : String} {x : Int32} (C : fr_Cx p s m args meth c own cc nL ret hh fr_tbl fr_nw D vwCl (fr_ty ka) A) (hP : va_P D vwCl (fr_cw ka al f Z) H) (hin : vp_in x 12) (hdg : decode cc pc = .ok (.iaload, 1)) (kk : W p l e R s m args below meth c H locs cells slots Q (F0 m (pc + 1) ls (.int (f 8 x.toNatClampNeg) :: rest))) : W p l e R s m args below meth c H locs cells slots Q (F0 m pc ls (.int x :: .ref (al 3) :: rest)) :=
  va_iald (D := D) C.1 C.2.1 C.2.2.2.2.2.1 hP 3 2 (f := fun j => f 8 j) rfl rfl hin hdg kk
end
section
def dn_within (n : Int32) (b : Int32) : Int32 := if n < 0 then 0 else (if b < n then 0 else 1)
set_option maxHeartbeats 4000000 in
set_option maxRecDepth 100000 in
theorem c_within (l : Launch) (D : va_G) (ka : Nat → ClassId) (al : Nat → Nat) (Z : va_W) (f : Nat → Nat → Int32) (n : Int32) (b : Int32) : fr_Mi l y_within (.code y_within prog_1_method_16_code 2 (some .boolean) :: fr_tbl) { frames := 0, cells := 0, slots := 0, locals := 0 } D vwCl (fr_ty ka) fr_nw [.int n, .int b] (fr_cw ka al f Z) (dn_within n b) (fr_cw ka al f Z) 0 0 := by
  refine fr_Mi.of (by decide) (Nat.le_of_ble_eq_true rfl) ?_
  intro p e s m below meth c A H locs ls C hP hD hS hl
  obtain ⟨hx, hb, hml, hown, ht, hK, hlocks, hr, hA, hN, hZ, hEx⟩ := id C
  have hl : lv_has ls 2 [(0, .int n), (1, .int b)] := hl
  refine lv_iload_n hx hb dF_isWithin_0 rfl (lv_at hl 0 rfl) ?_
  refine lv_if_lt (tgt := 13) hx hb dF_isWithin_1 (by decide) (fun c_1 => ?_) (fun c_1 => ?_)
  · skip
    refine lv_iconst (v := 0) hx hb dF_isWithin_13 (by decide) ?_
    have hd_ : dn_within n b = 0 := by rw [dn_within, if_pos c_1]
    exact fr_zret C hP hD hS hd_.symm (Or.inl rfl) dF_isWithin_14
  · skip
    refine lv_iload_n hx hb dF_isWithin_4 rfl (lv_at hl 0 rfl) ?_
    refine lv_iload_n hx hb dF_isWithin_5 rfl (lv_at hl 1 rfl) ?_
    refine lv_icmp_gt (tgt := 13) hx hb dF_isWithin_6 (by decide) (fun c_6 => ?_) (fun c_6 => ?_)
    · skip
      refine lv_iconst (v := 0) hx hb dF_isWithin_13 (by decide) ?_
      have hd_ : dn_within n b = 0 := by rw [dn_within, if_neg c_1, if_pos c_6]
      exact fr_zret C hP hD hS hd_.symm (Or.inl rfl) dF_isWithin_14
    · skip
      refine lv_iconst (v := 1) hx hb dF_isWithin_9 (by decide) ?_
      refine lv_goto (tgt := 14) hx hb dF_isWithin_10 (by decide) ?_
      have hd_ : dn_within n b = 1 := by rw [dn_within, if_neg c_1, if_neg c_6]
      exact fr_zret C hP hD hS hd_.symm (Or.inr rfl) dF_isWithin_14
theorem bz_within {n : Int32} {b : Int32} : dn_within n b = 0 ∨ dn_within n b = 1 := by
  unfold dn_within
  repeat' split
  all_goals first | exact Or.inl rfl | exact Or.inr rfl | exact bz_has

def dn_has (f : Nat → Nat → Int32) (u : Nat) (k : Int32) : Int32 := if ((f 3 u) &&& k) = 0 then 0 else 1
set_option maxHeartbeats 4000000 in
set_option maxRecDepth 100000 in
theorem c_has (l : Launch) (D : va_G) (ka : Nat → ClassId) (al : Nat → Nat) (Z : va_W) (f : Nat → Nat → Int32) (u : Nat) (k : Int32) (hu : u < 10) : fr_Mi l y_has (.code y_has prog_4_method_2_code 2 (some .boolean) :: fr_tbl) { frames := 0, cells := 0, slots := 0, locals := 0 } D vwCl (fr_ty ka) fr_nw [.ref (al (7 + u)), .int k] (fr_cw ka al f Z) (dn_has f u k) (fr_cw ka al f Z) 0 0 := by
  refine fr_Mi.of (by decide) (Nat.le_of_ble_eq_true rfl) ?_
  intro p e s m below meth c A H locs ls C hP hD hS hl
  obtain ⟨hx, hb, hml, hown, ht, hK, hlocks, hr, hA, hN, hZ, hEx⟩ := id C
  have hl : lv_has ls 2 [(0, .ref (al (7 + u))), (1, .int k)] := hl
  refine lv_aload_n hx hb dU_has_0 rfl (lv_at hl 0 rfl) ?_
  refine gf_U_16 C hP hu dU_has_1 ?_
  refine lv_iload_n hx hb dU_has_4 rfl (lv_at hl 1 rfl) ?_
  refine lv_iand hx hb dU_has_5 ?_
  refine lv_if_eq (tgt := 13) hx hb dU_has_6 (by decide) (fun c_6 => ?_) (fun c_6 => ?_)
  · skip
    refine lv_iconst (v := 0) hx hb dU_has_13 (by decide) ?_
    have hd_ : dn_has f u k = 0 := by rw [dn_has, if_pos c_6]
    exact fr_zret C hP hD hS hd_.symm (Or.inl rfl) dU_has_14
  · skip
    refine lv_iconst (v := 1) hx hb dU_has_9 (by decide) ?_
    refine lv_goto (tgt := 14) hx hb dU_has_10 (by decide) ?_
    have hd_ : dn_has f u k = 1 := by rw [dn_has, if_neg c_6]
    exact fr_zret C hP hD hS hd_.symm (Or.inr rfl) dU_has_14
theorem bz_has {f : Nat → Nat → Int32} {u : Nat} {k : Int32} : dn_has f u k = 0 ∨ dn_has f u k = 1 := by
  unfold dn_has
  repeat' split
  all_goals first | exact Or.inl rfl | exact Or.inr rfl | exact bz_has

def dn_signAt (f : Nat → Nat → Int32) (x : Int32) : Int32 := if x < 0 then (-1) else (if (f 0 5) ≤ x then (-1) else (f 10 x.toNatClampNeg))
set_option maxHeartbeats 4000000 in
set_option maxRecDepth 100000 in
theorem c_signAt (l : Launch) (D : va_G) (ka : Nat → ClassId) (al : Nat → Nat) (Z : va_W) (f : Nat → Nat → Int32) (x : Int32) (gT : 0 ≤ (f 0 5).toInt ∧ (f 0 5).toInt ≤ 200) : fr_Mi l y_signAt (.code y_signAt prog_3_method_8_code 2 (some .int) :: fr_tbl) { frames := 0, cells := 0, slots := 0, locals := 0 } D vwCl (fr_ty ka) fr_nw [.ref (al 5), .int x] (fr_cw ka al f Z) (dn_signAt f x) (fr_cw ka al f Z) 0 0 := by
  refine fr_Mi.of (by decide) (Nat.le_of_ble_eq_true rfl) ?_
  intro p e s m below meth c A H locs ls C hP hD hS hl
  obtain ⟨hx, hb, hml, hown, ht, hK, hlocks, hr, hA, hN, hZ, hEx⟩ := id C
  have hl : lv_has ls 2 [(0, .ref (al 5)), (1, .int x)] := hl
  refine lv_iload_n hx hb dT_signAt_0 rfl (lv_at hl 1 rfl) ?_
  refine lv_if_lt (tgt := 21) hx hb dT_signAt_1 (by decide) (fun c_1 => ?_) (fun c_1 => ?_)
  · skip
    refine lv_iconst (v := (-1)) hx hb dT_signAt_21 (by decide) ?_
    have hd_ : dn_signAt f x = (-1) := by rw [dn_signAt, if_pos c_1]
    exact fr_iret C hP hD hS hd_.symm dT_signAt_22
  · skip
    refine lv_iload_n hx hb dT_signAt_4 rfl (lv_at hl 1 rfl) ?_
    refine lv_aload_n hx hb dT_signAt_5 rfl (lv_at hl 0 rfl) ?_
    refine gf_T_15 C hP dT_signAt_6 ?_
    refine lv_icmp_ge (tgt := 21) hx hb dT_signAt_9 (by decide) (fun c_9 => ?_) (fun c_9 => ?_)
    · skip
      refine lv_iconst (v := (-1)) hx hb dT_signAt_21 (by decide) ?_
      have hd_ : dn_signAt f x = (-1) := by rw [dn_signAt, if_neg c_1, if_pos c_9]
      exact fr_iret C hP hD hS hd_.symm dT_signAt_22
    · skip
      refine lv_aload_n hx hb dT_signAt_12 rfl (lv_at hl 0 rfl) ?_
      refine gf_T_9 C hP dT_signAt_13 ?_
      refine lv_iload_n hx hb dT_signAt_16 rfl (lv_at hl 1 rfl) ?_
      have hin_17 : vp_in x 200 := by have q0 := fr_t2 c_1; have q1 := fr_t4 c_9; have z0 : (0 : Int32).toInt = 0 := rfl; skip; rw [vp_in_iff]; omega
      refine ald_10 C hP hin_17 dT_signAt_17 ?_
      refine lv_goto (tgt := 22) hx hb dT_signAt_18 (by decide) ?_
      have hd_ : dn_signAt f x = f 10 x.toNatClampNeg := by rw [dn_signAt, if_neg c_1, if_neg c_9]
      exact fr_iret C hP hD hS hd_.symm dT_signAt_22

theorem cl_T_26 {p : Program} {l : Launch} {e : Env} {R : Room} {s : State} {m : MethodId} {args : Array Value} {below : List Frame} {meth : Method} {c : Code} {H : Heap} {locs : List Loc} {cells slots : Nat} {Q : State → Prop} {D : va_G} {A : Nat → Prop} {cc : ByteArray} {nL pc : Nat} {ret : Option FieldType} {hh : List ExceptionTableEntry} {ls : Array Slot} {rest : List Value} {ka : Nat → ClassId} {al : Nat → Nat} {f : Nat → Nat → Int32} {Z : va_W} {x : Int32} (C : fr_Cx p s m args meth c "FragileRules$Text" cc nL ret hh fr_tbl fr_nw D vwCl (fr_ty ka) A) (hP : va_P D vwCl (fr_cw ka al f Z) H) (hD : va_D A (fr_cw ka al f Z)) (hS : va_S A s.heap H locs) (hsz : ls.size = nL) (hR : 0 + 1 ≤ R.frames ∧ 8 + (2 + 11) + 0 ≤ R.locals) (hw : (rest.map fun v => v.category).sum ≤ 8) (hf : cells + 0 ≤ R.cells ∧ slots + 0 ≤ R.slots) (gT : 0 ≤ (f 0 5).toInt ∧ (f 0 5).toInt ≤ 200) (hdg : decode cc pc = .ok (.invokevirtual 26, 3)) (kk : ∀ (H : Heap) (locs : List Loc), va_P D vwCl (fr_cw ka al f Z) H → va_D A (fr_cw ka al f Z) → va_S A s.heap H locs → W p l e R s m args below meth c H locs (cells + 0) (slots + 0) Q (F0 m (pc + 3) ls (.int (dn_signAt f x) :: rest))) : W p l e R s m args below meth c H locs cells slots Q (F0 m pc ls (.int x :: .ref (al 5) :: rest)) :=
  fr_callVi (As := [.int x]) C hP hD hS (c_signAt l D ka al Z f x gT) (cwV 1 C.2.2.2.2.1 (fr_goodV ml_T_26 mi_signAt msel_signAt mini_T mc_signAt) rfl rfl rfl (by decide +kernel) hR) (va_recv C.2.2.2.2.2.1 hP (ci := 3) (q0 := 5) rfl rfl) rfl hsz hw hdg hf kk
def dn_digitAt (f : Nat → Nat → Int32) (x : Int32) : Int32 := if (dn_signAt f x) < 48 then (-1) else (if 57 < (dn_signAt f x) then (-1) else ((dn_signAt f x) - 48))
set_option maxHeartbeats 4000000 in
set_option maxRecDepth 100000 in
theorem c_digitAt (l : Launch) (D : va_G) (ka : Nat → ClassId) (al : Nat → Nat) (Z : va_W) (f : Nat → Nat → Int32) (x : Int32) (gT : 0 ≤ (f 0 5).toInt ∧ (f 0 5).toInt ≤ 200) : fr_Mi l y_digitAt (.code y_digitAt prog_3_method_7_code 3 (some .int) :: fr_tbl) { frames := 1, cells := 0, slots := 0, locals := 21 } D vwCl (fr_ty ka) fr_nw [.ref (al 5), .int x] (fr_cw ka al f Z) (dn_digitAt f x) (fr_cw ka al f Z) 0 0 := by
  refine fr_Mi.of (by decide) (Nat.le_of_ble_eq_true rfl) ?_
  intro p e s m below meth c A H locs ls C hP hD hS hl
  obtain ⟨hx, hb, hml, hown, ht, hK, hlocks, hr, hA, hN, hZ, hEx⟩ := id C
  have hl : lv_has ls 3 [(0, .ref (al 5)), (1, .int x)] := hl
  refine lv_aload_n hx hb dT_digitAt_0 rfl (lv_at hl 0 rfl) ?_
  refine lv_iload_n hx hb dT_digitAt_1 rfl (lv_at hl 1 rfl) ?_
  refine cl_T_26 C hP hD hS hl.1 ⟨Nat.le_of_ble_eq_true rfl, Nat.le_of_ble_eq_true rfl⟩ (Nat.le_of_ble_eq_true rfl) ⟨Nat.le_of_ble_eq_true rfl, Nat.le_of_ble_eq_true rfl⟩ gT dT_digitAt_2 (fun H locs hP hD hS => ?_)
  refine lv_istore_n (lv' := [(2, .int (dn_signAt f x)), (0, .ref (al 5)), (1, .int x)]) hx hb dT_digitAt_5 rfl hl (by decide) rfl (fun ls hl => ?_)
  refine lv_iload_n hx hb dT_digitAt_6 rfl (lv_at hl 0 rfl) ?_
  refine lv_bipush (v := 48) hx hb dT_digitAt_7 (by decide) ?_
  refine lv_icmp_lt (tgt := 25) hx hb dT_digitAt_9 (by decide) (fun c_9 => ?_) (fun c_9 => ?_)
  · skip
    refine lv_iconst (v := (-1)) hx hb dT_digitAt_25 (by decide) ?_
    have hd_ : dn_digitAt f x = (-1) := by rw [dn_digitAt, if_pos c_9]
    exact fr_iret C hP hD hS hd_.symm dT_digitAt_26
  · skip
    refine lv_iload_n hx hb dT_digitAt_12 rfl (lv_at hl 0 rfl) ?_
    refine lv_bipush (v := 57) hx hb dT_digitAt_13 (by decide) ?_
    refine lv_icmp_gt (tgt := 25) hx hb dT_digitAt_15 (by decide) (fun c_15 => ?_) (fun c_15 => ?_)
    · skip
      refine lv_iconst (v := (-1)) hx hb dT_digitAt_25 (by decide) ?_
      have hd_ : dn_digitAt f x = (-1) := by rw [dn_digitAt, if_neg c_9, if_pos c_15]
      exact fr_iret C hP hD hS hd_.symm dT_digitAt_26
    · skip
      refine lv_iload_n hx hb dT_digitAt_18 rfl (lv_at hl 0 rfl) ?_
      refine lv_bipush (v := 48) hx hb dT_digitAt_19 (by decide) ?_
      refine lv_isub hx hb dT_digitAt_21 ?_
      refine lv_goto (tgt := 26) hx hb dT_digitAt_22 (by decide) ?_
      have hd_ : dn_digitAt f x = (dn_signAt f x) - 48 := by rw [dn_digitAt, if_neg c_9, if_neg c_15]
      exact fr_iret C hP hD hS hd_.symm dT_digitAt_26

def dn_rowAt (f : Nat → Nat → Int32) (x : Int32) : Int32 := if (dn_signAt f x) = 65 then 1 else (if (dn_signAt f x) = 66 then 2 else (if (dn_signAt f x) = 76 then 3 else (if (dn_signAt f x) = 78 then 0 else (-1))))
set_option maxHeartbeats 4000000 in
set_option maxRecDepth 100000 in
theorem c_rowAt (l : Launch) (D : va_G) (ka : Nat → ClassId) (al : Nat → Nat) (Z : va_W) (f : Nat → Nat → Int32) (x : Int32) (gT : 0 ≤ (f 0 5).toInt ∧ (f 0 5).toInt ≤ 200) : fr_Mi l y_rowAt (.code y_rowAt prog_3_method_5_code 2 (some .int) :: fr_tbl) { frames := 1, cells := 0, slots := 0, locals := 21 } D vwCl (fr_ty ka) fr_nw [.ref (al 5), .int x] (fr_cw ka al f Z) (dn_rowAt f x) (fr_cw ka al f Z) 0 0 := by
  refine fr_Mi.of (by decide) (Nat.le_of_ble_eq_true rfl) ?_
  intro p e s m below meth c A H locs ls C hP hD hS hl
  obtain ⟨hx, hb, hml, hown, ht, hK, hlocks, hr, hA, hN, hZ, hEx⟩ := id C
  have hl : lv_has ls 2 [(0, .ref (al 5)), (1, .int x)] := hl
  refine lv_aload_n hx hb dT_rowAt_0 rfl (lv_at hl 0 rfl) ?_
  refine lv_iload_n hx hb dT_rowAt_1 rfl (lv_at hl 1 rfl) ?_
  refine cl_T_26 C hP hD hS hl.1 ⟨Nat.le_of_ble_eq_true rfl, Nat.le_of_ble_eq_true rfl⟩ (Nat.le_of_ble_eq_true rfl) ⟨Nat.le_of_ble_eq_true rfl, Nat.le_of_ble_eq_true rfl⟩ gT dT_rowAt_2 (fun H locs hP hD hS => ?_)
  by_cases c_5_65 : (dn_signAt f x) = 65
  · skip
    refine lv_lookup (tgt := 50) hx hb dT_rowAt_5 (by decide) (by rw [c_5_65] <;> rfl) (by decide) ?_
    refine lv_iconst (v := 1) hx hb dT_rowAt_50 (by decide) ?_
    have hd_ : dn_rowAt f x = 1 := by rw [dn_rowAt, if_pos c_5_65]
    exact fr_iret C hP hD hS hd_.symm dT_rowAt_51
  · skip
    by_cases c_5_66 : (dn_signAt f x) = 66
    · skip
      refine lv_lookup (tgt := 52) hx hb dT_rowAt_5 (by decide) (by rw [c_5_66] <;> rfl) (by decide) ?_
      refine lv_iconst (v := 2) hx hb dT_rowAt_52 (by decide) ?_
      have hd_ : dn_rowAt f x = 2 := by rw [dn_rowAt, if_neg c_5_65, if_pos c_5_66]
      exact fr_iret C hP hD hS hd_.symm dT_rowAt_53
    · skip
      by_cases c_5_76 : (dn_signAt f x) = 76
      · skip
        refine lv_lookup (tgt := 54) hx hb dT_rowAt_5 (by decide) (by rw [c_5_76] <;> rfl) (by decide) ?_
        refine lv_iconst (v := 3) hx hb dT_rowAt_54 (by decide) ?_
        have hd_ : dn_rowAt f x = 3 := by rw [dn_rowAt, if_neg c_5_65, if_neg c_5_66, if_pos c_5_76]
        exact fr_iret C hP hD hS hd_.symm dT_rowAt_55
      · skip
        by_cases c_5_78 : (dn_signAt f x) = 78
        · skip
          refine lv_lookup (tgt := 48) hx hb dT_rowAt_5 (by decide) (by rw [c_5_78] <;> rfl) (by decide) ?_
          refine lv_iconst (v := 0) hx hb dT_rowAt_48 (by decide) ?_
          have hd_ : dn_rowAt f x = 0 := by rw [dn_rowAt, if_neg c_5_65, if_neg c_5_66, if_neg c_5_76, if_pos c_5_78]
          exact fr_iret C hP hD hS hd_.symm dT_rowAt_49
        · skip
          refine lv_lookup (tgt := 56) (off := 51) hx hb dT_rowAt_5 (by decide) (by show Op.lookupswitch.offset [(65, 45), (66, 47), (76, 49), (78, 43)] 51 _ = _; rw [lv_osw (k := 65) (a := 65) c_5_65 rfl, lv_osw (k := 66) (a := 66) c_5_66 rfl, lv_osw (k := 76) (a := 76) c_5_76 rfl, lv_osw (k := 78) (a := 78) c_5_78 rfl] <;> rfl) (by decide) ?_
          refine lv_iconst (v := (-1)) hx hb dT_rowAt_56 (by decide) ?_
          have hd_ : dn_rowAt f x = (-1) := by rw [dn_rowAt, if_neg c_5_65, if_neg c_5_66, if_neg c_5_76, if_neg c_5_78]
          exact fr_iret C hP hD hS hd_.symm dT_rowAt_57

theorem cl_T_29 {p : Program} {l : Launch} {e : Env} {R : Room} {s : State} {m : MethodId} {args : Array Value} {below : List Frame} {meth : Method} {c : Code} {H : Heap} {locs : List Loc} {cells slots : Nat} {Q : State → Prop} {D : va_G} {A : Nat → Prop} {cc : ByteArray} {nL pc : Nat} {ret : Option FieldType} {hh : List ExceptionTableEntry} {ls : Array Slot} {rest : List Value} {ka : Nat → ClassId} {al : Nat → Nat} {f : Nat → Nat → Int32} {Z : va_W} {x : Int32} (C : fr_Cx p s m args meth c "FragileRules$Text" cc nL ret hh fr_tbl fr_nw D vwCl (fr_ty ka) A) (hP : va_P D vwCl (fr_cw ka al f Z) H) (hD : va_D A (fr_cw ka al f Z)) (hS : va_S A s.heap H locs) (hsz : ls.size = nL) (hR : 1 + 1 ≤ R.frames ∧ 8 + (3 + 11) + 21 ≤ R.locals) (hw : (rest.map fun v => v.category).sum ≤ 8) (hf : cells + 0 ≤ R.cells ∧ slots + 0 ≤ R.slots) (gT : 0 ≤ (f 0 5).toInt ∧ (f 0 5).toInt ≤ 200) (hdg : decode cc pc = .ok (.invokevirtual 29, 3)) (kk : ∀ (H : Heap) (locs : List Loc), va_P D vwCl (fr_cw ka al f Z) H → va_D A (fr_cw ka al f Z) → va_S A s.heap H locs → W p l e R s m args below meth c H locs (cells + 0) (slots + 0) Q (F0 m (pc + 3) ls (.int (dn_digitAt f x) :: rest))) : W p l e R s m args below meth c H locs cells slots Q (F0 m pc ls (.int x :: .ref (al 5) :: rest)) :=
  fr_callVi (As := [.int x]) C hP hD hS (c_digitAt l D ka al Z f x gT) (cwV 1 C.2.2.2.2.1 (fr_goodV ml_T_29 mi_digitAt msel_digitAt mini_T mc_digitAt) rfl rfl rfl (by decide +kernel) hR) (va_recv C.2.2.2.2.2.1 hP (ci := 3) (q0 := 5) rfl rfl) rfl hsz hw hdg hf kk
def dn_numberAt (f : Nat → Nat → Int32) (x : Int32) : Int32 := if (dn_digitAt f (x + 1)) = (-1) then (dn_digitAt f x) else ((10 * (dn_digitAt f x)) + (dn_digitAt f (x + 1)))
set_option maxHeartbeats 4000000 in
set_option maxRecDepth 100000 in
theorem c_numberAt (l : Launch) (D : va_G) (ka : Nat → ClassId) (al : Nat → Nat) (Z : va_W) (f : Nat → Nat → Int32) (x : Int32) (gT : 0 ≤ (f 0 5).toInt ∧ (f 0 5).toInt ≤ 200) : fr_Mi l y_numberAt (.code y_numberAt prog_3_method_6_code 4 (some .int) :: fr_tbl) { frames := 2, cells := 0, slots := 0, locals := 43 } D vwCl (fr_ty ka) fr_nw [.ref (al 5), .int x] (fr_cw ka al f Z) (dn_numberAt f x) (fr_cw ka al f Z) 0 0 := by
  refine fr_Mi.of (by decide) (Nat.le_of_ble_eq_true rfl) ?_
  intro p e s m below meth c A H locs ls C hP hD hS hl
  obtain ⟨hx, hb, hml, hown, ht, hK, hlocks, hr, hA, hN, hZ, hEx⟩ := id C
  have hl : lv_has ls 4 [(0, .ref (al 5)), (1, .int x)] := hl
  refine lv_aload_n hx hb dT_numberAt_0 rfl (lv_at hl 0 rfl) ?_
  refine lv_iload_n hx hb dT_numberAt_1 rfl (lv_at hl 1 rfl) ?_
  refine cl_T_29 C hP hD hS hl.1 ⟨Nat.le_of_ble_eq_true rfl, Nat.le_of_ble_eq_true rfl⟩ (Nat.le_of_ble_eq_true rfl) ⟨Nat.le_of_ble_eq_true rfl, Nat.le_of_ble_eq_true rfl⟩ gT dT_numberAt_2 (fun H locs hP hD hS => ?_)
  refine lv_istore_n (lv' := [(2, .int (dn_digitAt f x)), (0, .ref (al 5)), (1, .int x)]) hx hb dT_numberAt_5 rfl hl (by decide) rfl (fun ls hl => ?_)
  refine lv_aload_n hx hb dT_numberAt_6 rfl (lv_at hl 1 rfl) ?_
  refine lv_iload_n hx hb dT_numberAt_7 rfl (lv_at hl 2 rfl) ?_
  refine lv_iconst (v := 1) hx hb dT_numberAt_8 (by decide) ?_
  refine lv_iadd hx hb dT_numberAt_9 ?_
  refine cl_T_29 C hP hD hS hl.1 ⟨Nat.le_of_ble_eq_true rfl, Nat.le_of_ble_eq_true rfl⟩ (Nat.le_of_ble_eq_true rfl) ⟨Nat.le_of_ble_eq_true rfl, Nat.le_of_ble_eq_true rfl⟩ gT dT_numberAt_10 (fun H locs hP hD hS => ?_)
  refine lv_istore_n (lv' := [(3, .int (dn_digitAt f (x + 1))), (2, .int (dn_digitAt f x)), (0, .ref (al 5)), (1, .int x)]) hx hb dT_numberAt_13 rfl hl (by decide) rfl (fun ls hl => ?_)
  refine lv_iload_n hx hb dT_numberAt_14 rfl (lv_at hl 0 rfl) ?_
  refine lv_iconst (v := (-1)) hx hb dT_numberAt_15 (by decide) ?_
  refine lv_icmp_ne (tgt := 23) hx hb dT_numberAt_16 (by decide) (fun c_16 => ?_) (fun c_16 => ?_)
  · skip
    refine lv_bipush (v := 10) hx hb dT_numberAt_23 (by decide) ?_
    refine lv_iload_n hx hb dT_numberAt_25 rfl (lv_at hl 1 rfl) ?_
    refine lv_imul hx hb dT_numberAt_26 ?_
    refine lv_iload_n hx hb dT_numberAt_27 rfl (lv_at hl 0 rfl) ?_
    refine lv_iadd hx hb dT_numberAt_28 ?_
    have hd_ : dn_numberAt f x = (10 * (dn_digitAt f x)) + (dn_digitAt f (x + 1)) := by rw [dn_numberAt, if_neg c_16]
    exact fr_iret C hP hD hS hd_.symm dT_numberAt_29
  · skip
    refine lv_iload_n hx hb dT_numberAt_19 rfl (lv_at hl 1 rfl) ?_
    refine lv_goto (tgt := 29) hx hb dT_numberAt_20 (by decide) ?_
    have hd_ : dn_numberAt f x = dn_digitAt f x := by rw [dn_numberAt, if_pos c_16]
    exact fr_iret C hP hD hS hd_.symm dT_numberAt_29

theorem cl_T_23 {p : Program} {l : Launch} {e : Env} {R : Room} {s : State} {m : MethodId} {args : Array Value} {below : List Frame} {meth : Method} {c : Code} {H : Heap} {locs : List Loc} {cells slots : Nat} {Q : State → Prop} {D : va_G} {A : Nat → Prop} {cc : ByteArray} {nL pc : Nat} {ret : Option FieldType} {hh : List ExceptionTableEntry} {ls : Array Slot} {rest : List Value} {ka : Nat → ClassId} {al : Nat → Nat} {f : Nat → Nat → Int32} {Z : va_W} {x : Int32} (C : fr_Cx p s m args meth c "FragileRules$Text" cc nL ret hh fr_tbl fr_nw D vwCl (fr_ty ka) A) (hP : va_P D vwCl (fr_cw ka al f Z) H) (hD : va_D A (fr_cw ka al f Z)) (hS : va_S A s.heap H locs) (hsz : ls.size = nL) (hR : 1 + 1 ≤ R.frames ∧ 8 + (2 + 11) + 21 ≤ R.locals) (hw : (rest.map fun v => v.category).sum ≤ 8) (hf : cells + 0 ≤ R.cells ∧ slots + 0 ≤ R.slots) (gT : 0 ≤ (f 0 5).toInt ∧ (f 0 5).toInt ≤ 200) (hdg : decode cc pc = .ok (.invokevirtual 23, 3)) (kk : ∀ (H : Heap) (locs : List Loc), va_P D vwCl (fr_cw ka al f Z) H → va_D A (fr_cw ka al f Z) → va_S A s.heap H locs → W p l e R s m args below meth c H locs (cells + 0) (slots + 0) Q (F0 m (pc + 3) ls (.int (dn_rowAt f x) :: rest))) : W p l e R s m args below meth c H locs cells slots Q (F0 m pc ls (.int x :: .ref (al 5) :: rest)) :=
  fr_callVi (As := [.int x]) C hP hD hS (c_rowAt l D ka al Z f x gT) (cwV 1 C.2.2.2.2.1 (fr_goodV ml_T_23 mi_rowAt msel_rowAt mini_T mc_rowAt) rfl rfl rfl (by decide +kernel) hR) (va_recv C.2.2.2.2.2.1 hP (ci := 3) (q0 := 5) rfl rfl) rfl hsz hw hdg hf kk
theorem cl_T_32 {p : Program} {l : Launch} {e : Env} {R : Room} {s : State} {m : MethodId} {args : Array Value} {below : List Frame} {meth : Method} {c : Code} {H : Heap} {locs : List Loc} {cells slots : Nat} {Q : State → Prop} {D : va_G} {A : Nat → Prop} {cc : ByteArray} {nL pc : Nat} {ret : Option FieldType} {hh : List ExceptionTableEntry} {ls : Array Slot} {rest : List Value} {ka : Nat → ClassId} {al : Nat → Nat} {f : Nat → Nat → Int32} {Z : va_W} {n : Int32} {b : Int32} (C : fr_Cx p s m args meth c "FragileRules$Text" cc nL ret hh fr_tbl fr_nw D vwCl (fr_ty ka) A) (hP : va_P D vwCl (fr_cw ka al f Z) H) (hD : va_D A (fr_cw ka al f Z)) (hS : va_S A s.heap H locs) (hsz : ls.size = nL) (hR : 0 + 1 ≤ R.frames ∧ 8 + (2 + 11) + 0 ≤ R.locals) (hw : (rest.map fun v => v.category).sum ≤ 8) (hf : cells + 0 ≤ R.cells ∧ slots + 0 ≤ R.slots) (hdg : decode cc pc = .ok (.invokestatic 32, 3)) (kk : ∀ (H : Heap) (locs : List Loc), va_P D vwCl (fr_cw ka al f Z) H → va_D A (fr_cw ka al f Z) → va_S A s.heap H locs → W p l e R s m args below meth c H locs (cells + 0) (slots + 0) Q (F0 m (pc + 3) ls (.int (dn_within n b) :: rest))) : W p l e R s m args below meth c H locs cells slots Q (F0 m pc ls (.int b :: .int n :: rest)) :=
  fr_callSNi (As := [.int n, .int b]) C hP hD hS (c_within l D ka al Z f n b) ⟨va_cnB 2 C.2.2.2.2.1 (fr_good mc_within) rfl rfl rfl (C.2.2.2.2.2.2.2.2.2.1 _ nst_T_32).2 (C.2.2.2.2.1 _ mini_F) (by decide +kernel) hR, C.2.2.2.2.1 _ mst_within, trivial⟩ rfl hsz hw hdg hf kk
def dn_behind (f : Nat → Nat → Int32) (x : Int32) : Int32 := if (dn_rowAt f x) = (-1) then ((-1) - x) else (if (dn_signAt f (x + 1)) = 32 then (if (dn_within (dn_digitAt f (x + 2)) 7) = 0 then ((-3) - x) else (if (dn_signAt f (x + 3)) = 32 then (if (dn_rowAt f x) = 2 then (if (dn_within (dn_digitAt f (x + 4)) 9) = 0 then ((-5) - x) else (if (dn_digitAt f (x + 4)) = 0 then (if (dn_signAt f (x + 5)) = 10 then ((x + 5) + 1) else ((-1) - (x + 5))) else (if (dn_digitAt f (x + 5)) = (-1) then (if (dn_signAt f (x + 5)) = 10 then ((x + 5) + 1) else ((-1) - (x + 5))) else (if (dn_signAt f (x + 6)) = 10 then ((x + 6) + 1) else ((-1) - (x + 6)))))) else (if (dn_rowAt f x) = 3 then (if (dn_within (dn_digitAt f (x + 4)) 9) = 0 then ((-5) - x) else (if (dn_signAt f (x + 5)) = 10 then ((x + 5) + 1) else ((-1) - (x + 5)))) else (if (dn_within (dn_digitAt f (x + 4)) 7) = 0 then ((-5) - x) else (if (dn_signAt f (x + 5)) = 10 then ((x + 5) + 1) else ((-1) - (x + 5)))))) else ((-4) - x))) else ((-2) - x))
set_option maxHeartbeats 4000000 in
set_option maxRecDepth 100000 in
theorem c_behind (l : Launch) (D : va_G) (ka : Nat → ClassId) (al : Nat → Nat) (Z : va_W) (f : Nat → Nat → Int32) (x : Int32) (gT : 0 ≤ (f 0 5).toInt ∧ (f 0 5).toInt ≤ 200) : fr_Mi l y_behind (.code y_behind prog_3_method_4_code 6 (some .int) :: fr_tbl) { frames := 2, cells := 0, slots := 0, locals := 43 } D vwCl (fr_ty ka) fr_nw [.ref (al 5), .int x] (fr_cw ka al f Z) (dn_behind f x) (fr_cw ka al f Z) 0 0 := by
  refine fr_Mi.of (by decide) (Nat.le_of_ble_eq_true rfl) ?_
  intro p e s m below meth c A H locs ls C hP hD hS hl
  obtain ⟨hx, hb, hml, hown, ht, hK, hlocks, hr, hA, hN, hZ, hEx⟩ := id C
  have hl : lv_has ls 6 [(0, .ref (al 5)), (1, .int x)] := hl
  refine lv_aload_n hx hb dT_behindLine_0 rfl (lv_at hl 0 rfl) ?_
  refine lv_iload_n hx hb dT_behindLine_1 rfl (lv_at hl 1 rfl) ?_
  refine cl_T_23 C hP hD hS hl.1 ⟨Nat.le_of_ble_eq_true rfl, Nat.le_of_ble_eq_true rfl⟩ (Nat.le_of_ble_eq_true rfl) ⟨Nat.le_of_ble_eq_true rfl, Nat.le_of_ble_eq_true rfl⟩ gT dT_behindLine_2 (fun H locs hP hD hS => ?_)
  refine lv_istore_n (lv' := [(2, .int (dn_rowAt f x)), (0, .ref (al 5)), (1, .int x)]) hx hb dT_behindLine_5 rfl hl (by decide) rfl (fun ls hl => ?_)
  refine lv_iload_n hx hb dT_behindLine_6 rfl (lv_at hl 0 rfl) ?_
  refine lv_iconst (v := (-1)) hx hb dT_behindLine_7 (by decide) ?_
  refine lv_icmp_ne (tgt := 15) hx hb dT_behindLine_8 (by decide) (fun c_8 => ?_) (fun c_8 => ?_)
  · skip
    refine lv_aload_n hx hb dT_behindLine_15 rfl (lv_at hl 1 rfl) ?_
    refine lv_iload_n hx hb dT_behindLine_16 rfl (lv_at hl 2 rfl) ?_
    refine lv_iconst (v := 1) hx hb dT_behindLine_17 (by decide) ?_
    refine lv_iadd hx hb dT_behindLine_18 ?_
    refine cl_T_26 C hP hD hS hl.1 ⟨Nat.le_of_ble_eq_true rfl, Nat.le_of_ble_eq_true rfl⟩ (Nat.le_of_ble_eq_true rfl) ⟨Nat.le_of_ble_eq_true rfl, Nat.le_of_ble_eq_true rfl⟩ gT dT_behindLine_19 (fun H locs hP hD hS => ?_)
    refine lv_bipush (v := 32) hx hb dT_behindLine_22 (by decide) ?_
    refine lv_icmp_eq (tgt := 32) hx hb dT_behindLine_24 (by decide) (fun c_24 => ?_) (fun c_24 => ?_)
    · skip
      refine lv_aload_n hx hb dT_behindLine_32 rfl (lv_at hl 1 rfl) ?_
      refine lv_iload_n hx hb dT_behindLine_33 rfl (lv_at hl 2 rfl) ?_
      refine lv_iconst (v := 2) hx hb dT_behindLine_34 (by decide) ?_
      refine lv_iadd hx hb dT_behindLine_35 ?_
      refine cl_T_29 C hP hD hS hl.1 ⟨Nat.le_of_ble_eq_true rfl, Nat.le_of_ble_eq_true rfl⟩ (Nat.le_of_ble_eq_true rfl) ⟨Nat.le_of_ble_eq_true rfl, Nat.le_of_ble_eq_true rfl⟩ gT dT_behindLine_36 (fun H locs hP hD hS => ?_)
      refine lv_bipush (v := 7) hx hb dT_behindLine_39 (by decide) ?_
      refine cl_T_32 C hP hD hS hl.1 ⟨Nat.le_of_ble_eq_true rfl, Nat.le_of_ble_eq_true rfl⟩ (Nat.le_of_ble_eq_true rfl) ⟨Nat.le_of_ble_eq_true rfl, Nat.le_of_ble_eq_true rfl⟩ dT_behindLine_41 (fun H locs hP hD hS => ?_)
      refine lv_if_ne (tgt := 52) hx hb dT_behindLine_44 (by decide) (fun c_44 => ?_) (fun c_44 => ?_)
      · skip
        refine lv_aload_n hx hb dT_behindLine_52 rfl (lv_at hl 1 rfl) ?_
        refine lv_iload_n hx hb dT_behindLine_53 rfl (lv_at hl 2 rfl) ?_
        refine lv_iconst (v := 3) hx hb dT_behindLine_54 (by decide) ?_
        refine lv_iadd hx hb dT_behindLine_55 ?_
        refine cl_T_26 C hP hD hS hl.1 ⟨Nat.le_of_ble_eq_true rfl, Nat.le_of_ble_eq_true rfl⟩ (Nat.le_of_ble_eq_true rfl) ⟨Nat.le_of_ble_eq_true rfl, Nat.le_of_ble_eq_true rfl⟩ gT dT_behindLine_56 (fun H locs hP hD hS => ?_)
        refine lv_bipush (v := 32) hx hb dT_behindLine_59 (by decide) ?_
        refine lv_icmp_eq (tgt := 69) hx hb dT_behindLine_61 (by decide) (fun c_61 => ?_) (fun c_61 => ?_)
        · skip
          refine lv_aload_n hx hb dT_behindLine_69 rfl (lv_at hl 1 rfl) ?_
          refine lv_iload_n hx hb dT_behindLine_70 rfl (lv_at hl 2 rfl) ?_
          refine lv_iconst (v := 4) hx hb dT_behindLine_71 (by decide) ?_
          refine lv_iadd hx hb dT_behindLine_72 ?_
          refine cl_T_29 C hP hD hS hl.1 ⟨Nat.le_of_ble_eq_true rfl, Nat.le_of_ble_eq_true rfl⟩ (Nat.le_of_ble_eq_true rfl) ⟨Nat.le_of_ble_eq_true rfl, Nat.le_of_ble_eq_true rfl⟩ gT dT_behindLine_73 (fun H locs hP hD hS => ?_)
          refine lv_istore_n (lv' := [(3, .int (dn_digitAt f (x + 4))), (2, .int (dn_rowAt f x)), (0, .ref (al 5)), (1, .int x)]) hx hb dT_behindLine_76 rfl hl (by decide) rfl (fun ls hl => ?_)
          refine lv_iload_n hx hb dT_behindLine_77 rfl (lv_at hl 0 rfl) ?_
          refine lv_iload_n hx hb dT_behindLine_78 rfl (lv_at hl 1 rfl) ?_
          refine lv_iconst (v := 2) hx hb dT_behindLine_79 (by decide) ?_
          refine lv_icmp_eq (tgt := 88) hx hb dT_behindLine_80 (by decide) (fun c_80 => ?_) (fun c_80 => ?_)
          · skip
            refine lv_bipush (v := 9) hx hb dT_behindLine_88 (by decide) ?_
            refine lv_goto (tgt := 95) hx hb dT_behindLine_90 (by decide) ?_
            refine cl_T_32 C hP hD hS hl.1 ⟨Nat.le_of_ble_eq_true rfl, Nat.le_of_ble_eq_true rfl⟩ (Nat.le_of_ble_eq_true rfl) ⟨Nat.le_of_ble_eq_true rfl, Nat.le_of_ble_eq_true rfl⟩ dT_behindLine_95 (fun H locs hP hD hS => ?_)
            refine lv_if_ne (tgt := 106) hx hb dT_behindLine_98 (by decide) (fun c_98 => ?_) (fun c_98 => ?_)
            · skip
              refine lv_iload_n hx hb dT_behindLine_106 rfl (lv_at hl 1 rfl) ?_
              refine lv_iconst (v := 2) hx hb dT_behindLine_107 (by decide) ?_
              refine lv_icmp_ne (tgt := 130) hx hb dT_behindLine_108 (by decide) (fun c_108 => fr_no c_80 c_108) (fun c_108 => ?_)
              refine lv_iload_n hx hb dT_behindLine_111 rfl (lv_at hl 0 rfl) ?_
              refine lv_if_eq (tgt := 130) hx hb dT_behindLine_112 (by decide) (fun c_112 => ?_) (fun c_112 => ?_)
              · skip
                refine lv_iconst (v := 0) hx hb dT_behindLine_130 (by decide) ?_
                refine lv_istore (lv' := [(4, .int 0), (3, .int (dn_digitAt f (x + 4))), (2, .int (dn_rowAt f x)), (0, .ref (al 5)), (1, .int x)]) hx hb dT_behindLine_131 hl (by decide) rfl (fun ls hl => ?_)
                refine lv_iload_n hx hb dT_behindLine_133 rfl (lv_at hl 4 rfl) ?_
                refine lv_iload hx hb dT_behindLine_134 (lv_at hl 0 rfl) ?_
                refine lv_if_eq (tgt := 144) hx hb dT_behindLine_136 (by decide) (fun c_136 => ?_) (fun c_136 => absurd c_136 (by decide))
                refine lv_iconst (v := 5) hx hb dT_behindLine_144 (by decide) ?_
                refine lv_iadd hx hb dT_behindLine_145 ?_
                refine lv_istore (lv' := [(5, .int (x + 5)), (4, .int 0), (3, .int (dn_digitAt f (x + 4))), (2, .int (dn_rowAt f x)), (0, .ref (al 5)), (1, .int x)]) hx hb dT_behindLine_146 hl (by decide) rfl (fun ls hl => ?_)
                refine lv_aload_n hx hb dT_behindLine_148 rfl (lv_at hl 4 rfl) ?_
                refine lv_iload hx hb dT_behindLine_149 (lv_at hl 0 rfl) ?_
                refine cl_T_26 C hP hD hS hl.1 ⟨Nat.le_of_ble_eq_true rfl, Nat.le_of_ble_eq_true rfl⟩ (Nat.le_of_ble_eq_true rfl) ⟨Nat.le_of_ble_eq_true rfl, Nat.le_of_ble_eq_true rfl⟩ gT dT_behindLine_151 (fun H locs hP hD hS => ?_)
                refine lv_bipush (v := 10) hx hb dT_behindLine_154 (by decide) ?_
                refine lv_icmp_ne (tgt := 166) hx hb dT_behindLine_156 (by decide) (fun c_156 => ?_) (fun c_156 => ?_)
                · skip
                  refine lv_iconst (v := (-1)) hx hb dT_behindLine_166 (by decide) ?_
                  refine lv_iload hx hb dT_behindLine_167 (lv_at hl 0 rfl) ?_
                  refine lv_isub hx hb dT_behindLine_169 ?_
                  have hd_ : dn_behind f x = (-1) - (x + 5) := by rw [dn_behind, if_neg c_8, if_pos c_24, if_neg c_44, if_pos c_61, if_pos c_80, if_neg c_98, if_pos c_112, if_neg c_156]
                  exact fr_iret C hP hD hS hd_.symm dT_behindLine_170
                · skip
                  refine lv_iload hx hb dT_behindLine_159 (lv_at hl 0 rfl) ?_
                  refine lv_iconst (v := 1) hx hb dT_behindLine_161 (by decide) ?_
                  refine lv_iadd hx hb dT_behindLine_162 ?_
                  refine lv_goto (tgt := 170) hx hb dT_behindLine_163 (by decide) ?_
                  have hd_ : dn_behind f x = (x + 5) + 1 := by rw [dn_behind, if_neg c_8, if_pos c_24, if_neg c_44, if_pos c_61, if_pos c_80, if_neg c_98, if_pos c_112, if_pos c_156]
                  exact fr_iret C hP hD hS hd_.symm dT_behindLine_170
              · skip
                refine lv_aload_n hx hb dT_behindLine_115 rfl (lv_at hl 2 rfl) ?_
                refine lv_iload_n hx hb dT_behindLine_116 rfl (lv_at hl 3 rfl) ?_
                refine lv_iconst (v := 5) hx hb dT_behindLine_117 (by decide) ?_
                refine lv_iadd hx hb dT_behindLine_118 ?_
                refine cl_T_29 C hP hD hS hl.1 ⟨Nat.le_of_ble_eq_true rfl, Nat.le_of_ble_eq_true rfl⟩ (Nat.le_of_ble_eq_true rfl) ⟨Nat.le_of_ble_eq_true rfl, Nat.le_of_ble_eq_true rfl⟩ gT dT_behindLine_119 (fun H locs hP hD hS => ?_)
                refine lv_iconst (v := (-1)) hx hb dT_behindLine_122 (by decide) ?_
                refine lv_icmp_eq (tgt := 130) hx hb dT_behindLine_123 (by decide) (fun c_123 => ?_) (fun c_123 => ?_)
                · skip
                  refine lv_iconst (v := 0) hx hb dT_behindLine_130 (by decide) ?_
                  refine lv_istore (lv' := [(4, .int 0), (3, .int (dn_digitAt f (x + 4))), (2, .int (dn_rowAt f x)), (0, .ref (al 5)), (1, .int x)]) hx hb dT_behindLine_131 hl (by decide) rfl (fun ls hl => ?_)
                  refine lv_iload_n hx hb dT_behindLine_133 rfl (lv_at hl 4 rfl) ?_
                  refine lv_iload hx hb dT_behindLine_134 (lv_at hl 0 rfl) ?_
                  refine lv_if_eq (tgt := 144) hx hb dT_behindLine_136 (by decide) (fun c_136 => ?_) (fun c_136 => absurd c_136 (by decide))
                  refine lv_iconst (v := 5) hx hb dT_behindLine_144 (by decide) ?_
                  refine lv_iadd hx hb dT_behindLine_145 ?_
                  refine lv_istore (lv' := [(5, .int (x + 5)), (4, .int 0), (3, .int (dn_digitAt f (x + 4))), (2, .int (dn_rowAt f x)), (0, .ref (al 5)), (1, .int x)]) hx hb dT_behindLine_146 hl (by decide) rfl (fun ls hl => ?_)
                  refine lv_aload_n hx hb dT_behindLine_148 rfl (lv_at hl 4 rfl) ?_
                  refine lv_iload hx hb dT_behindLine_149 (lv_at hl 0 rfl) ?_
                  refine cl_T_26 C hP hD hS hl.1 ⟨Nat.le_of_ble_eq_true rfl, Nat.le_of_ble_eq_true rfl⟩ (Nat.le_of_ble_eq_true rfl) ⟨Nat.le_of_ble_eq_true rfl, Nat.le_of_ble_eq_true rfl⟩ gT dT_behindLine_151 (fun H locs hP hD hS => ?_)
                  refine lv_bipush (v := 10) hx hb dT_behindLine_154 (by decide) ?_
                  refine lv_icmp_ne (tgt := 166) hx hb dT_behindLine_156 (by decide) (fun c_156 => ?_) (fun c_156 => ?_)
                  · skip
                    refine lv_iconst (v := (-1)) hx hb dT_behindLine_166 (by decide) ?_
                    refine lv_iload hx hb dT_behindLine_167 (lv_at hl 0 rfl) ?_
                    refine lv_isub hx hb dT_behindLine_169 ?_
                    have hd_ : dn_behind f x = (-1) - (x + 5) := by rw [dn_behind, if_neg c_8, if_pos c_24, if_neg c_44, if_pos c_61, if_pos c_80, if_neg c_98, if_neg c_112, if_pos c_123, if_neg c_156]
                    exact fr_iret C hP hD hS hd_.symm dT_behindLine_170
                  · skip
                    refine lv_iload hx hb dT_behindLine_159 (lv_at hl 0 rfl) ?_
                    refine lv_iconst (v := 1) hx hb dT_behindLine_161 (by decide) ?_
                    refine lv_iadd hx hb dT_behindLine_162 ?_
                    refine lv_goto (tgt := 170) hx hb dT_behindLine_163 (by decide) ?_
                    have hd_ : dn_behind f x = (x + 5) + 1 := by rw [dn_behind, if_neg c_8, if_pos c_24, if_neg c_44, if_pos c_61, if_pos c_80, if_neg c_98, if_neg c_112, if_pos c_123, if_pos c_156]
                    exact fr_iret C hP hD hS hd_.symm dT_behindLine_170
                · skip
                  refine lv_iconst (v := 1) hx hb dT_behindLine_126 (by decide) ?_
                  refine lv_goto (tgt := 131) hx hb dT_behindLine_127 (by decide) ?_
                  refine lv_istore (lv' := [(4, .int 1), (3, .int (dn_digitAt f (x + 4))), (2, .int (dn_rowAt f x)), (0, .ref (al 5)), (1, .int x)]) hx hb dT_behindLine_131 hl (by decide) rfl (fun ls hl => ?_)
                  refine lv_iload_n hx hb dT_behindLine_133 rfl (lv_at hl 4 rfl) ?_
                  refine lv_iload hx hb dT_behindLine_134 (lv_at hl 0 rfl) ?_
                  refine lv_if_eq (tgt := 144) hx hb dT_behindLine_136 (by decide) (fun c_136 => absurd c_136 (by decide)) (fun c_136 => ?_)
                  refine lv_bipush (v := 6) hx hb dT_behindLine_139 (by decide) ?_
                  refine lv_goto (tgt := 145) hx hb dT_behindLine_141 (by decide) ?_
                  refine lv_iadd hx hb dT_behindLine_145 ?_
                  refine lv_istore (lv' := [(5, .int (x + 6)), (4, .int 1), (3, .int (dn_digitAt f (x + 4))), (2, .int (dn_rowAt f x)), (0, .ref (al 5)), (1, .int x)]) hx hb dT_behindLine_146 hl (by decide) rfl (fun ls hl => ?_)
                  refine lv_aload_n hx hb dT_behindLine_148 rfl (lv_at hl 4 rfl) ?_
                  refine lv_iload hx hb dT_behindLine_149 (lv_at hl 0 rfl) ?_
                  refine cl_T_26 C hP hD hS hl.1 ⟨Nat.le_of_ble_eq_true rfl, Nat.le_of_ble_eq_true rfl⟩ (Nat.le_of_ble_eq_true rfl) ⟨Nat.le_of_ble_eq_true rfl, Nat.le_of_ble_eq_true rfl⟩ gT dT_behindLine_151 (fun H locs hP hD hS => ?_)
                  refine lv_bipush (v := 10) hx hb dT_behindLine_154 (by decide) ?_
                  refine lv_icmp_ne (tgt := 166) hx hb dT_behindLine_156 (by decide) (fun c_156 => ?_) (fun c_156 => ?_)
                  · skip
                    refine lv_iconst (v := (-1)) hx hb dT_behindLine_166 (by decide) ?_
                    refine lv_iload hx hb dT_behindLine_167 (lv_at hl 0 rfl) ?_
                    refine lv_isub hx hb dT_behindLine_169 ?_
                    have hd_ : dn_behind f x = (-1) - (x + 6) := by rw [dn_behind, if_neg c_8, if_pos c_24, if_neg c_44, if_pos c_61, if_pos c_80, if_neg c_98, if_neg c_112, if_neg c_123, if_neg c_156]
                    exact fr_iret C hP hD hS hd_.symm dT_behindLine_170
                  · skip
                    refine lv_iload hx hb dT_behindLine_159 (lv_at hl 0 rfl) ?_
                    refine lv_iconst (v := 1) hx hb dT_behindLine_161 (by decide) ?_
                    refine lv_iadd hx hb dT_behindLine_162 ?_
                    refine lv_goto (tgt := 170) hx hb dT_behindLine_163 (by decide) ?_
                    have hd_ : dn_behind f x = (x + 6) + 1 := by rw [dn_behind, if_neg c_8, if_pos c_24, if_neg c_44, if_pos c_61, if_pos c_80, if_neg c_98, if_neg c_112, if_neg c_123, if_pos c_156]
                    exact fr_iret C hP hD hS hd_.symm dT_behindLine_170
            · skip
              refine lv_bipush (v := (-5)) hx hb dT_behindLine_101 (by decide) ?_
              refine lv_iload_n hx hb dT_behindLine_103 rfl (lv_at hl 3 rfl) ?_
              refine lv_isub hx hb dT_behindLine_104 ?_
              have hd_ : dn_behind f x = (-5) - x := by rw [dn_behind, if_neg c_8, if_pos c_24, if_neg c_44, if_pos c_61, if_pos c_80, if_pos c_98]
              exact fr_iret C hP hD hS hd_.symm dT_behindLine_105
          · skip
            refine lv_iload_n hx hb dT_behindLine_83 rfl (lv_at hl 1 rfl) ?_
            refine lv_iconst (v := 3) hx hb dT_behindLine_84 (by decide) ?_
            refine lv_icmp_ne (tgt := 93) hx hb dT_behindLine_85 (by decide) (fun c_85 => ?_) (fun c_85 => ?_)
            · skip
              refine lv_bipush (v := 7) hx hb dT_behindLine_93 (by decide) ?_
              refine cl_T_32 C hP hD hS hl.1 ⟨Nat.le_of_ble_eq_true rfl, Nat.le_of_ble_eq_true rfl⟩ (Nat.le_of_ble_eq_true rfl) ⟨Nat.le_of_ble_eq_true rfl, Nat.le_of_ble_eq_true rfl⟩ dT_behindLine_95 (fun H locs hP hD hS => ?_)
              refine lv_if_ne (tgt := 106) hx hb dT_behindLine_98 (by decide) (fun c_98 => ?_) (fun c_98 => ?_)
              · skip
                refine lv_iload_n hx hb dT_behindLine_106 rfl (lv_at hl 1 rfl) ?_
                refine lv_iconst (v := 2) hx hb dT_behindLine_107 (by decide) ?_
                refine lv_icmp_ne (tgt := 130) hx hb dT_behindLine_108 (by decide) (fun c_108 => ?_) (fun c_108 => fr_no c_108 c_80)
                refine lv_iconst (v := 0) hx hb dT_behindLine_130 (by decide) ?_
                refine lv_istore (lv' := [(4, .int 0), (3, .int (dn_digitAt f (x + 4))), (2, .int (dn_rowAt f x)), (0, .ref (al 5)), (1, .int x)]) hx hb dT_behindLine_131 hl (by decide) rfl (fun ls hl => ?_)
                refine lv_iload_n hx hb dT_behindLine_133 rfl (lv_at hl 4 rfl) ?_
                refine lv_iload hx hb dT_behindLine_134 (lv_at hl 0 rfl) ?_
                refine lv_if_eq (tgt := 144) hx hb dT_behindLine_136 (by decide) (fun c_136 => ?_) (fun c_136 => absurd c_136 (by decide))
                refine lv_iconst (v := 5) hx hb dT_behindLine_144 (by decide) ?_
                refine lv_iadd hx hb dT_behindLine_145 ?_
                refine lv_istore (lv' := [(5, .int (x + 5)), (4, .int 0), (3, .int (dn_digitAt f (x + 4))), (2, .int (dn_rowAt f x)), (0, .ref (al 5)), (1, .int x)]) hx hb dT_behindLine_146 hl (by decide) rfl (fun ls hl => ?_)
                refine lv_aload_n hx hb dT_behindLine_148 rfl (lv_at hl 4 rfl) ?_
                refine lv_iload hx hb dT_behindLine_149 (lv_at hl 0 rfl) ?_
                refine cl_T_26 C hP hD hS hl.1 ⟨Nat.le_of_ble_eq_true rfl, Nat.le_of_ble_eq_true rfl⟩ (Nat.le_of_ble_eq_true rfl) ⟨Nat.le_of_ble_eq_true rfl, Nat.le_of_ble_eq_true rfl⟩ gT dT_behindLine_151 (fun H locs hP hD hS => ?_)
                refine lv_bipush (v := 10) hx hb dT_behindLine_154 (by decide) ?_
                refine lv_icmp_ne (tgt := 166) hx hb dT_behindLine_156 (by decide) (fun c_156 => ?_) (fun c_156 => ?_)
                · skip
                  refine lv_iconst (v := (-1)) hx hb dT_behindLine_166 (by decide) ?_
                  refine lv_iload hx hb dT_behindLine_167 (lv_at hl 0 rfl) ?_
                  refine lv_isub hx hb dT_behindLine_169 ?_
                  have hd_ : dn_behind f x = (-1) - (x + 5) := by rw [dn_behind, if_neg c_8, if_pos c_24, if_neg c_44, if_pos c_61, if_neg c_80, if_neg c_85, if_neg c_98, if_neg c_156]
                  exact fr_iret C hP hD hS hd_.symm dT_behindLine_170
                · skip
                  refine lv_iload hx hb dT_behindLine_159 (lv_at hl 0 rfl) ?_
                  refine lv_iconst (v := 1) hx hb dT_behindLine_161 (by decide) ?_
                  refine lv_iadd hx hb dT_behindLine_162 ?_
                  refine lv_goto (tgt := 170) hx hb dT_behindLine_163 (by decide) ?_
                  have hd_ : dn_behind f x = (x + 5) + 1 := by rw [dn_behind, if_neg c_8, if_pos c_24, if_neg c_44, if_pos c_61, if_neg c_80, if_neg c_85, if_neg c_98, if_pos c_156]
                  exact fr_iret C hP hD hS hd_.symm dT_behindLine_170
              · skip
                refine lv_bipush (v := (-5)) hx hb dT_behindLine_101 (by decide) ?_
                refine lv_iload_n hx hb dT_behindLine_103 rfl (lv_at hl 3 rfl) ?_
                refine lv_isub hx hb dT_behindLine_104 ?_
                have hd_ : dn_behind f x = (-5) - x := by rw [dn_behind, if_neg c_8, if_pos c_24, if_neg c_44, if_pos c_61, if_neg c_80, if_neg c_85, if_pos c_98]
                exact fr_iret C hP hD hS hd_.symm dT_behindLine_105
            · skip
              refine lv_bipush (v := 9) hx hb dT_behindLine_88 (by decide) ?_
              refine lv_goto (tgt := 95) hx hb dT_behindLine_90 (by decide) ?_
              refine cl_T_32 C hP hD hS hl.1 ⟨Nat.le_of_ble_eq_true rfl, Nat.le_of_ble_eq_true rfl⟩ (Nat.le_of_ble_eq_true rfl) ⟨Nat.le_of_ble_eq_true rfl, Nat.le_of_ble_eq_true rfl⟩ dT_behindLine_95 (fun H locs hP hD hS => ?_)
              refine lv_if_ne (tgt := 106) hx hb dT_behindLine_98 (by decide) (fun c_98 => ?_) (fun c_98 => ?_)
              · skip
                refine lv_iload_n hx hb dT_behindLine_106 rfl (lv_at hl 1 rfl) ?_
                refine lv_iconst (v := 2) hx hb dT_behindLine_107 (by decide) ?_
                refine lv_icmp_ne (tgt := 130) hx hb dT_behindLine_108 (by decide) (fun c_108 => ?_) (fun c_108 => fr_no c_108 c_80)
                refine lv_iconst (v := 0) hx hb dT_behindLine_130 (by decide) ?_
                refine lv_istore (lv' := [(4, .int 0), (3, .int (dn_digitAt f (x + 4))), (2, .int (dn_rowAt f x)), (0, .ref (al 5)), (1, .int x)]) hx hb dT_behindLine_131 hl (by decide) rfl (fun ls hl => ?_)
                refine lv_iload_n hx hb dT_behindLine_133 rfl (lv_at hl 4 rfl) ?_
                refine lv_iload hx hb dT_behindLine_134 (lv_at hl 0 rfl) ?_
                refine lv_if_eq (tgt := 144) hx hb dT_behindLine_136 (by decide) (fun c_136 => ?_) (fun c_136 => absurd c_136 (by decide))
                refine lv_iconst (v := 5) hx hb dT_behindLine_144 (by decide) ?_
                refine lv_iadd hx hb dT_behindLine_145 ?_
                refine lv_istore (lv' := [(5, .int (x + 5)), (4, .int 0), (3, .int (dn_digitAt f (x + 4))), (2, .int (dn_rowAt f x)), (0, .ref (al 5)), (1, .int x)]) hx hb dT_behindLine_146 hl (by decide) rfl (fun ls hl => ?_)
                refine lv_aload_n hx hb dT_behindLine_148 rfl (lv_at hl 4 rfl) ?_
                refine lv_iload hx hb dT_behindLine_149 (lv_at hl 0 rfl) ?_
                refine cl_T_26 C hP hD hS hl.1 ⟨Nat.le_of_ble_eq_true rfl, Nat.le_of_ble_eq_true rfl⟩ (Nat.le_of_ble_eq_true rfl) ⟨Nat.le_of_ble_eq_true rfl, Nat.le_of_ble_eq_true rfl⟩ gT dT_behindLine_151 (fun H locs hP hD hS => ?_)
                refine lv_bipush (v := 10) hx hb dT_behindLine_154 (by decide) ?_
                refine lv_icmp_ne (tgt := 166) hx hb dT_behindLine_156 (by decide) (fun c_156 => ?_) (fun c_156 => ?_)
                · skip
                  refine lv_iconst (v := (-1)) hx hb dT_behindLine_166 (by decide) ?_
                  refine lv_iload hx hb dT_behindLine_167 (lv_at hl 0 rfl) ?_
                  refine lv_isub hx hb dT_behindLine_169 ?_
                  have hd_ : dn_behind f x = (-1) - (x + 5) := by rw [dn_behind, if_neg c_8, if_pos c_24, if_neg c_44, if_pos c_61, if_neg c_80, if_pos c_85, if_neg c_98, if_neg c_156]
                  exact fr_iret C hP hD hS hd_.symm dT_behindLine_170
                · skip
                  refine lv_iload hx hb dT_behindLine_159 (lv_at hl 0 rfl) ?_
                  refine lv_iconst (v := 1) hx hb dT_behindLine_161 (by decide) ?_
                  refine lv_iadd hx hb dT_behindLine_162 ?_
                  refine lv_goto (tgt := 170) hx hb dT_behindLine_163 (by decide) ?_
                  have hd_ : dn_behind f x = (x + 5) + 1 := by rw [dn_behind, if_neg c_8, if_pos c_24, if_neg c_44, if_pos c_61, if_neg c_80, if_pos c_85, if_neg c_98, if_pos c_156]
                  exact fr_iret C hP hD hS hd_.symm dT_behindLine_170
              · skip
                refine lv_bipush (v := (-5)) hx hb dT_behindLine_101 (by decide) ?_
                refine lv_iload_n hx hb dT_behindLine_103 rfl (lv_at hl 3 rfl) ?_
                refine lv_isub hx hb dT_behindLine_104 ?_
                have hd_ : dn_behind f x = (-5) - x := by rw [dn_behind, if_neg c_8, if_pos c_24, if_neg c_44, if_pos c_61, if_neg c_80, if_pos c_85, if_pos c_98]
                exact fr_iret C hP hD hS hd_.symm dT_behindLine_105
        · skip
          refine lv_bipush (v := (-4)) hx hb dT_behindLine_64 (by decide) ?_
          refine lv_iload_n hx hb dT_behindLine_66 rfl (lv_at hl 2 rfl) ?_
          refine lv_isub hx hb dT_behindLine_67 ?_
          have hd_ : dn_behind f x = (-4) - x := by rw [dn_behind, if_neg c_8, if_pos c_24, if_neg c_44, if_neg c_61]
          exact fr_iret C hP hD hS hd_.symm dT_behindLine_68
      · skip
        refine lv_bipush (v := (-3)) hx hb dT_behindLine_47 (by decide) ?_
        refine lv_iload_n hx hb dT_behindLine_49 rfl (lv_at hl 2 rfl) ?_
        refine lv_isub hx hb dT_behindLine_50 ?_
        have hd_ : dn_behind f x = (-3) - x := by rw [dn_behind, if_neg c_8, if_pos c_24, if_pos c_44]
        exact fr_iret C hP hD hS hd_.symm dT_behindLine_51
    · skip
      refine lv_bipush (v := (-2)) hx hb dT_behindLine_27 (by decide) ?_
      refine lv_iload_n hx hb dT_behindLine_29 rfl (lv_at hl 2 rfl) ?_
      refine lv_isub hx hb dT_behindLine_30 ?_
      have hd_ : dn_behind f x = (-2) - x := by rw [dn_behind, if_neg c_8, if_neg c_24]
      exact fr_iret C hP hD hS hd_.symm dT_behindLine_31
  · skip
    refine lv_iconst (v := (-1)) hx hb dT_behindLine_11 (by decide) ?_
    refine lv_iload_n hx hb dT_behindLine_12 rfl (lv_at hl 2 rfl) ?_
    refine lv_isub hx hb dT_behindLine_13 ?_
    have hd_ : dn_behind f x = (-1) - x := by rw [dn_behind, if_pos c_8]
    exact fr_iret C hP hD hS hd_.symm dT_behindLine_14

theorem cl_T_19 {p : Program} {l : Launch} {e : Env} {R : Room} {s : State} {m : MethodId} {args : Array Value} {below : List Frame} {meth : Method} {c : Code} {H : Heap} {locs : List Loc} {cells slots : Nat} {Q : State → Prop} {D : va_G} {A : Nat → Prop} {cc : ByteArray} {nL pc : Nat} {ret : Option FieldType} {hh : List ExceptionTableEntry} {ls : Array Slot} {rest : List Value} {ka : Nat → ClassId} {al : Nat → Nat} {f : Nat → Nat → Int32} {Z : va_W} {x : Int32} (C : fr_Cx p s m args meth c "FragileRules$Text" cc nL ret hh fr_tbl fr_nw D vwCl (fr_ty ka) A) (hP : va_P D vwCl (fr_cw ka al f Z) H) (hD : va_D A (fr_cw ka al f Z)) (hS : va_S A s.heap H locs) (hsz : ls.size = nL) (hR : 2 + 1 ≤ R.frames ∧ 8 + (6 + 11) + 43 ≤ R.locals) (hw : (rest.map fun v => v.category).sum ≤ 8) (hf : cells + 0 ≤ R.cells ∧ slots + 0 ≤ R.slots) (gT : 0 ≤ (f 0 5).toInt ∧ (f 0 5).toInt ≤ 200) (hdg : decode cc pc = .ok (.invokevirtual 19, 3)) (kk : ∀ (H : Heap) (locs : List Loc), va_P D vwCl (fr_cw ka al f Z) H → va_D A (fr_cw ka al f Z) → va_S A s.heap H locs → W p l e R s m args below meth c H locs (cells + 0) (slots + 0) Q (F0 m (pc + 3) ls (.int (dn_behind f x) :: rest))) : W p l e R s m args below meth c H locs cells slots Q (F0 m pc ls (.int x :: .ref (al 5) :: rest)) :=
  fr_callVi (As := [.int x]) C hP hD hS (c_behind l D ka al Z f x gT) (cwV 1 C.2.2.2.2.1 (fr_goodV ml_T_19 mi_behind msel_behind mini_T mc_behind) rfl rfl rfl (by decide +kernel) hR) (va_recv C.2.2.2.2.2.1 hP (ci := 3) (q0 := 5) rfl rfl) rfl hsz hw hdg hf kk
def dn_wrongPlace_4 : Nat → (Nat → Nat → Int32) → (Int32) → (Int32) → Int32
  | 0, _, _, _ => 0
  | n + 1, f, x1, x2 => if 200 ≤ x2 then (-1) else (if (f 0 5) ≤ x1 then (-1) else (if 0 ≤ (dn_behind f x1) then (dn_wrongPlace_4 n f (dn_behind f x1) (x2 + 1)) else ((-1) - (dn_behind f x1))))
set_option maxHeartbeats 4000000 in
set_option maxRecDepth 100000 in
theorem k_wrongPlace_4 {p : Program} {l : Launch} {e : Env} {s : State} {m : MethodId} {below : List Frame} {meth : Method} {c : Code} {D : va_G} {A : Nat → Prop} {ka : Nat → ClassId} {al : Nat → Nat} {Z : va_W} {f : Nat → Nat → Int32} (C : fr_Cx p s m ([.ref (al 5)] : List Value).toArray meth c "FragileRules$Text" prog_3_method_2_code 4 (some .int) [] fr_tbl fr_nw D vwCl (fr_ty ka) A) (gT : 0 ≤ (f 0 5).toInt ∧ (f 0 5).toInt ≤ 200) :
    ∀ (n : Nat) (x1 : Int32) (x2 : Int32) (H : Heap) (locs : List Loc) (ls : Array Slot), 0 ≤ x2.toInt ∧ x2.toInt ≤ 200 ∧ 200 < x2.toInt + n → va_P D vwCl (fr_cw ka al f Z) H → va_D A (fr_cw ka al f Z) → va_S A s.heap H locs → lv_has ls 4 [(0, .ref (al 5)), (1, .int x1), (2, .int x2)] → W p l e { frames := 3, cells := 0, slots := 0, locals := 68 } s m ([.ref (al 5)] : List Value).toArray below meth c H locs 0 0 (MQ below (fr_Qi D vwCl (fr_ty ka) (dn_wrongPlace_4 n f x1 x2) (fr_cw ka al f Z) A) ([.ref (al 5)] : List Value).toArray s 0 0 A) (F0 m 4 ls []) := by
  obtain ⟨hx, hb, hml, hown, ht, hK, hlocks, hr, hA, hN, hZ, hEx⟩ := id C
  intro n
  induction n with
  | zero =>
    intro x1 x2 H locs ls hm hP hD hS hl
    exact absurd hm (by omega)
  | succ n ih =>
    intro x1 x2 H locs ls hm hP hD hS hl
    refine lv_iload_n hx hb dT_wrongPlace_4 rfl (lv_at hl 2 rfl) ?_
    refine lv_sipush (v := 200) hx hb dT_wrongPlace_5 (by decide) ?_
    refine lv_icmp_ge (tgt := 41) hx hb dT_wrongPlace_8 (by decide) (fun c_8 => ?_) (fun c_8 => ?_)
    · skip
      refine lv_iconst (v := (-1)) hx hb dT_wrongPlace_41 (by decide) ?_
      have hd_ : dn_wrongPlace_4 (n + 1) f x1 x2 = (-1) := by rw [dn_wrongPlace_4, if_pos c_8]
      exact fr_iret C hP hD hS hd_.symm dT_wrongPlace_42
    · skip
      refine lv_iload_n hx hb dT_wrongPlace_11 rfl (lv_at hl 1 rfl) ?_
      refine lv_aload_n hx hb dT_wrongPlace_12 rfl (lv_at hl 0 rfl) ?_
      refine gf_T_15 C hP dT_wrongPlace_13 ?_
      refine lv_icmp_ge (tgt := 41) hx hb dT_wrongPlace_16 (by decide) (fun c_16 => ?_) (fun c_16 => ?_)
      · skip
        refine lv_iconst (v := (-1)) hx hb dT_wrongPlace_41 (by decide) ?_
        have hd_ : dn_wrongPlace_4 (n + 1) f x1 x2 = (-1) := by rw [dn_wrongPlace_4, if_neg c_8, if_pos c_16]
        exact fr_iret C hP hD hS hd_.symm dT_wrongPlace_42
      · skip
        refine lv_aload_n hx hb dT_wrongPlace_19 rfl (lv_at hl 0 rfl) ?_
        refine lv_iload_n hx hb dT_wrongPlace_20 rfl (lv_at hl 1 rfl) ?_
        refine cl_T_19 C hP hD hS hl.1 ⟨Nat.le_of_ble_eq_true rfl, Nat.le_of_ble_eq_true rfl⟩ (Nat.le_of_ble_eq_true rfl) ⟨Nat.le_of_ble_eq_true rfl, Nat.le_of_ble_eq_true rfl⟩ gT dT_wrongPlace_21 (fun H locs hP hD hS => ?_)
        refine lv_istore_n (lv' := [(3, .int (dn_behind f x1)), (0, .ref (al 5)), (1, .int x1), (2, .int x2)]) hx hb dT_wrongPlace_24 rfl hl (by decide) rfl (fun ls hl => ?_)
        refine lv_iload_n hx hb dT_wrongPlace_25 rfl (lv_at hl 0 rfl) ?_
        refine lv_if_ge (tgt := 33) hx hb dT_wrongPlace_26 (by decide) (fun c_26 => ?_) (fun c_26 => ?_)
        · skip
          refine lv_iload_n hx hb dT_wrongPlace_33 rfl (lv_at hl 0 rfl) ?_
          refine lv_istore_n (lv' := [(1, .int (dn_behind f x1)), (3, .int (dn_behind f x1)), (0, .ref (al 5)), (2, .int x2)]) hx hb dT_wrongPlace_34 rfl hl (by decide) rfl (fun ls hl => ?_)
          refine lv_iinc (v := x2 + 1) (lv' := [(2, .int (x2 + 1)), (1, .int (dn_behind f x1)), (3, .int (dn_behind f x1)), (0, .ref (al 5))]) hx hb dT_wrongPlace_35 hl (k := 3) rfl rfl (by decide) rfl (fun ls hl => ?_)
          refine lv_goto (tgt := 4) hx hb dT_wrongPlace_38 (by decide) ?_
          have hd_ : dn_wrongPlace_4 (n + 1) f x1 x2 = dn_wrongPlace_4 n f (dn_behind f x1) (x2 + 1) := by rw [dn_wrongPlace_4, if_neg c_8, if_neg c_16, if_pos c_26]
          rw [hd_]
          exact ih (dn_behind f x1) (x2 + 1) H locs ls (fr_step (B := 200) rfl c_8 hm) hP hD hS (lv_sub hl [3, 1, 0] rfl)
        · skip
          refine lv_iconst (v := (-1)) hx hb dT_wrongPlace_29 (by decide) ?_
          refine lv_iload_n hx hb dT_wrongPlace_30 rfl (lv_at hl 0 rfl) ?_
          refine lv_isub hx hb dT_wrongPlace_31 ?_
          have hd_ : dn_wrongPlace_4 (n + 1) f x1 x2 = (-1) - (dn_behind f x1) := by rw [dn_wrongPlace_4, if_neg c_8, if_neg c_16, if_neg c_26]
          exact fr_iret C hP hD hS hd_.symm dT_wrongPlace_32
def dn_wrongPlace (f : Nat → Nat → Int32)  : Int32 := dn_wrongPlace_4 201 f 0 0
set_option maxHeartbeats 4000000 in
set_option maxRecDepth 100000 in
theorem c_wrongPlace (l : Launch) (D : va_G) (ka : Nat → ClassId) (al : Nat → Nat) (Z : va_W) (f : Nat → Nat → Int32)  (gT : 0 ≤ (f 0 5).toInt ∧ (f 0 5).toInt ≤ 200) : fr_Mi l y_wrongPlace (.code y_wrongPlace prog_3_method_2_code 4 (some .int) :: fr_tbl) { frames := 3, cells := 0, slots := 0, locals := 68 } D vwCl (fr_ty ka) fr_nw [.ref (al 5)] (fr_cw ka al f Z) (dn_wrongPlace f) (fr_cw ka al f Z) 0 0 := by
  refine fr_Mi.of (by decide) (Nat.le_of_ble_eq_true rfl) ?_
  intro p e s m below meth c A H locs ls C hP hD hS hl
  obtain ⟨hx, hb, hml, hown, ht, hK, hlocks, hr, hA, hN, hZ, hEx⟩ := id C
  have hl : lv_has ls 4 [(0, .ref (al 5))] := hl
  refine lv_iconst (v := 0) hx hb dT_wrongPlace_0 (by decide) ?_
  refine lv_istore_n (lv' := [(1, .int 0), (0, .ref (al 5))]) hx hb dT_wrongPlace_1 rfl hl (by decide) rfl (fun ls hl => ?_)
  refine lv_iconst (v := 0) hx hb dT_wrongPlace_2 (by decide) ?_
  refine lv_istore_n (lv' := [(2, .int 0), (1, .int 0), (0, .ref (al 5))]) hx hb dT_wrongPlace_3 rfl hl (by decide) rfl (fun ls hl => ?_)
  have hd_ : dn_wrongPlace f = dn_wrongPlace_4 201 f 0 0 := by rw [dn_wrongPlace]
  rw [hd_]
  exact k_wrongPlace_4 C gT 201 0 0 H locs ls (⟨by decide, by decide, by decide⟩) hP hD hS (lv_sub hl [2, 1, 0] rfl)

def dn_lineCount_4 : Nat → (Nat → Nat → Int32) → (Int32) → (Int32) → Int32
  | 0, _, _, _ => 0
  | n + 1, f, x1, x2 => if (f 0 5) ≤ x2 then x1 else (if (f 10 x2.toNatClampNeg) = 10 then (dn_lineCount_4 n f (x1 + 1) (x2 + 1)) else (dn_lineCount_4 n f x1 (x2 + 1)))
set_option maxHeartbeats 4000000 in
set_option maxRecDepth 100000 in
theorem k_lineCount_4 {p : Program} {l : Launch} {e : Env} {s : State} {m : MethodId} {below : List Frame} {meth : Method} {c : Code} {D : va_G} {A : Nat → Prop} {ka : Nat → ClassId} {al : Nat → Nat} {Z : va_W} {f : Nat → Nat → Int32} (C : fr_Cx p s m ([.ref (al 5)] : List Value).toArray meth c "FragileRules$Text" prog_3_method_3_code 3 (some .int) [] fr_tbl fr_nw D vwCl (fr_ty ka) A) (gT : 0 ≤ (f 0 5).toInt ∧ (f 0 5).toInt ≤ 200) :
    ∀ (n : Nat) (x1 : Int32) (x2 : Int32) (H : Heap) (locs : List Loc) (ls : Array Slot), 0 ≤ x2.toInt ∧ x2.toInt ≤ (f 0 5).toInt ∧ (f 0 5).toInt < x2.toInt + n → va_P D vwCl (fr_cw ka al f Z) H → va_D A (fr_cw ka al f Z) → va_S A s.heap H locs → lv_has ls 3 [(0, .ref (al 5)), (1, .int x1), (2, .int x2)] → W p l e { frames := 0, cells := 0, slots := 0, locals := 0 } s m ([.ref (al 5)] : List Value).toArray below meth c H locs 0 0 (MQ below (fr_Qi D vwCl (fr_ty ka) (dn_lineCount_4 n f x1 x2) (fr_cw ka al f Z) A) ([.ref (al 5)] : List Value).toArray s 0 0 A) (F0 m 4 ls []) := by
  obtain ⟨hx, hb, hml, hown, ht, hK, hlocks, hr, hA, hN, hZ, hEx⟩ := id C
  intro n
  induction n with
  | zero =>
    intro x1 x2 H locs ls hm hP hD hS hl
    exact absurd hm (by omega)
  | succ n ih =>
    intro x1 x2 H locs ls hm hP hD hS hl
    refine lv_iload_n hx hb dT_lineCount_4 rfl (lv_at hl 2 rfl) ?_
    refine lv_aload_n hx hb dT_lineCount_5 rfl (lv_at hl 0 rfl) ?_
    refine gf_T_15 C hP dT_lineCount_6 ?_
    refine lv_icmp_ge (tgt := 32) hx hb dT_lineCount_9 (by decide) (fun c_9 => ?_) (fun c_9 => ?_)
    · skip
      refine lv_iload_n hx hb dT_lineCount_32 rfl (lv_at hl 1 rfl) ?_
      have hd_ : dn_lineCount_4 (n + 1) f x1 x2 = x1 := by rw [dn_lineCount_4, if_pos c_9]
      exact fr_iret C hP hD hS hd_.symm dT_lineCount_33
    · skip
      refine lv_aload_n hx hb dT_lineCount_12 rfl (lv_at hl 0 rfl) ?_
      refine gf_T_9 C hP dT_lineCount_13 ?_
      refine lv_iload_n hx hb dT_lineCount_16 rfl (lv_at hl 2 rfl) ?_
      have hin_17 : vp_in x2 200 := by have q0 := fr_t4 c_9; have e0 := hm; have e1 := gT; skip; rw [vp_in_iff]; omega
      refine ald_10 C hP hin_17 dT_lineCount_17 ?_
      refine lv_bipush (v := 10) hx hb dT_lineCount_18 (by decide) ?_
      refine lv_icmp_ne (tgt := 26) hx hb dT_lineCount_20 (by decide) (fun c_20 => ?_) (fun c_20 => ?_)
      · skip
        refine lv_iinc (v := x2 + 1) (lv' := [(2, .int (x2 + 1)), (0, .ref (al 5)), (1, .int x1)]) hx hb dT_lineCount_26 hl (k := 2) rfl rfl (by decide) rfl (fun ls hl => ?_)
        refine lv_goto (tgt := 4) hx hb dT_lineCount_29 (by decide) ?_
        have hd_ : dn_lineCount_4 (n + 1) f x1 x2 = dn_lineCount_4 n f x1 (x2 + 1) := by rw [dn_lineCount_4, if_neg c_9, if_neg c_20]
        rw [hd_]
        exact ih x1 (x2 + 1) H locs ls (fr_step rfl c_9 hm) hP hD hS (lv_sub hl [1, 2, 0] rfl)
      · skip
        refine lv_iinc (v := x1 + 1) (lv' := [(1, .int (x1 + 1)), (0, .ref (al 5)), (2, .int x2)]) hx hb dT_lineCount_23 hl (k := 1) rfl rfl (by decide) rfl (fun ls hl => ?_)
        refine lv_iinc (v := x2 + 1) (lv' := [(2, .int (x2 + 1)), (1, .int (x1 + 1)), (0, .ref (al 5))]) hx hb dT_lineCount_26 hl (k := 2) rfl rfl (by decide) rfl (fun ls hl => ?_)
        refine lv_goto (tgt := 4) hx hb dT_lineCount_29 (by decide) ?_
        have hd_ : dn_lineCount_4 (n + 1) f x1 x2 = dn_lineCount_4 n f (x1 + 1) (x2 + 1) := by rw [dn_lineCount_4, if_neg c_9, if_pos c_20]
        rw [hd_]
        exact ih (x1 + 1) (x2 + 1) H locs ls (fr_step rfl c_9 hm) hP hD hS (lv_sub hl [2, 1, 0] rfl)
def dn_lineCount (f : Nat → Nat → Int32)  : Int32 := dn_lineCount_4 201 f 0 0
set_option maxHeartbeats 4000000 in
set_option maxRecDepth 100000 in
theorem c_lineCount (l : Launch) (D : va_G) (ka : Nat → ClassId) (al : Nat → Nat) (Z : va_W) (f : Nat → Nat → Int32)  (gT : 0 ≤ (f 0 5).toInt ∧ (f 0 5).toInt ≤ 200) : fr_Mi l y_lineCount (.code y_lineCount prog_3_method_3_code 3 (some .int) :: fr_tbl) { frames := 0, cells := 0, slots := 0, locals := 0 } D vwCl (fr_ty ka) fr_nw [.ref (al 5)] (fr_cw ka al f Z) (dn_lineCount f) (fr_cw ka al f Z) 0 0 := by
  refine fr_Mi.of (by decide) (Nat.le_of_ble_eq_true rfl) ?_
  intro p e s m below meth c A H locs ls C hP hD hS hl
  obtain ⟨hx, hb, hml, hown, ht, hK, hlocks, hr, hA, hN, hZ, hEx⟩ := id C
  have hl : lv_has ls 3 [(0, .ref (al 5))] := hl
  refine lv_iconst (v := 0) hx hb dT_lineCount_0 (by decide) ?_
  refine lv_istore_n (lv' := [(1, .int 0), (0, .ref (al 5))]) hx hb dT_lineCount_1 rfl hl (by decide) rfl (fun ls hl => ?_)
  refine lv_iconst (v := 0) hx hb dT_lineCount_2 (by decide) ?_
  refine lv_istore_n (lv' := [(2, .int 0), (1, .int 0), (0, .ref (al 5))]) hx hb dT_lineCount_3 rfl hl (by decide) rfl (fun ls hl => ?_)
  have hd_ : dn_lineCount f = dn_lineCount_4 201 f 0 0 := by rw [dn_lineCount]
  rw [hd_]
  exact k_lineCount_4 C gT 201 0 0 H locs ls (fr_start gT (by decide)) hP hD hS (lv_sub hl [2, 1, 0] rfl)
end
section
def dn_isUnit (f : Nat → Nat → Int32) (x : Int32) : Int32 := if x < 0 then 0 else (if (f 0 0) ≤ x then 0 else 1)
set_option maxHeartbeats 4000000 in
set_option maxRecDepth 100000 in
theorem c_isUnit (l : Launch) (D : va_G) (ka : Nat → ClassId) (al : Nat → Nat) (Z : va_W) (f : Nat → Nat → Int32) (x : Int32) : fr_Mi l y_isUnit (.code y_isUnit prog_1_method_19_code 2 (some .boolean) :: fr_tbl) { frames := 0, cells := 0, slots := 0, locals := 0 } D vwCl (fr_ty ka) fr_nw [.ref (al 0), .int x] (fr_cw ka al f Z) (dn_isUnit f x) (fr_cw ka al f Z) 0 0 := by
  refine fr_Mi.of (by decide) (Nat.le_of_ble_eq_true rfl) ?_
  intro p e s m below meth c A H locs ls C hP hD hS hl
  obtain ⟨hx, hb, hml, hown, ht, hK, hlocks, hr, hA, hN, hZ, hEx⟩ := id C
  have hl : lv_has ls 2 [(0, .ref (al 0)), (1, .int x)] := hl
  refine lv_iload_n hx hb dF_isUnit_0 rfl (lv_at hl 1 rfl) ?_
  refine lv_if_lt (tgt := 16) hx hb dF_isUnit_1 (by decide) (fun c_1 => ?_) (fun c_1 => ?_)
  · skip
    refine lv_iconst (v := 0) hx hb dF_isUnit_16 (by decide) ?_
    have hd_ : dn_isUnit f x = 0 := by rw [dn_isUnit, if_pos c_1]
    exact fr_zret C hP hD hS hd_.symm (Or.inl rfl) dF_isUnit_17
  · skip
    refine lv_iload_n hx hb dF_isUnit_4 rfl (lv_at hl 1 rfl) ?_
    refine lv_aload_n hx hb dF_isUnit_5 rfl (lv_at hl 0 rfl) ?_
    refine gf_F_15 C hP dF_isUnit_6 ?_
    refine lv_icmp_ge (tgt := 16) hx hb dF_isUnit_9 (by decide) (fun c_9 => ?_) (fun c_9 => ?_)
    · skip
      refine lv_iconst (v := 0) hx hb dF_isUnit_16 (by decide) ?_
      have hd_ : dn_isUnit f x = 0 := by rw [dn_isUnit, if_neg c_1, if_pos c_9]
      exact fr_zret C hP hD hS hd_.symm (Or.inl rfl) dF_isUnit_17
    · skip
      refine lv_iconst (v := 1) hx hb dF_isUnit_12 (by decide) ?_
      refine lv_goto (tgt := 17) hx hb dF_isUnit_13 (by decide) ?_
      have hd_ : dn_isUnit f x = 1 := by rw [dn_isUnit, if_neg c_1, if_neg c_9]
      exact fr_zret C hP hD hS hd_.symm (Or.inr rfl) dF_isUnit_17
theorem bz_isUnit {f : Nat → Nat → Int32} {x : Int32} : dn_isUnit f x = 0 ∨ dn_isUnit f x = 1 := by
  unfold dn_isUnit
  repeat' split
  all_goals first | exact Or.inl rfl | exact Or.inr rfl | exact bz_has

def dn_isRuleNumber (f : Nat → Nat → Int32) (x : Int32) : Int32 := if x < 1 then 0 else (if (f 0 1) < x then 0 else 1)
set_option maxHeartbeats 4000000 in
set_option maxRecDepth 100000 in
theorem c_isRuleNumber (l : Launch) (D : va_G) (ka : Nat → ClassId) (al : Nat → Nat) (Z : va_W) (f : Nat → Nat → Int32) (x : Int32) : fr_Mi l y_isRuleNumber (.code y_isRuleNumber prog_1_method_20_code 2 (some .boolean) :: fr_tbl) { frames := 0, cells := 0, slots := 0, locals := 0 } D vwCl (fr_ty ka) fr_nw [.ref (al 0), .int x] (fr_cw ka al f Z) (dn_isRuleNumber f x) (fr_cw ka al f Z) 0 0 := by
  refine fr_Mi.of (by decide) (Nat.le_of_ble_eq_true rfl) ?_
  intro p e s m below meth c A H locs ls C hP hD hS hl
  obtain ⟨hx, hb, hml, hown, ht, hK, hlocks, hr, hA, hN, hZ, hEx⟩ := id C
  have hl : lv_has ls 2 [(0, .ref (al 0)), (1, .int x)] := hl
  refine lv_iload_n hx hb dF_isRuleNumber_0 rfl (lv_at hl 1 rfl) ?_
  refine lv_iconst (v := 1) hx hb dF_isRuleNumber_1 (by decide) ?_
  refine lv_icmp_lt (tgt := 17) hx hb dF_isRuleNumber_2 (by decide) (fun c_2 => ?_) (fun c_2 => ?_)
  · skip
    refine lv_iconst (v := 0) hx hb dF_isRuleNumber_17 (by decide) ?_
    have hd_ : dn_isRuleNumber f x = 0 := by rw [dn_isRuleNumber, if_pos c_2]
    exact fr_zret C hP hD hS hd_.symm (Or.inl rfl) dF_isRuleNumber_18
  · skip
    refine lv_iload_n hx hb dF_isRuleNumber_5 rfl (lv_at hl 1 rfl) ?_
    refine lv_aload_n hx hb dF_isRuleNumber_6 rfl (lv_at hl 0 rfl) ?_
    refine gf_F_25 C hP dF_isRuleNumber_7 ?_
    refine lv_icmp_gt (tgt := 17) hx hb dF_isRuleNumber_10 (by decide) (fun c_10 => ?_) (fun c_10 => ?_)
    · skip
      refine lv_iconst (v := 0) hx hb dF_isRuleNumber_17 (by decide) ?_
      have hd_ : dn_isRuleNumber f x = 0 := by rw [dn_isRuleNumber, if_neg c_2, if_pos c_10]
      exact fr_zret C hP hD hS hd_.symm (Or.inl rfl) dF_isRuleNumber_18
    · skip
      refine lv_iconst (v := 1) hx hb dF_isRuleNumber_13 (by decide) ?_
      refine lv_goto (tgt := 18) hx hb dF_isRuleNumber_14 (by decide) ?_
      have hd_ : dn_isRuleNumber f x = 1 := by rw [dn_isRuleNumber, if_neg c_2, if_neg c_10]
      exact fr_zret C hP hD hS hd_.symm (Or.inr rfl) dF_isRuleNumber_18
theorem bz_isRuleNumber {f : Nat → Nat → Int32} {x : Int32} : dn_isRuleNumber f x = 0 ∨ dn_isRuleNumber f x = 1 := by
  unfold dn_isRuleNumber
  repeat' split
  all_goals first | exact Or.inl rfl | exact Or.inr rfl | exact bz_has

def dn_asking (f : Nat → Nat → Int32) (q : Nat) : Int32 := if (f 4 q) = 1 then 1 else (if (f 4 q) = 4 then 2 else (if (f 4 q) = 5 then (if (f 5 q) = 2 then 1 else 0) else 0))
set_option maxHeartbeats 4000000 in
set_option maxRecDepth 100000 in
theorem c_asking (l : Launch) (D : va_G) (ka : Nat → ClassId) (al : Nat → Nat) (Z : va_W) (f : Nat → Nat → Int32) (q : Nat) (hq : q < 12) : fr_Mi l y_asking (.code y_asking prog_2_method_2_code 1 (some .int) :: fr_tbl) { frames := 0, cells := 0, slots := 0, locals := 0 } D vwCl (fr_ty ka) fr_nw [.ref (al (17 + q))] (fr_cw ka al f Z) (dn_asking f q) (fr_cw ka al f Z) 0 0 := by
  refine fr_Mi.of (by decide) (Nat.le_of_ble_eq_true rfl) ?_
  intro p e s m below meth c A H locs ls C hP hD hS hl
  obtain ⟨hx, hb, hml, hown, ht, hK, hlocks, hr, hA, hN, hZ, hEx⟩ := id C
  have hl : lv_has ls 1 [(0, .ref (al (17 + q)))] := hl
  refine lv_aload_n hx hb dR_asking_0 rfl (lv_at hl 0 rfl) ?_
  refine gf_R_9 C hP hq dR_asking_1 ?_
  by_cases c_4_1 : (f 4 q) = 1
  · skip
    refine lv_tableIn (tgt := 40) hx hb dR_asking_4 (by rw [c_4_1]; decide) (by rw [c_4_1]; decide) (by rw [c_4_1] <;> rfl) (by decide) ?_
    refine lv_iconst (v := 1) hx hb dR_asking_40 (by decide) ?_
    have hd_ : dn_asking f q = 1 := by rw [dn_asking, if_pos c_4_1]
    exact fr_iret C hP hD hS hd_.symm dR_asking_41
  · skip
    by_cases c_4_4 : (f 4 q) = 4
    · skip
      refine lv_tableIn (tgt := 42) hx hb dR_asking_4 (by rw [c_4_4]; decide) (by rw [c_4_4]; decide) (by rw [c_4_4] <;> rfl) (by decide) ?_
      refine lv_iconst (v := 2) hx hb dR_asking_42 (by decide) ?_
      have hd_ : dn_asking f q = 2 := by rw [dn_asking, if_neg c_4_1, if_pos c_4_4]
      exact fr_iret C hP hD hS hd_.symm dR_asking_43
    · skip
      by_cases c_4_5 : (f 4 q) = 5
      · skip
        refine lv_tableIn (tgt := 44) hx hb dR_asking_4 (by rw [c_4_5]; decide) (by rw [c_4_5]; decide) (by rw [c_4_5] <;> rfl) (by decide) ?_
        refine lv_aload_n hx hb dR_asking_44 rfl (lv_at hl 0 rfl) ?_
        refine gf_R_15 C hP hq dR_asking_45 ?_
        refine lv_iconst (v := 2) hx hb dR_asking_48 (by decide) ?_
        refine lv_icmp_ne (tgt := 56) hx hb dR_asking_49 (by decide) (fun c_49 => ?_) (fun c_49 => ?_)
        · skip
          refine lv_iconst (v := 0) hx hb dR_asking_56 (by decide) ?_
          have hd_ : dn_asking f q = 0 := by rw [dn_asking, if_neg c_4_1, if_neg c_4_4, if_pos c_4_5, if_neg c_49]
          exact fr_iret C hP hD hS hd_.symm dR_asking_57
        · skip
          refine lv_iconst (v := 1) hx hb dR_asking_52 (by decide) ?_
          refine lv_goto (tgt := 57) hx hb dR_asking_53 (by decide) ?_
          have hd_ : dn_asking f q = 1 := by rw [dn_asking, if_neg c_4_1, if_neg c_4_4, if_pos c_4_5, if_pos c_49]
          exact fr_iret C hP hD hS hd_.symm dR_asking_57
      · skip
        have hdef : W p l e { frames := 0, cells := 0, slots := 0, locals := 0 } s m ([.ref (al (17 + q))] : List Value).toArray below meth c H locs 0 0 (MQ below (fr_Qi D vwCl (fr_ty ka) (dn_asking f q) (fr_cw ka al f Z) A) ([.ref (al (17 + q))] : List Value).toArray s 0 0 A) (F0 m 58 ls []) := by
          refine lv_iconst (v := 0) hx hb dR_asking_58 (by decide) ?_
          have hd_ : dn_asking f q = 0 := by rw [dn_asking, if_neg c_4_1, if_neg c_4_4, if_neg c_4_5]
          exact fr_iret C hP hD hS hd_.symm dR_asking_59
        by_cases c_4_g2 : (f 4 q) = 2
        · exact lv_tableIn (tgt := 58) hx hb dR_asking_4 (by rw [c_4_g2]; decide) (by rw [c_4_g2]; decide) (by rw [c_4_g2] <;> rfl) (by decide) hdef
        by_cases c_4_g3 : (f 4 q) = 3
        · exact lv_tableIn (tgt := 58) hx hb dR_asking_4 (by rw [c_4_g3]; decide) (by rw [c_4_g3]; decide) (by rw [c_4_g3] <;> rfl) (by decide) hdef
        exact lv_tableOut (tgt := 58) hx hb dR_asking_4 (by have h0 := fr_ne (k := 1) (a := 1) rfl c_4_1; have h1 := fr_ne (k := 4) (a := 4) rfl c_4_4; have h2 := fr_ne (k := 5) (a := 5) rfl c_4_5; have h3 := fr_ne (k := 2) (a := 2) rfl c_4_g2; have h4 := fr_ne (k := 3) (a := 3) rfl c_4_g3; omega) (by decide) hdef

theorem cl_R_32 {p : Program} {l : Launch} {e : Env} {R : Room} {s : State} {m : MethodId} {args : Array Value} {below : List Frame} {meth : Method} {c : Code} {H : Heap} {locs : List Loc} {cells slots : Nat} {Q : State → Prop} {D : va_G} {A : Nat → Prop} {cc : ByteArray} {nL pc : Nat} {ret : Option FieldType} {hh : List ExceptionTableEntry} {ls : Array Slot} {rest : List Value} {ka : Nat → ClassId} {al : Nat → Nat} {f : Nat → Nat → Int32} {Z : va_W} {u : Nat} {k : Int32} (C : fr_Cx p s m args meth c "FragileRules$Rule" cc nL ret hh fr_tbl fr_nw D vwCl (fr_ty ka) A) (hP : va_P D vwCl (fr_cw ka al f Z) H) (hD : va_D A (fr_cw ka al f Z)) (hS : va_S A s.heap H locs) (hsz : ls.size = nL) (hR : 0 + 1 ≤ R.frames ∧ 8 + (2 + 11) + 0 ≤ R.locals) (hw : (rest.map fun v => v.category).sum ≤ 8) (hf : cells + 0 ≤ R.cells ∧ slots + 0 ≤ R.slots) (hu : u < 10) (hdg : decode cc pc = .ok (.invokevirtual 32, 3)) (kk : ∀ (H : Heap) (locs : List Loc), va_P D vwCl (fr_cw ka al f Z) H → va_D A (fr_cw ka al f Z) → va_S A s.heap H locs → W p l e R s m args below meth c H locs (cells + 0) (slots + 0) Q (F0 m (pc + 3) ls (.int (dn_has f u k) :: rest))) : W p l e R s m args below meth c H locs cells slots Q (F0 m pc ls (.int k :: .ref (al (7 + u)) :: rest)) :=
  fr_callVi (As := [.int k]) C hP hD hS (c_has l D ka al Z f u k hu) (cwV 1 C.2.2.2.2.1 (fr_goodV ml_R_32 mi_has msel_has mini_U mc_has) rfl rfl rfl (by decide +kernel) hR) (va_recv C.2.2.2.2.2.1 hP (ci := 1) (q0 := (7 + u)) rfl (fr_cw_u hu)) rfl hsz hw hdg hf kk
def dn_doing (f : Nat → Nat → Int32) (q : Nat) (u : Nat) (v : Nat) (x : Int32) : Int32 := if (f 5 q) = 0 then (dn_has f u 1) else (if (f 5 q) = 1 then (if (dn_has f v 2) = 0 then 0 else (if x = 0 then 0 else 1)) else (if (f 5 q) = 2 then (if (dn_has f u 8) = 0 then (if (dn_has f v 8) = 0 then 0 else (if (f 1 u) = (f 1 v) then 0 else 1)) else (if (f 1 u) = (f 1 v) then 0 else 1)) else (if (dn_has f u 4) = 0 then 0 else (if (f 1 u) = (f 1 v) then 0 else 1))))
set_option maxHeartbeats 4000000 in
set_option maxRecDepth 100000 in
theorem c_doing (l : Launch) (D : va_G) (ka : Nat → ClassId) (al : Nat → Nat) (Z : va_W) (f : Nat → Nat → Int32) (q : Nat) (u : Nat) (v : Nat) (x : Int32) (hq : q < 12) (hu : u < 10) (hv : v < 10) : fr_Mi l y_doing (.code y_doing prog_2_method_4_code 4 (some .boolean) :: fr_tbl) { frames := 1, cells := 0, slots := 0, locals := 21 } D vwCl (fr_ty ka) fr_nw [.ref (al (17 + q)), .ref (al (7 + u)), .ref (al (7 + v)), .int x] (fr_cw ka al f Z) (dn_doing f q u v x) (fr_cw ka al f Z) 0 0 := by
  refine fr_Mi.of (by decide) (Nat.le_of_ble_eq_true rfl) ?_
  intro p e s m below meth c A H locs ls C hP hD hS hl
  obtain ⟨hx, hb, hml, hown, ht, hK, hlocks, hr, hA, hN, hZ, hEx⟩ := id C
  have hl : lv_has ls 4 [(0, .ref (al (17 + q))), (1, .ref (al (7 + u))), (2, .ref (al (7 + v))), (3, .int x)] := hl
  refine lv_aload_n hx hb dR_refusesByItsDoing_0 rfl (lv_at hl 0 rfl) ?_
  refine gf_R_15 C hP hq dR_refusesByItsDoing_1 ?_
  by_cases c_4_0 : (f 5 q) = 0
  · skip
    refine lv_tableIn (tgt := 32) hx hb dR_refusesByItsDoing_4 (by rw [c_4_0]; decide) (by rw [c_4_0]; decide) (by rw [c_4_0] <;> rfl) (by decide) ?_
    refine lv_aload_n hx hb dR_refusesByItsDoing_32 rfl (lv_at hl 1 rfl) ?_
    refine lv_iconst (v := 1) hx hb dR_refusesByItsDoing_33 (by decide) ?_
    refine cl_R_32 C hP hD hS hl.1 ⟨Nat.le_of_ble_eq_true rfl, Nat.le_of_ble_eq_true rfl⟩ (Nat.le_of_ble_eq_true rfl) ⟨Nat.le_of_ble_eq_true rfl, Nat.le_of_ble_eq_true rfl⟩ hu dR_refusesByItsDoing_34 (fun H locs hP hD hS => ?_)
    have hd_ : dn_doing f q u v x = dn_has f u 1 := by rw [dn_doing, if_pos c_4_0]
    exact fr_zret C hP hD hS hd_.symm (bz_has ..) dR_refusesByItsDoing_37
  · skip
    by_cases c_4_1 : (f 5 q) = 1
    · skip
      refine lv_tableIn (tgt := 38) hx hb dR_refusesByItsDoing_4 (by rw [c_4_1]; decide) (by rw [c_4_1]; decide) (by rw [c_4_1] <;> rfl) (by decide) ?_
      refine lv_aload_n hx hb dR_refusesByItsDoing_38 rfl (lv_at hl 2 rfl) ?_
      refine lv_iconst (v := 2) hx hb dR_refusesByItsDoing_39 (by decide) ?_
      refine cl_R_32 C hP hD hS hl.1 ⟨Nat.le_of_ble_eq_true rfl, Nat.le_of_ble_eq_true rfl⟩ (Nat.le_of_ble_eq_true rfl) ⟨Nat.le_of_ble_eq_true rfl, Nat.le_of_ble_eq_true rfl⟩ hv dR_refusesByItsDoing_40 (fun H locs hP hD hS => ?_)
      refine lv_if_eq (tgt := 54) hx hb dR_refusesByItsDoing_43 (by decide) (fun c_43 => ?_) (fun c_43 => ?_)
      · skip
        refine lv_iconst (v := 0) hx hb dR_refusesByItsDoing_54 (by decide) ?_
        have hd_ : dn_doing f q u v x = 0 := by rw [dn_doing, if_neg c_4_0, if_pos c_4_1, if_pos c_43]
        exact fr_zret C hP hD hS hd_.symm (Or.inl rfl) dR_refusesByItsDoing_55
      · skip
        refine lv_iload_n hx hb dR_refusesByItsDoing_46 rfl (lv_at hl 3 rfl) ?_
        refine lv_if_eq (tgt := 54) hx hb dR_refusesByItsDoing_47 (by decide) (fun c_47 => ?_) (fun c_47 => ?_)
        · skip
          refine lv_iconst (v := 0) hx hb dR_refusesByItsDoing_54 (by decide) ?_
          have hd_ : dn_doing f q u v x = 0 := by rw [dn_doing, if_neg c_4_0, if_pos c_4_1, if_neg c_43, if_pos c_47]
          exact fr_zret C hP hD hS hd_.symm (Or.inl rfl) dR_refusesByItsDoing_55
        · skip
          refine lv_iconst (v := 1) hx hb dR_refusesByItsDoing_50 (by decide) ?_
          refine lv_goto (tgt := 55) hx hb dR_refusesByItsDoing_51 (by decide) ?_
          have hd_ : dn_doing f q u v x = 1 := by rw [dn_doing, if_neg c_4_0, if_pos c_4_1, if_neg c_43, if_neg c_47]
          exact fr_zret C hP hD hS hd_.symm (Or.inr rfl) dR_refusesByItsDoing_55
    · skip
      by_cases c_4_2 : (f 5 q) = 2
      · skip
        refine lv_tableIn (tgt := 56) hx hb dR_refusesByItsDoing_4 (by rw [c_4_2]; decide) (by rw [c_4_2]; decide) (by rw [c_4_2] <;> rfl) (by decide) ?_
        refine lv_aload_n hx hb dR_refusesByItsDoing_56 rfl (lv_at hl 1 rfl) ?_
        refine lv_bipush (v := 8) hx hb dR_refusesByItsDoing_57 (by decide) ?_
        refine cl_R_32 C hP hD hS hl.1 ⟨Nat.le_of_ble_eq_true rfl, Nat.le_of_ble_eq_true rfl⟩ (Nat.le_of_ble_eq_true rfl) ⟨Nat.le_of_ble_eq_true rfl, Nat.le_of_ble_eq_true rfl⟩ hu dR_refusesByItsDoing_59 (fun H locs hP hD hS => ?_)
        refine lv_if_ne (tgt := 74) hx hb dR_refusesByItsDoing_62 (by decide) (fun c_62 => ?_) (fun c_62 => ?_)
        · skip
          refine lv_aload_n hx hb dR_refusesByItsDoing_74 rfl (lv_at hl 1 rfl) ?_
          refine gf_R_24 C hP hu dR_refusesByItsDoing_75 ?_
          refine lv_aload_n hx hb dR_refusesByItsDoing_78 rfl (lv_at hl 2 rfl) ?_
          refine gf_R_24 C hP hv dR_refusesByItsDoing_79 ?_
          refine lv_icmp_eq (tgt := 89) hx hb dR_refusesByItsDoing_82 (by decide) (fun c_82 => ?_) (fun c_82 => ?_)
          · skip
            refine lv_iconst (v := 0) hx hb dR_refusesByItsDoing_89 (by decide) ?_
            have hd_ : dn_doing f q u v x = 0 := by rw [dn_doing, if_neg c_4_0, if_neg c_4_1, if_pos c_4_2, if_neg c_62, if_pos c_82]
            exact fr_zret C hP hD hS hd_.symm (Or.inl rfl) dR_refusesByItsDoing_90
          · skip
            refine lv_iconst (v := 1) hx hb dR_refusesByItsDoing_85 (by decide) ?_
            refine lv_goto (tgt := 90) hx hb dR_refusesByItsDoing_86 (by decide) ?_
            have hd_ : dn_doing f q u v x = 1 := by rw [dn_doing, if_neg c_4_0, if_neg c_4_1, if_pos c_4_2, if_neg c_62, if_neg c_82]
            exact fr_zret C hP hD hS hd_.symm (Or.inr rfl) dR_refusesByItsDoing_90
        · skip
          refine lv_aload_n hx hb dR_refusesByItsDoing_65 rfl (lv_at hl 2 rfl) ?_
          refine lv_bipush (v := 8) hx hb dR_refusesByItsDoing_66 (by decide) ?_
          refine cl_R_32 C hP hD hS hl.1 ⟨Nat.le_of_ble_eq_true rfl, Nat.le_of_ble_eq_true rfl⟩ (Nat.le_of_ble_eq_true rfl) ⟨Nat.le_of_ble_eq_true rfl, Nat.le_of_ble_eq_true rfl⟩ hv dR_refusesByItsDoing_68 (fun H locs hP hD hS => ?_)
          refine lv_if_eq (tgt := 89) hx hb dR_refusesByItsDoing_71 (by decide) (fun c_71 => ?_) (fun c_71 => ?_)
          · skip
            refine lv_iconst (v := 0) hx hb dR_refusesByItsDoing_89 (by decide) ?_
            have hd_ : dn_doing f q u v x = 0 := by rw [dn_doing, if_neg c_4_0, if_neg c_4_1, if_pos c_4_2, if_pos c_62, if_pos c_71]
            exact fr_zret C hP hD hS hd_.symm (Or.inl rfl) dR_refusesByItsDoing_90
          · skip
            refine lv_aload_n hx hb dR_refusesByItsDoing_74 rfl (lv_at hl 1 rfl) ?_
            refine gf_R_24 C hP hu dR_refusesByItsDoing_75 ?_
            refine lv_aload_n hx hb dR_refusesByItsDoing_78 rfl (lv_at hl 2 rfl) ?_
            refine gf_R_24 C hP hv dR_refusesByItsDoing_79 ?_
            refine lv_icmp_eq (tgt := 89) hx hb dR_refusesByItsDoing_82 (by decide) (fun c_82 => ?_) (fun c_82 => ?_)
            · skip
              refine lv_iconst (v := 0) hx hb dR_refusesByItsDoing_89 (by decide) ?_
              have hd_ : dn_doing f q u v x = 0 := by rw [dn_doing, if_neg c_4_0, if_neg c_4_1, if_pos c_4_2, if_pos c_62, if_neg c_71, if_pos c_82]
              exact fr_zret C hP hD hS hd_.symm (Or.inl rfl) dR_refusesByItsDoing_90
            · skip
              refine lv_iconst (v := 1) hx hb dR_refusesByItsDoing_85 (by decide) ?_
              refine lv_goto (tgt := 90) hx hb dR_refusesByItsDoing_86 (by decide) ?_
              have hd_ : dn_doing f q u v x = 1 := by rw [dn_doing, if_neg c_4_0, if_neg c_4_1, if_pos c_4_2, if_pos c_62, if_neg c_71, if_neg c_82]
              exact fr_zret C hP hD hS hd_.symm (Or.inr rfl) dR_refusesByItsDoing_90
      · skip
        refine lv_tableOut (tgt := 91) hx hb dR_refusesByItsDoing_4 (by have h0 := fr_ne (k := 0) (a := 0) rfl c_4_0; have h1 := fr_ne (k := 1) (a := 1) rfl c_4_1; have h2 := fr_ne (k := 2) (a := 2) rfl c_4_2; omega) (by decide) ?_
        refine lv_aload_n hx hb dR_refusesByItsDoing_91 rfl (lv_at hl 1 rfl) ?_
        refine lv_iconst (v := 4) hx hb dR_refusesByItsDoing_92 (by decide) ?_
        refine cl_R_32 C hP hD hS hl.1 ⟨Nat.le_of_ble_eq_true rfl, Nat.le_of_ble_eq_true rfl⟩ (Nat.le_of_ble_eq_true rfl) ⟨Nat.le_of_ble_eq_true rfl, Nat.le_of_ble_eq_true rfl⟩ hu dR_refusesByItsDoing_93 (fun H locs hP hD hS => ?_)
        refine lv_if_eq (tgt := 114) hx hb dR_refusesByItsDoing_96 (by decide) (fun c_96 => ?_) (fun c_96 => ?_)
        · skip
          refine lv_iconst (v := 0) hx hb dR_refusesByItsDoing_114 (by decide) ?_
          have hd_ : dn_doing f q u v x = 0 := by rw [dn_doing, if_neg c_4_0, if_neg c_4_1, if_neg c_4_2, if_pos c_96]
          exact fr_zret C hP hD hS hd_.symm (Or.inl rfl) dR_refusesByItsDoing_115
        · skip
          refine lv_aload_n hx hb dR_refusesByItsDoing_99 rfl (lv_at hl 1 rfl) ?_
          refine gf_R_24 C hP hu dR_refusesByItsDoing_100 ?_
          refine lv_aload_n hx hb dR_refusesByItsDoing_103 rfl (lv_at hl 2 rfl) ?_
          refine gf_R_24 C hP hv dR_refusesByItsDoing_104 ?_
          refine lv_icmp_eq (tgt := 114) hx hb dR_refusesByItsDoing_107 (by decide) (fun c_107 => ?_) (fun c_107 => ?_)
          · skip
            refine lv_iconst (v := 0) hx hb dR_refusesByItsDoing_114 (by decide) ?_
            have hd_ : dn_doing f q u v x = 0 := by rw [dn_doing, if_neg c_4_0, if_neg c_4_1, if_neg c_4_2, if_neg c_96, if_pos c_107]
            exact fr_zret C hP hD hS hd_.symm (Or.inl rfl) dR_refusesByItsDoing_115
          · skip
            refine lv_iconst (v := 1) hx hb dR_refusesByItsDoing_110 (by decide) ?_
            refine lv_goto (tgt := 115) hx hb dR_refusesByItsDoing_111 (by decide) ?_
            have hd_ : dn_doing f q u v x = 1 := by rw [dn_doing, if_neg c_4_0, if_neg c_4_1, if_neg c_4_2, if_neg c_96, if_neg c_107]
            exact fr_zret C hP hD hS hd_.symm (Or.inr rfl) dR_refusesByItsDoing_115
theorem bz_doing {f : Nat → Nat → Int32} {q : Nat} {u : Nat} {v : Nat} {x : Int32} : dn_doing f q u v x = 0 ∨ dn_doing f q u v x = 1 := by
  unfold dn_doing
  repeat' split
  all_goals first | exact Or.inl rfl | exact Or.inr rfl | exact bz_has

theorem cl_R_36 {p : Program} {l : Launch} {e : Env} {R : Room} {s : State} {m : MethodId} {args : Array Value} {below : List Frame} {meth : Method} {c : Code} {H : Heap} {locs : List Loc} {cells slots : Nat} {Q : State → Prop} {D : va_G} {A : Nat → Prop} {cc : ByteArray} {nL pc : Nat} {ret : Option FieldType} {hh : List ExceptionTableEntry} {ls : Array Slot} {rest : List Value} {ka : Nat → ClassId} {al : Nat → Nat} {f : Nat → Nat → Int32} {Z : va_W} {q : Nat} {u : Nat} {v : Nat} {x : Int32} (C : fr_Cx p s m args meth c "FragileRules$Rule" cc nL ret hh fr_tbl fr_nw D vwCl (fr_ty ka) A) (hP : va_P D vwCl (fr_cw ka al f Z) H) (hD : va_D A (fr_cw ka al f Z)) (hS : va_S A s.heap H locs) (hsz : ls.size = nL) (hR : 1 + 1 ≤ R.frames ∧ 8 + (4 + 11) + 21 ≤ R.locals) (hw : (rest.map fun v => v.category).sum ≤ 8) (hf : cells + 0 ≤ R.cells ∧ slots + 0 ≤ R.slots) (hq : q < 12) (hu : u < 10) (hv : v < 10) (hdg : decode cc pc = .ok (.invokevirtual 36, 3)) (kk : ∀ (H : Heap) (locs : List Loc), va_P D vwCl (fr_cw ka al f Z) H → va_D A (fr_cw ka al f Z) → va_S A s.heap H locs → W p l e R s m args below meth c H locs (cells + 0) (slots + 0) Q (F0 m (pc + 3) ls (.int (dn_doing f q u v x) :: rest))) : W p l e R s m args below meth c H locs cells slots Q (F0 m pc ls (.int x :: .ref (al (7 + v)) :: .ref (al (7 + u)) :: .ref (al (17 + q)) :: rest)) :=
  fr_callVi (As := [.ref (al (7 + u)), .ref (al (7 + v)), .int x]) C hP hD hS (c_doing l D ka al Z f q u v x hq hu hv) (cwV 3 C.2.2.2.2.1 (fr_goodV ml_R_36 mi_doing msel_doing mini_R mc_doing) rfl rfl rfl (by decide +kernel) hR) (va_recv C.2.2.2.2.2.1 hP (ci := 2) (q0 := (17 + q)) rfl (fr_cw_r hq)) rfl hsz hw hdg hf kk
def dn_refuses (f : Nat → Nat → Int32) (q : Nat) (u : Nat) (v : Nat) (x : Int32) : Int32 := if (f 4 q) = 0 then (if (f 1 v) = (f 5 q) then (if (f 1 u) = (f 6 q) then 1 else 0) else 0) else (if (f 4 q) = 1 then (if (f 1 u) = (f 5 q) then (if (f 1 v) = (f 6 q) then 1 else (if (f 1 u) = (f 6 q) then (if (f 1 v) = (f 5 q) then 1 else 0) else 0)) else (if (f 1 u) = (f 6 q) then (if (f 1 v) = (f 5 q) then 1 else 0) else 0)) else (if (f 4 q) = 2 then (if (f 1 u) = (f 5 q) then (if (f 2 v) ≤ (10 * (f 6 q)) then 0 else 1) else 0) else (if (f 4 q) = 3 then (if (f 1 v) = (f 5 q) then (if x < (f 6 q) then 0 else 1) else 0) else (if (f 4 q) = 4 then (if x = (f 5 q) then (if (dn_has f u (f 6 q)) = 0 then 1 else 0) else 0) else (if (f 6 q) = 1 then 1 else (if (dn_doing f q u v x) = 0 then 0 else 1))))))
set_option maxHeartbeats 4000000 in
set_option maxRecDepth 100000 in
theorem c_refuses (l : Launch) (D : va_G) (ka : Nat → ClassId) (al : Nat → Nat) (Z : va_W) (f : Nat → Nat → Int32) (q : Nat) (u : Nat) (v : Nat) (x : Int32) (hq : q < 12) (hu : u < 10) (hv : v < 10) : fr_Mi l y_refuses (.code y_refuses prog_2_method_3_code 4 (some .boolean) :: fr_tbl) { frames := 2, cells := 0, slots := 0, locals := 44 } D vwCl (fr_ty ka) fr_nw [.ref (al (17 + q)), .ref (al (7 + u)), .ref (al (7 + v)), .int x] (fr_cw ka al f Z) (dn_refuses f q u v x) (fr_cw ka al f Z) 0 0 := by
  refine fr_Mi.of (by decide) (Nat.le_of_ble_eq_true rfl) ?_
  intro p e s m below meth c A H locs ls C hP hD hS hl
  obtain ⟨hx, hb, hml, hown, ht, hK, hlocks, hr, hA, hN, hZ, hEx⟩ := id C
  have hl : lv_has ls 4 [(0, .ref (al (17 + q))), (1, .ref (al (7 + u))), (2, .ref (al (7 + v))), (3, .int x)] := hl
  refine lv_aload_n hx hb dR_refuses_0 rfl (lv_at hl 0 rfl) ?_
  refine gf_R_9 C hP hq dR_refuses_1 ?_
  by_cases c_4_0 : (f 4 q) = 0
  · skip
    refine lv_tableIn (tgt := 40) hx hb dR_refuses_4 (by rw [c_4_0]; decide) (by rw [c_4_0]; decide) (by rw [c_4_0] <;> rfl) (by decide) ?_
    refine lv_aload_n hx hb dR_refuses_40 rfl (lv_at hl 2 rfl) ?_
    refine gf_R_24 C hP hv dR_refuses_41 ?_
    refine lv_aload_n hx hb dR_refuses_44 rfl (lv_at hl 0 rfl) ?_
    refine gf_R_15 C hP hq dR_refuses_45 ?_
    refine lv_icmp_ne (tgt := 66) hx hb dR_refuses_48 (by decide) (fun c_48 => ?_) (fun c_48 => ?_)
    · skip
      refine lv_iconst (v := 0) hx hb dR_refuses_66 (by decide) ?_
      have hd_ : dn_refuses f q u v x = 0 := by rw [dn_refuses, if_pos c_4_0, if_neg c_48]
      exact fr_zret C hP hD hS hd_.symm (Or.inl rfl) dR_refuses_67
    · skip
      refine lv_aload_n hx hb dR_refuses_51 rfl (lv_at hl 1 rfl) ?_
      refine gf_R_24 C hP hu dR_refuses_52 ?_
      refine lv_aload_n hx hb dR_refuses_55 rfl (lv_at hl 0 rfl) ?_
      refine gf_R_18 C hP hq dR_refuses_56 ?_
      refine lv_icmp_ne (tgt := 66) hx hb dR_refuses_59 (by decide) (fun c_59 => ?_) (fun c_59 => ?_)
      · skip
        refine lv_iconst (v := 0) hx hb dR_refuses_66 (by decide) ?_
        have hd_ : dn_refuses f q u v x = 0 := by rw [dn_refuses, if_pos c_4_0, if_pos c_48, if_neg c_59]
        exact fr_zret C hP hD hS hd_.symm (Or.inl rfl) dR_refuses_67
      · skip
        refine lv_iconst (v := 1) hx hb dR_refuses_62 (by decide) ?_
        refine lv_goto (tgt := 67) hx hb dR_refuses_63 (by decide) ?_
        have hd_ : dn_refuses f q u v x = 1 := by rw [dn_refuses, if_pos c_4_0, if_pos c_48, if_pos c_59]
        exact fr_zret C hP hD hS hd_.symm (Or.inr rfl) dR_refuses_67
  · skip
    by_cases c_4_1 : (f 4 q) = 1
    · skip
      refine lv_tableIn (tgt := 68) hx hb dR_refuses_4 (by rw [c_4_1]; decide) (by rw [c_4_1]; decide) (by rw [c_4_1] <;> rfl) (by decide) ?_
      refine lv_aload_n hx hb dR_refuses_68 rfl (lv_at hl 1 rfl) ?_
      refine gf_R_24 C hP hu dR_refuses_69 ?_
      refine lv_aload_n hx hb dR_refuses_72 rfl (lv_at hl 0 rfl) ?_
      refine gf_R_15 C hP hq dR_refuses_73 ?_
      refine lv_icmp_ne (tgt := 90) hx hb dR_refuses_76 (by decide) (fun c_76 => ?_) (fun c_76 => ?_)
      · skip
        refine lv_aload_n hx hb dR_refuses_90 rfl (lv_at hl 1 rfl) ?_
        refine gf_R_24 C hP hu dR_refuses_91 ?_
        refine lv_aload_n hx hb dR_refuses_94 rfl (lv_at hl 0 rfl) ?_
        refine gf_R_18 C hP hq dR_refuses_95 ?_
        refine lv_icmp_ne (tgt := 116) hx hb dR_refuses_98 (by decide) (fun c_98 => ?_) (fun c_98 => ?_)
        · skip
          refine lv_iconst (v := 0) hx hb dR_refuses_116 (by decide) ?_
          have hd_ : dn_refuses f q u v x = 0 := by rw [dn_refuses, if_neg c_4_0, if_pos c_4_1, if_neg c_76, if_neg c_98]
          exact fr_zret C hP hD hS hd_.symm (Or.inl rfl) dR_refuses_117
        · skip
          refine lv_aload_n hx hb dR_refuses_101 rfl (lv_at hl 2 rfl) ?_
          refine gf_R_24 C hP hv dR_refuses_102 ?_
          refine lv_aload_n hx hb dR_refuses_105 rfl (lv_at hl 0 rfl) ?_
          refine gf_R_15 C hP hq dR_refuses_106 ?_
          refine lv_icmp_ne (tgt := 116) hx hb dR_refuses_109 (by decide) (fun c_109 => ?_) (fun c_109 => ?_)
          · skip
            refine lv_iconst (v := 0) hx hb dR_refuses_116 (by decide) ?_
            have hd_ : dn_refuses f q u v x = 0 := by rw [dn_refuses, if_neg c_4_0, if_pos c_4_1, if_neg c_76, if_pos c_98, if_neg c_109]
            exact fr_zret C hP hD hS hd_.symm (Or.inl rfl) dR_refuses_117
          · skip
            refine lv_iconst (v := 1) hx hb dR_refuses_112 (by decide) ?_
            refine lv_goto (tgt := 117) hx hb dR_refuses_113 (by decide) ?_
            have hd_ : dn_refuses f q u v x = 1 := by rw [dn_refuses, if_neg c_4_0, if_pos c_4_1, if_neg c_76, if_pos c_98, if_pos c_109]
            exact fr_zret C hP hD hS hd_.symm (Or.inr rfl) dR_refuses_117
      · skip
        refine lv_aload_n hx hb dR_refuses_79 rfl (lv_at hl 2 rfl) ?_
        refine gf_R_24 C hP hv dR_refuses_80 ?_
        refine lv_aload_n hx hb dR_refuses_83 rfl (lv_at hl 0 rfl) ?_
        refine gf_R_18 C hP hq dR_refuses_84 ?_
        refine lv_icmp_eq (tgt := 112) hx hb dR_refuses_87 (by decide) (fun c_87 => ?_) (fun c_87 => ?_)
        · skip
          refine lv_iconst (v := 1) hx hb dR_refuses_112 (by decide) ?_
          refine lv_goto (tgt := 117) hx hb dR_refuses_113 (by decide) ?_
          have hd_ : dn_refuses f q u v x = 1 := by rw [dn_refuses, if_neg c_4_0, if_pos c_4_1, if_pos c_76, if_pos c_87]
          exact fr_zret C hP hD hS hd_.symm (Or.inr rfl) dR_refuses_117
        · skip
          refine lv_aload_n hx hb dR_refuses_90 rfl (lv_at hl 1 rfl) ?_
          refine gf_R_24 C hP hu dR_refuses_91 ?_
          refine lv_aload_n hx hb dR_refuses_94 rfl (lv_at hl 0 rfl) ?_
          refine gf_R_18 C hP hq dR_refuses_95 ?_
          refine lv_icmp_ne (tgt := 116) hx hb dR_refuses_98 (by decide) (fun c_98 => ?_) (fun c_98 => ?_)
          · skip
            refine lv_iconst (v := 0) hx hb dR_refuses_116 (by decide) ?_
            have hd_ : dn_refuses f q u v x = 0 := by rw [dn_refuses, if_neg c_4_0, if_pos c_4_1, if_pos c_76, if_neg c_87, if_neg c_98]
            exact fr_zret C hP hD hS hd_.symm (Or.inl rfl) dR_refuses_117
          · skip
            refine lv_aload_n hx hb dR_refuses_101 rfl (lv_at hl 2 rfl) ?_
            refine gf_R_24 C hP hv dR_refuses_102 ?_
            refine lv_aload_n hx hb dR_refuses_105 rfl (lv_at hl 0 rfl) ?_
            refine gf_R_15 C hP hq dR_refuses_106 ?_
            refine lv_icmp_ne (tgt := 116) hx hb dR_refuses_109 (by decide) (fun c_109 => ?_) (fun c_109 => ?_)
            · skip
              refine lv_iconst (v := 0) hx hb dR_refuses_116 (by decide) ?_
              have hd_ : dn_refuses f q u v x = 0 := by rw [dn_refuses, if_neg c_4_0, if_pos c_4_1, if_pos c_76, if_neg c_87, if_pos c_98, if_neg c_109]
              exact fr_zret C hP hD hS hd_.symm (Or.inl rfl) dR_refuses_117
            · skip
              refine lv_iconst (v := 1) hx hb dR_refuses_112 (by decide) ?_
              refine lv_goto (tgt := 117) hx hb dR_refuses_113 (by decide) ?_
              have hd_ : dn_refuses f q u v x = 1 := by rw [dn_refuses, if_neg c_4_0, if_pos c_4_1, if_pos c_76, if_neg c_87, if_pos c_98, if_pos c_109]
              exact fr_zret C hP hD hS hd_.symm (Or.inr rfl) dR_refuses_117
    · skip
      by_cases c_4_2 : (f 4 q) = 2
      · skip
        refine lv_tableIn (tgt := 118) hx hb dR_refuses_4 (by rw [c_4_2]; decide) (by rw [c_4_2]; decide) (by rw [c_4_2] <;> rfl) (by decide) ?_
        refine lv_aload_n hx hb dR_refuses_118 rfl (lv_at hl 1 rfl) ?_
        refine gf_R_24 C hP hu dR_refuses_119 ?_
        refine lv_aload_n hx hb dR_refuses_122 rfl (lv_at hl 0 rfl) ?_
        refine gf_R_15 C hP hq dR_refuses_123 ?_
        refine lv_icmp_ne (tgt := 147) hx hb dR_refuses_126 (by decide) (fun c_126 => ?_) (fun c_126 => ?_)
        · skip
          refine lv_iconst (v := 0) hx hb dR_refuses_147 (by decide) ?_
          have hd_ : dn_refuses f q u v x = 0 := by rw [dn_refuses, if_neg c_4_0, if_neg c_4_1, if_pos c_4_2, if_neg c_126]
          exact fr_zret C hP hD hS hd_.symm (Or.inl rfl) dR_refuses_148
        · skip
          refine lv_aload_n hx hb dR_refuses_129 rfl (lv_at hl 2 rfl) ?_
          refine gf_R_29 C hP hv dR_refuses_130 ?_
          refine lv_bipush (v := 10) hx hb dR_refuses_133 (by decide) ?_
          refine lv_aload_n hx hb dR_refuses_135 rfl (lv_at hl 0 rfl) ?_
          refine gf_R_18 C hP hq dR_refuses_136 ?_
          refine lv_imul hx hb dR_refuses_139 ?_
          refine lv_icmp_le (tgt := 147) hx hb dR_refuses_140 (by decide) (fun c_140 => ?_) (fun c_140 => ?_)
          · skip
            refine lv_iconst (v := 0) hx hb dR_refuses_147 (by decide) ?_
            have hd_ : dn_refuses f q u v x = 0 := by rw [dn_refuses, if_neg c_4_0, if_neg c_4_1, if_pos c_4_2, if_pos c_126, if_pos c_140]
            exact fr_zret C hP hD hS hd_.symm (Or.inl rfl) dR_refuses_148
          · skip
            refine lv_iconst (v := 1) hx hb dR_refuses_143 (by decide) ?_
            refine lv_goto (tgt := 148) hx hb dR_refuses_144 (by decide) ?_
            have hd_ : dn_refuses f q u v x = 1 := by rw [dn_refuses, if_neg c_4_0, if_neg c_4_1, if_pos c_4_2, if_pos c_126, if_neg c_140]
            exact fr_zret C hP hD hS hd_.symm (Or.inr rfl) dR_refuses_148
      · skip
        by_cases c_4_3 : (f 4 q) = 3
        · skip
          refine lv_tableIn (tgt := 149) hx hb dR_refuses_4 (by rw [c_4_3]; decide) (by rw [c_4_3]; decide) (by rw [c_4_3] <;> rfl) (by decide) ?_
          refine lv_aload_n hx hb dR_refuses_149 rfl (lv_at hl 2 rfl) ?_
          refine gf_R_24 C hP hv dR_refuses_150 ?_
          refine lv_aload_n hx hb dR_refuses_153 rfl (lv_at hl 0 rfl) ?_
          refine gf_R_15 C hP hq dR_refuses_154 ?_
          refine lv_icmp_ne (tgt := 172) hx hb dR_refuses_157 (by decide) (fun c_157 => ?_) (fun c_157 => ?_)
          · skip
            refine lv_iconst (v := 0) hx hb dR_refuses_172 (by decide) ?_
            have hd_ : dn_refuses f q u v x = 0 := by rw [dn_refuses, if_neg c_4_0, if_neg c_4_1, if_neg c_4_2, if_pos c_4_3, if_neg c_157]
            exact fr_zret C hP hD hS hd_.symm (Or.inl rfl) dR_refuses_173
          · skip
            refine lv_iload_n hx hb dR_refuses_160 rfl (lv_at hl 3 rfl) ?_
            refine lv_aload_n hx hb dR_refuses_161 rfl (lv_at hl 0 rfl) ?_
            refine gf_R_18 C hP hq dR_refuses_162 ?_
            refine lv_icmp_lt (tgt := 172) hx hb dR_refuses_165 (by decide) (fun c_165 => ?_) (fun c_165 => ?_)
            · skip
              refine lv_iconst (v := 0) hx hb dR_refuses_172 (by decide) ?_
              have hd_ : dn_refuses f q u v x = 0 := by rw [dn_refuses, if_neg c_4_0, if_neg c_4_1, if_neg c_4_2, if_pos c_4_3, if_pos c_157, if_pos c_165]
              exact fr_zret C hP hD hS hd_.symm (Or.inl rfl) dR_refuses_173
            · skip
              refine lv_iconst (v := 1) hx hb dR_refuses_168 (by decide) ?_
              refine lv_goto (tgt := 173) hx hb dR_refuses_169 (by decide) ?_
              have hd_ : dn_refuses f q u v x = 1 := by rw [dn_refuses, if_neg c_4_0, if_neg c_4_1, if_neg c_4_2, if_pos c_4_3, if_pos c_157, if_neg c_165]
              exact fr_zret C hP hD hS hd_.symm (Or.inr rfl) dR_refuses_173
        · skip
          by_cases c_4_4 : (f 4 q) = 4
          · skip
            refine lv_tableIn (tgt := 174) hx hb dR_refuses_4 (by rw [c_4_4]; decide) (by rw [c_4_4]; decide) (by rw [c_4_4] <;> rfl) (by decide) ?_
            refine lv_iload_n hx hb dR_refuses_174 rfl (lv_at hl 3 rfl) ?_
            refine lv_aload_n hx hb dR_refuses_175 rfl (lv_at hl 0 rfl) ?_
            refine gf_R_15 C hP hq dR_refuses_176 ?_
            refine lv_icmp_ne (tgt := 197) hx hb dR_refuses_179 (by decide) (fun c_179 => ?_) (fun c_179 => ?_)
            · skip
              refine lv_iconst (v := 0) hx hb dR_refuses_197 (by decide) ?_
              have hd_ : dn_refuses f q u v x = 0 := by rw [dn_refuses, if_neg c_4_0, if_neg c_4_1, if_neg c_4_2, if_neg c_4_3, if_pos c_4_4, if_neg c_179]
              exact fr_zret C hP hD hS hd_.symm (Or.inl rfl) dR_refuses_198
            · skip
              refine lv_aload_n hx hb dR_refuses_182 rfl (lv_at hl 1 rfl) ?_
              refine lv_aload_n hx hb dR_refuses_183 rfl (lv_at hl 0 rfl) ?_
              refine gf_R_18 C hP hq dR_refuses_184 ?_
              refine cl_R_32 C hP hD hS hl.1 ⟨Nat.le_of_ble_eq_true rfl, Nat.le_of_ble_eq_true rfl⟩ (Nat.le_of_ble_eq_true rfl) ⟨Nat.le_of_ble_eq_true rfl, Nat.le_of_ble_eq_true rfl⟩ hu dR_refuses_187 (fun H locs hP hD hS => ?_)
              refine lv_if_ne (tgt := 197) hx hb dR_refuses_190 (by decide) (fun c_190 => ?_) (fun c_190 => ?_)
              · skip
                refine lv_iconst (v := 0) hx hb dR_refuses_197 (by decide) ?_
                have hd_ : dn_refuses f q u v x = 0 := by rw [dn_refuses, if_neg c_4_0, if_neg c_4_1, if_neg c_4_2, if_neg c_4_3, if_pos c_4_4, if_pos c_179, if_neg c_190]
                exact fr_zret C hP hD hS hd_.symm (Or.inl rfl) dR_refuses_198
              · skip
                refine lv_iconst (v := 1) hx hb dR_refuses_193 (by decide) ?_
                refine lv_goto (tgt := 198) hx hb dR_refuses_194 (by decide) ?_
                have hd_ : dn_refuses f q u v x = 1 := by rw [dn_refuses, if_neg c_4_0, if_neg c_4_1, if_neg c_4_2, if_neg c_4_3, if_pos c_4_4, if_pos c_179, if_pos c_190]
                exact fr_zret C hP hD hS hd_.symm (Or.inr rfl) dR_refuses_198
          · skip
            refine lv_tableOut (tgt := 199) hx hb dR_refuses_4 (by have h0 := fr_ne (k := 0) (a := 0) rfl c_4_0; have h1 := fr_ne (k := 1) (a := 1) rfl c_4_1; have h2 := fr_ne (k := 2) (a := 2) rfl c_4_2; have h3 := fr_ne (k := 3) (a := 3) rfl c_4_3; have h4 := fr_ne (k := 4) (a := 4) rfl c_4_4; omega) (by decide) ?_
            refine lv_aload_n hx hb dR_refuses_199 rfl (lv_at hl 0 rfl) ?_
            refine gf_R_18 C hP hq dR_refuses_200 ?_
            refine lv_iconst (v := 1) hx hb dR_refuses_203 (by decide) ?_
            refine lv_icmp_eq (tgt := 217) hx hb dR_refuses_204 (by decide) (fun c_204 => ?_) (fun c_204 => ?_)
            · skip
              refine lv_iconst (v := 1) hx hb dR_refuses_217 (by decide) ?_
              refine lv_goto (tgt := 222) hx hb dR_refuses_218 (by decide) ?_
              have hd_ : dn_refuses f q u v x = 1 := by rw [dn_refuses, if_neg c_4_0, if_neg c_4_1, if_neg c_4_2, if_neg c_4_3, if_neg c_4_4, if_pos c_204]
              exact fr_zret C hP hD hS hd_.symm (Or.inr rfl) dR_refuses_222
            · skip
              refine lv_aload_n hx hb dR_refuses_207 rfl (lv_at hl 0 rfl) ?_
              refine lv_aload_n hx hb dR_refuses_208 rfl (lv_at hl 1 rfl) ?_
              refine lv_aload_n hx hb dR_refuses_209 rfl (lv_at hl 2 rfl) ?_
              refine lv_iload_n hx hb dR_refuses_210 rfl (lv_at hl 3 rfl) ?_
              refine cl_R_36 C hP hD hS hl.1 ⟨Nat.le_of_ble_eq_true rfl, Nat.le_of_ble_eq_true rfl⟩ (Nat.le_of_ble_eq_true rfl) ⟨Nat.le_of_ble_eq_true rfl, Nat.le_of_ble_eq_true rfl⟩ hq hu hv dR_refuses_211 (fun H locs hP hD hS => ?_)
              refine lv_if_eq (tgt := 221) hx hb dR_refuses_214 (by decide) (fun c_214 => ?_) (fun c_214 => ?_)
              · skip
                refine lv_iconst (v := 0) hx hb dR_refuses_221 (by decide) ?_
                have hd_ : dn_refuses f q u v x = 0 := by rw [dn_refuses, if_neg c_4_0, if_neg c_4_1, if_neg c_4_2, if_neg c_4_3, if_neg c_4_4, if_neg c_204, if_pos c_214]
                exact fr_zret C hP hD hS hd_.symm (Or.inl rfl) dR_refuses_222
              · skip
                refine lv_iconst (v := 1) hx hb dR_refuses_217 (by decide) ?_
                refine lv_goto (tgt := 222) hx hb dR_refuses_218 (by decide) ?_
                have hd_ : dn_refuses f q u v x = 1 := by rw [dn_refuses, if_neg c_4_0, if_neg c_4_1, if_neg c_4_2, if_neg c_4_3, if_neg c_4_4, if_neg c_204, if_neg c_214]
                exact fr_zret C hP hD hS hd_.symm (Or.inr rfl) dR_refuses_222
theorem bz_refuses {f : Nat → Nat → Int32} {q : Nat} {u : Nat} {v : Nat} {x : Int32} : dn_refuses f q u v x = 0 ∨ dn_refuses f q u v x = 1 := by
  unfold dn_refuses
  repeat' split
  all_goals first | exact Or.inl rfl | exact Or.inr rfl | exact bz_has

def dn_count (f : Nat → Nat → Int32) (x : Int32) : Int32 := if x = 0 then (f 0 0) else (if x = 1 then (f 0 1) else (if x = 2 then (f 0 5) else (if x = 3 then (f 0 3) else (if x = 4 then (f 0 4) else (-1)))))
set_option maxHeartbeats 4000000 in
set_option maxRecDepth 100000 in
theorem c_count (l : Launch) (D : va_G) (ka : Nat → ClassId) (al : Nat → Nat) (Z : va_W) (f : Nat → Nat → Int32) (x : Int32) : fr_Mi l y_count (.code y_count prog_1_method_15_code 2 (some .int) :: fr_tbl) { frames := 0, cells := 0, slots := 0, locals := 0 } D vwCl (fr_ty ka) fr_nw [.ref (al 0), .int x] (fr_cw ka al f Z) (dn_count f x) (fr_cw ka al f Z) 0 0 := by
  refine fr_Mi.of (by decide) (Nat.le_of_ble_eq_true rfl) ?_
  intro p e s m below meth c A H locs ls C hP hD hS hl
  obtain ⟨hx, hb, hml, hown, ht, hK, hlocks, hr, hA, hN, hZ, hEx⟩ := id C
  have hl : lv_has ls 2 [(0, .ref (al 0)), (1, .int x)] := hl
  refine lv_iload_n hx hb dF_count_0 rfl (lv_at hl 1 rfl) ?_
  by_cases c_1_0 : x = 0
  · skip
    refine lv_tableIn (tgt := 36) hx hb dF_count_1 (by rw [c_1_0]; decide) (by rw [c_1_0]; decide) (by rw [c_1_0] <;> rfl) (by decide) ?_
    refine lv_aload_n hx hb dF_count_36 rfl (lv_at hl 0 rfl) ?_
    refine gf_F_15 C hP dF_count_37 ?_
    have hd_ : dn_count f x = f 0 0 := by rw [dn_count, if_pos c_1_0]
    exact fr_iret C hP hD hS hd_.symm dF_count_40
  · skip
    by_cases c_1_1 : x = 1
    · skip
      refine lv_tableIn (tgt := 41) hx hb dF_count_1 (by rw [c_1_1]; decide) (by rw [c_1_1]; decide) (by rw [c_1_1] <;> rfl) (by decide) ?_
      refine lv_aload_n hx hb dF_count_41 rfl (lv_at hl 0 rfl) ?_
      refine gf_F_25 C hP dF_count_42 ?_
      have hd_ : dn_count f x = f 0 1 := by rw [dn_count, if_neg c_1_0, if_pos c_1_1]
      exact fr_iret C hP hD hS hd_.symm dF_count_45
    · skip
      by_cases c_1_2 : x = 2
      · skip
        refine lv_tableIn (tgt := 46) hx hb dF_count_1 (by rw [c_1_2]; decide) (by rw [c_1_2]; decide) (by rw [c_1_2] <;> rfl) (by decide) ?_
        refine lv_aload_n hx hb dF_count_46 rfl (lv_at hl 0 rfl) ?_
        refine gf_F_41 C hP dF_count_47 ?_
        refine gf_F_98 C hP dF_count_50 ?_
        have hd_ : dn_count f x = f 0 5 := by rw [dn_count, if_neg c_1_0, if_neg c_1_1, if_pos c_1_2]
        exact fr_iret C hP hD hS hd_.symm dF_count_53
      · skip
        by_cases c_1_3 : x = 3
        · skip
          refine lv_tableIn (tgt := 54) hx hb dF_count_1 (by rw [c_1_3]; decide) (by rw [c_1_3]; decide) (by rw [c_1_3] <;> rfl) (by decide) ?_
          refine lv_aload_n hx hb dF_count_54 rfl (lv_at hl 0 rfl) ?_
          refine gf_F_45 C hP dF_count_55 ?_
          have hd_ : dn_count f x = f 0 3 := by rw [dn_count, if_neg c_1_0, if_neg c_1_1, if_neg c_1_2, if_pos c_1_3]
          exact fr_iret C hP hD hS hd_.symm dF_count_58
        · skip
          by_cases c_1_4 : x = 4
          · skip
            refine lv_tableIn (tgt := 59) hx hb dF_count_1 (by rw [c_1_4]; decide) (by rw [c_1_4]; decide) (by rw [c_1_4] <;> rfl) (by decide) ?_
            refine lv_aload_n hx hb dF_count_59 rfl (lv_at hl 0 rfl) ?_
            refine gf_F_48 C hP dF_count_60 ?_
            have hd_ : dn_count f x = f 0 4 := by rw [dn_count, if_neg c_1_0, if_neg c_1_1, if_neg c_1_2, if_neg c_1_3, if_pos c_1_4]
            exact fr_iret C hP hD hS hd_.symm dF_count_63
          · skip
            refine lv_tableOut (tgt := 64) hx hb dF_count_1 (by have h0 := fr_ne (k := 0) (a := 0) rfl c_1_0; have h1 := fr_ne (k := 1) (a := 1) rfl c_1_1; have h2 := fr_ne (k := 2) (a := 2) rfl c_1_2; have h3 := fr_ne (k := 3) (a := 3) rfl c_1_3; have h4 := fr_ne (k := 4) (a := 4) rfl c_1_4; omega) (by decide) ?_
            refine lv_iconst (v := (-1)) hx hb dF_count_64 (by decide) ?_
            have hd_ : dn_count f x = (-1) := by rw [dn_count, if_neg c_1_0, if_neg c_1_1, if_neg c_1_2, if_neg c_1_3, if_neg c_1_4]
            exact fr_iret C hP hD hS hd_.symm dF_count_65

def dn_asked (f : Nat → Nat → Int32) (x : Int32) : Int32 := if x < 0 then (-1) else (if (f 0 2) ≤ x then (-1) else (f 9 x.toNatClampNeg))
set_option maxHeartbeats 4000000 in
set_option maxRecDepth 100000 in
theorem c_asked (l : Launch) (D : va_G) (ka : Nat → ClassId) (al : Nat → Nat) (Z : va_W) (f : Nat → Nat → Int32) (x : Int32) (gA : 0 ≤ (f 0 2).toInt ∧ (f 0 2).toInt ≤ 12) : fr_Mi l y_asked (.code y_asked prog_1_method_10_code 2 (some .int) :: fr_tbl) { frames := 0, cells := 0, slots := 0, locals := 0 } D vwCl (fr_ty ka) fr_nw [.ref (al 0), .int x] (fr_cw ka al f Z) (dn_asked f x) (fr_cw ka al f Z) 0 0 := by
  refine fr_Mi.of (by decide) (Nat.le_of_ble_eq_true rfl) ?_
  intro p e s m below meth c A H locs ls C hP hD hS hl
  obtain ⟨hx, hb, hml, hown, ht, hK, hlocks, hr, hA, hN, hZ, hEx⟩ := id C
  have hl : lv_has ls 2 [(0, .ref (al 0)), (1, .int x)] := hl
  refine lv_iload_n hx hb dF_asked_0 rfl (lv_at hl 1 rfl) ?_
  refine lv_if_lt (tgt := 21) hx hb dF_asked_1 (by decide) (fun c_1 => ?_) (fun c_1 => ?_)
  · skip
    refine lv_iconst (v := (-1)) hx hb dF_asked_21 (by decide) ?_
    have hd_ : dn_asked f x = (-1) := by rw [dn_asked, if_pos c_1]
    exact fr_iret C hP hD hS hd_.symm dF_asked_22
  · skip
    refine lv_iload_n hx hb dF_asked_4 rfl (lv_at hl 1 rfl) ?_
    refine lv_aload_n hx hb dF_asked_5 rfl (lv_at hl 0 rfl) ?_
    refine gf_F_35 C hP dF_asked_6 ?_
    refine lv_icmp_ge (tgt := 21) hx hb dF_asked_9 (by decide) (fun c_9 => ?_) (fun c_9 => ?_)
    · skip
      refine lv_iconst (v := (-1)) hx hb dF_asked_21 (by decide) ?_
      have hd_ : dn_asked f x = (-1) := by rw [dn_asked, if_neg c_1, if_pos c_9]
      exact fr_iret C hP hD hS hd_.symm dF_asked_22
    · skip
      refine lv_aload_n hx hb dF_asked_12 rfl (lv_at hl 0 rfl) ?_
      refine gf_F_32 C hP dF_asked_13 ?_
      refine lv_iload_n hx hb dF_asked_16 rfl (lv_at hl 1 rfl) ?_
      have hin_17 : vp_in x 12 := by have q0 := fr_t2 c_1; have q1 := fr_t4 c_9; have z0 : (0 : Int32).toInt = 0 := rfl; skip; rw [vp_in_iff]; omega
      refine ald_9 C hP hin_17 dF_asked_17 ?_
      refine lv_goto (tgt := 22) hx hb dF_asked_18 (by decide) ?_
      have hd_ : dn_asked f x = f 9 x.toNatClampNeg := by rw [dn_asked, if_neg c_1, if_neg c_9]
      exact fr_iret C hP hD hS hd_.symm dF_asked_22

def dn_placeIn_2 : Nat → (Nat → Nat → Int32) → (Int32) → (Int32) → Int32
  | 0, _, _, _ => 0
  | n + 1, f, x, x2 => if ((f 0 1) - 1) ≤ x2 then x2 else (if (f 8 x2.toNatClampNeg) = x then x2 else (dn_placeIn_2 n f x (x2 + 1)))
set_option maxHeartbeats 4000000 in
set_option maxRecDepth 100000 in
theorem k_placeIn_2 {p : Program} {l : Launch} {e : Env} {s : State} {m : MethodId} {below : List Frame} {meth : Method} {c : Code} {D : va_G} {A : Nat → Prop} {ka : Nat → ClassId} {al : Nat → Nat} {Z : va_W} {f : Nat → Nat → Int32} {x : Int32} (C : fr_Cx p s m ([.ref (al 0), .int x] : List Value).toArray meth c "FragileRules" prog_1_method_23_code 3 (some .int) [] fr_tbl fr_nw D vwCl (fr_ty ka) A) (gR : 1 ≤ (f 0 1).toInt ∧ (f 0 1).toInt ≤ 12) :
    ∀ (n : Nat) (x2 : Int32) (H : Heap) (locs : List Loc) (ls : Array Slot), 0 ≤ x2.toInt ∧ x2.toInt ≤ (f 0 1 - 1).toInt ∧ (f 0 1 - 1).toInt < x2.toInt + n → va_P D vwCl (fr_cw ka al f Z) H → va_D A (fr_cw ka al f Z) → va_S A s.heap H locs → lv_has ls 3 [(0, .ref (al 0)), (1, .int x), (2, .int x2)] → W p l e { frames := 0, cells := 0, slots := 0, locals := 0 } s m ([.ref (al 0), .int x] : List Value).toArray below meth c H locs 0 0 (MQ below (fr_Qi D vwCl (fr_ty ka) (dn_placeIn_2 n f x x2) (fr_cw ka al f Z) A) ([.ref (al 0), .int x] : List Value).toArray s 0 0 A) (F0 m 2 ls []) := by
  obtain ⟨hx, hb, hml, hown, ht, hK, hlocks, hr, hA, hN, hZ, hEx⟩ := id C
  intro n
  induction n with
  | zero =>
    intro x2 H locs ls hm hP hD hS hl
    exact absurd hm (by omega)
  | succ n ih =>
    intro x2 H locs ls hm hP hD hS hl
    refine lv_iload_n hx hb dF_placeInOrder_2 rfl (lv_at hl 2 rfl) ?_
    refine lv_aload_n hx hb dF_placeInOrder_3 rfl (lv_at hl 0 rfl) ?_
    refine gf_F_25 C hP dF_placeInOrder_4 ?_
    refine lv_iconst (v := 1) hx hb dF_placeInOrder_7 (by decide) ?_
    refine lv_isub hx hb dF_placeInOrder_8 ?_
    refine lv_icmp_ge (tgt := 28) hx hb dF_placeInOrder_9 (by decide) (fun c_9 => ?_) (fun c_9 => ?_)
    · skip
      refine lv_iload_n hx hb dF_placeInOrder_28 rfl (lv_at hl 2 rfl) ?_
      have hd_ : dn_placeIn_2 (n + 1) f x x2 = x2 := by rw [dn_placeIn_2, if_pos c_9]
      exact fr_iret C hP hD hS hd_.symm dF_placeInOrder_29
    · skip
      refine lv_aload_n hx hb dF_placeInOrder_12 rfl (lv_at hl 0 rfl) ?_
      refine gf_F_28 C hP dF_placeInOrder_13 ?_
      refine lv_iload_n hx hb dF_placeInOrder_16 rfl (lv_at hl 2 rfl) ?_
      have hin_17 : vp_in x2 12 := by have q0 := fr_t4 c_9; have e0 := hm; have e1 := fr_sub1 gR.1; skip; rw [vp_in_iff]; omega
      refine ald_8 C hP hin_17 dF_placeInOrder_17 ?_
      refine lv_iload_n hx hb dF_placeInOrder_18 rfl (lv_at hl 1 rfl) ?_
      refine lv_icmp_eq (tgt := 28) hx hb dF_placeInOrder_19 (by decide) (fun c_19 => ?_) (fun c_19 => ?_)
      · skip
        refine lv_iload_n hx hb dF_placeInOrder_28 rfl (lv_at hl 2 rfl) ?_
        have hd_ : dn_placeIn_2 (n + 1) f x x2 = x2 := by rw [dn_placeIn_2, if_neg c_9, if_pos c_19]
        exact fr_iret C hP hD hS hd_.symm dF_placeInOrder_29
      · skip
        refine lv_iinc (v := x2 + 1) (lv' := [(2, .int (x2 + 1)), (0, .ref (al 0)), (1, .int x)]) hx hb dF_placeInOrder_22 hl (k := 2) rfl rfl (by decide) rfl (fun ls hl => ?_)
        refine lv_goto (tgt := 2) hx hb dF_placeInOrder_25 (by decide) ?_
        have hd_ : dn_placeIn_2 (n + 1) f x x2 = dn_placeIn_2 n f x (x2 + 1) := by rw [dn_placeIn_2, if_neg c_9, if_neg c_19]
        rw [hd_]
        exact ih (x2 + 1) H locs ls (fr_step rfl c_9 hm) hP hD hS (lv_sub hl [1, 2, 0] rfl)
def dn_placeIn (f : Nat → Nat → Int32) (x : Int32) : Int32 := dn_placeIn_2 12 f x 0
set_option maxHeartbeats 4000000 in
set_option maxRecDepth 100000 in
theorem c_placeIn (l : Launch) (D : va_G) (ka : Nat → ClassId) (al : Nat → Nat) (Z : va_W) (f : Nat → Nat → Int32) (x : Int32) (gR : 1 ≤ (f 0 1).toInt ∧ (f 0 1).toInt ≤ 12) : fr_Mi l y_placeIn (.code y_placeIn prog_1_method_23_code 3 (some .int) :: fr_tbl) { frames := 0, cells := 0, slots := 0, locals := 0 } D vwCl (fr_ty ka) fr_nw [.ref (al 0), .int x] (fr_cw ka al f Z) (dn_placeIn f x) (fr_cw ka al f Z) 0 0 := by
  refine fr_Mi.of (by decide) (Nat.le_of_ble_eq_true rfl) ?_
  intro p e s m below meth c A H locs ls C hP hD hS hl
  obtain ⟨hx, hb, hml, hown, ht, hK, hlocks, hr, hA, hN, hZ, hEx⟩ := id C
  have hl : lv_has ls 3 [(0, .ref (al 0)), (1, .int x)] := hl
  refine lv_iconst (v := 0) hx hb dF_placeInOrder_0 (by decide) ?_
  refine lv_istore_n (lv' := [(2, .int 0), (0, .ref (al 0)), (1, .int x)]) hx hb dF_placeInOrder_1 rfl hl (by decide) rfl (fun ls hl => ?_)
  have hd_ : dn_placeIn f x = dn_placeIn_2 12 f x 0 := by rw [dn_placeIn]
  rw [hd_]
  exact k_placeIn_2 C gR 12 0 H locs ls (by have h := fr_sub1 gR.1; have z : (0 : Int32).toInt = 0 := rfl; omega) hP hD hS (lv_sub hl [1, 2, 0] rfl)
end
